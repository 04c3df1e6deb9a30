/-! in, by a boolean -/
def pu_iv (x y z : Int32) : Bool := !decide (x < y) && !decide (z < x)
theorem pu_iv_0 {v : Int32} {N : Nat} (hN : N < 2 ^ 30) : pu_iv v 0 (nI N - 1) = true ↔ ∃ k, k < N ∧ v = nI k := by
  constructor
  · intro h
    have h1 : ¬ v < 0 := by intro z; simp [pu_iv, z] at h
    have h2 : ¬ nI N - 1 < v := by intro z; simp [pu_iv, z] at h
    obtain ⟨j, hj, rfl⟩ := nI_of h1
    rcases N with _ | N
    · exfalso
      apply h2
      have e : nI 0 - 1 = (-1 : Int32) := by decide
      rw [e, Int32.lt_iff_toInt_lt, nI_toInt hj]
      show (-1 : Int) < j
      omega
    · rw [nI_pred] at h2
      refine ⟨j, ?_, rfl⟩
      rcases Nat.lt_or_ge j (N + 1) with z | z
      · exact z
      · exact absurd (nI_lt (by omega) hj) h2
  · rintro ⟨k, hk, rfl⟩
    rcases N with _ | N
    · omega
    · rw [nI_pred]
      have e1 : ¬ nI k < 0 := nI_pos (by omega)
      have e2 : ¬ nI N < nI k := nI_nlt (by omega) (by omega)
      simp [pu_iv, e1, e2]
theorem pu_W_f {F : Nat → Int32} {I : Nat → Nat → Int32} {nc ng nM k : Nat} {v : Int32} (W : pu_W F I nc ng nM) (hk : k ≠ 1 ∧ k ≠ 3 ∧ k ≠ 5) : pu_W (md_fs F k v) I nc ng nM := by
  obtain ⟨a1, a2, a3, a4, a5, a6, a7, a8⟩ := W
  refine ⟨a1, a2, ?_, a4, ?_, a6, ?_, a8⟩
  · unfold md_fs; rw [if_neg (by omega)]; exact a3
  · unfold md_fs; rw [if_neg (by omega)]; exact a5
  · unfold md_fs; rw [if_neg (by omega)]; exact a7
theorem pu_know_8 (I : Nat → Nat → Int32) (nc nM g ar k : Nat) (hk : k ≠ 11 ∧ k ≠ 12 ∧ k ≠ 13) : pu_know I nc nM g ar k = I k := by
  unfold pu_know
  split
  · unfold pu_k3 pu_k2 pu_k1 md_is
    rw [if_neg (by omega), if_neg (by omega), if_neg (by omega)]
  · rfl
theorem pu_W_k {F : Nat → Int32} {I : Nat → Nat → Int32} {nc ng nM : Nat} (W : pu_W F I nc ng nM) (g ar : Nat) : pu_W F (pu_know I nc nM g ar) nc ng nM := pu_W_cg W (fun k hk => pu_know_8 I nc nM g ar k (by omega))
def pu_y (nc ar : Nat) (y : Int32) (y0 : Nat) : Prop := y0 < 8 * nc ∧ (ar = 1 → y0 = 0) ∧ (ar = 2 → y = nI y0)
def pu_ir (nc ar : Nat) (x y : Int32) : Bool := pu_iv x 0 (nI (8 * nc) - 1) && (decide (ar = 1) || pu_iv y 0 (nI (8 * nc) - 1))
theorem pu_ir_t {nc ar : Nat} {x y : Int32} (h1 : 1 ≤ nc) (h8 : nc ≤ 8) (ha : ar = 1 ∨ ar = 2) : pu_ir nc ar x y = true ↔ ∃ x0 y0, x0 < 8 * nc ∧ x = nI x0 ∧ pu_y nc ar y y0 := by
  unfold pu_ir pu_y
  rw [Bool.and_eq_true, Bool.or_eq_true, decide_eq_true_eq, pu_iv_0 (by omega), pu_iv_0 (by omega)]
  constructor
  · rintro ⟨⟨x0, hx, rfl⟩, h⟩
    rcases ha with rfl | rfl
    · exact ⟨x0, 0, hx, rfl, by omega, fun _ => rfl, fun z => absurd z (by decide)⟩
    · rcases h with h | ⟨y0, hy, rfl⟩
      · exact absurd h (by decide)
      · exact ⟨x0, y0, hx, rfl, hy, fun z => absurd z (by decide), fun _ => rfl⟩
  · rintro ⟨x0, y0, hx, rfl, hy, h1, h2⟩
    refine ⟨⟨x0, hx, rfl⟩, ?_⟩
    rcases ha with rfl | rfl
    · exact Or.inl rfl
    · exact Or.inr ⟨y0, hy, h2 rfl⟩
theorem pu_rw_lt {nc ar x0 y0 : Nat} (hx : x0 < 8 * nc) (hy : y0 < 8 * nc) : pu_rw nc ar x0 y0 < pu_R nc ar := by
  unfold pu_rw pu_R
  split
  · exact hx
  · have e1 : (x0 + 1) * (8 * nc) ≤ 8 * nc * (8 * nc) := Nat.mul_le_mul_right _ hx
    rw [Nat.succ_mul] at e1
    omega
/-- a call's row: generic g0 of ar arguments at values x0 (and y0) -/
def pu_row (I : Nat → Nat → Int32) (nc ng : Nat) (g x y : Int32) (g0 ar x0 y0 : Nat) : Prop := g0 < ng ∧ g = nI g0 ∧ (ar = 1 ∨ ar = 2) ∧ I 1 g0 = nI ar ∧ x0 < 8 * nc ∧ x = nI x0 ∧ pu_y nc ar y y0
def pu_two (I : Nat → Nat → Int32) (nM : Nat) (x y : Int32) (a b g : Nat) : Prop := a < nM ∧ b < nM ∧ x = nI a ∧ y = nI b ∧ I 2 a = nI g ∧ I 2 b = nI g
abbrev rn_Q_in : Room := rm_Q_in
set_option maxRecDepth 20000 in
/-- in -/
theorem cn_Q_in (l : Launch) (D : va_G) (dA : Nat → ClassId) (B : Nat) (h : zz_H) (n : Nat) (x y z : Int32) : zz_M l D zz_cl (zz_ty dA) B zz_tb (zz_x B) yy_Q_in (Cond.code yy_Q_in bb_Q_in 3 (some FieldType.boolean)) rm_Q_in [.int x, .int y, .int z] h n zz_mi (fun r h' n' => h' = h ∧ n' = n ∧ r = pu_b (pu_iv x y z)) := by
  refine zz_ofW (zz_f B) [some (.int x), some (.int y), some (.int z)] (by decide) rfl rfl (Nat.le_of_ble_eq_true rfl) ?_
  intro p e s m below meth c C
  refine z_iload_n C dd_Q_in_0 rfl ?_
  refine z_iload_n C dd_Q_in_1 rfl ?_
  refine z_icmp_lt (tgt := 14) C dd_Q_in_2 (by decide) (fun q1 => ?_) (fun q1 => ?_)
  · skip
    refine z_iconst (v := 0) C dd_Q_in_14 (by decide) ?_
    exact z_zret C dd_Q_in_15 rfl ⟨rfl, rfl, by simp [pu_b, pu_iv, q1]⟩ (by decide) (by decide)
  · skip
    refine z_iload_n C dd_Q_in_5 rfl ?_
    refine z_iload_n C dd_Q_in_6 rfl ?_
    refine z_icmp_gt (tgt := 14) C dd_Q_in_7 (by decide) (fun q2 => ?_) (fun q2 => ?_)
    · skip
      refine z_iconst (v := 0) C dd_Q_in_14 (by decide) ?_
      exact z_zret C dd_Q_in_15 rfl ⟨rfl, rfl, by simp [pu_b, pu_iv, q1, q2]⟩ (by decide) (by decide)
    · skip
      refine z_iconst (v := 1) C dd_Q_in_10 (by decide) ?_
      refine z_goto (tgt := 15) C dd_Q_in_11 (by decide) ?_
      exact z_zret C dd_Q_in_15 rfl ⟨rfl, rfl, by simp [pu_b, pu_iv, q1, q2]⟩ (by decide) (by decide)
abbrev rn_Q_isRow : Room := { frames := 3, cells := 0, slots := 0, locals := 60 }
set_option maxRecDepth 20000 in
/-- isRow -/
theorem cn_Q_isRow (l : Launch) (D : va_G) (dA : Nat → ClassId) (B : Nat) (h : zz_H) (n : Nat) (q : Nat) (F : Nat → Int32) (I : Nat → Nat → Int32) (J : Nat → Nat → Int64) (hP0 : md_P dA F I J q h) (nc ng nM : Nat) (W : pu_W F I nc ng nM) (g0 ar : Nat) (hg : g0 < ng) (har : I 1 g0 = nI ar) (ha : ar = 1 ∨ ar = 2) (x y : Int32) : zz_M l D zz_cl (zz_ty dA) B zz_tb (zz_x B) yy_Q_isRow (Cond.code yy_Q_isRow bb_Q_isRow 4 (some FieldType.boolean)) rn_Q_isRow [.ref q, .int ((nI g0)), .int x, .int y] h n zz_mi (fun r h' n' => h' = h ∧ n' = n ∧ r = pu_b (pu_ir nc ar x y)) := by
  refine zz_ofW (zz_f B) [some (.ref q), some (.int ((nI g0))), some (.int x), some (.int y)] (by decide) rfl rfl (Nat.le_of_ble_eq_true rfl) ?_
  intro p e s m below meth c C
  have hg4 := W.g4
  refine z_iload_n C dd_Q_isRow_0 rfl ?_
  refine z_iconst (v := 0) C dd_Q_isRow_1 (by decide) ?_
  refine z_aload_n C dd_Q_isRow_2 rfl ?_
  refine iv_Q_141 (sk := fun r => .int r :: [.int 0, .int x]) (zz_f B) C dd_Q_isRow_3 (cn_Q_values l D dA B _ _ q _ _ _ (md_rf hP0).1 nc W.c1 W.c8 W.fc) (md_rf hP0).1.1 rfl rfl ⟨by decide, by decide⟩ (Nat.le_of_ble_eq_true rfl) ⟨by decide, by decide⟩ (fun _ => rfl) (fun v1_ h1_ n1_ p1_ => ?_)
  obtain ⟨e1_, f1_, rfl⟩ := p1_
  have e1z := e1_.symm
  have f1z := f1_.symm
  subst e1z
  subst f1z
  refine z_iconst (v := 1) C dd_Q_isRow_6 (by decide) ?_
  refine z_isub C dd_Q_isRow_7 ?_
  refine is_Q_127 (sk := fun r => .int r :: []) (zz_f B) C dd_Q_isRow_8 (cn_Q_in l D dA B _ _ _ _ _) rfl rfl ⟨by decide, by decide⟩ (Nat.le_of_ble_eq_true rfl) ⟨by decide, by decide⟩ (fun _ => rfl) (fun v2_ h2_ n2_ p2_ => ?_)
  obtain ⟨e2_, f2_, rfl⟩ := p2_
  have e2z := e2_.symm
  have f2z := f2_.symm
  subst e2z
  subst f2z
  refine z_if_eq (tgt := 42) C dd_Q_isRow_11 (by decide) (fun q1 => ?_) (fun q1 => ?_)
  · skip
    refine z_iconst (v := 0) C dd_Q_isRow_42 (by decide) ?_
    exact z_zret C dd_Q_isRow_43 rfl ⟨rfl, rfl, by unfold pu_ir; simp [pu_b, ((pu_b0 _).mp q1)]⟩ (by decide) (by decide)
  · skip
    refine z_aload_n C dd_Q_isRow_14 rfl ?_
    refine gf_Q_17 (v := .ref (q + 1 + 1)) C dd_Q_isRow_15 (md_rf hP0).1.1 rfl ?_
    refine z_iload_n C dd_Q_isRow_18 rfl ?_
    refine z_iald (t0 := 0) (N := 4) (f := (I 1)) C rfl dd_Q_isRow_19 ((md_rf hP0).1.2 1 (by decide)) (vp_in_nI (by omega) (by decide)) ?_
    refine z_topi (y := nI ar) (by rw [nI_clamp (by omega)]; exact har.symm) ?_
    refine z_iconst (v := 1) C dd_Q_isRow_20 (by decide) ?_
    refine z_icmp_eq (tgt := 38) C dd_Q_isRow_21 (by decide) (fun q2 => ?_) (fun q2 => ?_)
    · replace q2 : ar = 1 := (@nI_eq ar 1 (by omega) (by omega)).mp q2
      refine z_iconst (v := 1) C dd_Q_isRow_38 (by decide) ?_
      refine z_goto (tgt := 43) C dd_Q_isRow_39 (by decide) ?_
      exact z_zret C dd_Q_isRow_43 rfl ⟨rfl, rfl, by unfold pu_ir; simp [pu_b, (pu_bn1.mp q1), q2]⟩ (by decide) (by decide)
    · replace q2 : ¬ ar = 1 := fun z => q2 ((@nI_eq ar 1 (by omega) (by omega)).mpr z)
      refine z_iload_n C dd_Q_isRow_24 rfl ?_
      refine z_iconst (v := 0) C dd_Q_isRow_25 (by decide) ?_
      refine z_aload_n C dd_Q_isRow_26 rfl ?_
      refine iv_Q_141 (sk := fun r => .int r :: [.int 0, .int y]) (zz_f B) C dd_Q_isRow_27 (cn_Q_values l D dA B _ _ q _ _ _ (md_rf hP0).1 nc W.c1 W.c8 W.fc) (md_rf hP0).1.1 rfl rfl ⟨by decide, by decide⟩ (Nat.le_of_ble_eq_true rfl) ⟨by decide, by decide⟩ (fun _ => rfl) (fun v3_ h3_ n3_ p3_ => ?_)
      obtain ⟨e3_, f3_, rfl⟩ := p3_
      have e3z := e3_.symm
      have f3z := f3_.symm
      subst e3z
      subst f3z
      refine z_iconst (v := 1) C dd_Q_isRow_30 (by decide) ?_
      refine z_isub C dd_Q_isRow_31 ?_
      refine is_Q_127 (sk := fun r => .int r :: []) (zz_f B) C dd_Q_isRow_32 (cn_Q_in l D dA B _ _ _ _ _) rfl rfl ⟨by decide, by decide⟩ (Nat.le_of_ble_eq_true rfl) ⟨by decide, by decide⟩ (fun _ => rfl) (fun v4_ h4_ n4_ p4_ => ?_)
      obtain ⟨e4_, f4_, rfl⟩ := p4_
      have e4z := e4_.symm
      have f4z := f4_.symm
      subst e4z
      subst f4z
      refine z_if_eq (tgt := 42) C dd_Q_isRow_35 (by decide) (fun q3 => ?_) (fun q3 => ?_)
      · skip
        refine z_iconst (v := 0) C dd_Q_isRow_42 (by decide) ?_
        exact z_zret C dd_Q_isRow_43 rfl ⟨rfl, rfl, by unfold pu_ir; simp [pu_b, (pu_bn1.mp q1), q2, ((pu_b0 _).mp q3)]⟩ (by decide) (by decide)
      · skip
        refine z_iconst (v := 1) C dd_Q_isRow_38 (by decide) ?_
        refine z_goto (tgt := 43) C dd_Q_isRow_39 (by decide) ?_
        exact z_zret C dd_Q_isRow_43 rfl ⟨rfl, rfl, by unfold pu_ir; simp [pu_b, (pu_bn1.mp q1), q2, (pu_bn1.mp q3)]⟩ (by decide) (by decide)
set_option maxRecDepth 20000 in
/-- row -/
theorem cx_Q_row (l : Launch) (D : va_G) (dA : Nat → ClassId) (B : Nat) (h : zz_H) (n : Nat) (q : Nat) (F : Nat → Int32) (I : Nat → Nat → Int32) (J : Nat → Nat → Int64) (hP0 : md_P dA F I J q h) (nc ng nM : Nat) (W : pu_W F I nc ng nM) (g0 ar : Nat) (hg : g0 < ng) (har : I 1 g0 = nI ar) (ha : ar = 1 ∨ ar = 2) (x0 y0 : Nat) (y : Int32) (hy : pu_y nc ar y y0) : zz_M l D zz_cl (zz_ty dA) B zz_tb (zz_x B) yy_Q_row (Cond.code yy_Q_row bb_Q_row 4 (some FieldType.int)) rn_Q_row [.ref q, .int ((nI g0)), .int ((nI x0)), .int y] h n zz_mi (fun r h' n' => h' = h ∧ n' = n ∧ r = nI (pu_rw nc ar x0 y0)) := by
  refine zz_ofW (zz_f B) [some (.ref q), some (.int ((nI g0))), some (.int ((nI x0))), some (.int y)] (by decide) rfl rfl (Nat.le_of_ble_eq_true rfl) ?_
  intro p e s m below meth c C
  have hg4 := W.g4
  refine z_aload_n C dd_Q_row_0 rfl ?_
  refine gf_Q_17 (v := .ref (q + 1 + 1)) C dd_Q_row_1 (md_rf hP0).1.1 rfl ?_
  refine z_iload_n C dd_Q_row_4 rfl ?_
  refine z_iald (t0 := 0) (N := 4) (f := (I 1)) C rfl dd_Q_row_5 ((md_rf hP0).1.2 1 (by decide)) (vp_in_nI (by omega) (by decide)) ?_
  refine z_topi (y := nI ar) (by rw [nI_clamp (by omega)]; exact har.symm) ?_
  refine z_iconst (v := 1) C dd_Q_row_6 (by decide) ?_
  refine z_icmp_ne (tgt := 14) C dd_Q_row_7 (by decide) (fun q1 => ?_) (fun q1 => ?_)
  · replace q1 : ¬ ar = 1 := fun z => q1 ((@nI_eq ar 1 (by omega) (by omega)).mpr z)
    refine z_iload_n C dd_Q_row_14 rfl ?_
    refine z_aload_n C dd_Q_row_15 rfl ?_
    refine iv_Q_141 (sk := fun r => .int r :: [.int ((nI x0))]) (zz_f B) C dd_Q_row_16 (cn_Q_values l D dA B _ _ q _ _ _ (md_rf hP0).1 nc W.c1 W.c8 W.fc) (md_rf hP0).1.1 rfl rfl ⟨by decide, by decide⟩ (Nat.le_of_ble_eq_true rfl) ⟨by decide, by decide⟩ (fun _ => rfl) (fun v1_ h1_ n1_ p1_ => ?_)
    obtain ⟨e1_, f1_, rfl⟩ := p1_
    have e1z := e1_.symm
    have f1z := f1_.symm
    subst e1z
    subst f1z
    refine z_imul C dd_Q_row_19 ?_
    refine z_topi (y := nI (x0 * (8 * nc))) (by first | exact (pk_mul _ _).symm | (rw [← pk_mul]; rfl)) ?_
    refine z_iload_n C dd_Q_row_20 rfl ?_
    refine z_topi (y := nI y0) (hy.2.2 (by omega)).symm ?_
    refine z_iadd C dd_Q_row_21 ?_
    refine z_topi (y := nI ((x0 * (8 * nc)) + y0)) (by first | exact (nI_add _ _).symm | (rw [← nI_add]; rfl)) ?_
    exact z_iret C dd_Q_row_22 ⟨rfl, rfl, by unfold pu_rw; simp [q1]⟩ (by decide) (by decide)
  · replace q1 : ar = 1 := (@nI_eq ar 1 (by omega) (by omega)).mp q1
    refine z_iload_n C dd_Q_row_10 rfl ?_
    refine z_goto (tgt := 22) C dd_Q_row_11 (by decide) ?_
    exact z_iret C dd_Q_row_22 ⟨rfl, rfl, by unfold pu_rw; simp [q1]⟩ (by decide) (by decide)
abbrev rm_Q_beyond : Room := { frames := 10, cells := 0, slots := 0, locals := 300 }
set_option maxRecDepth 20000 in
/-- beyond -/
theorem cc_Q_beyond (l : Launch) (D : va_G) (dA : Nat → ClassId) (B : Nat) (h : zz_H) (n : Nat) (q : Nat) (F : Nat → Int32) (I : Nat → Nat → Int32) (J : Nat → Nat → Int64) (hP0 : md_P dA F I J q h) (nc ng nM : Nat) (W : pu_W F I nc ng nM) (x y : Int32) : zz_M l D zz_cl (zz_ty dA) B zz_tb (zz_x B) yy_Q_beyond (Cond.code yy_Q_beyond bb_Q_beyond 4 (some FieldType.boolean)) rm_Q_beyond [.ref q, .int x, .int y] h n zz_mi (fun r h' n' => n' = n ∧ ((r = 0 ∧ md_K dA (md_fs F 0 1) I J q h h' ∧ ∀ a b g, ¬ pu_two I nM x y a b g) ∨ ∃ a b g ar, pu_two I nM x y a b g ∧ g < ng ∧ I 1 g = nI ar ∧ (ar = 1 ∨ ar = 2) ∧ r = pu_b (bt (pu_know I nc nM g ar 13 a) b) ∧ md_K dA (md_fs F 0 0) (pu_know I nc nM g ar) J q h h')) := by
  refine zz_ofW (zz_f B) [some (.ref q), some (.int x), some (.int y), none] (by decide) rfl rfl (Nat.le_of_ble_eq_true rfl) ?_
  intro p e s m below meth c C
  have hg4 := W.g4
  have h12 := W.m12
  have hP := md_rf hP0
  refine z_iload_n C dd_Q_beyond_0 rfl ?_
  refine z_iconst (v := 0) C dd_Q_beyond_1 (by decide) ?_
  refine z_aload_n C dd_Q_beyond_2 rfl ?_
  refine gf_Q_138 (v := .int (F 5)) C dd_Q_beyond_3 hP.1.1 rfl ?_
  refine z_topi (y := nI nM) W.fm.symm ?_
  refine z_iconst (v := 1) C dd_Q_beyond_6 (by decide) ?_
  refine z_isub C dd_Q_beyond_7 ?_
  refine is_Q_127 (sk := fun r => .int r :: []) (zz_f B) C dd_Q_beyond_8 (cn_Q_in l D dA B _ _ _ _ _) rfl rfl ⟨by decide, by decide⟩ (Nat.le_of_ble_eq_true rfl) ⟨by decide, by decide⟩ (fun _ => rfl) (fun v1_ h1_ n1_ p1_ => ?_)
  obtain ⟨e1_, f1_, rfl⟩ := p1_
  have e1z := e1_.symm
  have f1z := f1_.symm
  subst e1z
  subst f1z
  refine z_if_eq (tgt := 32) C dd_Q_beyond_11 (by decide) (fun q1 => ?_) (fun q1 => ?_)
  · skip
    refine z_iconst (v := 0) C dd_Q_beyond_32 (by decide) ?_
    refine z_istore_n C dd_Q_beyond_33 rfl ?_
    refine z_aload_n C dd_Q_beyond_34 rfl ?_
    refine z_iload_n C dd_Q_beyond_35 rfl ?_
    refine z_if_eq (tgt := 58) C dd_Q_beyond_36 (by decide) (fun q2 => ?_) (fun q2 => absurd (by decide) q2)
    refine z_iconst (v := 1) C dd_Q_beyond_58 (by decide) ?_
    refine pf_Q_121 C dd_Q_beyond_59 hP.1.1 (Nat.le_of_ble_eq_true rfl) rfl rfl ?_
    refine z_cut (md_K dA (md_fs F 0 1) I J q h) (md_wF hP rfl) rfl rfl rfl (fun h2_ hP2_ => ?_)
    refine z_aload_n C dd_Q_beyond_62 rfl ?_
    refine gf_Q_121 (v := .int 1) C dd_Q_beyond_63 hP2_.1.1 rfl ?_
    refine z_if_le (tgt := 71) C dd_Q_beyond_66 (by decide) (fun q3 => absurd q3 (by decide)) (fun q3 => ?_)
    refine z_iconst (v := 0) C dd_Q_beyond_69 (by decide) ?_
    exact z_zret C dd_Q_beyond_70 rfl ⟨rfl, Or.inl ⟨rfl, hP2_, fun a b g z => absurd ((pu_iv_0 (by omega)).mpr ⟨a, z.1, z.2.2.1⟩) (by rw [((pu_b0 _).mp q1)]; decide)⟩⟩ (by decide) (by decide)
  · skip
    refine z_iload_n C dd_Q_beyond_14 rfl ?_
    refine z_iconst (v := 0) C dd_Q_beyond_15 (by decide) ?_
    refine z_aload_n C dd_Q_beyond_16 rfl ?_
    refine gf_Q_138 (v := .int (F 5)) C dd_Q_beyond_17 hP.1.1 rfl ?_
    refine z_topi (y := nI nM) W.fm.symm ?_
    refine z_iconst (v := 1) C dd_Q_beyond_20 (by decide) ?_
    refine z_isub C dd_Q_beyond_21 ?_
    refine is_Q_127 (sk := fun r => .int r :: []) (zz_f B) C dd_Q_beyond_22 (cn_Q_in l D dA B _ _ _ _ _) rfl rfl ⟨by decide, by decide⟩ (Nat.le_of_ble_eq_true rfl) ⟨by decide, by decide⟩ (fun _ => rfl) (fun v3_ h3_ n3_ p3_ => ?_)
    obtain ⟨e3_, f3_, rfl⟩ := p3_
    have e3z := e3_.symm
    have f3z := f3_.symm
    subst e3z
    subst f3z
    refine z_if_eq (tgt := 32) C dd_Q_beyond_25 (by decide) (fun q4 => ?_) (fun q4 => ?_)
    · skip
      refine z_iconst (v := 0) C dd_Q_beyond_32 (by decide) ?_
      refine z_istore_n C dd_Q_beyond_33 rfl ?_
      refine z_aload_n C dd_Q_beyond_34 rfl ?_
      refine z_iload_n C dd_Q_beyond_35 rfl ?_
      refine z_if_eq (tgt := 58) C dd_Q_beyond_36 (by decide) (fun q5 => ?_) (fun q5 => absurd (by decide) q5)
      refine z_iconst (v := 1) C dd_Q_beyond_58 (by decide) ?_
      refine pf_Q_121 C dd_Q_beyond_59 hP.1.1 (Nat.le_of_ble_eq_true rfl) rfl rfl ?_
      refine z_cut (md_K dA (md_fs F 0 1) I J q h) (md_wF hP rfl) rfl rfl rfl (fun h4_ hP4_ => ?_)
      refine z_aload_n C dd_Q_beyond_62 rfl ?_
      refine gf_Q_121 (v := .int 1) C dd_Q_beyond_63 hP4_.1.1 rfl ?_
      refine z_if_le (tgt := 71) C dd_Q_beyond_66 (by decide) (fun q6 => absurd q6 (by decide)) (fun q6 => ?_)
      refine z_iconst (v := 0) C dd_Q_beyond_69 (by decide) ?_
      exact z_zret C dd_Q_beyond_70 rfl ⟨rfl, Or.inl ⟨rfl, hP4_, fun a b g z => absurd ((pu_iv_0 (by omega)).mpr ⟨b, z.2.1, z.2.2.2.1⟩) (by rw [((pu_b0 _).mp q4)]; decide)⟩⟩ (by decide) (by decide)
    · skip
      refine z_iconst (v := 1) C dd_Q_beyond_28 (by decide) ?_
      refine z_goto (tgt := 33) C dd_Q_beyond_29 (by decide) ?_
      refine z_istore_n C dd_Q_beyond_33 rfl ?_
      refine z_aload_n C dd_Q_beyond_34 rfl ?_
      refine z_iload_n C dd_Q_beyond_35 rfl ?_
      refine z_if_eq (tgt := 58) C dd_Q_beyond_36 (by decide) (fun q7 => absurd q7 (by decide)) (fun q7 => ?_)
      obtain ⟨a0, ha0, rfl⟩ := (pu_iv_0 (by omega)).mp (pu_bn1.mp q1)
      obtain ⟨b0, hb0, rfl⟩ := (pu_iv_0 (by omega)).mp (pu_bn1.mp q4)
      obtain ⟨ga, hga, eA⟩ := W.own a0 ha0
      obtain ⟨ar, har2, har⟩ := W.ar ga hga
      refine z_aload_n C dd_Q_beyond_39 rfl ?_
      refine gf_Q_20 (v := .ref (q + 1 + 2)) C dd_Q_beyond_40 hP.1.1 rfl ?_
      refine z_iload_n C dd_Q_beyond_43 rfl ?_
      refine z_iald (t0 := 0) (N := 12) (f := (I 2)) C rfl dd_Q_beyond_44 (hP.1.2 2 (by decide)) (vp_in_nI (by omega) (by decide)) ?_
      refine z_topi (y := ((I 2) a0)) (by rw [nI_clamp (by omega)]) ?_
      refine z_aload_n C dd_Q_beyond_45 rfl ?_
      refine gf_Q_20 (v := .ref (q + 1 + 2)) C dd_Q_beyond_46 hP.1.1 rfl ?_
      refine z_iload_n C dd_Q_beyond_49 rfl ?_
      refine z_iald (t0 := 0) (N := 12) (f := (I 2)) C rfl dd_Q_beyond_50 (hP.1.2 2 (by decide)) (vp_in_nI (by omega) (by decide)) ?_
      refine z_topi (y := ((I 2) b0)) (by rw [nI_clamp (by omega)]) ?_
      refine z_icmp_ne (tgt := 58) C dd_Q_beyond_51 (by decide) (fun q8 => ?_) (fun q8 => ?_)
      · skip
        refine z_iconst (v := 1) C dd_Q_beyond_58 (by decide) ?_
        refine pf_Q_121 C dd_Q_beyond_59 hP.1.1 (Nat.le_of_ble_eq_true rfl) rfl rfl ?_
        refine z_cut (md_K dA (md_fs F 0 1) I J q h) (md_wF hP rfl) rfl rfl rfl (fun h5_ hP5_ => ?_)
        refine z_aload_n C dd_Q_beyond_62 rfl ?_
        refine gf_Q_121 (v := .int 1) C dd_Q_beyond_63 hP5_.1.1 rfl ?_
        refine z_if_le (tgt := 71) C dd_Q_beyond_66 (by decide) (fun q9 => absurd q9 (by decide)) (fun q9 => ?_)
        refine z_iconst (v := 0) C dd_Q_beyond_69 (by decide) ?_
        exact z_zret C dd_Q_beyond_70 rfl ⟨rfl, Or.inl ⟨rfl, hP5_, fun a b g z => q8 (by rw [(nI_eq (by omega) (by have := z.1; omega)).mp z.2.2.1, (nI_eq (by omega) (by have := z.2.1; omega)).mp z.2.2.2.1, z.2.2.2.2.1, z.2.2.2.2.2])⟩⟩ (by decide) (by decide)
      · skip
        refine z_iconst (v := 0) C dd_Q_beyond_54 (by decide) ?_
        refine z_goto (tgt := 59) C dd_Q_beyond_55 (by decide) ?_
        refine pf_Q_121 C dd_Q_beyond_59 hP.1.1 (Nat.le_of_ble_eq_true rfl) rfl rfl ?_
        refine z_cut (md_K dA (md_fs F 0 0) I J q h) (md_wF hP rfl) rfl rfl rfl (fun h6_ hP6_ => ?_)
        refine z_aload_n C dd_Q_beyond_62 rfl ?_
        refine gf_Q_121 (v := .int 0) C dd_Q_beyond_63 hP6_.1.1 rfl ?_
        refine z_if_le (tgt := 71) C dd_Q_beyond_66 (by decide) (fun q10 => ?_) (fun q10 => absurd (by decide) q10)
        refine z_aload_n C dd_Q_beyond_71 rfl ?_
        refine z_aload_n C dd_Q_beyond_72 rfl ?_
        refine gf_Q_20 (v := .ref (q + 1 + 2)) C dd_Q_beyond_73 hP6_.1.1 rfl ?_
        refine z_iload_n C dd_Q_beyond_76 rfl ?_
        refine z_iald (t0 := 0) (N := 12) (f := (I 2)) C rfl dd_Q_beyond_77 (hP6_.1.2 2 (by decide)) (vp_in_nI (by omega) (by decide)) ?_
        refine z_topi (y := ((I 2) a0)) (by rw [nI_clamp (by omega)]) ?_
        refine z_topi (y := nI ga) eA.symm ?_
        refine iv_Q_173 (sk := fun _ => []) (zz_f B) C dd_Q_beyond_78 (cc_Q_know l D dA B _ _ q _ I J hP6_.1 nc ng nM (pu_W_f W (by decide)) ga ar hga har har2) hP6_.1.1 rfl rfl ⟨by decide, by decide⟩ (Nat.le_of_ble_eq_true rfl) ⟨by decide, by decide⟩ (fun _ => rfl) (fun _ h7_ n7_ p7_ => ?_)
        obtain ⟨m7_, rfl⟩ := p7_
        have hP7_ := md_tr hP6_ m7_
        refine z_aload_n C dd_Q_beyond_81 rfl ?_
        refine gf_Q_54 (v := .ref (q + 1 + 13)) C dd_Q_beyond_82 hP7_.1.1 rfl ?_
        refine z_iload_n C dd_Q_beyond_85 rfl ?_
        refine z_iald (t0 := 0) (N := 12) (f := ((pu_know I nc nM ga ar) 13)) C rfl dd_Q_beyond_86 (hP7_.1.2 13 (by decide)) (vp_in_nI (by omega) (by decide)) ?_
        refine z_topi (y := (((pu_know I nc nM ga ar) 13) a0)) (by rw [nI_clamp (by omega)]) ?_
        refine z_iload_n C dd_Q_beyond_87 rfl ?_
        refine z_ishr C dd_Q_beyond_88 ?_
        refine z_iconst (v := 1) C dd_Q_beyond_89 (by decide) ?_
        refine z_iand C dd_Q_beyond_90 ?_
        refine z_topi (y := pu_b (bt (pu_know I nc nM ga ar 13 a0) b0)) (bt_sh (m := b0) (by omega)).symm ?_
        refine z_iconst (v := 1) C dd_Q_beyond_91 (by decide) ?_
        refine z_icmp_ne (tgt := 99) C dd_Q_beyond_92 (by decide) (fun q11 => ?_) (fun q11 => ?_)
        · skip
          refine z_iconst (v := 0) C dd_Q_beyond_99 (by decide) ?_
          exact z_zret C dd_Q_beyond_100 rfl ⟨rfl, Or.inr ⟨a0, b0, ga, ar, ⟨ha0, hb0, rfl, rfl, eA, q8 ▸ eA⟩, hga, har, har2, by rw [(Bool.eq_false_iff.mpr (fun z => q11 ((pu_b1 _).mpr z)))]; rfl, hP7_⟩⟩ (by decide) (by decide)
        · skip
          refine z_iconst (v := 1) C dd_Q_beyond_95 (by decide) ?_
          refine z_goto (tgt := 100) C dd_Q_beyond_96 (by decide) ?_
          exact z_zret C dd_Q_beyond_100 rfl ⟨rfl, Or.inr ⟨a0, b0, ga, ar, ⟨ha0, hb0, rfl, rfl, eA, q8 ▸ eA⟩, hga, har, har2, by rw [((pu_b1 _).mp q11)]; rfl, hP7_⟩⟩ (by decide) (by decide)
theorem pu_norow {F : Nat → Int32} {I : Nat → Nat → Int32} {nc ng nM g9 ar9 : Nat} {x y : Int32} (W : pu_W F I nc ng nM) (hg9 : g9 < ng) (e9 : I 1 g9 = nI ar9) (ha9 : ar9 = 1 ∨ ar9 = 2) (hb : pu_ir nc ar9 x y = false) (g0 ar x0 y0 : Nat) : ¬ pu_row I nc ng (nI g9) x y g0 ar x0 y0 := by
  rintro ⟨z1, z2, z3, z4, z5, z6, z7⟩
  have hg4 := W.g4
  have e1 : g9 = g0 := (nI_eq (by omega) (by omega)).mp z2
  subst e1
  have e2 : ar9 = ar := (nI_eq (by omega) (by omega)).mp (e9.symm.trans z4)
  subst e2
  have := (pu_ir_t W.c1 W.c8 ha9).mpr ⟨x0, y0, z5, z6, z7⟩
  rw [hb] at this
  cases this
abbrev rm_Q_best : Room := { frames := 10, cells := 0, slots := 0, locals := 300 }
set_option maxRecDepth 20000 in
/-- best -/
theorem cc_Q_best (l : Launch) (D : va_G) (dA : Nat → ClassId) (B : Nat) (h : zz_H) (n : Nat) (q : Nat) (F : Nat → Int32) (I : Nat → Nat → Int32) (J : Nat → Nat → Int64) (hP0 : md_P dA F I J q h) (nc ng nM : Nat) (W : pu_W F I nc ng nM) (g x y : Int32) : zz_M l D zz_cl (zz_ty dA) B zz_tb (zz_x B) yy_Q_best (Cond.code yy_Q_best bb_Q_best 4 (some FieldType.int)) rm_Q_best [.ref q, .int g, .int x, .int y] h n zz_mi (fun r h' n' => n' = n ∧ ((r = 0 ∧ md_K dA (md_fs F 0 1) I J q h h' ∧ ∀ g0 ar x0 y0, ¬ pu_row I nc ng g x y g0 ar x0 y0) ∨ ∃ g0 ar x0 y0, pu_row I nc ng g x y g0 ar x0 y0 ∧ r = pu_fm (pu_know I nc nM g0 ar 12 (4096 * g0 + pu_rw nc ar x0 y0)) (pu_know I nc nM g0 ar 13) nM ∧ md_K dA (md_fs F 0 0) (pu_know I nc nM g0 ar) J q h h')) := by
  refine zz_ofW (zz_f B) [some (.ref q), some (.int g), some (.int x), some (.int y)] (by decide) rfl rfl (Nat.le_of_ble_eq_true rfl) ?_
  intro p e s m below meth c C
  have hg4 := W.g4
  have h12 := W.m12
  have h8 := W.c8
  have h1 := W.c1
  have hP := md_rf hP0
  refine z_aload_n C dd_Q_best_0 rfl ?_
  refine z_iload_n C dd_Q_best_1 rfl ?_
  refine z_iconst (v := 0) C dd_Q_best_2 (by decide) ?_
  refine z_aload_n C dd_Q_best_3 rfl ?_
  refine gf_Q_135 (v := .int (F 3)) C dd_Q_best_4 hP.1.1 rfl ?_
  refine z_topi (y := nI ng) W.fg.symm ?_
  refine z_iconst (v := 1) C dd_Q_best_7 (by decide) ?_
  refine z_isub C dd_Q_best_8 ?_
  refine is_Q_127 (sk := fun r => .int r :: [.ref q]) (zz_f B) C dd_Q_best_9 (cn_Q_in l D dA B _ _ _ _ _) rfl rfl ⟨by decide, by decide⟩ (Nat.le_of_ble_eq_true rfl) ⟨by decide, by decide⟩ (fun _ => rfl) (fun v1_ h1_ n1_ p1_ => ?_)
  obtain ⟨e1_, f1_, rfl⟩ := p1_
  have e1z := e1_.symm
  have f1z := f1_.symm
  subst e1z
  subst f1z
  refine z_if_eq (tgt := 29) C dd_Q_best_12 (by decide) (fun q1 => ?_) (fun q1 => ?_)
  · skip
    refine z_iconst (v := 1) C dd_Q_best_29 (by decide) ?_
    refine pf_Q_121 C dd_Q_best_30 hP.1.1 (Nat.le_of_ble_eq_true rfl) rfl rfl ?_
    refine z_cut (md_K dA (md_fs F 0 1) I J q h) (md_wF hP rfl) rfl rfl rfl (fun h2_ hP2_ => ?_)
    refine z_aload_n C dd_Q_best_33 rfl ?_
    refine gf_Q_121 (v := .int 1) C dd_Q_best_34 hP2_.1.1 rfl ?_
    refine z_if_le (tgt := 42) C dd_Q_best_37 (by decide) (fun q2 => absurd q2 (by decide)) (fun q2 => ?_)
    refine z_iconst (v := 0) C dd_Q_best_40 (by decide) ?_
    exact z_iret C dd_Q_best_41 ⟨rfl, Or.inl ⟨rfl, hP2_, fun g0 ar x0 y0 z => absurd ((pu_iv_0 (by omega)).mpr ⟨g0, z.1, z.2.1⟩) (by rw [((pu_b0 _).mp q1)]; decide)⟩⟩ (by decide) (by decide)
  · skip
    obtain ⟨g0, hg0, rfl⟩ := (pu_iv_0 (by omega)).mp (pu_bn1.mp q1)
    obtain ⟨ar, har2, har⟩ := W.ar g0 hg0
    refine z_aload_n C dd_Q_best_15 rfl ?_
    refine z_iload_n C dd_Q_best_16 rfl ?_
    refine z_iload_n C dd_Q_best_17 rfl ?_
    refine z_iload_n C dd_Q_best_18 rfl ?_
    refine iv_Q_176 (sk := fun r => .int r :: [.ref q]) (zz_f B) C dd_Q_best_19 (cn_Q_isRow l D dA B _ _ q _ I J hP.1 nc ng nM W g0 ar hg0 har har2 x y) hP.1.1 rfl rfl ⟨by decide, by decide⟩ (Nat.le_of_ble_eq_true rfl) ⟨by decide, by decide⟩ (fun _ => rfl) (fun v3_ h3_ n3_ p3_ => ?_)
    obtain ⟨e3_, f3_, rfl⟩ := p3_
    have e3z := e3_.symm
    have f3z := f3_.symm
    subst e3z
    subst f3z
    refine z_if_eq (tgt := 29) C dd_Q_best_22 (by decide) (fun q3 => ?_) (fun q3 => ?_)
    · skip
      refine z_iconst (v := 1) C dd_Q_best_29 (by decide) ?_
      refine pf_Q_121 C dd_Q_best_30 hP.1.1 (Nat.le_of_ble_eq_true rfl) rfl rfl ?_
      refine z_cut (md_K dA (md_fs F 0 1) I J q h) (md_wF hP rfl) rfl rfl rfl (fun h4_ hP4_ => ?_)
      refine z_aload_n C dd_Q_best_33 rfl ?_
      refine gf_Q_121 (v := .int 1) C dd_Q_best_34 hP4_.1.1 rfl ?_
      refine z_if_le (tgt := 42) C dd_Q_best_37 (by decide) (fun q4 => absurd q4 (by decide)) (fun q4 => ?_)
      refine z_iconst (v := 0) C dd_Q_best_40 (by decide) ?_
      exact z_iret C dd_Q_best_41 ⟨rfl, Or.inl ⟨rfl, hP4_, pu_norow W hg0 har har2 ((pu_b0 _).mp q3)⟩⟩ (by decide) (by decide)
    · skip
      refine z_iconst (v := 0) C dd_Q_best_25 (by decide) ?_
      refine z_goto (tgt := 30) C dd_Q_best_26 (by decide) ?_
      refine pf_Q_121 C dd_Q_best_30 hP.1.1 (Nat.le_of_ble_eq_true rfl) rfl rfl ?_
      refine z_cut (md_K dA (md_fs F 0 0) I J q h) (md_wF hP rfl) rfl rfl rfl (fun h5_ hP5_ => ?_)
      refine z_aload_n C dd_Q_best_33 rfl ?_
      refine gf_Q_121 (v := .int 0) C dd_Q_best_34 hP5_.1.1 rfl ?_
      refine z_if_le (tgt := 42) C dd_Q_best_37 (by decide) (fun q5 => ?_) (fun q5 => absurd (by decide) q5)
      obtain ⟨x0, y0, hx0, rfl, hy⟩ := (pu_ir_t h1 h8 har2).mp (pu_bn1.mp q3)
      have hrl := pu_rw_lt (ar := ar) hx0 hy.1
      have hRl := pu_R_le (nc := nc) (ar := ar) h8
      refine z_aload_n C dd_Q_best_42 rfl ?_
      refine z_iload_n C dd_Q_best_43 rfl ?_
      refine iv_Q_173 (sk := fun _ => []) (zz_f B) C dd_Q_best_44 (cc_Q_know l D dA B _ _ q _ I J hP5_.1 nc ng nM (pu_W_f W (by decide)) g0 ar hg0 har har2) hP5_.1.1 rfl rfl ⟨by decide, by decide⟩ (Nat.le_of_ble_eq_true rfl) ⟨by decide, by decide⟩ (fun _ => rfl) (fun _ h6_ n6_ p6_ => ?_)
      obtain ⟨m6_, rfl⟩ := p6_
      have hP6_ := md_tr hP5_ m6_
      have ek1 : pu_know I nc nM g0 ar 1 g0 = nI ar := by rw [pu_know_8 _ _ _ _ _ _ (by decide)]; exact har
      refine z_aload_n C dd_Q_best_47 rfl ?_
      refine z_iload_n C dd_Q_best_48 rfl ?_
      refine z_aload_n C dd_Q_best_49 rfl ?_
      refine z_iload_n C dd_Q_best_50 rfl ?_
      refine z_iload_n C dd_Q_best_51 rfl ?_
      refine z_iload_n C dd_Q_best_52 rfl ?_
      refine iv_Q_179 (sk := fun r => .int r :: [.int ((nI g0)), .ref q]) (zz_f B) C dd_Q_best_53 (cx_Q_row l D dA B _ _ q _ _ J hP6_.1 nc ng nM (pu_W_k (pu_W_f W (by decide)) g0 ar) g0 ar hg0 ek1 har2 x0 y0 y hy) hP6_.1.1 rfl rfl ⟨by decide, by decide⟩ (Nat.le_of_ble_eq_true rfl) ⟨by decide, by decide⟩ (fun _ => rfl) (fun v7_ h7_ n7_ p7_ => ?_)
      obtain ⟨e7_, f7_, rfl⟩ := p7_
      have e7z := e7_.symm
      have f7z := f7_.symm
      subst e7z
      subst f7z
      refine iv_Q_183 (sk := fun r => .int r :: []) (zz_f B) C dd_Q_best_56 (cc_Q_bestAt l D dA B _ _ q _ _ J hP6_.1 g0 (pu_rw nc ar x0 y0) nM (by omega) (by omega) h12 W.fm) hP6_.1.1 rfl rfl ⟨by decide, by decide⟩ (Nat.le_of_ble_eq_true rfl) ⟨by decide, by decide⟩ (fun _ => rfl) (fun v8_ h8_ n8_ p8_ => ?_)
      obtain ⟨e8_, f8_, rfl⟩ := p8_
      have e8z := e8_.symm
      have f8z := f8_.symm
      subst e8z
      subst f8z
      exact z_iret C dd_Q_best_59 ⟨rfl, Or.inr ⟨g0, ar, x0, y0, ⟨hg0, rfl, har2, har, hx0, rfl, hy⟩, rfl, hP6_⟩⟩ (by decide) (by decide)
abbrev rm_Q_witness : Room := { frames := 3, cells := 0, slots := 0, locals := 60 }
set_option maxRecDepth 20000 in
/-- witness -/
theorem cc_Q_witness (l : Launch) (D : va_G) (dA : Nat → ClassId) (B : Nat) (h : zz_H) (n : Nat) (q : Nat) (F : Nat → Int32) (I : Nat → Nat → Int32) (J : Nat → Nat → Int64) (hP0 : md_P dA F I J q h) (x : Int32) : zz_M l D zz_cl (zz_ty dA) B zz_tb (zz_x B) yy_Q_witness (Cond.code yy_Q_witness bb_Q_witness 2 (some FieldType.int)) rm_Q_witness [.ref q, .int x] h n zz_mi (fun r h' n' => n' = n ∧ ((pu_iv x 0 (F 18 - 1) = false ∧ r = 0 ∧ md_K dA (md_fs F 0 1) I J q h h') ∨ (pu_iv x 0 (F 18 - 1) = true ∧ (r = if x = 0 then F 19 else F 20) ∧ md_K dA (md_fs F 0 0) I J q h h'))) := by
  refine zz_ofW (zz_f B) [some (.ref q), some (.int x)] (by decide) rfl rfl (Nat.le_of_ble_eq_true rfl) ?_
  intro p e s m below meth c C
  have hP := md_rf hP0
  refine z_aload_n C dd_Q_witness_0 rfl ?_
  refine z_iload_n C dd_Q_witness_1 rfl ?_
  refine z_iconst (v := 0) C dd_Q_witness_2 (by decide) ?_
  refine z_aload_n C dd_Q_witness_3 rfl ?_
  refine gf_Q_124 (v := .int (F 18)) C dd_Q_witness_4 hP.1.1 rfl ?_
  refine z_iconst (v := 1) C dd_Q_witness_7 (by decide) ?_
  refine z_isub C dd_Q_witness_8 ?_
  refine is_Q_127 (sk := fun r => .int r :: [.ref q]) (zz_f B) C dd_Q_witness_9 (cn_Q_in l D dA B _ _ _ _ _) rfl rfl ⟨by decide, by decide⟩ (Nat.le_of_ble_eq_true rfl) ⟨by decide, by decide⟩ (fun _ => rfl) (fun v1_ h1_ n1_ p1_ => ?_)
  obtain ⟨e1_, f1_, rfl⟩ := p1_
  have e1z := e1_.symm
  have f1z := f1_.symm
  subst e1z
  subst f1z
  refine z_if_eq (tgt := 19) C dd_Q_witness_12 (by decide) (fun q1 => ?_) (fun q1 => ?_)
  · skip
    refine z_iconst (v := 1) C dd_Q_witness_19 (by decide) ?_
    refine pf_Q_121 C dd_Q_witness_20 hP.1.1 (Nat.le_of_ble_eq_true rfl) rfl rfl ?_
    refine z_cut (md_K dA (md_fs F 0 1) I J q h) (md_wF hP rfl) rfl rfl rfl (fun h2_ hP2_ => ?_)
    refine z_aload_n C dd_Q_witness_23 rfl ?_
    refine gf_Q_121 (v := .int 1) C dd_Q_witness_24 hP2_.1.1 rfl ?_
    refine z_if_le (tgt := 34) C dd_Q_witness_27 (by decide) (fun q2 => absurd q2 (by decide)) (fun q2 => ?_)
    refine z_iconst (v := 0) C dd_Q_witness_30 (by decide) ?_
    refine z_goto (tgt := 49) C dd_Q_witness_31 (by decide) ?_
    exact z_iret C dd_Q_witness_49 ⟨rfl, Or.inl ⟨((pu_b0 _).mp q1), rfl, hP2_⟩⟩ (by decide) (by decide)
  · skip
    refine z_iconst (v := 0) C dd_Q_witness_15 (by decide) ?_
    refine z_goto (tgt := 20) C dd_Q_witness_16 (by decide) ?_
    refine pf_Q_121 C dd_Q_witness_20 hP.1.1 (Nat.le_of_ble_eq_true rfl) rfl rfl ?_
    refine z_cut (md_K dA (md_fs F 0 0) I J q h) (md_wF hP rfl) rfl rfl rfl (fun h3_ hP3_ => ?_)
    refine z_aload_n C dd_Q_witness_23 rfl ?_
    refine gf_Q_121 (v := .int 0) C dd_Q_witness_24 hP3_.1.1 rfl ?_
    refine z_if_le (tgt := 34) C dd_Q_witness_27 (by decide) (fun q3 => ?_) (fun q3 => absurd (by decide) q3)
    refine z_iload_n C dd_Q_witness_34 rfl ?_
    refine z_if_ne (tgt := 45) C dd_Q_witness_35 (by decide) (fun q4 => ?_) (fun q4 => ?_)
    · skip
      refine z_aload_n C dd_Q_witness_45 rfl ?_
      refine gf_Q_189 (v := .int (F 20)) C dd_Q_witness_46 hP3_.1.1 rfl ?_
      exact z_iret C dd_Q_witness_49 ⟨rfl, Or.inr ⟨(pu_bn1.mp q1), by simp [q4], hP3_⟩⟩ (by decide) (by decide)
    · skip
      refine z_aload_n C dd_Q_witness_38 rfl ?_
      refine gf_Q_186 (v := .int (F 19)) C dd_Q_witness_39 hP3_.1.1 rfl ?_
      refine z_goto (tgt := 49) C dd_Q_witness_42 (by decide) ?_
      exact z_iret C dd_Q_witness_49 ⟨rfl, Or.inr ⟨(pu_bn1.mp q1), by simp [q4], hP3_⟩⟩ (by decide) (by decide)
