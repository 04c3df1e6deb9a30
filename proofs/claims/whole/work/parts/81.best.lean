section DRF
variable {dA : Nat → ClassId} {F : Nat → Int32} {ad : Nat → Nat → Nat} {ng nM : Nat} {na no : Nat → Nat} {X : dk_X} {Y : dk_Y} {Z : dk_Z} {I : mq_M} {nc : Nat} {oc : Nat → Nat} {ow : Nat → Nat → Nat}
/-- what a refresh may have changed -/
def dk_fr (X X' : dk_X) (Z Z' : dk_Z) : Prop := (∀ k i, ¬ (k = 20 ∨ k = 26 ∨ k = 30) → X' k i = X k i) ∧ (∀ i p, p < 7 → X' 20 i p = X 20 i p) ∧ (∀ i p, p < 8 → X' 30 i p = X 30 i p) ∧ (∀ k i, ¬ k = 27 → Z' k i = Z k i) ∧ ∀ i, X 20 i 7 = 1 → X' 20 i 7 = 1
theorem dk_ref_ok {g : Nat} {h h' : zz_H} (hP : dk_P dA ad (dk_lv ng nM na no) X Y Z h) (V : dk_IV F ad ng nM na no X Y Z I nc oc ow) (hg : g < ng) (pp : (X 20 g 7 = 1 ∧ h' = h) ∨ (X 20 g 7 = 0 ∧ ∃ X' Y' Z' tf, dk_K dA ad (dk_lv ng nM na no) X' Y' Z' h h' ∧ dk_f6 g (oc g) (ow g) X X' Y Y' Z Z' ∧ X' 20 g 7 = 1 ∧ X' 20 g 8 = 0 ∧ dk_FR ad ng nM na no X' Y' Z' I g nc (mq_ar I g) (oc g) (ow g) tf)) : ∃ X' Y' Z', dk_K dA ad (dk_lv ng nM na no) X' Y' Z' h h' ∧ dk_IV F ad ng nM na no X' Y' Z' I nc oc ow ∧ X' 20 g 7 = 1 ∧ dk_fr X X' Z Z' := by
  rcases pp with ⟨p1, rfl⟩ | ⟨p1, X', Y', Z', tf, p2, p3, p4, p5, p6⟩
  · exact ⟨X, Y, Z, dk_rf hP, V, p1, fun _ _ _ => rfl, fun _ _ _ => rfl, fun _ _ _ => rfl, fun _ _ _ => rfl, fun _ z => z⟩
  · refine ⟨X', Y', Z', p2, V.fresh hg p3 p4 p5 p6 p1, p4, fun k i c => p3.1 k i (by omega) (by omega), fun i p hp => ?_, fun i p hp => p3.2.2.1 i p hp, fun k i c => p3.2.2.2.2 k i (by omega), fun i z => ?_⟩
    · by_cases c : i = g
      · subst c; exact p3.2.1 p hp
      · rw [p3.1 20 i (by omega) (by omega)]
    · by_cases c : i = g
      · subst c; exact p4
      · rw [p3.1 20 i (by omega) (by omega)]; exact z
theorem dk_gat_h {x : Int32} {N : Nat} {zz : Nat → Option Nat} {aa : Nat → Nat} {M : Nat} (hN : N ≤ M) (hM : M < 2 ^ 31) (h : ∀ g, g < N → zz g = some (aa g)) (h1 : ¬ x < 0) (h2 : x < nI N) : ∃ a, zz x.toNatClampNeg = some a ∧ vp_in x M := by
  obtain ⟨g, hg, rfl⟩ := nI_of h1
  have h3 : g < N := (nI_ltI (by omega) (by omega)).mp h2
  rw [nI_clamp (by omega)]
  exact ⟨_, h g h3, vp_in_nI (by omega) hM⟩
theorem dk_gat_p {x : Int32} {N a : Nat} {zz : Nat → Option Nat} {aa : Nat → Nat} (hN : N < 2 ^ 31) (h : ∀ g, g < N → zz g = some (aa g)) (h0 : zz x.toNatClampNeg = some a) (h1 : ¬ x < 0) (h2 : x < nI N) : ∃ g, g < N ∧ x = nI g ∧ a = aa g := by
  obtain ⟨g, hg, rfl⟩ := nI_of h1
  have h3 : g < N := (nI_ltI (by omega) (by omega)).mp h2
  rw [nI_clamp (by omega), h g h3] at h0
  exact ⟨g, h3, rfl, (Option.some.inj h0).symm⟩
theorem dk_gat_n {x : Int32} {N : Nat} (hN : N < 2 ^ 31) (h : x < 0 ∨ ¬ x < nI N) (g : Nat) (hg : g < N) : ¬ x = nI g := by
  rintro rfl
  rcases h with z | z
  · exact nI_pos (by omega) z
  · exact z ((nI_ltI (by omega) (by omega)).mpr hg)
end DRF
abbrev rm_H_hasValue : Room := { frames := 3, cells := 0, slots := 0, locals := 60 }
set_option maxRecDepth 20000 in
/-- hasValue -/
theorem cd_H_hasValue (l : Launch) (D : va_G) (dA : Nat → ClassId) (B : Nat) (h : zz_H) (n : Nat) (ad : Nat → Nat → Nat) (ng nM : Nat) (na no : Nat → Nat) (X : dk_X) (Y : dk_Y) (Z : dk_Z) (hP0 : dk_P dA ad (dk_lv ng nM na no) X Y Z h) (nc : Nat) (h8 : nc ≤ 8) (e1 : X 1 0 1 = nI nc) (v : Int32) : zz_M l D zz_cl (zz_ty dA) B zz_tb (zz_x B) yy_H_hasValue (Cond.code yy_H_hasValue bb_H_hasValue 2 (some FieldType.boolean)) rm_H_hasValue [.ref ((ad 1 0)), .int v] h n zz_mi (fun r h' n' => n' = n ∧ h' = h ∧ r = pu_b (pu_iv v 0 (nI (8 * nc) - 1))) := by
  refine zz_ofW (zz_f B) [some (.ref ((ad 1 0))), some (.int v)] (by decide) rfl rfl (Nat.le_of_ble_eq_true rfl) ?_
  intro p e s m below meth c C
  have hP := dk_rf hP0
  refine z_iload_n C dd_H_hasValue_0 rfl ?_
  refine z_if_lt (tgt := 16) C dd_H_hasValue_1 (by decide) (fun q1 => ?_) (fun q1 => ?_)
  · skip
    refine z_iconst (v := 0) C dd_H_hasValue_16 (by decide) ?_
    refine z_zret C dd_H_hasValue_17 rfl ⟨rfl, rfl, ?_⟩ (by decide) (by decide)
    have e9 : pu_iv v 0 (nI (8 * nc) - 1) = false := by
      cases c9 : pu_iv v 0 (nI (8 * nc) - 1)
      · rfl
      · obtain ⟨j, hj, rfl⟩ := (pu_iv_0 (by omega)).mp c9
        exact absurd q1 (nI_pos (by omega))
    rw [e9]
    rfl
  · skip
    refine z_iload_n C dd_H_hasValue_4 rfl ?_
    refine z_aload_n C dd_H_hasValue_5 rfl ?_
    refine iv_H_17 (sk := fun r => .int r :: [.int v]) (zz_f B) C dd_H_hasValue_6 (cc_H_valueCount l D dA B _ _ _ _ _ (dk_rd (k := 1) (i := 0) (x := (X 1 0)) (y := (Y 1 0)) (z := (Z 1 0)) hP rfl rfl rfl rfl)) (dk_rd (k := 1) (i := 0) (x := (X 1 0)) (y := (Y 1 0)) (z := (Z 1 0)) hP rfl rfl rfl rfl) rfl rfl ⟨by decide, by decide⟩ (Nat.le_of_ble_eq_true rfl) ⟨by decide, by decide⟩ (fun _ => rfl) (fun v1_ h1_ n1_ p1_ => ?_)
    obtain ⟨f1_, e1_, p1_⟩ := p1_
    have e1z := e1_.symm
    have f1z := f1_.symm
    subst e1z
    subst f1z
    refine z_topi (y := nI (8 * nc)) (by rw [p1_, e1, ← pk_mul]; rfl) ?_
    refine z_icmp_ge (tgt := 16) C dd_H_hasValue_9 (by decide) (fun q2 => ?_) (fun q2 => ?_)
    · skip
      refine z_iconst (v := 0) C dd_H_hasValue_16 (by decide) ?_
      refine z_zret C dd_H_hasValue_17 rfl ⟨rfl, rfl, ?_⟩ (by decide) (by decide)
      have e9 : pu_iv v 0 (nI (8 * nc) - 1) = false := by
        cases c9 : pu_iv v 0 (nI (8 * nc) - 1)
        · rfl
        · obtain ⟨j, hj, rfl⟩ := (pu_iv_0 (by omega)).mp c9
          exact absurd ((nI_leI (by omega) (by omega)).mp q2) (by omega)
      rw [e9]
      rfl
    · skip
      refine z_iconst (v := 1) C dd_H_hasValue_12 (by decide) ?_
      refine z_goto (tgt := 17) C dd_H_hasValue_13 (by decide) ?_
      refine z_zret C dd_H_hasValue_17 rfl ⟨rfl, rfl, ?_⟩ (by decide) (by decide)
      obtain ⟨j, hj, rfl⟩ := nI_of q1
      have hj2 : j < 8 * nc := (nI_ltI (by omega) (by omega)).mp (Int32.not_le.mp q2)
      rw [(pu_iv_0 (by omega)).mpr ⟨j, hj2, rfl⟩]
      rfl
abbrev rm_D_isRow : Room := { frames := 5, cells := 0, slots := 0, locals := 120 }
set_option maxRecDepth 20000 in
/-- isRow -/
theorem cd_D_isRow (l : Launch) (D : va_G) (dA : Nat → ClassId) (B : Nat) (h : zz_H) (n : Nat) (ad : Nat → Nat → Nat) (ng nM : Nat) (na no : Nat → Nat) (X : dk_X) (Y : dk_Y) (Z : dk_Z) (hP0 : dk_P dA ad (dk_lv ng nM na no) X Y Z h) (nc g ar : Nat) (hg : g < ng) (h8 : nc ≤ 8) (e1 : X 1 0 1 = nI nc) (ear : X 20 g 0 = nI ar) (har : ar = 1 ∨ ar = 2) (x y : Int32) : zz_M l D zz_cl (zz_ty dA) B zz_tb (zz_x B) yy_D_isRow (Cond.code yy_D_isRow bb_D_isRow 4 (some FieldType.boolean)) rm_D_isRow [.ref ((ad 0 0)), .ref ((ad 20 g)), .int x, .int y] h n zz_mi (fun r h' n' => n' = n ∧ h' = h ∧ r = pu_b (pu_ir nc ar x y)) := by
  refine zz_ofW (zz_f B) [some (.ref ((ad 0 0))), some (.ref ((ad 20 g))), some (.int x), some (.int y)] (by decide) rfl rfl (Nat.le_of_ble_eq_true rfl) ?_
  intro p e s m below meth c C
  have hP := dk_rf hP0
  refine z_aload_n C dd_D_isRow_0 rfl ?_
  refine gf_D_10 (v := .ref ((ad 1 0))) C dd_D_isRow_1 (dk_rd (k := 0) (i := 0) (x := (X 0 0)) (y := (Y 0 0)) (z := (Z 0 0)) hP rfl rfl rfl rfl) rfl ?_
  refine z_iload_n C dd_D_isRow_4 rfl ?_
  refine iv_D_261 (sk := fun r => .int r :: []) (zz_f B) C dd_D_isRow_5 (cd_H_hasValue l D dA B _ _ ad ng nM na no X Y Z hP.1 nc h8 e1 x) (dk_rd (k := 1) (i := 0) (x := (X 1 0)) (y := (Y 1 0)) (z := (Z 1 0)) hP rfl rfl rfl rfl) rfl rfl ⟨by decide, by decide⟩ (Nat.le_of_ble_eq_true rfl) ⟨by decide, by decide⟩ (fun _ => rfl) (fun v1_ h1_ n1_ p1_ => ?_)
  obtain ⟨f1_, e1_, p1_⟩ := p1_
  have e1z := e1_.symm
  have f1z := f1_.symm
  subst e1z
  subst f1z
  have q1_ := p1_.symm
  subst q1_
  refine z_if_eq (tgt := 34) C dd_D_isRow_8 (by decide) (fun q1 => ?_) (fun q1 => ?_)
  · skip
    refine z_iconst (v := 0) C dd_D_isRow_34 (by decide) ?_
    refine z_zret C dd_D_isRow_35 rfl ⟨rfl, rfl, ?_⟩ (by decide) (by decide)
    unfold pu_ir
    rw [((pu_b0 _).mp q1)]
    rfl
  · skip
    refine z_aload_n C dd_D_isRow_11 rfl ?_
    refine gf_D_112 (v := .int (X 20 g 0)) C dd_D_isRow_12 (dk_rd (k := 20) (i := g) (x := (X 20 g)) (y := (Y 20 g)) (z := (Z 20 g)) hP hg rfl rfl rfl) rfl ?_
    refine z_topi (y := nI ar) ear.symm ?_
    refine z_iconst (v := 1) C dd_D_isRow_15 (by decide) ?_
    refine z_icmp_eq (tgt := 30) C dd_D_isRow_16 (by decide) (fun q2 => ?_) (fun q2 => ?_)
    · replace q2 : ar = 1 := (@nI_eq ar 1 (by omega) (by omega)).mp q2
      refine z_iconst (v := 1) C dd_D_isRow_30 (by decide) ?_
      refine z_goto (tgt := 35) C dd_D_isRow_31 (by decide) ?_
      refine z_zret C dd_D_isRow_35 rfl ⟨rfl, rfl, ?_⟩ (by decide) (by decide)
      unfold pu_ir
      rw [(pu_bn1.mp q1), decide_eq_true q2]
      rfl
    · replace q2 : ¬ ar = 1 := fun z => q2 ((@nI_eq ar 1 (by omega) (by omega)).mpr z)
      refine z_aload_n C dd_D_isRow_19 rfl ?_
      refine gf_D_10 (v := .ref ((ad 1 0))) C dd_D_isRow_20 (dk_rd (k := 0) (i := 0) (x := (X 0 0)) (y := (Y 0 0)) (z := (Z 0 0)) hP rfl rfl rfl rfl) rfl ?_
      refine z_iload_n C dd_D_isRow_23 rfl ?_
      refine iv_D_261 (sk := fun r => .int r :: []) (zz_f B) C dd_D_isRow_24 (cd_H_hasValue l D dA B _ _ ad ng nM na no X Y Z hP.1 nc h8 e1 y) (dk_rd (k := 1) (i := 0) (x := (X 1 0)) (y := (Y 1 0)) (z := (Z 1 0)) hP rfl rfl rfl rfl) rfl rfl ⟨by decide, by decide⟩ (Nat.le_of_ble_eq_true rfl) ⟨by decide, by decide⟩ (fun _ => rfl) (fun v2_ h2_ n2_ p2_ => ?_)
      obtain ⟨f2_, e2_, p2_⟩ := p2_
      have e2z := e2_.symm
      have f2z := f2_.symm
      subst e2z
      subst f2z
      have q2_ := p2_.symm
      subst q2_
      refine z_if_eq (tgt := 34) C dd_D_isRow_27 (by decide) (fun q3 => ?_) (fun q3 => ?_)
      · skip
        refine z_iconst (v := 0) C dd_D_isRow_34 (by decide) ?_
        refine z_zret C dd_D_isRow_35 rfl ⟨rfl, rfl, ?_⟩ (by decide) (by decide)
        unfold pu_ir
        rw [(pu_bn1.mp q1), decide_eq_false q2, ((pu_b0 _).mp q3)]
        rfl
      · skip
        refine z_iconst (v := 1) C dd_D_isRow_30 (by decide) ?_
        refine z_goto (tgt := 35) C dd_D_isRow_31 (by decide) ?_
        refine z_zret C dd_D_isRow_35 rfl ⟨rfl, rfl, ?_⟩ (by decide) (by decide)
        unfold pu_ir
        rw [(pu_bn1.mp q1), decide_eq_false q2, (pu_bn1.mp q3)]
        rfl
theorem dk_IV.chosen {F : Nat → Int32} {ad : Nat → Nat → Nat} {ng nM : Nat} {na no : Nat → Nat} {X X' : dk_X} {Y Y' : dk_Y} {Z : dk_Z} {I : mq_M} {nc : Nat} {oc : Nat → Nat} {ow : Nat → Nat → Nat} {g : Nat} (V : dk_IV F ad ng nM na no X Y Z I nc oc ow) (hg : g < ng) (h7 : X 20 g 7 = 1) (ch : dk_ch X' Y' (ow g) g (oc g)) (a : dk_f2 g X X' Y Y') : dk_IV F ad ng nM na no X' Y' Z I nc oc ow := by
  obtain ⟨⟨v1, v2, v3⟩, v4, ⟨v5, v6, v7, v8, v9⟩, v10⟩ := V
  have x0 : ∀ k i, ¬ k = 20 → X' k i = X k i := fun k i c => a.1 k i (fun z => c z.1)
  have y0 : ∀ k i, ¬ k = 20 → Y' k i = Y k i := fun k i c => a.2.2 k i (fun z => c z.1)
  have p20 : ∀ i p, p < 8 → X' 20 i p = X 20 i p := by
    intro i p hp
    by_cases c : i = g
    · subst c; exact a.2.1 p hp
    · rw [a.1 20 i (fun z => c z.2)]
  refine ⟨⟨v1, ?_, v3⟩, fun g9 hg9 => ?_, ⟨by rw [x0 0 0 (by decide)]; exact v5, by rw [x0 0 0 (by decide)]; exact v6, v7, v8, v9⟩, fun m hm => ?_⟩
  · obtain ⟨b1, b2, b3, b4, b5⟩ := v2
    refine ⟨dk_hi_cg b1 (x0 1 0 (by decide)) (x0 2 0 (by decide)), b2, b3, b4, fun m hm => ?_⟩
    obtain ⟨c1, c2, c3, c4, c5⟩ := b5 m hm
    rw [x0 30 m (by decide)]
    exact ⟨c1, c2, c3, c4, fun k hk => ⟨(c5 k hk).1, dk_ao_cg (c5 k hk).2.1 (x0 33 _ (by decide)) rfl rfl rfl, by rw [x0 33 _ (by decide)]; exact (c5 k hk).2.2⟩⟩
  · obtain ⟨⟨g1, g2, g3, g5, g6⟩, g7, g8, g9'⟩ := v4 g9 hg9
    refine ⟨⟨?_, g2, by rw [p20 g9 0 (by decide)]; exact g3, g5, by rw [p20 g9 6 (by decide)]; exact g6⟩, ?_, ?_, fun hne => ⟨by rw [p20 g9 7 (by decide)]; exact (g9' hne).1, (g9' hne).2⟩⟩
    · obtain ⟨o1, o2, o3, o4⟩ := g1
      refine ⟨by rw [p20 g9 5 (by decide)]; exact o1, o2, o3, fun k hk => ?_⟩
      rw [x0 30 _ (by decide)]
      exact o4 k hk
    · rw [p20 g9 7 (by decide)]
      rcases g7 with z | ⟨z1, ⟨tf9, z2⟩, z3⟩
      · exact Or.inl z
      · refine Or.inr ⟨z1, ⟨tf9, dk_FR_cg z2 (x0 26 g9 (by decide)) (fun i => x0 33 i (by decide)) (fun k hk => x0 30 _ (by decide)) (p20 g9 6 (by decide)) (y0 26 g9 (by decide)) (y0 28 g9 (by decide)) (y0 29 g9 (by decide)) (fun k hk => y0 30 _ (by decide)) rfl⟩, ?_⟩
        by_cases c : g9 = g
        · subst c; exact ch
        · exact dk_ch_Y (dk_ch_X z3 (fun i => x0 30 i (by decide)) (a.1 20 g9 (fun z => c z.2))) (fun i => y0 30 i (by decide)) (by rw [a.2.2 20 g9 (fun z => c z.2)])
    · unfold dk_gr
      rw [x0 21 g9 (by decide), x0 22 g9 (by decide), x0 23 g9 (by decide), x0 24 g9 (by decide)]
      exact g8
  · obtain ⟨m1, m2, m3, m4, m5⟩ := v10 m hm
    rw [x0 30 m (by decide)]
    refine ⟨m1, m2, m3, m4, fun k hk => ?_⟩
    rw [x0 34 _ (by decide)]
    exact m5 k hk
abbrev rm_D_best : Room := { frames := 30, cells := 2, slots := 12, locals := 800 }
set_option maxRecDepth 20000 in
/-- best -/
theorem cd_D_best (l : Launch) (D : va_G) (dA : Nat → ClassId) (B : Nat) (h : zz_H) (n : Nat) (ad : Nat → Nat → Nat) (ng nM : Nat) (na no : Nat → Nat) (X : dk_X) (Y : dk_Y) (Z : dk_Z) (hP0 : dk_P dA ad (dk_lv ng nM na no) X Y Z h) (F : Nat → Int32) (I : mq_M) (nc : Nat) (oc : Nat → Nat) (ow : Nat → Nat → Nat) (IV : dk_IV F ad ng nM na no X Y Z I nc oc ow) (g x y : Int32) (hl : l.stackTraces = false) : zz_MX l D zz_cl (zz_ty dA) B zz_tb (zz_x B) yy_D_best (Cond.code yy_D_best bb_D_best 5 (some FieldType.int)) rm_D_best [.ref ((ad 0 0)), .int g, .int x, .int y] h n zz_mi (fun r h' n' => n ≤ n' ∧ ∃ g0 ar x0 y0, pu_row I nc ng g x y g0 ar x0 y0 ∧ r = pu_bs I nc nM g0 ar (pu_rw nc ar x0 y0) ∧ ∃ X' Y' Z', dk_K dA ad (dk_lv ng nM na no) X' Y' Z' h h' ∧ dk_IV F ad ng nM na no X' Y' Z' I nc oc ow ∧ X' 0 0 = X 0 0 ∧ X' 7 0 = X 7 0) (fun E h' n' => E = "java/lang/IllegalArgumentException" ∧ h' = h ∧ n ≤ n' ∧ ∀ g0 ar x0 y0, ¬ pu_row I nc ng g x y g0 ar x0 y0) := by
  refine zz_ofX (zz_f B) [some (.ref ((ad 0 0))), some (.int g), some (.int x), some (.int y), none] (by decide) rfl rfl (Nat.le_of_ble_eq_true rfl) ?_
  intro p e s m below meth c C hno
  have hP := dk_rf hP0
  have Wp := IV.1.1
  have g4 := Wp.g4
  have m12 := Wp.m12
  have h8 := Wp.c8
  have h1 := Wp.c1
  refine z_aload_n C dd_D_best_0 rfl ?_
  refine z_iload_n C dd_D_best_1 rfl ?_
  refine ix_D_92 (sk := fun r => .ref r :: []) (zz_f B) C dd_D_best_2 (cc_D_genericAt l D dA B _ _ (ad 0 0) _ _ _ _ _ _ _ _ _ _ (dk_rd (k := 0) (i := 0) (x := (X 0 0)) (y := (Y 0 0)) (z := (Z 0 0)) hP rfl rfl rfl rfl) g (Z 3 0) (dk_rd (k := 3) (i := 0) (x := (X 3 0)) (y := (Y 3 0)) (z := (Z 3 0)) hP rfl rfl rfl rfl) (fun a b => dk_gat_h g4 (by decide) IV.2.2.1.2.2.1 a (by rw [← IV.2.2.1.1]; exact b)) hl) hno (dk_rd (k := 0) (i := 0) (x := (X 0 0)) (y := (Y 0 0)) (z := (Z 0 0)) hP rfl rfl rfl rfl) rfl rfl ⟨by decide, by decide⟩ (Nat.le_of_ble_eq_true rfl) ⟨by decide, by decide⟩ (fun _ => rfl) (fun E h' n' p9 => ⟨p9.1, p9.2.1, p9.2.2.1, fun g0 ar x0 y0 z => dk_gat_n (by omega) (by rw [← IV.2.2.1.1]; exact p9.2.2.2) g0 z.1 z.2.1⟩) (by decide) (by decide) (fun a1_ h1_ n1_ p1_ => ?_)
  obtain ⟨e1_, f1_, v1_, w1_, x1_⟩ := p1_
  have e1z := e1_.symm
  have f1z := f1_.symm
  subst e1z
  subst f1z
  rw [IV.2.2.1.1] at x1_
  obtain ⟨g0, hg0, rfl, rfl⟩ := dk_gat_p (by omega) IV.2.2.1.2.2.1 v1_ w1_ x1_
  have G0 := IV.2.1 g0 hg0
  obtain ⟨ar, har2, har⟩ := Wp.ar g0 hg0
  have ear : mq_ar I g0 = ar := by unfold mq_ar; rw [har, nI_clamp (by omega)]
  refine z_astore C dd_D_best_5 rfl ?_
  refine z_aload_n C dd_D_best_7 rfl ?_
  refine z_aload C dd_D_best_8 rfl ?_
  refine z_iload_n C dd_D_best_10 rfl ?_
  refine z_iload_n C dd_D_best_11 rfl ?_
  refine iv_D_168 (sk := fun r => .int r :: []) (zz_f B) C dd_D_best_12 (cd_D_isRow l D dA B _ _ ad ng nM na no X Y Z hP.1 nc g0 ar hg0 h8 IV.1.2.1.1.1 (by rw [G0.1.2.2.1, ear]) har2 x y) (dk_rd (k := 0) (i := 0) (x := (X 0 0)) (y := (Y 0 0)) (z := (Z 0 0)) hP rfl rfl rfl rfl) rfl rfl ⟨by decide, by decide⟩ (Nat.le_of_ble_eq_true rfl) ⟨by decide, by decide⟩ (fun _ => rfl) (fun v2_ h2_ n2_ p2_ => ?_)
  obtain ⟨f2_, e2_, p2_⟩ := p2_
  have e2z := e2_.symm
  have f2z := f2_.symm
  subst e2z
  subst f2z
  have q2_ := p2_.symm
  subst q2_
  refine z_if_ne (tgt := 28) C dd_D_best_15 (by decide) (fun q1 => ?_) (fun q1 => ?_)
  · skip
    refine z_aload C dd_D_best_28 rfl ?_
    obtain ⟨x0, y0, hx0, rfl, hy⟩ := (pu_ir_t h1 h8 har2).mp (pu_bn1.mp q1)
    obtain ⟨⟨ri1, ri2, ri3, ri4, ri5⟩, ri6, ri7, ri8⟩ := IV.2.1 g0 hg0
    have h7i : X 20 g0 7 = 0 ∨ X 20 g0 7 = 1 := ri6.elim Or.inl (fun z => Or.inr z.1)
    refine iv_D_158 (sk := fun _ => []) (zz_f B) C dd_D_best_30 (cd_G_refresh l D dA B _ _ ad ng nM na no X Y Z hP.1 F I g0 (oc g0) nc (mq_ar I g0) (ow g0) IV.1.1 hg0 ri1 ri2 IV.1.2.1 ri3 ri4 h7i) (dk_rd (k := 20) (i := g0) (x := (X 20 g0)) (y := (Y 20 g0)) (z := (Z 20 g0)) hP hg0 rfl rfl rfl) rfl rfl ⟨by decide, by decide⟩ (Nat.le_of_ble_eq_true rfl) ⟨by decide, by decide⟩ (fun _ => rfl) (fun _ h3_ n3_ p3_ => ?_)
    obtain ⟨rfl, p3_⟩ := p3_
    obtain ⟨Xf, Yf, Zf, r13, IVf, h7f, frf⟩ := dk_ref_ok hP.1 IV hg0 p3_
    have hP3_ := dk_tr hP r13
    obtain ⟨tf, K, ch⟩ := IVf.ok hg0 h7f
    rw [ear] at K
    have G1 := IVf.2.1 g0 hg0
    refine z_aload C dd_D_best_33 rfl ?_
    refine z_aload C dd_D_best_35 rfl ?_
    refine gf_D_174 (v := .ref ((ad 26 g0))) C dd_D_best_37 (dk_rd (k := 20) (i := g0) (x := (Xf 20 g0)) (y := (Yf 20 g0)) (z := (Zf 20 g0)) hP3_ hg0 rfl rfl rfl) rfl ?_
    refine z_iload_n C dd_D_best_40 rfl ?_
    refine z_aload C dd_D_best_41 rfl ?_
    refine z_iload_n C dd_D_best_43 rfl ?_
    refine iv_D_178 (sk := fun r => .int r :: [.int ((nI x0)), .ref ((ad 26 g0)), .ref ((ad 20 g0))]) (zz_f B) C dd_D_best_44 (cc_G_secondOrNone l D dA B _ _ _ _ _ _ _ _ _ _ _ _ _ _ (dk_rd (k := 20) (i := g0) (x := (Xf 20 g0)) (y := (Yf 20 g0)) (z := (Zf 20 g0)) hP3_ hg0 rfl rfl rfl) y) (dk_rd (k := 20) (i := g0) (x := (Xf 20 g0)) (y := (Yf 20 g0)) (z := (Zf 20 g0)) hP3_ hg0 rfl rfl rfl) rfl rfl ⟨by decide, by decide⟩ (Nat.le_of_ble_eq_true rfl) ⟨by decide, by decide⟩ (fun _ => rfl) (fun v4_ h4_ n4_ p4_ => ?_)
    obtain ⟨f4_, e4_, p4_⟩ := p4_
    have e4z := e4_.symm
    have f4z := f4_.symm
    subst e4z
    subst f4z
    have ey : v4_ = nI y0 := by
      have e20 : Xf 20 g0 0 = nI ar := by rw [G1.1.2.2.1, ear]
      rw [e20] at p4_
      rcases har2 with rfl | rfl
      · rcases p4_ with ⟨_, z⟩ | ⟨z, _⟩
        · rw [z, hy.2.1 rfl]; rfl
        · exact absurd z (by decide)
      · rcases p4_ with ⟨z, _⟩ | ⟨_, z⟩
        · exact absurd (by decide) z
        · rw [z]; exact hy.2.2 rfl
    have eyz := ey.symm
    subst eyz
    refine iv_D_181 (sk := fun r => .long r :: [.ref ((ad 20 g0))]) (zz_f B) C dd_D_best_47 (cd_F_ofRow l D dA B _ _ ad ng nM na no Xf Yf Zf hP3_.1 g0 x0 y0 hg0 (by omega) (by have := hy.1; omega)) (dk_rd (k := 26) (i := g0) (x := (Xf 26 g0)) (y := (Yf 26 g0)) (z := (Zf 26 g0)) hP3_ hg0 rfl rfl rfl) rfl rfl ⟨by decide, by decide⟩ (Nat.le_of_ble_eq_true rfl) ⟨by decide, by decide⟩ (fun _ => rfl) (fun v5_ h5_ n5_ p5_ => ?_)
    obtain ⟨f5_, e5_, p5_⟩ := p5_
    have e5z := e5_.symm
    have f5z := f5_.symm
    subst e5z
    subst f5z
    have q5_ := p5_.symm
    subst q5_
    refine iv_D_187 (sk := fun r => .int r :: []) (zz_f B) C dd_D_best_50 (cd_G_choose l D dA B _ _ ad ng nM na no Xf Yf Zf hP3_.1 g0 (oc g0) (ow g0) (dk_of Yf g0 x0 y0) hg0 G1.1.1 ch) (dk_rd (k := 20) (i := g0) (x := (Xf 20 g0)) (y := (Yf 20 g0)) (z := (Zf 20 g0)) hP3_ hg0 rfl rfl rfl) rfl rfl ⟨by decide, by decide⟩ (Nat.le_of_ble_eq_true rfl) ⟨by decide, by decide⟩ (fun _ => rfl) (fun v6_ h6_ n6_ p6_ => ?_)
    obtain ⟨rfl, q9, X3, Y3, w1, w2, w3⟩ := p6_
    exact z_iretX C dd_D_best_53 ⟨by omega, g0, ar, x0, y0, ⟨hg0, rfl, har2, har, hx0, rfl, hy⟩, q9.trans (K.best hx0 hy.1 hy.2.1), X3, Y3, Zf, dk_tr hP3_ w1, IVf.chosen hg0 h7f w2 w3, by rw [w3.1 0 0 (by omega), frf.1 0 0 (by omega)], by rw [w3.1 7 0 (by omega), frf.1 7 0 (by omega)]⟩ (by decide) (by decide)
  · skip
    exact tr_IAE "no such value" C hl hno (by decide +kernel) dd_D_best_18 dd_D_best_21 dd_D_best_22 dd_D_best_24 dd_D_best_27 (by decide) (Nat.le_of_ble_eq_true rfl) (by decide) (by decide) (by decide) (by decide) (fun n' hn => ⟨rfl, rfl, by omega, fun g9 ar9 x9 y9 z => pu_norow Wp hg0 har har2 ((pu_b0 _).mp q1) g9 ar9 x9 y9 z⟩)
