/-! rows of a generic of ar arguments over nc classes -/
def pu_R (nc ar : Nat) : Nat := if ar = 1 then 8 * nc else 8 * nc * (8 * nc)
def pu_rw (nc ar x y : Nat) : Nat := if ar = 1 then x else x * (8 * nc) + y
def pu_r1 (nc ar r : Nat) : Nat := if ar = 1 then r else r / (8 * nc)
def pu_r2 (nc ar r : Nat) : Nat := if ar = 1 then 0 else r % (8 * nc)
theorem pu_R_le {nc ar : Nat} (h : nc ≤ 8) : pu_R nc ar ≤ 4096 := by
  unfold pu_R
  split
  · omega
  · have h1 : 8 * nc ≤ 64 := by omega
    exact Nat.le_trans (Nat.mul_le_mul h1 h1) (by decide)
abbrev rn_Q_values : Room := { frames := 1, cells := 0, slots := 0, locals := 0 }
set_option maxRecDepth 20000 in
/-- values -/
theorem cn_Q_values (l : Launch) (D : va_G) (dA : Nat → ClassId) (B : Nat) (h : zz_H) (n : Nat) (q : Nat) (F : Nat → Int32) (I : Nat → Nat → Int32) (J : Nat → Nat → Int64) (hP0 : md_P dA F I J q h) (nc : Nat) (h1 : 1 ≤ nc) (h8 : nc ≤ 8) (hF1 : F 1 = nI nc) : zz_M l D zz_cl (zz_ty dA) B zz_tb (zz_x B) yy_Q_values (Cond.code yy_Q_values bb_Q_values 1 (some FieldType.int)) rn_Q_values [.ref q] h n zz_mi (fun r h' n' => h' = h ∧ n' = n ∧ r = nI (8 * nc)) := by
  refine zz_ofW (zz_f B) [some (.ref q)] (by decide) rfl rfl (Nat.le_of_ble_eq_true rfl) ?_
  intro p e s m below meth c C
  refine z_bipush (v := 8) C dd_Q_values_0 (by decide) ?_
  refine z_aload_n C dd_Q_values_2 rfl ?_
  refine gf_Q_7 (v := .int (F 1)) C dd_Q_values_3 (md_rf hP0).1.1 rfl ?_
  refine z_topi (y := nI nc) hF1.symm ?_
  refine z_imul C dd_Q_values_6 ?_
  refine z_topi (y := nI (8 * nc)) (by first | exact (pk_mul _ _).symm | (rw [← pk_mul]; rfl)) ?_
  exact z_iret C dd_Q_values_7 ⟨rfl, rfl, rfl⟩ (by decide) (by decide)
abbrev rn_Q_rows : Room := { frames := 3, cells := 0, slots := 0, locals := 60 }
set_option maxRecDepth 20000 in
/-- rows -/
theorem cn_Q_rows (l : Launch) (D : va_G) (dA : Nat → ClassId) (B : Nat) (h : zz_H) (n : Nat) (q : Nat) (F : Nat → Int32) (I : Nat → Nat → Int32) (J : Nat → Nat → Int64) (hP0 : md_P dA F I J q h) (nc : Nat) (h1 : 1 ≤ nc) (h8 : nc ≤ 8) (hF1 : F 1 = nI nc) (g0 ar : Nat) (hg : g0 < 4) (har : I 1 g0 = nI ar) (ha : ar = 1 ∨ ar = 2) : zz_M l D zz_cl (zz_ty dA) B zz_tb (zz_x B) yy_Q_rows (Cond.code yy_Q_rows bb_Q_rows 2 (some FieldType.int)) rn_Q_rows [.ref q, .int ((nI g0))] h n zz_mi (fun r h' n' => h' = h ∧ n' = n ∧ r = nI (pu_R nc ar)) := by
  refine zz_ofW (zz_f B) [some (.ref q), some (.int ((nI g0)))] (by decide) rfl rfl (Nat.le_of_ble_eq_true rfl) ?_
  intro p e s m below meth c C
  refine z_aload_n C dd_Q_rows_0 rfl ?_
  refine gf_Q_17 (v := .ref (q + 1 + 1)) C dd_Q_rows_1 (md_rf hP0).1.1 rfl ?_
  refine z_iload_n C dd_Q_rows_4 rfl ?_
  refine z_iald (t0 := 0) (N := 4) (f := (I 1)) C rfl dd_Q_rows_5 ((md_rf hP0).1.2 1 (by decide)) (vp_in_nI (by omega) (by decide)) ?_
  refine z_topi (y := nI ar) (by rw [nI_clamp (by omega)]; exact har.symm) ?_
  refine z_iconst (v := 1) C dd_Q_rows_6 (by decide) ?_
  refine z_icmp_ne (tgt := 17) C dd_Q_rows_7 (by decide) (fun q1 => ?_) (fun q1 => ?_)
  · replace q1 : ¬ ar = 1 := fun z => q1 ((@nI_eq ar 1 (by omega) (by omega)).mpr z)
    refine z_aload_n C dd_Q_rows_17 rfl ?_
    refine iv_Q_141 (sk := fun r => .int r :: []) (zz_f B) C dd_Q_rows_18 (cn_Q_values l D dA B _ _ q F I J hP0 nc h1 h8 hF1) hP0.1 rfl rfl ⟨by decide, by decide⟩ (Nat.le_of_ble_eq_true rfl) ⟨by decide, by decide⟩ (fun _ => rfl) (fun v1_ h1_ n1_ p1_ => ?_)
    obtain ⟨rfl, rfl, rfl⟩ := p1_
    refine z_aload_n C dd_Q_rows_21 rfl ?_
    refine iv_Q_141 (sk := fun r => .int r :: [.int ((nI (8 * nc)))]) (zz_f B) C dd_Q_rows_22 (cn_Q_values l D dA B _ _ q F I J hP0 nc h1 h8 hF1) hP0.1 rfl rfl ⟨by decide, by decide⟩ (Nat.le_of_ble_eq_true rfl) ⟨by decide, by decide⟩ (fun _ => rfl) (fun v2_ h2_ n2_ p2_ => ?_)
    obtain ⟨rfl, rfl, rfl⟩ := p2_
    refine z_imul C dd_Q_rows_25 ?_
    refine z_topi (y := nI ((8 * nc) * (8 * nc))) (by first | exact (pk_mul _ _).symm | (rw [← pk_mul]; rfl)) ?_
    exact z_iret C dd_Q_rows_26 ⟨rfl, rfl, by unfold pu_R; first | (simp [q1]; done) | (rw [if_pos q1]; rfl)⟩ (by decide) (by decide)
  · replace q1 : ar = 1 := (@nI_eq ar 1 (by omega) (by omega)).mp q1
    refine z_aload_n C dd_Q_rows_10 rfl ?_
    refine iv_Q_141 (sk := fun r => .int r :: []) (zz_f B) C dd_Q_rows_11 (cn_Q_values l D dA B _ _ q F I J hP0 nc h1 h8 hF1) hP0.1 rfl rfl ⟨by decide, by decide⟩ (Nat.le_of_ble_eq_true rfl) ⟨by decide, by decide⟩ (fun _ => rfl) (fun v3_ h3_ n3_ p3_ => ?_)
    obtain ⟨rfl, rfl, rfl⟩ := p3_
    refine z_goto (tgt := 26) C dd_Q_rows_14 (by decide) ?_
    exact z_iret C dd_Q_rows_26 ⟨rfl, rfl, by unfold pu_R; first | (simp [q1]; done) | (rw [if_pos q1]; rfl)⟩ (by decide) (by decide)
abbrev rn_Q_row : Room := { frames := 3, cells := 0, slots := 0, locals := 60 }
set_option maxRecDepth 20000 in
/-- row -/
theorem cn_Q_row (l : Launch) (D : va_G) (dA : Nat → ClassId) (B : Nat) (h : zz_H) (n : Nat) (q : Nat) (F : Nat → Int32) (I : Nat → Nat → Int32) (J : Nat → Nat → Int64) (hP0 : md_P dA F I J q h) (nc : Nat) (h1 : 1 ≤ nc) (h8 : nc ≤ 8) (hF1 : F 1 = nI nc) (g0 ar : Nat) (hg : g0 < 4) (har : I 1 g0 = nI ar) (ha : ar = 1 ∨ ar = 2) (x0 y0 : Nat) : zz_M l D zz_cl (zz_ty dA) B zz_tb (zz_x B) yy_Q_row (Cond.code yy_Q_row bb_Q_row 4 (some FieldType.int)) rn_Q_row [.ref q, .int ((nI g0)), .int ((nI x0)), .int ((nI y0))] h n zz_mi (fun r h' n' => h' = h ∧ n' = n ∧ r = nI (pu_rw nc ar x0 y0)) := by
  refine zz_ofW (zz_f B) [some (.ref q), some (.int ((nI g0))), some (.int ((nI x0))), some (.int ((nI y0)))] (by decide) rfl rfl (Nat.le_of_ble_eq_true rfl) ?_
  intro p e s m below meth c C
  refine z_aload_n C dd_Q_row_0 rfl ?_
  refine gf_Q_17 (v := .ref (q + 1 + 1)) C dd_Q_row_1 (md_rf hP0).1.1 rfl ?_
  refine z_iload_n C dd_Q_row_4 rfl ?_
  refine z_iald (t0 := 0) (N := 4) (f := (I 1)) C rfl dd_Q_row_5 ((md_rf hP0).1.2 1 (by decide)) (vp_in_nI (by omega) (by decide)) ?_
  refine z_topi (y := nI ar) (by rw [nI_clamp (by omega)]; exact har.symm) ?_
  refine z_iconst (v := 1) C dd_Q_row_6 (by decide) ?_
  refine z_icmp_ne (tgt := 14) C dd_Q_row_7 (by decide) (fun q1 => ?_) (fun q1 => ?_)
  · replace q1 : ¬ ar = 1 := fun z => q1 ((@nI_eq ar 1 (by omega) (by omega)).mpr z)
    refine z_iload_n C dd_Q_row_14 rfl ?_
    refine z_aload_n C dd_Q_row_15 rfl ?_
    refine iv_Q_141 (sk := fun r => .int r :: [.int ((nI x0))]) (zz_f B) C dd_Q_row_16 (cn_Q_values l D dA B _ _ q F I J hP0 nc h1 h8 hF1) hP0.1 rfl rfl ⟨by decide, by decide⟩ (Nat.le_of_ble_eq_true rfl) ⟨by decide, by decide⟩ (fun _ => rfl) (fun v1_ h1_ n1_ p1_ => ?_)
    obtain ⟨rfl, rfl, rfl⟩ := p1_
    refine z_imul C dd_Q_row_19 ?_
    refine z_topi (y := nI (x0 * (8 * nc))) (by first | exact (pk_mul _ _).symm | (rw [← pk_mul]; rfl)) ?_
    refine z_iload_n C dd_Q_row_20 rfl ?_
    refine z_iadd C dd_Q_row_21 ?_
    refine z_topi (y := nI ((x0 * (8 * nc)) + y0)) (by first | exact (nI_add _ _).symm | (rw [← nI_add]; rfl)) ?_
    exact z_iret C dd_Q_row_22 ⟨rfl, rfl, by unfold pu_rw; first | (simp [q1]; done) | (rw [if_pos q1]; rfl)⟩ (by decide) (by decide)
  · replace q1 : ar = 1 := (@nI_eq ar 1 (by omega) (by omega)).mp q1
    refine z_iload_n C dd_Q_row_10 rfl ?_
    refine z_goto (tgt := 22) C dd_Q_row_11 (by decide) ?_
    exact z_iret C dd_Q_row_22 ⟨rfl, rfl, by unfold pu_rw; first | (simp [q1]; done) | (rw [if_pos q1]; rfl)⟩ (by decide) (by decide)
abbrev rn_Q_firstOf : Room := { frames := 3, cells := 0, slots := 0, locals := 60 }
set_option maxRecDepth 20000 in
/-- firstOf -/
theorem cn_Q_firstOf (l : Launch) (D : va_G) (dA : Nat → ClassId) (B : Nat) (h : zz_H) (n : Nat) (q : Nat) (F : Nat → Int32) (I : Nat → Nat → Int32) (J : Nat → Nat → Int64) (hP0 : md_P dA F I J q h) (nc : Nat) (h1 : 1 ≤ nc) (h8 : nc ≤ 8) (hF1 : F 1 = nI nc) (g0 ar : Nat) (hg : g0 < 4) (har : I 1 g0 = nI ar) (ha : ar = 1 ∨ ar = 2) (r0 : Nat) (hr : r0 < 4096) : zz_M l D zz_cl (zz_ty dA) B zz_tb (zz_x B) yy_Q_firstOf (Cond.code yy_Q_firstOf bb_Q_firstOf 3 (some FieldType.int)) rn_Q_firstOf [.ref q, .int ((nI g0)), .int ((nI r0))] h n zz_mi (fun r h' n' => h' = h ∧ n' = n ∧ r = nI (pu_r1 nc ar r0)) := by
  refine zz_ofW (zz_f B) [some (.ref q), some (.int ((nI g0))), some (.int ((nI r0)))] (by decide) rfl rfl (Nat.le_of_ble_eq_true rfl) ?_
  intro p e s m below meth c C
  refine z_aload_n C dd_Q_firstOf_0 rfl ?_
  refine gf_Q_17 (v := .ref (q + 1 + 1)) C dd_Q_firstOf_1 (md_rf hP0).1.1 rfl ?_
  refine z_iload_n C dd_Q_firstOf_4 rfl ?_
  refine z_iald (t0 := 0) (N := 4) (f := (I 1)) C rfl dd_Q_firstOf_5 ((md_rf hP0).1.2 1 (by decide)) (vp_in_nI (by omega) (by decide)) ?_
  refine z_topi (y := nI ar) (by rw [nI_clamp (by omega)]; exact har.symm) ?_
  refine z_iconst (v := 1) C dd_Q_firstOf_6 (by decide) ?_
  refine z_icmp_ne (tgt := 14) C dd_Q_firstOf_7 (by decide) (fun q1 => ?_) (fun q1 => ?_)
  · replace q1 : ¬ ar = 1 := fun z => q1 ((@nI_eq ar 1 (by omega) (by omega)).mpr z)
    refine z_iload_n C dd_Q_firstOf_14 rfl ?_
    refine z_aload_n C dd_Q_firstOf_15 rfl ?_
    refine iv_Q_141 (sk := fun r => .int r :: [.int ((nI r0))]) (zz_f B) C dd_Q_firstOf_16 (cn_Q_values l D dA B _ _ q F I J hP0 nc h1 h8 hF1) hP0.1 rfl rfl ⟨by decide, by decide⟩ (Nat.le_of_ble_eq_true rfl) ⟨by decide, by decide⟩ (fun _ => rfl) (fun v1_ h1_ n1_ p1_ => ?_)
    obtain ⟨rfl, rfl, rfl⟩ := p1_
    refine z_idiv C dd_Q_firstOf_19 (nI_ne0 (by omega) (by omega)) ?_
    refine z_topi (y := nI (r0 / (8 * nc))) (pk_div (by omega) (by omega) (by omega)).symm ?_
    exact z_iret C dd_Q_firstOf_20 ⟨rfl, rfl, by unfold pu_r1; first | (simp [q1]; done) | (rw [if_pos q1]; rfl)⟩ (by decide) (by decide)
  · replace q1 : ar = 1 := (@nI_eq ar 1 (by omega) (by omega)).mp q1
    refine z_iload_n C dd_Q_firstOf_10 rfl ?_
    refine z_goto (tgt := 20) C dd_Q_firstOf_11 (by decide) ?_
    exact z_iret C dd_Q_firstOf_20 ⟨rfl, rfl, by unfold pu_r1; first | (simp [q1]; done) | (rw [if_pos q1]; rfl)⟩ (by decide) (by decide)
abbrev rn_Q_secondOf : Room := { frames := 3, cells := 0, slots := 0, locals := 60 }
set_option maxRecDepth 20000 in
/-- secondOf -/
theorem cn_Q_secondOf (l : Launch) (D : va_G) (dA : Nat → ClassId) (B : Nat) (h : zz_H) (n : Nat) (q : Nat) (F : Nat → Int32) (I : Nat → Nat → Int32) (J : Nat → Nat → Int64) (hP0 : md_P dA F I J q h) (nc : Nat) (h1 : 1 ≤ nc) (h8 : nc ≤ 8) (hF1 : F 1 = nI nc) (g0 ar : Nat) (hg : g0 < 4) (har : I 1 g0 = nI ar) (ha : ar = 1 ∨ ar = 2) (r0 : Nat) (hr : r0 < 4096) : zz_M l D zz_cl (zz_ty dA) B zz_tb (zz_x B) yy_Q_secondOf (Cond.code yy_Q_secondOf bb_Q_secondOf 3 (some FieldType.int)) rn_Q_secondOf [.ref q, .int ((nI g0)), .int ((nI r0))] h n zz_mi (fun r h' n' => h' = h ∧ n' = n ∧ r = nI (pu_r2 nc ar r0)) := by
  refine zz_ofW (zz_f B) [some (.ref q), some (.int ((nI g0))), some (.int ((nI r0)))] (by decide) rfl rfl (Nat.le_of_ble_eq_true rfl) ?_
  intro p e s m below meth c C
  refine z_aload_n C dd_Q_secondOf_0 rfl ?_
  refine gf_Q_17 (v := .ref (q + 1 + 1)) C dd_Q_secondOf_1 (md_rf hP0).1.1 rfl ?_
  refine z_iload_n C dd_Q_secondOf_4 rfl ?_
  refine z_iald (t0 := 0) (N := 4) (f := (I 1)) C rfl dd_Q_secondOf_5 ((md_rf hP0).1.2 1 (by decide)) (vp_in_nI (by omega) (by decide)) ?_
  refine z_topi (y := nI ar) (by rw [nI_clamp (by omega)]; exact har.symm) ?_
  refine z_iconst (v := 1) C dd_Q_secondOf_6 (by decide) ?_
  refine z_icmp_ne (tgt := 14) C dd_Q_secondOf_7 (by decide) (fun q1 => ?_) (fun q1 => ?_)
  · replace q1 : ¬ ar = 1 := fun z => q1 ((@nI_eq ar 1 (by omega) (by omega)).mpr z)
    refine z_iload_n C dd_Q_secondOf_14 rfl ?_
    refine z_aload_n C dd_Q_secondOf_15 rfl ?_
    refine iv_Q_141 (sk := fun r => .int r :: [.int ((nI r0))]) (zz_f B) C dd_Q_secondOf_16 (cn_Q_values l D dA B _ _ q F I J hP0 nc h1 h8 hF1) hP0.1 rfl rfl ⟨by decide, by decide⟩ (Nat.le_of_ble_eq_true rfl) ⟨by decide, by decide⟩ (fun _ => rfl) (fun v1_ h1_ n1_ p1_ => ?_)
    obtain ⟨rfl, rfl, rfl⟩ := p1_
    refine z_irem C dd_Q_secondOf_19 (nI_ne0 (by omega) (by omega)) ?_
    refine z_topi (y := nI (r0 % (8 * nc))) (pk_rem (by omega) (by omega) (by omega)).symm ?_
    exact z_iret C dd_Q_secondOf_20 ⟨rfl, rfl, by unfold pu_r2; first | (simp [q1]; done) | (rw [if_pos q1]; rfl)⟩ (by decide) (by decide)
  · replace q1 : ar = 1 := (@nI_eq ar 1 (by omega) (by omega)).mp q1
    refine z_iconst (v := 0) C dd_Q_secondOf_10 (by decide) ?_
    refine z_goto (tgt := 20) C dd_Q_secondOf_11 (by decide) ?_
    exact z_iret C dd_Q_secondOf_20 ⟨rfl, rfl, by unfold pu_r2; first | (simp [q1]; done) | (rw [if_pos q1]; rfl)⟩ (by decide) (by decide)
abbrev rm_Q_parts : Room := { frames := 5, cells := 0, slots := 0, locals := 120 }
set_option maxRecDepth 20000 in
theorem lp_Q_parts {D : va_G} {dA : Nat → ClassId} {B : Nat} {p : Program} {l : Launch} {e : Env} {s : State} {m : MethodId} {args : Array Value} {below : List Frame} {meth : Method} {c : Code} {Q : State → Prop} {n : Nat} {nm : String} {ret9 : Option FieldType} {h : zz_H} (C : zz_C D zz_cl (zz_ty dA) B zz_tb (zz_x B) p s m args meth c bb_Q_parts RR_Q ret9 nm) {q : Nat} {F : Nat → Int32} {I : Nat → Nat → Int32} {J : Nat → Nat → Int64} (hP0 : md_P dA F I J q h) {nc : Nat} (h1 : 1 ≤ nc) (h8 : nc ≤ 8) (hF1 : F 1 = nI nc) {g0 ar : Nat} (hg : g0 < 4) (har : I 1 g0 = nI ar) (ha : ar = 1 ∨ ar = 2) {m0 k0 : Nat} (hm : m0 < 12) (hk : k0 < 12) (kx0 : ∀ o9, pu_pt (fun r => I 12 (4096 * g0 + r)) m0 k0 (pu_R nc ar) = false → zz_W D zz_cl B p l e rm_Q_parts s m args below meth c Q h n 0 0 [some (.ref q), some (.int (nI g0)), some (.int (nI m0)), some (.int (nI k0)), some (.int (nI (pu_R nc ar))), o9] 55 []) (kx1 : ∀ r9 o9, pu_pt (fun r => I 12 (4096 * g0 + r)) m0 k0 (pu_R nc ar) = true → zz_W D zz_cl B p l e rm_Q_parts s m args below meth c Q h n 0 0 [some (.ref q), some (.int (nI g0)), some (.int (nI m0)), some (.int (nI k0)), some (.int (nI r9)), o9] 47 []) :
    ∀ f r9 o9, (∀ w, o9 = some w → w.category = 1) → r9 + f = pu_R nc ar → pu_pt (fun r => I 12 (4096 * g0 + r)) m0 k0 r9 = false → zz_W D zz_cl B p l e rm_Q_parts s m args below meth c Q h n 0 0 [some (.ref q), some (.int (nI g0)), some (.int (nI m0)), some (.int (nI k0)), some (.int (nI r9)), o9] 3 [] := by
  intro f
  have hR := pu_R_le (nc := nc) (ar := ar) h8
  induction f with
  | zero =>
    intro r9 o9 ho hf hv
    have hr9 : r9 = pu_R nc ar := by omega
    subst hr9
    refine z_iload C dd_Q_parts_3 rfl ?_
    refine z_aload_n C dd_Q_parts_5 rfl ?_
    refine z_iload_n C dd_Q_parts_6 rfl ?_
    refine iv_Q_153 (sk := fun r => .int r :: [.int (nI (pu_R nc ar))]) (zz_f B) C dd_Q_parts_7 (cn_Q_rows l D dA B _ _ q F I J hP0 nc h1 h8 hF1 g0 ar hg har ha) hP0.1 rfl rfl ⟨by decide, by decide⟩ (Nat.le_of_ble_eq_true rfl) ⟨by decide, by decide⟩ (fun _ => rfl) (fun v1 h1_ n1_ p1_ => ?_)
    obtain ⟨e1_, e2_, rfl⟩ := p1_
    have e1z := e1_.symm
    have e2z := e2_.symm
    subst e1z
    subst e2z
    exact z_icmp_ge (tgt := 55) C dd_Q_parts_10 (by decide) (fun _ => kx0 o9 hv) (fun q10 => absurd (nI_le (Nat.le_refl _) (by omega)) q10)
  | succ f ih =>
    intro r9 o9 ho hf hv
    refine z_iload C dd_Q_parts_3 rfl ?_
    refine z_aload_n C dd_Q_parts_5 rfl ?_
    refine z_iload_n C dd_Q_parts_6 rfl ?_
    refine iv_Q_153 (sk := fun r => .int r :: [.int (nI r9)]) (zz_f B) C dd_Q_parts_7 (cn_Q_rows l D dA B _ _ q F I J hP0 nc h1 h8 hF1 g0 ar hg har ha) hP0.1 rfl rfl ⟨by decide, by decide⟩ (Nat.le_of_ble_eq_true rfl) ⟨by decide, by decide⟩ (fun _ => rfl) (fun v1 h1_ n1_ p1_ => ?_)
    obtain ⟨e1_, e2_, rfl⟩ := p1_
    have e1z := e1_.symm
    have e2z := e2_.symm
    subst e1z
    subst e2z
    refine z_icmp_ge (tgt := 55) C dd_Q_parts_10 (by decide) (fun q10 => absurd q10 (nI_ge (by omega) (by omega))) (fun _ => ?_)
    refine z_aload_n C dd_Q_parts_13 rfl ?_
    refine gf_Q_51 (v := .ref (q + 1 + 12)) C dd_Q_parts_14 (md_rf hP0).1.1 rfl ?_
    refine z_sipush (v := 4096) C dd_Q_parts_17 (by decide) ?_
    refine z_iload_n C dd_Q_parts_20 rfl ?_
    refine z_imul C dd_Q_parts_21 ?_
    refine z_topi (y := nI (4096 * g0)) (by first | exact (pk_mul _ _).symm | (rw [← pk_mul]; rfl)) ?_
    refine z_iload C dd_Q_parts_22 rfl ?_
    refine z_iadd C dd_Q_parts_24 ?_
    refine z_topi (y := nI ((4096 * g0) + r9)) (by first | exact (nI_add _ _).symm | (rw [← nI_add]; rfl)) ?_
    refine z_iald (t0 := 0) (N := 16384) (f := (I 12)) C rfl dd_Q_parts_25 ((md_rf hP0).1.2 12 (by decide)) (vp_in_nI (by omega) (by decide)) ?_
    refine z_topi (y := ((I 12) ((4096 * g0) + r9))) (by rw [nI_clamp (by omega)]) ?_
    refine z_istore C dd_Q_parts_26 rfl ?_
    have next : ¬ (bt (I 12 (4096 * g0 + r9)) m0 = true ∧ bt (I 12 (4096 * g0 + r9)) k0 = false) → zz_W D zz_cl B p l e rm_Q_parts s m args below meth c Q h n 0 0 [some (.ref q), some (.int (nI g0)), some (.int (nI m0)), some (.int (nI k0)), some (.int (nI r9)), some (.int (I 12 ((4096 * g0) + r9)))] 49 [] := by
      intro hno
      refine z_iincN C dd_Q_parts_49 rfl rfl ?_
      refine z_goto (tgt := 3) C dd_Q_parts_52 (by decide) ?_
      refine ih (r9 + 1) _ (fun w hw => by cases hw; rfl) (by omega) ?_
      have hv9 : ((List.range r9).any fun r => bt (I 12 (4096 * g0 + r)) m0 && !bt (I 12 (4096 * g0 + r)) k0) = false := hv
      show ((List.range (r9 + 1)).any fun r => bt (I 12 (4096 * g0 + r)) m0 && !bt (I 12 (4096 * g0 + r)) k0) = false
      rw [List.range_succ, List.any_append, hv9]
      cases b1 : bt (I 12 (4096 * g0 + r9)) m0 <;> cases b2 : bt (I 12 (4096 * g0 + r9)) k0 <;> simp_all
    refine z_iload C dd_Q_parts_28 rfl ?_
    refine z_iload_n C dd_Q_parts_30 rfl ?_
    refine z_ishr C dd_Q_parts_31 ?_
    refine z_iconst (v := 1) C dd_Q_parts_32 (by decide) ?_
    refine z_iand C dd_Q_parts_33 ?_
    refine z_topi (y := pu_b (bt (I 12 (4096 * g0 + r9)) m0)) (bt_sh (by omega)).symm ?_
    refine z_iconst (v := 1) C dd_Q_parts_34 (by decide) ?_
    refine z_icmp_ne (tgt := 49) C dd_Q_parts_35 (by decide) (fun q35 => next (fun z => q35 ((pu_b1 _).mpr z.1))) (fun q35 => ?_)
    refine z_iload C dd_Q_parts_38 rfl ?_
    refine z_iload_n C dd_Q_parts_40 rfl ?_
    refine z_ishr C dd_Q_parts_41 ?_
    refine z_iconst (v := 1) C dd_Q_parts_42 (by decide) ?_
    refine z_iand C dd_Q_parts_43 ?_
    refine z_topi (y := pu_b (bt (I 12 (4096 * g0 + r9)) k0)) (bt_sh (by omega)).symm ?_
    refine z_if_ne (tgt := 49) C dd_Q_parts_44 (by decide) (fun q44 => next (fun z => q44 ((pu_b0 _).mpr z.2))) (fun q44 => ?_)
    refine kx1 r9 _ ?_
    unfold pu_pt
    rw [List.any_eq_true]
    exact ⟨r9, List.mem_range.mpr (by omega), by simp [(pu_b1 _).mp q35, (pu_b0 _).mp q44]⟩
set_option maxRecDepth 20000 in
/-- parts -/
theorem cc_Q_parts (l : Launch) (D : va_G) (dA : Nat → ClassId) (B : Nat) (h : zz_H) (n : Nat) (q : Nat) (F : Nat → Int32) (I : Nat → Nat → Int32) (J : Nat → Nat → Int64) (hP0 : md_P dA F I J q h) (nc : Nat) (h1 : 1 ≤ nc) (h8 : nc ≤ 8) (hF1 : F 1 = nI nc) (g0 ar : Nat) (hg : g0 < 4) (har : I 1 g0 = nI ar) (ha : ar = 1 ∨ ar = 2) (m0 k0 : Nat) (hm : m0 < 12) (hk : k0 < 12) : zz_M l D zz_cl (zz_ty dA) B zz_tb (zz_x B) yy_Q_parts (Cond.code yy_Q_parts bb_Q_parts 6 (some FieldType.boolean)) rm_Q_parts [.ref q, .int ((nI g0)), .int ((nI m0)), .int ((nI k0))] h n zz_mi (fun r h' n' => h' = h ∧ n' = n ∧ r = pu_b (pu_pt (fun r => I 12 (4096 * g0 + r)) m0 k0 (pu_R nc ar))) := by
  refine zz_ofW (zz_f B) [some (.ref q), some (.int ((nI g0))), some (.int ((nI m0))), some (.int ((nI k0))), none, none] (by decide) rfl rfl (Nat.le_of_ble_eq_true rfl) ?_
  intro p e s m below meth c C
  refine z_iconst (v := nI 0) C dd_Q_parts_0 (by decide) ?_
  refine z_istore C dd_Q_parts_1 rfl ?_
  refine lp_Q_parts C hP0 h1 h8 hF1 hg har ha hm hk (fun o9 hv => ?_) (fun r9 o9 hv => ?_) (pu_R nc ar) 0 none (fun w hw => by cases hw) (by omega) rfl
  · refine z_iconst (v := 0) C dd_Q_parts_55 (by decide) ?_
    exact z_zret C dd_Q_parts_56 rfl ⟨rfl, rfl, by rw [hv]; rfl⟩ (by decide) (by decide)
  · refine z_iconst (v := 1) C dd_Q_parts_47 (by decide) ?_
    exact z_zret C dd_Q_parts_48 rfl ⟨rfl, rfl, by rw [hv]; rfl⟩ (by decide) (by decide)
