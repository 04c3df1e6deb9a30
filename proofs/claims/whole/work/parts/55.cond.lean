abbrev rm_A_negated : Room := { frames := 1, cells := 0, slots := 0, locals := 0 }
set_option maxRecDepth 20000 in
/-- negated -/
theorem cd_A_negated (l : Launch) (D : va_G) (dA : Nat → ClassId) (B : Nat) (h : zz_H) (n : Nat) (ad : Nat → Nat → Nat) (ng nM : Nat) (na no : Nat → Nat) (X : dk_X) (Y : dk_Y) (Z : dk_Z) (hP0 : dk_P dA ad (dk_lv ng nM na no) X Y Z h) (a : Nat) (ha : dk_lv ng nM na no 33 a) (hb : X 33 a 3 = 0 ∨ X 33 a 3 = 1) : zz_M l D zz_cl (zz_ty dA) B zz_tb (zz_x B) yy_A_negated (Cond.code yy_A_negated bb_A_negated 1 (some FieldType.boolean)) rm_A_negated [.ref ((ad 33 a))] h n zz_mi (fun r h' n' => n' = n ∧ h' = h ∧ r = X 33 a 3) := by
  refine zz_ofW (zz_f B) [some (.ref ((ad 33 a)))] (by decide) rfl rfl (Nat.le_of_ble_eq_true rfl) ?_
  intro p e s m below meth c C
  have hP := dk_rf hP0
  refine z_aload_n C dd_A_negated_0 rfl ?_
  refine gf_A_19 (v := .int (X 33 a 3)) C dd_A_negated_1 (dk_rd (k := 33) (i := a) (x := (X 33 a)) (y := (Y 33 a)) (z := (Z 33 a)) hP ha rfl rfl rfl) rfl ?_
  exact z_zret C dd_A_negated_4 (by rcases hb with z | z <;> rw [z] <;> rfl) ⟨rfl, rfl, rfl⟩ (by decide) (by decide)
abbrev rm_M_learnCondition : Room := { frames := 10, cells := 0, slots := 0, locals := 300 }
/-- atom a of the desk is that of Xr, and in order -/
def dk_ao (X : dk_X) (Xr : mq_M) (nc a : Nat) : Prop := X 33 a 0 = Xr 4 a ∧ X 33 a 1 = Xr 5 a ∧ X 33 a 2 = Xr 6 a ∧ (X 33 a 3 = 0 ∨ X 33 a 3 = 1) ∧ pu_nz (Xr 4 a) (Xr 5 a) (Xr 6 a) ∧ ∃ kd wh, kd < 6 ∧ wh < 2 ∧ X 33 a 0 = nI kd ∧ X 33 a 1 = nI wh ∧ (kd = 0 → ∃ xd, xd < nc ∧ X 33 a 2 = nI xd)
theorem pu_g1_lo {X : mq_M} {g k : Nat} (j : Nat) (hj : j < 18) : pu_g1 X g k j = X j := by
  unfold pu_g1 pu_g0
  split
  · rfl
  · unfold md_is
    rw [if_neg (by omega), if_neg (by omega), if_neg (by omega), if_neg (by omega)]
theorem pu_g2_lo {X : mq_M} {g m : Nat} (j : Nat) (hj : j < 18) : ∀ k, pu_g2 X g m k j = X j
  | 0 => rfl
  | k + 1 => by rw [pu_g2, pu_g1_lo j hj, pu_g2_lo j hj k]
theorem dk_hi_cg {X X' : dk_X} {par : Nat → Int32} {nc : Nat} (H : dk_hi X par nc) (h1 : X' 1 0 = X 1 0) (h2 : X' 2 0 = X 2 0) : dk_hi X' par nc := by
  unfold dk_hi
  rw [h1, h2]
  exact H
theorem dk_lv33 {ng nM : Nat} {na no : Nat → Nat} {m k : Nat} (hm : m < nM) (h4 : na m ≤ 4) (hk : k < na m) : dk_lv ng nM na no 33 (4 * m + k) := by
  show (4 * m + k) / 4 < nM ∧ (4 * m + k) % 4 < na ((4 * m + k) / 4)
  rw [show (4 * m + k) / 4 = m by omega, show (4 * m + k) % 4 = k by omega]
  exact ⟨hm, hk⟩
set_option maxRecDepth 20000 in
theorem lp_M_learnCondition {D : va_G} {dA : Nat → ClassId} {B : Nat} {p : Program} {l : Launch} {e : Env} {s : State} {m : MethodId} {args : Array Value} {below : List Frame} {meth : Method} {c : Code} {Q : State → Prop} {n : Nat} {nm : String} {ret9 : Option FieldType} {h : zz_H} (C : zz_C D zz_cl (zz_ty dA) B zz_tb (zz_x B) p s m args meth c bb_M_learnCondition RR_M ret9 nm) {ad : Nat → Nat → Nat} {ng nM : Nat} {na no : Nat → Nat} {X0 : dk_X} {Y0 : dk_Y} {Z0 : dk_Z} {g m0 nc : Nat} {Xr : mq_M} {tf0 : Nat → Nat} (hg : g < ng) (hg4 : g < 4) (hm : m0 < nM) (h4 : na m0 ≤ 4) (h8 : nc ≤ 8) (hT : dk_T Xr g + na m0 ≤ 48) (HI : dk_hi X0 (Xr 0) nc) (e3 : X0 30 m0 3 = nI (na m0)) (e31 : ∀ k, k < na m0 → Z0 31 m0 k = some (ad 33 (4 * m0 + k))) (AO : ∀ k, k < na m0 → dk_ao X0 Xr nc (4 * m0 + k)) (kx : ∀ X Y Z tf h' a b, (dk_K dA ad (dk_lv ng nM na no) X Y Z h h' ∧ dk_f1 g m0 X0 X Y0 Y Z0 Z ∧ dk_FI ad ng nM na no X Y Z (pu_g2 Xr g m0 (na m0)) g nc tf ∧ dk_WM X Y (dk_T (pu_g2 Xr g m0 (na m0)) g) tf m0 (na m0) ∧ dk_T Xr g ≤ dk_T (pu_g2 Xr g m0 (na m0)) g ∧ dk_T (pu_g2 Xr g m0 (na m0)) g ≤ dk_T Xr g + (na m0) ∧ (∀ t9, t9 < dk_T Xr g → tf t9 = tf0 t9) ∧ dk_zt (pu_g2 Xr g m0 (na m0)) g) → zz_W D zz_cl B p l e rm_M_learnCondition s m args below meth c Q h' n 0 0 [some (.ref (ad 30 m0)), some (.ref (ad 26 g)), some (.int (nI (na m0))), a, b] 72 []) :
    ∀ f k X Y Z tf h9 a b, k + f = na m0 → (∀ w, a = some w → w.category = 2 ∧ b = none ∨ w.category = 1) → (∀ w, b = some w → w.category = 1) → (dk_K dA ad (dk_lv ng nM na no) X Y Z h h9 ∧ dk_f1 g m0 X0 X Y0 Y Z0 Z ∧ dk_FI ad ng nM na no X Y Z (pu_g2 Xr g m0 k) g nc tf ∧ dk_WM X Y (dk_T (pu_g2 Xr g m0 k) g) tf m0 k ∧ dk_T Xr g ≤ dk_T (pu_g2 Xr g m0 k) g ∧ dk_T (pu_g2 Xr g m0 k) g ≤ dk_T Xr g + k ∧ (∀ t9, t9 < dk_T Xr g → tf t9 = tf0 t9) ∧ dk_zt (pu_g2 Xr g m0 k) g) → zz_W D zz_cl B p l e rm_M_learnCondition s m args below meth c Q h9 n 0 0 [some (.ref (ad 30 m0)), some (.ref (ad 26 g)), some (.int (nI k)), a, b] 12 [] := by
  intro f
  induction f with
  | zero =>
    intro k X Y Z tf h9 a b hk ca cb J
    have hk9 : k = na m0 := by omega
    subst hk9
    have J9 := J
    obtain ⟨hP, fr, FI, WM, t1, t2, t3, zt⟩ := J9
    have e30 : X 30 m0 = X0 30 m0 := fr.1 30 m0 (by omega)
    refine z_iload_n C dd_M_learnCondition_12 rfl ?_
    refine z_aload_n C dd_M_learnCondition_13 rfl ?_
    refine gf_M_15 (v := .int (X 30 m0 3)) C dd_M_learnCondition_14 (dk_rd (k := 30) (i := m0) hP hm rfl rfl rfl) rfl ?_
    refine z_topi (y := nI (na m0)) (by rw [e30, e3]) ?_
    exact z_icmp_ge (tgt := 72) C dd_M_learnCondition_17 (by decide) (fun _ => kx X Y Z tf h9 a b J) (fun z => absurd (Int32.le_refl _) z)
  | succ f ih =>
    intro k X Y Z tf h9 a b hk ca cb J
    obtain ⟨hP, fr, FI, WM, t1, t2, t3, zt⟩ := J
    have e30 : X 30 m0 = X0 30 m0 := fr.1 30 m0 (by omega)
    have e33 : ∀ i, X 33 i = X0 33 i := fun i => fr.1 33 i (by omega)
    have ez31 : Z 31 m0 k = some (ad 33 (4 * m0 + k)) := by rw [fr.2.2 31 m0 (by omega)]; exact e31 k (by omega)
    have e303 : X 30 m0 3 = nI (na m0) := by rw [e30, e3]
    have hla := dk_lv33 (ng := ng) (no := no) hm h4 (show k < na m0 by omega)
    obtain ⟨o0, o1, o2, ob, oz, kd, wh, hkd, hwh, ek, ew, hx0⟩ := AO k (by omega)
    have HIk : dk_hi X (pu_g2 Xr g m0 k 0) nc := by rw [pu_g2_lo 0 (by omega)]; exact dk_hi_cg HI (fr.1 1 0 (by omega)) (fr.1 2 0 (by omega))
    rw [← e33] at o0 o1 o2 ob ek ew hx0
    rw [← pu_g2_lo (X := Xr) (g := g) (m := m0) 4 (by omega) k] at o0 oz
    rw [← pu_g2_lo (X := Xr) (g := g) (m := m0) 5 (by omega) k] at o1 oz
    rw [← pu_g2_lo (X := Xr) (g := g) (m := m0) 6 (by omega) k] at o2 oz
    refine z_iload_n C dd_M_learnCondition_12 rfl ?_
    refine z_aload_n C dd_M_learnCondition_13 rfl ?_
    refine gf_M_15 (v := .int (X 30 m0 3)) C dd_M_learnCondition_14 (dk_rd (k := 30) (i := m0) (x := (X 30 m0)) (y := (Y 30 m0)) (z := (Z 30 m0)) hP hm rfl rfl rfl) rfl ?_
    refine z_topi (y := nI (na m0)) e303.symm ?_
    refine z_icmp_ge (tgt := 72) C dd_M_learnCondition_17 (by decide) (fun q1 => ?_) (fun q1 => ?_)
    · replace q1 : (na m0) ≤ k := (@nI_leI (na m0) k (by omega) (by omega)).mp q1
      omega
    · replace q1 : ¬ (na m0) ≤ k := fun z => q1 ((@nI_leI (na m0) k (by omega) (by omega)).mpr z)
      refine z_aload_n C dd_M_learnCondition_20 rfl ?_
      refine z_aload_n C dd_M_learnCondition_21 rfl ?_
      refine gf_M_11 (v := .ref ((ad 31 m0))) C dd_M_learnCondition_22 (dk_rd (k := 30) (i := m0) (x := (X 30 m0)) (y := (Y 30 m0)) (z := (Z 30 m0)) hP hm rfl rfl rfl) rfl ?_
      refine z_iload_n C dd_M_learnCondition_25 rfl ?_
      refine z_aald (t0 := 5) (N := 4) (f := (Z 31 m0)) C rfl dd_M_learnCondition_26 (dk_rd (k := 31) (i := m0) (x := (X 31 m0)) (y := (Y 31 m0)) (z := (Z 31 m0)) hP hm rfl rfl rfl) (vp_in_nI (by omega) (by decide)) ?_
      refine z_topr (y := ad 33 (4 * m0 + k)) (by rw [nI_clamp (by omega), ez31]; rfl) ?_
      refine iv_M_48 (sk := fun r => .long r :: []) (zz_f B) C dd_M_learnCondition_27 (cd_F_learn l D dA B _ _ ad ng nM na no X Y Z hP.1 g (4 * m0 + k) (dk_T (pu_g2 Xr g m0 k) g) kd wh nc tf (pu_g2 Xr g m0 k 0) hg hla FI.1 (by omega) hkd hwh ek ew h8 HIk hx0) (dk_rd (k := 26) (i := g) (x := (X 26 g)) (y := (Y 26 g)) (z := (Z 26 g)) hP hg rfl rfl rfl) rfl rfl ⟨by decide, by decide⟩ (Nat.le_of_ble_eq_true rfl) ⟨by decide, by decide⟩ (fun _ => rfl) (fun v1_ h1_ n1_ p1_ => ?_)
      obtain ⟨rfl, p1_⟩ := p1_
      obtain ⟨t, tf1, X1, Y1, Z1, rfl, u2, u3, u4, u5, u6, u7, u8, u9, u10, u11⟩ := dk_learn_ok (mm := m0) hP.1 FI (by omega) hg4 o0 o1 o2 hkd hwh ek ew hla oz zt p1_
      have hP1_ := dk_tr hP u5
      change _ < dk_T (pu_g2 Xr g m0 (k + 1)) g at u2
      change dk_FI _ _ _ _ _ _ _ _ (pu_g2 Xr g m0 (k + 1)) _ _ _ at u4
      change _ ≤ dk_T (pu_g2 Xr g m0 (k + 1)) g at u6
      change dk_T (pu_g2 Xr g m0 (k + 1)) g ≤ _ at u7
      change dk_zt (pu_g2 Xr g m0 (k + 1)) g at u11
      have e331 : ∀ i, X1 33 i = X 33 i := fun i => u9.1 33 i (by omega)
      have ez311 : Z1 31 m0 k = some (ad 33 (4 * m0 + k)) := by rw [u9.2.2 31 m0 (by omega)]; exact ez31
      have WM1 := dk_WM_mono WM e331 u6 u8 (congrFun u10 m0)
      refine z_lstore_n C dd_M_learnCondition_30 rfl ?_
      refine z_aload_n C dd_M_learnCondition_31 rfl ?_
      refine gf_M_11 (v := .ref ((ad 31 m0))) C dd_M_learnCondition_32 (dk_rd (k := 30) (i := m0) (x := (X1 30 m0)) (y := (Y1 30 m0)) (z := (Z1 30 m0)) hP1_ hm rfl rfl rfl) rfl ?_
      refine z_iload_n C dd_M_learnCondition_35 rfl ?_
      refine z_aald (t0 := 5) (N := 4) (f := (Z1 31 m0)) C rfl dd_M_learnCondition_36 (dk_rd (k := 31) (i := m0) (x := (X1 31 m0)) (y := (Y1 31 m0)) (z := (Z1 31 m0)) hP1_ hm rfl rfl rfl) (vp_in_nI (by omega) (by decide)) ?_
      refine z_topr (y := ad 33 (4 * m0 + k)) (by rw [nI_clamp (by omega), ez311]; rfl) ?_
      refine iv_M_54 (sk := fun r => .int r :: []) (zz_f B) C dd_M_learnCondition_37 (cd_A_negated l D dA B _ _ ad ng nM na no X1 Y1 Z1 hP1_.1 (4 * m0 + k) hla (by rw [e331]; exact ob)) (dk_rd (k := 33) (i := (4 * m0 + k)) (x := (X1 33 (4 * m0 + k))) (y := (Y1 33 (4 * m0 + k))) (z := (Z1 33 (4 * m0 + k))) hP1_ hla rfl rfl rfl) rfl rfl ⟨by decide, by decide⟩ (Nat.le_of_ble_eq_true rfl) ⟨by decide, by decide⟩ (fun _ => rfl) (fun v2_ h2_ n2_ p2_ => ?_)
      obtain ⟨f2_, e2_, p2_⟩ := p2_
      have e2z := e2_.symm
      have f2z := f2_.symm
      have p2z := p2_.symm
      subst e2z
      subst f2z
      subst p2z
      refine z_topi (y := X 33 (4 * m0 + k) 3) (by rw [e331]) ?_
      refine z_if_eq (tgt := 56) C dd_M_learnCondition_40 (by decide) (fun q2 => ?_) (fun q2 => ?_)
      · skip
        refine z_aload_n C dd_M_learnCondition_56 rfl ?_
        refine z_dup C dd_M_learnCondition_57 rfl ?_
        refine gf_M_28 (v := .long (Y1 30 m0 6)) C dd_M_learnCondition_58 (dk_rd (k := 30) (i := m0) (x := (X1 30 m0)) (y := (Y1 30 m0)) (z := (Z1 30 m0)) hP1_ hm rfl rfl rfl) rfl ?_
        refine z_lload_n C dd_M_learnCondition_61 rfl ?_
        refine z_lor C dd_M_learnCondition_62 ?_
        refine pf_M_28 C dd_M_learnCondition_63 (dk_rd (k := 30) (i := m0) (x := (X1 30 m0)) (y := (Y1 30 m0)) (z := (Z1 30 m0)) hP1_ hm rfl rfl rfl) (Nat.le_of_ble_eq_true rfl) rfl rfl ?_
        refine z_cut (dk_K dA ad (dk_lv ng nM na no) X1 (dk_is Y1 30 m0 (vp_updL (Y1 30 m0) 6 ((Y1 30 m0 6) ||| (lg1 t)))) Z1 h) (dk_wY hP1_ hm rfl rfl rfl) rfl rfl rfl (fun h3_ hP3_ => ?_)
        refine z_iincN C dd_M_learnCondition_66 rfl rfl ?_
        refine z_goto (tgt := 12) C dd_M_learnCondition_69 (by decide) ?_
        refine ih (k + 1) X1 _ Z1 tf1 _ _ _ (by omega) (fun w hw => Or.inl (by cases hw; exact ⟨rfl, rfl⟩)) (fun w hw => by cases hw) ⟨hP3_, dk_f1_tr fr (dk_f1_tr u9 ⟨fun _ _ _ => rfl, fun k9 i9 _ c2 => dk_n c2, fun _ _ _ => rfl⟩), dk_FI_Y u4 rfl rfl rfl, dk_WM_w WM1 (by omega) u2 (by rw [dk_sm_cg e331]; exact u3) (by rw [e331]; exact q2), by omega, by omega, fun t9 h9 => (u8 t9 (by omega)).trans (t3 t9 h9), u11⟩
      · skip
        refine z_aload_n C dd_M_learnCondition_43 rfl ?_
        refine z_dup C dd_M_learnCondition_44 rfl ?_
        refine gf_M_32 (v := .long (Y1 30 m0 7)) C dd_M_learnCondition_45 (dk_rd (k := 30) (i := m0) (x := (X1 30 m0)) (y := (Y1 30 m0)) (z := (Z1 30 m0)) hP1_ hm rfl rfl rfl) rfl ?_
        refine z_lload_n C dd_M_learnCondition_48 rfl ?_
        refine z_lor C dd_M_learnCondition_49 ?_
        refine pf_M_32 C dd_M_learnCondition_50 (dk_rd (k := 30) (i := m0) (x := (X1 30 m0)) (y := (Y1 30 m0)) (z := (Z1 30 m0)) hP1_ hm rfl rfl rfl) (Nat.le_of_ble_eq_true rfl) rfl rfl ?_
        refine z_cut (dk_K dA ad (dk_lv ng nM na no) X1 (dk_is Y1 30 m0 (vp_updL (Y1 30 m0) 7 ((Y1 30 m0 7) ||| (lg1 t)))) Z1 h) (dk_wY hP1_ hm rfl rfl rfl) rfl rfl rfl (fun h4_ hP4_ => ?_)
        refine z_goto (tgt := 66) C dd_M_learnCondition_53 (by decide) ?_
        refine z_iincN C dd_M_learnCondition_66 rfl rfl ?_
        refine z_goto (tgt := 12) C dd_M_learnCondition_69 (by decide) ?_
        refine ih (k + 1) X1 _ Z1 tf1 _ _ _ (by omega) (fun w hw => Or.inl (by cases hw; exact ⟨rfl, rfl⟩)) (fun w hw => by cases hw) ⟨hP4_, dk_f1_tr fr (dk_f1_tr u9 ⟨fun _ _ _ => rfl, fun k9 i9 _ c2 => dk_n c2, fun _ _ _ => rfl⟩), dk_FI_Y u4 rfl rfl rfl, dk_WM_u WM1 (by omega) u2 (by rw [dk_sm_cg e331]; exact u3) (by rw [e331]; exact q2), by omega, by omega, fun t9 h9 => (u8 t9 (by omega)).trans (t3 t9 h9), u11⟩
set_option maxRecDepth 20000 in
/-- learnCondition -/
theorem cd_M_learnCondition (l : Launch) (D : va_G) (dA : Nat → ClassId) (B : Nat) (h : zz_H) (n : Nat) (ad : Nat → Nat → Nat) (ng nM : Nat) (na no : Nat → Nat) (X0 : dk_X) (Y0 : dk_Y) (Z0 : dk_Z) (hP0 : dk_P dA ad (dk_lv ng nM na no) X0 Y0 Z0 h) (g m0 nc : Nat) (Xr : mq_M) (tf0 : Nat → Nat) (hg : g < ng) (hg4 : g < 4) (hm : m0 < nM) (h4 : na m0 ≤ 4) (h8 : nc ≤ 8) (hT : dk_T Xr g + na m0 ≤ 48) (HI : dk_hi X0 (Xr 0) nc) (e3 : X0 30 m0 3 = nI (na m0)) (e31 : ∀ k, k < na m0 → Z0 31 m0 k = some (ad 33 (4 * m0 + k))) (AO : ∀ k, k < na m0 → dk_ao X0 Xr nc (4 * m0 + k)) (FI : dk_FI ad ng nM na no X0 Y0 Z0 Xr g nc tf0) (zt : dk_zt Xr g) : zz_M l D zz_cl (zz_ty dA) B zz_tb (zz_x B) yy_M_learnCondition (Cond.code yy_M_learnCondition bb_M_learnCondition 5 none) rm_M_learnCondition [.ref ((ad 30 m0)), .ref ((ad 26 g))] h n zz_mv (fun _ h' n' => n' = n ∧ ∃ X Y Z tf, dk_K dA ad (dk_lv ng nM na no) X Y Z h h' ∧ dk_f1 g m0 X0 X Y0 Y Z0 Z ∧ dk_FI ad ng nM na no X Y Z (pu_g2 Xr g m0 (na m0)) g nc tf ∧ dk_WM X Y (dk_T (pu_g2 Xr g m0 (na m0)) g) tf m0 (na m0) ∧ dk_T Xr g ≤ dk_T (pu_g2 Xr g m0 (na m0)) g ∧ dk_T (pu_g2 Xr g m0 (na m0)) g ≤ dk_T Xr g + (na m0) ∧ (∀ t9, t9 < dk_T Xr g → tf t9 = tf0 t9) ∧ dk_zt (pu_g2 Xr g m0 (na m0)) g) := by
  refine zz_ofW (zz_f B) [some (.ref ((ad 30 m0))), some (.ref ((ad 26 g))), none, none, none] (by decide) rfl rfl (Nat.le_of_ble_eq_true rfl) ?_
  intro p e s m below meth c C
  have hP := dk_rf hP0
  refine z_aload_n C dd_M_learnCondition_0 rfl ?_
  refine z_lconst (v := 0) C dd_M_learnCondition_1 (by decide) ?_
  refine pf_M_28 C dd_M_learnCondition_2 (dk_rd (k := 30) (i := m0) (x := (X0 30 m0)) (y := (Y0 30 m0)) (z := (Z0 30 m0)) hP hm rfl rfl rfl) (Nat.le_of_ble_eq_true rfl) rfl rfl ?_
  refine z_cut (dk_K dA ad (dk_lv ng nM na no) X0 (dk_is Y0 30 m0 (vp_updL (Y0 30 m0) 6 0)) Z0 h) (dk_wY hP hm rfl rfl rfl) rfl rfl rfl (fun h1_ hP1_ => ?_)
  refine z_aload_n C dd_M_learnCondition_5 rfl ?_
  refine z_lconst (v := 0) C dd_M_learnCondition_6 (by decide) ?_
  refine pf_M_32 C dd_M_learnCondition_7 (dk_rd (k := 30) (i := m0) (x := (X0 30 m0)) (y := (vp_updL (Y0 30 m0) 6 0)) (z := (Z0 30 m0)) hP1_ hm rfl dk_s rfl) (Nat.le_of_ble_eq_true rfl) rfl rfl ?_
  refine z_cut (dk_K dA ad (dk_lv ng nM na no) X0 (dk_is (dk_is Y0 30 m0 (vp_updL (Y0 30 m0) 6 0)) 30 m0 (vp_updL (vp_updL (Y0 30 m0) 6 0) 7 0)) Z0 h) (dk_wY hP1_ hm rfl rfl rfl) rfl rfl rfl (fun h2_ hP2_ => ?_)
  refine z_iconst (v := 0) C dd_M_learnCondition_10 (by decide) ?_
  refine z_istore_n C dd_M_learnCondition_11 rfl ?_
  refine lp_M_learnCondition C hg hg4 hm h4 h8 hT HI e3 e31 AO (fun X Y Z tf h' a b J => z_vret C dd_M_learnCondition_72 ⟨rfl, X, Y, Z, tf, J⟩ (by decide) (by decide)) (na m0) 0 X0 _ Z0 tf0 _ none none (by omega) (fun w hw => by cases hw) (fun w hw => by cases hw) ⟨hP2_, ⟨fun _ _ _ => rfl, fun k9 i9 _ c2 => by rw [dk_ii]; exact dk_n c2, fun _ _ _ => rfl⟩, dk_FI_Y FI rfl rfl rfl, dk_WM_0 (by rw [dk_s]; rfl) (by rw [dk_s]; rfl), Nat.le_refl _, Nat.le_refl _, fun _ _ => rfl, zt⟩
