/-! the desk: klass -/
def dk_odn (X : dk_X) : Nat → dk_X
  | 0 => X
  | k + 1 => dk_od (dk_odn X k) k
theorem dk_od_n {X : dk_X} {g k i : Nat} (h : ¬ (k = 20 ∨ k = 21)) : dk_od X g k i = X k i := by
  unfold dk_od
  rw [dk_n (fun z => h (Or.inr z.1)), dk_n (fun z => h (Or.inl z.1))]
theorem dk_odn_n {X : dk_X} {k i : Nat} (h : ¬ (k = 20 ∨ k = 21)) : ∀ j, dk_odn X j k i = X k i
  | 0 => rfl
  | j + 1 => by rw [dk_odn, dk_od_n h, dk_odn_n h j]
abbrev rd_H_add : Room := rm_H_add
set_option maxRecDepth 20000 in
/-- add -/
theorem cd_H_add (l : Launch) (D : va_G) (dA : Nat → ClassId) (B : Nat) (h : zz_H) (n : Nat) (ad : Nat → Nat → Nat) (ng nM : Nat) (na no : Nat → Nat) (X : dk_X) (Y : dk_Y) (Z : dk_Z) (hP0 : dk_P dA ad (dk_lv ng nM na no) X Y Z h) (nc k : Nat) (h8 : nc < 8) (hk : k < nc) (e1 : X 1 0 1 = nI nc) : zz_M l D zz_cl (zz_ty dA) B zz_tb (zz_x B) yy_H_add (Cond.code yy_H_add bb_H_add 2 (some FieldType.int)) rm_H_add [.ref ((ad 1 0)), .int ((nI k))] h n zz_mi (fun r h' n' => n' = n ∧ r = nI nc ∧ dk_K dA ad (dk_lv ng nM na no) (dk_is (dk_is X 2 0 (upd (X 2 0) nc (X 2 0 k ||| i1 nc))) 1 0 (upd (X 1 0) 1 (nI (nc + 1)))) Y Z h h') := by
  refine zz_ofW (zz_f B) [some (.ref ((ad 1 0))), some (.int ((nI k)))] (by decide) rfl rfl (Nat.le_of_ble_eq_true rfl) ?_
  intro p e s m below meth c C
  have hP := dk_rf hP0
  have e9 : (nI nc).toNatClampNeg = nc := nI_clamp (by omega)
  refine z_aload_n C dd_H_add_0 rfl ?_
  refine gf_H_9 (v := .ref ((ad 2 0))) C dd_H_add_1 (dk_rd (k := 1) (i := 0) (x := (X 1 0)) (y := (Y 1 0)) (z := (Z 1 0)) hP rfl rfl rfl rfl) rfl ?_
  refine z_aload_n C dd_H_add_4 rfl ?_
  refine gf_H_13 (v := .int (X 1 0 1)) C dd_H_add_5 (dk_rd (k := 1) (i := 0) (x := (X 1 0)) (y := (Y 1 0)) (z := (Z 1 0)) hP rfl rfl rfl rfl) rfl ?_
  refine z_topi (y := nI nc) e1.symm ?_
  refine z_aload_n C dd_H_add_8 rfl ?_
  refine gf_H_9 (v := .ref ((ad 2 0))) C dd_H_add_9 (dk_rd (k := 1) (i := 0) (x := (X 1 0)) (y := (Y 1 0)) (z := (Z 1 0)) hP rfl rfl rfl rfl) rfl ?_
  refine z_iload_n C dd_H_add_12 rfl ?_
  refine z_iald (t0 := 0) (N := 8) (f := (X 2 0)) C rfl dd_H_add_13 (dk_rd (k := 2) (i := 0) (x := (X 2 0)) (y := (Y 2 0)) (z := (Z 2 0)) hP rfl rfl rfl rfl) (vp_in_nI (by omega) (by decide)) ?_
  refine z_topi (y := ((X 2 0) k)) (by rw [nI_clamp (by omega)]) ?_
  refine z_iconst (v := 1) C dd_H_add_14 (by decide) ?_
  refine z_aload_n C dd_H_add_15 rfl ?_
  refine gf_H_13 (v := .int (X 1 0 1)) C dd_H_add_16 (dk_rd (k := 1) (i := 0) (x := (X 1 0)) (y := (Y 1 0)) (z := (Z 1 0)) hP rfl rfl rfl rfl) rfl ?_
  refine z_topi (y := nI nc) e1.symm ?_
  refine z_ishl C dd_H_add_19 ?_
  refine z_ior C dd_H_add_20 ?_
  refine z_iast (t0 := 0) (N := 8) (f := (X 2 0)) C rfl dd_H_add_21 (dk_rd (k := 2) (i := 0) (x := (X 2 0)) (y := (Y 2 0)) (z := (Z 2 0)) hP rfl rfl rfl rfl) (vp_in_nI (by omega) (by decide)) ?_
  refine z_cut (dk_K dA ad (dk_lv ng nM na no) (dk_is X 2 0 (upd (X 2 0) (Int32.toNatClampNeg (nI nc)) (((X 2 0) k) ||| (1 <<< ((nI nc) &&& 31))))) Y Z h) (dk_wX hP rfl rfl rfl rfl) rfl rfl rfl (fun h1_ hP1_ => ?_)
  refine z_aload_n C dd_H_add_22 rfl ?_
  refine z_dup C dd_H_add_23 rfl ?_
  refine gf_H_13 (v := .int (X 1 0 1)) C dd_H_add_24 (dk_rd (k := 1) (i := 0) (x := (X 1 0)) (y := (Y 1 0)) (z := (Z 1 0)) hP1_ rfl rfl rfl rfl) rfl ?_
  refine z_topi (y := nI nc) e1.symm ?_
  refine z_dup_x1 C dd_H_add_27 rfl rfl ?_
  refine z_iconst (v := 1) C dd_H_add_28 (by decide) ?_
  refine z_iadd C dd_H_add_29 ?_
  refine z_topi (y := nI (nc + 1)) (by first | exact (nI_add _ _).symm | (rw [← nI_add]; rfl)) ?_
  refine pf_H_13 C dd_H_add_30 (dk_rd (k := 1) (i := 0) (x := (X 1 0)) (y := (Y 1 0)) (z := (Z 1 0)) hP1_ rfl rfl rfl rfl) (Nat.le_of_ble_eq_true rfl) rfl rfl ?_
  refine z_cut (dk_K dA ad (dk_lv ng nM na no) (dk_is (dk_is X 2 0 (upd (X 2 0) (Int32.toNatClampNeg (nI nc)) (((X 2 0) k) ||| (1 <<< ((nI nc) &&& 31))))) 1 0 (upd (X 1 0) 1 (nI (nc + 1)))) Y Z h) (dk_wX hP1_ rfl rfl rfl rfl) rfl rfl rfl (fun h2_ hP2_ => ?_)
  rw [e9] at hP2_
  exact z_iret C dd_H_add_33 ⟨rfl, rfl, hP2_⟩ (by decide) (by decide)
abbrev rm_D_klass : Room := { frames := 20, cells := 2, slots := 12, locals := 300 }
set_option maxRecDepth 20000 in
theorem lp_D_klass {D : va_G} {dA : Nat → ClassId} {B : Nat} {p : Program} {l : Launch} {e : Env} {s : State} {m : MethodId} {args : Array Value} {below : List Frame} {meth : Method} {c : Code} {Q : State → Prop} {n : Nat} {nm : String} {ret9 : Option FieldType} {h : zz_H} (C : zz_C D zz_cl (zz_ty dA) B zz_tb (zz_x B) p s m args meth c bb_D_klass RR_D ret9 nm) {ad : Nat → Nat → Nat} {ng nM : Nat} {na no : Nat → Nat} {X : dk_X} {Y : dk_Y} {Z : dk_Z} {F : Nat → Int32} {I : mq_M} {nc : Nat} {oc : Nat → Nat} {ow : Nat → Nat → Nat} {x : Int32} (IV : dk_IV F ad ng nM na no X Y Z I nc oc ow) (g4 : ng ≤ 4) (kx : ∀ h', (dk_K dA ad (dk_lv ng nM na no) (dk_odn X ng) Y Z h h') → zz_W D zz_cl B p l e rm_D_klass s m args below meth c Q h' n 0 0 [some (.ref (ad 0 0)), some (.int x), some (.int (nI ng))] 66 []) :
    ∀ f k h9, k + f = ng → (dk_K dA ad (dk_lv ng nM na no) (dk_odn X k) Y Z h h9) → zz_W D zz_cl B p l e rm_D_klass s m args below meth c Q h9 n 0 0 [some (.ref (ad 0 0)), some (.int x), some (.int (nI k))] 43 [] := by
  intro f
  induction f with
  | zero =>
    intro k h9 hkf hP
    have hk9 : k = ng := by omega
    subst hk9
    have e2 : dk_odn X k 0 0 2 = nI k := by rw [dk_odn_n (by omega)]; exact IV.2.2.1.1
    refine z_iload_n C dd_D_klass_43 rfl ?_
    refine z_aload_n C dd_D_klass_44 rfl ?_
    refine gf_D_22 (v := .int ((dk_odn X k) 0 0 2)) C dd_D_klass_45 (dk_rd (k := 0) (i := 0) (x := ((dk_odn X k) 0 0)) (y := (Y 0 0)) (z := (Z 0 0)) hP rfl rfl rfl rfl) rfl ?_
    refine z_topi (y := nI k) e2.symm ?_
    refine z_icmp_ge (tgt := 66) C dd_D_klass_48 (by decide) (fun q1 => ?_) (fun q1 => absurd (Int32.le_refl _) q1)
    exact kx h9 hP
  | succ f ih =>
    intro k h9 hkf hP
    have hk : k < ng := by omega
    have e2 : dk_odn X k 0 0 2 = nI ng := by rw [dk_odn_n (by omega)]; exact IV.2.2.1.1
    refine z_iload_n C dd_D_klass_43 rfl ?_
    refine z_aload_n C dd_D_klass_44 rfl ?_
    refine gf_D_22 (v := .int ((dk_odn X k) 0 0 2)) C dd_D_klass_45 (dk_rd (k := 0) (i := 0) (x := ((dk_odn X k) 0 0)) (y := (Y 0 0)) (z := (Z 0 0)) hP rfl rfl rfl rfl) rfl ?_
    refine z_topi (y := nI ng) e2.symm ?_
    refine z_icmp_ge (tgt := 66) C dd_D_klass_48 (by decide) (fun q1 => ?_) (fun q1 => ?_)
    · replace q1 : ng ≤ k := (@nI_leI ng k (by omega) (by omega)).mp q1
      omega
    · replace q1 : ¬ ng ≤ k := fun z => q1 ((@nI_leI ng k (by omega) (by omega)).mpr z)
      refine z_aload_n C dd_D_klass_51 rfl ?_
      refine gf_D_18 (v := .ref ((ad 3 0))) C dd_D_klass_52 (dk_rd (k := 0) (i := 0) (x := ((dk_odn X k) 0 0)) (y := (Y 0 0)) (z := (Z 0 0)) hP rfl rfl rfl rfl) rfl ?_
      refine z_iload_n C dd_D_klass_55 rfl ?_
      refine z_aald (t0 := 3) (N := 4) (f := (Z 3 0)) C rfl dd_D_klass_56 (dk_rd (k := 3) (i := 0) (x := ((dk_odn X k) 3 0)) (y := (Y 3 0)) (z := (Z 3 0)) hP rfl rfl rfl rfl) (vp_in_nI (by omega) (by decide)) ?_
      refine z_topr (y := ad 20 k) (by rw [nI_clamp (by omega), IV.2.2.1.2.2.1 k hk]; rfl) ?_
      refine iv_D_78 (sk := fun _ => []) (zz_f B) C dd_D_klass_57 (cd_G_outdate l D dA B _ _ ad ng nM na no (dk_odn X k) Y Z hP.1 k hk) (dk_rd (k := 20) (i := k) (x := ((dk_odn X k) 20 k)) (y := (Y 20 k)) (z := (Z 20 k)) hP hk rfl rfl rfl) rfl rfl ⟨by decide, by decide⟩ (Nat.le_of_ble_eq_true rfl) ⟨by decide, by decide⟩ (fun _ => rfl) (fun _ h1_ n1_ p1_ => ?_)
      obtain ⟨rfl, p1_⟩ := p1_
      have hP1_ : dk_K dA ad (dk_lv ng nM na no) (dk_odn X (k + 1)) Y Z h h1_ := dk_tr hP p1_
      refine z_iincN C dd_D_klass_60 rfl rfl ?_
      refine z_goto (tgt := 43) C dd_D_klass_63 (by decide) ?_
      exact ih (k + 1) _ (by omega) hP1_
def dk_xk (X : dk_X) (ng nc k : Nat) : dk_X := (dk_is (dk_is (dk_is (dk_odn X ng) 0 0 (upd (dk_odn X ng 0 0) 7 0)) 2 0 (upd (X 2 0) nc (X 2 0 k ||| i1 nc))) 1 0 (upd (X 1 0) 1 (nI (nc + 1))))
set_option maxRecDepth 20000 in
/-- klass -/
theorem cd_D_klass (l : Launch) (D : va_G) (dA : Nat → ClassId) (B : Nat) (h : zz_H) (n : Nat) (ad : Nat → Nat → Nat) (ng nM : Nat) (na no : Nat → Nat) (X : dk_X) (Y : dk_Y) (Z : dk_Z) (hP0 : dk_P dA ad (dk_lv ng nM na no) X Y Z h) (F : Nat → Int32) (I : mq_M) (nc : Nat) (oc : Nat → Nat) (ow : Nat → Nat → Nat) (IV : dk_IV F ad ng nM na no X Y Z I nc oc ow) (x : Int32) (hl : l.stackTraces = false) : zz_MX l D zz_cl (zz_ty dA) B zz_tb (zz_x B) yy_D_klass (Cond.code yy_D_klass bb_D_klass 3 (some FieldType.int)) rm_D_klass [.ref ((ad 0 0)), .int x] h n zz_mi (fun r h' n' => n ≤ n' ∧ ∃ k, k < nc ∧ x = nI k ∧ nc < 8 ∧ r = nI nc ∧ dk_K dA ad (dk_lv ng nM na no) (dk_xk X ng nc k) Y Z h h') (fun E h' n' => h' = h ∧ n ≤ n' ∧ ((E = "java/lang/IllegalArgumentException" ∧ ∀ k, k < nc → ¬ x = nI k) ∨ (E = "java/lang/IllegalStateException" ∧ nc = 8 ∧ ∃ k, k < nc ∧ x = nI k))) := by
  refine zz_ofX (zz_f B) [some (.ref ((ad 0 0))), some (.int x), none] (by decide) rfl rfl (Nat.le_of_ble_eq_true rfl) ?_
  intro p e s m below meth c C hno
  have hP := dk_rf hP0
  have Wp := IV.1.1
  have g4 := Wp.g4
  have m12 := Wp.m12
  have h8 := Wp.c8
  have h1 := Wp.c1
  have e1 : X 1 0 1 = nI nc := IV.1.2.1.1.1
  refine z_aload_n C dd_D_klass_0 rfl ?_
  refine gf_D_10 (v := .ref ((ad 1 0))) C dd_D_klass_1 (dk_rd (k := 0) (i := 0) (x := (X 0 0)) (y := (Y 0 0)) (z := (Z 0 0)) hP rfl rfl rfl rfl) rfl ?_
  refine z_iload_n C dd_D_klass_4 rfl ?_
  refine iv_D_58 (sk := fun r => .int r :: []) (zz_f B) C dd_D_klass_5 (cc_H_has l D dA B _ _ (ad 1 0) _ _ x (dk_rd (k := 1) (i := 0) (x := (X 1 0)) (y := (Y 1 0)) (z := (Z 1 0)) hP rfl rfl rfl rfl)) (dk_rd (k := 1) (i := 0) (x := (X 1 0)) (y := (Y 1 0)) (z := (Z 1 0)) hP rfl rfl rfl rfl) rfl rfl ⟨by decide, by decide⟩ (Nat.le_of_ble_eq_true rfl) ⟨by decide, by decide⟩ (fun _ => rfl) (fun v1_ h1_ n1_ p1_ => ?_)
  obtain ⟨f1_, e1_, p1_⟩ := p1_
  have e1z := e1_.symm
  have f1z := f1_.symm
  subst e1z
  subst f1z
  rw [e1] at p1_
  rcases p1_ with ⟨rfl, u1, u2⟩ | ⟨rfl, u1⟩
  · skip
    refine z_if_ne (tgt := 21) C dd_D_klass_8 (by decide) (fun q1 => ?_) (fun q1 => absurd q1 (by decide))
    refine z_aload_n C dd_D_klass_21 rfl ?_
    refine gf_D_10 (v := .ref ((ad 1 0))) C dd_D_klass_22 (dk_rd (k := 0) (i := 0) (x := (X 0 0)) (y := (Y 0 0)) (z := (Z 0 0)) hP rfl rfl rfl rfl) rfl ?_
    obtain ⟨k, hk, rfl⟩ := nI_of u1
    have hk2 : k < nc := by
      by_cases c9 : k < nc
      · exact c9
      · exact absurd ((nI_leI (by omega) (by omega)).mpr (by omega)) u2
    refine iv_D_69 (sk := fun r => .int r :: []) (zz_f B) C dd_D_klass_25 (cc_H_isFull l D dA B _ _ (ad 1 0) _ _ (dk_rd (k := 1) (i := 0) (x := (X 1 0)) (y := (Y 1 0)) (z := (Z 1 0)) hP rfl rfl rfl rfl)) (dk_rd (k := 1) (i := 0) (x := (X 1 0)) (y := (Y 1 0)) (z := (Z 1 0)) hP rfl rfl rfl rfl) rfl rfl ⟨by decide, by decide⟩ (Nat.le_of_ble_eq_true rfl) ⟨by decide, by decide⟩ (fun _ => rfl) (fun v2_ h2_ n2_ p2_ => ?_)
    obtain ⟨f2_, e2_, p2_⟩ := p2_
    have e2z := e2_.symm
    have f2z := f2_.symm
    subst e2z
    subst f2z
    rw [e1] at p2_
    rcases p2_ with ⟨rfl, w1⟩ | ⟨rfl, w1⟩
    · skip
      refine z_if_eq (tgt := 41) C dd_D_klass_28 (by decide) (fun q2 => ?_) (fun q2 => absurd (by decide) q2)
      refine z_iconst (v := 0) C dd_D_klass_41 (by decide) ?_
      refine z_istore_n C dd_D_klass_42 rfl ?_
      have h88 : nc < 8 := (@nI_ltI nc 8 (by omega) (by omega)).mp w1
      refine lp_D_klass (h := h) C IV g4 (fun h' J => ?_) ng 0 _ (by omega) hP
      refine z_aload_n C dd_D_klass_66 rfl ?_
      refine z_iconst (v := 0) C dd_D_klass_67 (by decide) ?_
      refine pf_D_49 C dd_D_klass_68 (dk_rd (k := 0) (i := 0) (x := ((dk_odn X ng) 0 0)) (y := (Y 0 0)) (z := (Z 0 0)) J rfl rfl rfl rfl) (Nat.le_of_ble_eq_true rfl) rfl rfl ?_
      refine z_cut (dk_K dA ad (dk_lv ng nM na no) (dk_is (dk_odn X ng) 0 0 (upd ((dk_odn X ng) 0 0) 7 0)) Y Z h) (dk_wX J rfl rfl rfl rfl) rfl rfl rfl (fun h3_ hP3_ => ?_)
      refine z_aload_n C dd_D_klass_71 rfl ?_
      refine gf_D_10 (v := .ref ((ad 1 0))) C dd_D_klass_72 (dk_rd (k := 0) (i := 0) (x := (upd ((dk_odn X ng) 0 0) 7 0)) (y := (Y 0 0)) (z := (Z 0 0)) hP3_ rfl dk_s rfl rfl) rfl ?_
      refine z_iload_n C dd_D_klass_75 rfl ?_
      refine iv_D_81 (sk := fun r => .int r :: []) (zz_f B) C dd_D_klass_76 (cd_H_add l D dA B _ _ ad ng nM na no (dk_is (dk_odn X ng) 0 0 (upd ((dk_odn X ng) 0 0) 7 0)) Y Z hP3_.1 nc k h88 hk2 (by show dk_odn X ng 1 0 1 = _; rw [dk_odn_n (by omega)]; exact e1)) (dk_rd (k := 1) (i := 0) (x := ((dk_odn X ng) 1 0)) (y := (Y 1 0)) (z := (Z 1 0)) hP3_ rfl rfl rfl rfl) rfl rfl ⟨by decide, by decide⟩ (Nat.le_of_ble_eq_true rfl) ⟨by decide, by decide⟩ (fun _ => rfl) (fun v4_ h4_ n4_ p4_ => ?_)
      obtain ⟨rfl, rfl, p4_⟩ := p4_
      have e20 : dk_is (dk_odn X ng) 0 0 (upd (dk_odn X ng 0 0) 7 0) 2 0 = X 2 0 := (dk_n (by omega)).trans (dk_odn_n (by omega) ng)
      have e10 : dk_is (dk_odn X ng) 0 0 (upd (dk_odn X ng 0 0) 7 0) 1 0 = X 1 0 := (dk_n (by omega)).trans (dk_odn_n (by omega) ng)
      rw [e20, e10] at p4_
      exact z_iretX C dd_D_klass_79 ⟨by omega, k, hk2, rfl, h88, rfl, dk_tr hP3_ p4_⟩ (by decide) (by decide)
    · skip
      refine z_if_eq (tgt := 41) C dd_D_klass_28 (by decide) (fun q3 => absurd q3 (by decide)) (fun q3 => ?_)
      exact tr_ISE "no room for a class" C hl hno (by decide +kernel) dd_D_klass_31 dd_D_klass_34 dd_D_klass_35 dd_D_klass_37 dd_D_klass_40 (by decide) (Nat.le_of_ble_eq_true rfl) (by decide) (by decide) (by decide) (by decide) (fun n' hn => ⟨rfl, by omega, Or.inr ⟨rfl, by have := mt (@nI_ltI nc 8 (by omega) (by omega)).mpr w1; omega, k, hk2, rfl⟩⟩)
  · skip
    refine z_if_ne (tgt := 21) C dd_D_klass_8 (by decide) (fun q4 => absurd (by decide) q4) (fun q4 => ?_)
    exact tr_IAE "no such parent" C hl hno (by decide +kernel) dd_D_klass_11 dd_D_klass_14 dd_D_klass_15 dd_D_klass_17 dd_D_klass_20 (by decide) (Nat.le_of_ble_eq_true rfl) (by decide) (by decide) (by decide) (by decide) (fun n' hn => ⟨rfl, by omega, Or.inl ⟨rfl, fun k hk z => by subst z; exact u1.elim (fun u => nI_pos (by omega) u) (fun u => absurd ((nI_leI (by omega) (by omega)).mp u) (by omega))⟩⟩)
