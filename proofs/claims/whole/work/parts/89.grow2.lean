/-! the desk: generic, method, atom, operation -/
theorem dk_up {dA : Nat → ClassId} {ad : Nat → Nat → Nat} {lv : Nat → Nat → Prop} {X : dk_X} {Y : dk_Y} {Z : dk_Z} {h : zz_H} {n : Nat} {o : va_E} (hP : dk_P dA ad lv X Y Z h) (hlt : ∀ k i, lv k i → ad k i < n) : dk_P dA ad lv X Y Z (zz_up h n o) := ⟨fun k i hl => (zz_un (by have := hlt k i hl; omega)).trans (hP.1 k i hl), hP.2⟩
theorem dk_gf {ad ad' : Nat → Nat → Nat} {lv lv' N : Nat → Nat → Prop} {n y : Nat} (h1 : ∀ k i, lv' k i → lv k i ∨ N k i) (hN : ∀ k i, N k i → n ≤ ad' k i) (ho : ∀ k i, lv k i → ad' k i = ad k i) (hy : y < n) (hn : ∀ k i, lv k i → y ≠ ad k i) (k i : Nat) (hl : lv' k i) : y ≠ ad' k i := by
  rcases h1 k i hl with z | z
  · rw [ho k i z]; exact hn k i z
  · have := hN k i z; omega
theorem dk_gl {ad ad' : Nat → Nat → Nat} {lv lv' N : Nat → Nat → Prop} {n d : Nat} (h1 : ∀ k i, lv' k i → lv k i ∨ N k i) (hN : ∀ k i, N k i → ad' k i < n + d) (ho : ∀ k i, lv k i → ad' k i = ad k i) (hlt : ∀ k i, lv k i → ad k i < n) (k i : Nat) (hl : lv' k i) : ad' k i < n + d := by
  rcases h1 k i hl with z | z
  · rw [ho k i z]; have := hlt k i z; omega
  · exact hN k i z
theorem dk_aG_o {ad : Nat → Nat → Nat} {ng nM n : Nat} {na no : Nat → Nat} (k i : Nat) (hl : dk_lv ng nM na no k i) : dk_aG ad ng n k i = ad k i := if_neg (dk_lv_nG hl)
theorem dk_aG_N {ad : Nat → Nat → Nat} {ng n : Nat} (k i : Nat) (h : dk_NG ng k i) : n ≤ dk_aG ad ng n k i ∧ dk_aG ad ng n k i < n + 10 := by
  unfold dk_aG
  rw [if_pos h]
  have := h.1
  omega
theorem dk_aM_o {ad : Nat → Nat → Nat} {ng nM n : Nat} {na no : Nat → Nat} (k i : Nat) (hl : dk_lv ng nM na no k i) : dk_aM ad nM n k i = ad k i := if_neg (dk_lv_nM hl)
theorem dk_aM_N {ad : Nat → Nat → Nat} {nM n : Nat} (k i : Nat) (h : dk_NM nM k i) : n ≤ dk_aM ad nM n k i ∧ dk_aM ad nM n k i < n + 3 := by
  unfold dk_aM
  rw [if_pos h]
  have := h.1
  omega
theorem dk_en_le {I : mq_M} {g nM oc : Nat} {ow : Nat → Nat} (E : dk_en I g nM oc ow) : oc ≤ nM := by
  have h : ∀ k, k < oc → k ≤ ow k := by
    intro k
    induction k with
    | zero => intro _; exact Nat.zero_le _
    | succ k ih =>
      intro hk
      have h1 := ih (by omega)
      have h2 := E.2.1 k (k + 1) (by omega) hk
      omega
  cases oc with
  | zero => exact Nat.zero_le _
  | succ o =>
    have h1 := h o (by omega)
    have h2 := (E.1 o (by omega)).1
    omega
abbrev rm_D_generic : Room := { frames := 12, cells := 12, slots := 470, locals := 200 }
set_option maxRecDepth 20000 in
theorem tl_D_generic {D : va_G} {dA : Nat → ClassId} {B : Nat} {p : Program} {l : Launch} {e : Env} {s : State} {m : MethodId} {args : Array Value} {below : List Frame} {meth : Method} {c : Code} {Q : State → Prop} {n : Nat} {nm : String} {ret9 : Option FieldType} {h : zz_H} (C : zz_C D zz_cl (zz_ty dA) B zz_tb (zz_x B) p s m args meth c bb_D_generic RR_D ret9 nm) {ad : Nat → Nat → Nat} {ng nM : Nat} {na no : Nat → Nat} {X : dk_X} {Y : dk_Y} {Z : dk_Z} {k cc ss a0 a3 an : Nat} {x : Int32} (hP0 : dk_P dA ad (dk_lv ng nM na no) X Y Z h) (hk : k < ng) (hk4 : k < 4) (e2 : X 0 0 2 = nI k) (e0 : ad 0 0 = a0) (e3 : ad 3 0 = a3) (en : ad 20 k = an) (kx : ∀ h', dk_K dA ad (dk_lv ng nM na no) (dk_is X 0 0 (upd (X 0 0) 2 (nI (k + 1)))) Y (dk_is Z 3 0 (va_up (Z 3 0) k (some (ad 20 k)))) h h' → zz_W D zz_cl B p l e rm_D_generic s m args below meth c Q h' n cc ss [some (.ref a0), some (.int x)] 70 [.int (nI k)]) : zz_W D zz_cl B p l e rm_D_generic s m args below meth c Q h n cc ss [some (.ref a0), some (.int x)] 58 [.ref an, .int (nI k), .ref a3] := by
  subst e0
  subst e3
  subst en
  have hP := dk_rf hP0
  have e9 : (nI k).toNatClampNeg = k := nI_clamp (by omega)
  refine z_aast (t0 := 3) (N := 4) (f := (Z 3 0)) C rfl rfl dd_D_generic_58 (dk_rd (k := 3) (i := 0) (x := (X 3 0)) (y := (Y 3 0)) (z := (Z 3 0)) hP rfl rfl rfl rfl) (dk_rd (k := 20) (i := k) (x := (X 20 k)) (y := (Y 20 k)) (z := (Z 20 k)) hP hk rfl rfl rfl) (vp_in_nI (by omega) (by decide)) ?_
  refine z_cut (dk_K dA ad (dk_lv ng nM na no) X Y (dk_is Z 3 0 (va_up (Z 3 0) (Int32.toNatClampNeg (nI k)) (some (ad 20 k)))) h) (dk_wZ hP rfl rfl rfl rfl) rfl rfl rfl (fun h1_ hP1_ => ?_)
  refine z_aload_n C dd_D_generic_59 rfl ?_
  refine z_dup C dd_D_generic_60 rfl ?_
  refine gf_D_22 (v := .int (X 0 0 2)) C dd_D_generic_61 (dk_rd (k := 0) (i := 0) (x := (X 0 0)) (y := (Y 0 0)) (z := (Z 0 0)) hP1_ rfl rfl rfl rfl) rfl ?_
  refine z_topi (y := nI k) e2.symm ?_
  refine z_dup_x1 C dd_D_generic_64 rfl rfl ?_
  refine z_iconst (v := 1) C dd_D_generic_65 (by decide) ?_
  refine z_iadd C dd_D_generic_66 ?_
  refine z_topi (y := nI (k + 1)) (by first | exact (nI_add _ _).symm | (rw [← nI_add]; rfl)) ?_
  refine pf_D_22 C dd_D_generic_67 (dk_rd (k := 0) (i := 0) (x := (X 0 0)) (y := (Y 0 0)) (z := (Z 0 0)) hP1_ rfl rfl rfl rfl) (Nat.le_of_ble_eq_true rfl) rfl rfl ?_
  refine z_cut (dk_K dA ad (dk_lv ng nM na no) (dk_is X 0 0 (upd (X 0 0) 2 (nI (k + 1)))) Y (dk_is Z 3 0 (va_up (Z 3 0) (Int32.toNatClampNeg (nI k)) (some (ad 20 k)))) h) (dk_wX hP1_ rfl rfl rfl rfl) rfl rfl rfl (fun h2_ hP2_ => ?_)
  rw [e9] at hP2_
  exact kx _ hP2_
set_option maxRecDepth 20000 in
/-- generic -/
theorem cd_D_generic (l : Launch) (D : va_G) (dA : Nat → ClassId) (B : Nat) (h : zz_H) (n : Nat) (ad : Nat → Nat → Nat) (ng nM : Nat) (na no : Nat → Nat) (X : dk_X) (Y : dk_Y) (Z : dk_Z) (hP0 : dk_P dA ad (dk_lv ng nM na no) X Y Z h) (F : Nat → Int32) (I : mq_M) (nc : Nat) (oc : Nat → Nat) (ow : Nat → Nat → Nat) (IV : dk_IV F ad ng nM na no X Y Z I nc oc ow) (hlt : ∀ k i, dk_lv ng nM na no k i → ad k i < n) (x : Int32) (hl : l.stackTraces = false) : zz_MX l D zz_cl (zz_ty dA) B zz_tb (zz_x B) yy_D_generic (Cond.code yy_D_generic bb_D_generic 2 (some FieldType.int)) rm_D_generic [.ref ((ad 0 0)), .int x] h n zz_mi (fun r h' n' => n' = n + 10 ∧ ∃ k, (k = 1 ∨ k = 2) ∧ x = nI k ∧ ng < 4 ∧ r = nI ng ∧ dk_P dA (dk_aG ad ng n) (dk_lv (ng + 1) nM na no) (dk_is (dk_xG X ng x) 0 0 (upd (dk_xG X ng x 0 0) 2 (nI (ng + 1)))) (dk_yG Y ng) (dk_is (dk_zG Z ng) 3 0 (va_up (dk_zG Z ng 3 0) ng (some (dk_aG ad ng n 20 ng)))) h' ∧ (∀ k i, dk_lv (ng + 1) nM na no k i → dk_aG ad ng n k i < n') ∧ ∀ y, y < n → (∀ k i, dk_lv ng nM na no k i → y ≠ ad k i) → h' y = h y) (fun E h' n' => h' = h ∧ n ≤ n' ∧ ((E = "java/lang/IllegalArgumentException" ∧ ∀ k, (k = 1 ∨ k = 2) → ¬ x = nI k) ∨ (E = "java/lang/IllegalStateException" ∧ ng = 4 ∧ ∃ k, (k = 1 ∨ k = 2) ∧ x = nI k))) := by
  refine zz_ofX (zz_f B) [some (.ref ((ad 0 0))), some (.int x)] (by decide) rfl rfl (Nat.le_of_ble_eq_true rfl) ?_
  intro p e s m below meth c C hno
  have hP := dk_rf hP0
  have Wp := IV.1.1
  have g4 := Wp.g4
  have m12 := Wp.m12
  have h8 := Wp.c8
  have h1 := Wp.c1
  refine z_iload_n C dd_D_generic_0 rfl ?_
  refine z_iconst (v := 1) C dd_D_generic_1 (by decide) ?_
  refine z_icmp_lt (tgt := 10) C dd_D_generic_2 (by decide) (fun q1 => ?_) (fun q1 => ?_)
  · skip
    exact tr_IAE "one or two arguments" C hl hno (by decide +kernel) dd_D_generic_10 dd_D_generic_13 dd_D_generic_14 dd_D_generic_16 dd_D_generic_19 (by decide) (Nat.le_of_ble_eq_true rfl) (by decide) (by decide) (by decide) (by decide) (fun n' hn => ⟨rfl, by omega, Or.inl ⟨rfl, fun k hk z => by subst z; rcases hk with rfl | rfl <;> exact absurd q1 (by decide)⟩⟩)
  · skip
    refine z_iload_n C dd_D_generic_5 rfl ?_
    refine z_iconst (v := 2) C dd_D_generic_6 (by decide) ?_
    refine z_icmp_le (tgt := 20) C dd_D_generic_7 (by decide) (fun q2 => ?_) (fun q2 => ?_)
    · skip
      obtain ⟨ar, har, rfl⟩ := pu_iv_12.mp (show pu_iv x 1 2 = true by rw [dk_ive, decide_eq_false q1, decide_eq_false (Int32.not_lt.mpr q2)]; rfl)
      refine z_aload_n C dd_D_generic_20 rfl ?_
      refine gf_D_22 (v := .int (X 0 0 2)) C dd_D_generic_21 (dk_rd (k := 0) (i := 0) (x := (X 0 0)) (y := (Y 0 0)) (z := (Z 0 0)) hP rfl rfl rfl rfl) rfl ?_
      refine z_topi (y := nI ng) IV.2.2.1.1.symm ?_
      refine z_iconst (v := 4) C dd_D_generic_24 (by decide) ?_
      refine z_icmp_lt (tgt := 38) C dd_D_generic_25 (by decide) (fun q3 => ?_) (fun q3 => ?_)
      · replace q3 : ng < 4 := (@nI_ltI ng 4 (by omega) (by omega)).mp q3
        refine z_aload_n C dd_D_generic_38 rfl ?_
        refine gf_D_18 (v := .ref ((ad 3 0))) C dd_D_generic_39 (dk_rd (k := 0) (i := 0) (x := (X 0 0)) (y := (Y 0 0)) (z := (Z 0 0)) hP rfl rfl rfl rfl) rfl ?_
        refine z_aload_n C dd_D_generic_42 rfl ?_
        refine gf_D_22 (v := .int (X 0 0 2)) C dd_D_generic_43 (dk_rd (k := 0) (i := 0) (x := (X 0 0)) (y := (Y 0 0)) (z := (Z 0 0)) hP rfl rfl rfl rfl) rfl ?_
        refine z_topi (y := nI ng) IV.2.2.1.1.symm ?_
        refine nw_D_16 C dd_D_generic_46 (by decide) (by decide) ?_
        refine z_cut (fun h1 => dk_P dA ad (dk_lv ng nM na no) X Y Z h1 ∧ h1 n = some (.inr (6, [.int 0, .null, .null, .null, .null, .int 0, .int 0, .int 0, .int 0, .long 0, .int 0])) ∧ ∀ a, a < n → h1 a = h a) ⟨dk_up hP0 hlt, zz_us _ _ _, fun a ha => zz_un (by omega)⟩ rfl rfl rfl (fun h1 u => ?_)
        obtain ⟨u1, u2, u3⟩ := u
        have hPb := dk_rf u1
        refine z_dup C dd_D_generic_49 rfl ?_
        refine z_iload_n C dd_D_generic_50 rfl ?_
        refine z_aload_n C dd_D_generic_51 rfl ?_
        refine gf_D_10 (v := .ref ((ad 1 0))) C dd_D_generic_52 (dk_rd (k := 0) (i := 0) (x := (X 0 0)) (y := (Y 0 0)) (z := (Z 0 0)) hPb rfl rfl rfl rfl) rfl ?_
        refine ii_D_89 (sk := fun _ => [.ref n, .int ((nI ng)), .ref ((ad 3 0))]) (zz_f B) C dd_D_generic_55 (cc_G_init l D dA B _ _ n (nI ar) (ad 1 0) u2 (by omega)) rfl rfl ⟨by decide, by decide⟩ (Nat.le_of_ble_eq_true rfl) ⟨by decide, by decide⟩ (fun _ => rfl) (fun _ h2 n2 p2 => ?_)
        obtain ⟨rfl, g0, g1, g2, g3, g4a, g5, g6, g7, g8, g9, gf⟩ := p2
        have PN := dk_newG (a := nI ar) hP0 hlt (fun a ha => (gf a (by omega) (by omega)).trans (u3 a ha)) g0 g1 g2 g3 g4a g5 g6 g7 g8 g9
        refine tl_D_generic (k := ng) (ad := dk_aG ad ng n) C PN (by omega) (by omega) ((congrFun (if_neg (by omega)) 2).trans IV.2.2.1.1) (if_neg (by omega)) (if_neg (by omega)) ((if_pos ⟨by omega, rfl⟩ : dk_aG ad ng n 20 ng = n + (20 - 20))) (fun h' K => ?_)
        exact z_iretX C dd_D_generic_70 ⟨by omega, ar, har, rfl, by omega, rfl, K.1, fun k i hl => dk_gl (d := 10) (fun _ _ => dk_lv_G) (fun k i z => (dk_aG_N k i z).2) dk_aG_o hlt k i hl, fun y hy hn => (K.2 y (dk_gf (fun _ _ => dk_lv_G) (fun k i z => (dk_aG_N k i z).1) dk_aG_o hy hn)).trans ((gf y (by omega) (by omega)).trans (u3 y hy))⟩ (by decide) (by decide)
      · replace q3 : ¬ ng < 4 := fun z => q3 ((@nI_ltI ng 4 (by omega) (by omega)).mpr z)
        exact tr_ISE "no room for a generic" C hl hno (by decide +kernel) dd_D_generic_28 dd_D_generic_31 dd_D_generic_32 dd_D_generic_34 dd_D_generic_37 (by decide) (Nat.le_of_ble_eq_true rfl) (by decide) (by decide) (by decide) (by decide) (fun n' hn => ⟨rfl, by omega, Or.inr ⟨rfl, by omega, ar, har, rfl⟩⟩)
    · skip
      exact tr_IAE "one or two arguments" C hl hno (by decide +kernel) dd_D_generic_10 dd_D_generic_13 dd_D_generic_14 dd_D_generic_16 dd_D_generic_19 (by decide) (Nat.le_of_ble_eq_true rfl) (by decide) (by decide) (by decide) (by decide) (fun n' hn => ⟨rfl, by omega, Or.inl ⟨rfl, fun k hk z => by subst z; rcases hk with rfl | rfl <;> exact absurd (by decide) q2⟩⟩)
abbrev rm_D_method : Room := { frames := 12, cells := 5, slots := 40, locals := 200 }
set_option maxRecDepth 20000 in
theorem tl_D_method {D : va_G} {dA : Nat → ClassId} {B : Nat} {p : Program} {l : Launch} {e : Env} {s : State} {m : MethodId} {args : Array Value} {below : List Frame} {meth : Method} {c : Code} {Q : State → Prop} {n : Nat} {nm : String} {ret9 : Option FieldType} {h : zz_H} (C : zz_C D zz_cl (zz_ty dA) B zz_tb (zz_x B) p s m args meth c bb_D_method RR_D ret9 nm) {ad : Nat → Nat → Nat} {ng nM : Nat} {na no : Nat → Nat} {X : dk_X} {Y : dk_Y} {Z : dk_Z} {k g o9 cc ss a0 ag am : Nat} {x : Int32} (hcc : cc ≤ 4) (hss : ss ≤ 34) (hP0 : dk_P dA ad (dk_lv ng nM na no) X Y Z h) (hk : k < nM) (h12k : k < 12) (hg : g < ng) (h12 : o9 < 12) (e4 : X 0 0 4 = nI k) (e5 : X 20 g 5 = nI o9) (e30 : X 30 k 0 = nI k) (e0 : ad 0 0 = a0) (eg : ad 20 g = ag) (em : ad 30 k = am) (kx : ∀ h', dk_K dA ad (dk_lv ng nM na no) (dk_is (dk_is (dk_od (dk_is X 20 g (upd (upd (X 20 g) 5 (nI (o9 + 1))) 6 (X 20 g 6 ||| i1 k))) g) 0 0 (upd ((dk_od (dk_is X 20 g (upd (upd (X 20 g) 5 (nI (o9 + 1))) 6 (X 20 g 6 ||| i1 k))) g) 0 0) 7 0)) 0 0 (upd (upd ((dk_od (dk_is X 20 g (upd (upd (X 20 g) 5 (nI (o9 + 1))) 6 (X 20 g 6 ||| i1 k))) g) 0 0) 7 0) 4 (nI (k + 1)))) Y (dk_is (dk_is Z 4 0 (va_up (Z 4 0) k (some (ad 30 k)))) 25 g (va_up (dk_is Z 4 0 (va_up (Z 4 0) k (some (ad 30 k))) 25 g) o9 (some (ad 30 k)))) h h' → zz_W D zz_cl B p l e rm_D_method s m args below meth c Q h' n cc ss [some (.ref a0), some (.int x), some (.ref ag), some (.ref am)] 69 [.int (nI k)]) : zz_W D zz_cl B p l e rm_D_method s m args below meth c Q h n cc ss [some (.ref a0), some (.int x), some (.ref ag), some (.ref am)] 38 [] := by
  subst e0
  subst eg
  subst em
  have hP := dk_rf hP0
  have e9 : (nI k).toNatClampNeg = k := nI_clamp (by omega)
  refine z_aload_n C dd_D_method_38 rfl ?_
  refine gf_D_28 (v := .ref ((ad 4 0))) C dd_D_method_39 (dk_rd (k := 0) (i := 0) (x := (X 0 0)) (y := (Y 0 0)) (z := (Z 0 0)) hP rfl rfl rfl rfl) rfl ?_
  refine z_aload_n C dd_D_method_42 rfl ?_
  refine gf_D_32 (v := .int (X 0 0 4)) C dd_D_method_43 (dk_rd (k := 0) (i := 0) (x := (X 0 0)) (y := (Y 0 0)) (z := (Z 0 0)) hP rfl rfl rfl rfl) rfl ?_
  refine z_topi (y := nI k) e4.symm ?_
  refine z_aload_n C dd_D_method_46 rfl ?_
  refine z_aast (t0 := 4) (N := 12) (f := (Z 4 0)) C rfl rfl dd_D_method_47 (dk_rd (k := 4) (i := 0) (x := (X 4 0)) (y := (Y 4 0)) (z := (Z 4 0)) hP rfl rfl rfl rfl) (dk_rd (k := 30) (i := k) (x := (X 30 k)) (y := (Y 30 k)) (z := (Z 30 k)) hP hk rfl rfl rfl) (vp_in_nI (by omega) (by decide)) ?_
  refine z_cut (dk_K dA ad (dk_lv ng nM na no) X Y (dk_is Z 4 0 (va_up (Z 4 0) (Int32.toNatClampNeg (nI k)) (some (ad 30 k)))) h) (dk_wZ hP rfl rfl rfl rfl) rfl rfl rfl (fun h1_ hP1_ => ?_)
  refine z_aload_n C dd_D_method_48 rfl ?_
  refine z_aload_n C dd_D_method_49 rfl ?_
  refine iv_D_101 (sk := fun _ => []) (zz_f B) C dd_D_method_50 (cd_G_add l D dA B _ _ ad ng nM na no X Y (dk_is Z 4 0 (va_up (Z 4 0) (Int32.toNatClampNeg (nI k)) (some (ad 30 k)))) hP1_.1 g o9 k hg hk h12 e5 e30) (dk_rd (k := 20) (i := g) (x := (X 20 g)) (y := (Y 20 g)) (z := (Z 20 g)) hP1_ hg rfl rfl rfl) rfl rfl ⟨by decide, by decide⟩ (Nat.le_of_ble_eq_true rfl) ⟨Nat.le_trans hcc (by decide), Nat.le_trans hss (by decide)⟩ (fun _ => rfl) (fun _ h2_ n2_ p2_ => ?_)
  obtain ⟨rfl, p2_⟩ := p2_
  have hP2_ := dk_tr hP1_ p2_
  rw [e9] at hP2_
  have e4n : (dk_od (dk_is X 20 g (upd (upd (X 20 g) 5 (nI (o9 + 1))) 6 (X 20 g 6 ||| i1 k))) g) 0 0 4 = nI k := by rw [dk_od_n (by omega), dk_n (by omega)]; exact e4
  refine z_aload_n C dd_D_method_53 rfl ?_
  refine z_iconst (v := 0) C dd_D_method_54 (by decide) ?_
  refine pf_D_49 C dd_D_method_55 (dk_rd (k := 0) (i := 0) (x := ((dk_od (dk_is X 20 g (upd (upd (X 20 g) 5 (nI (o9 + 1))) 6 (X 20 g 6 ||| i1 k))) g) 0 0)) (y := (Y 0 0)) (z := ((dk_is (dk_is Z 4 0 (va_up (Z 4 0) k (some (ad 30 k)))) 25 g (va_up (dk_is Z 4 0 (va_up (Z 4 0) k (some (ad 30 k))) 25 g) o9 (some (ad 30 k)))) 0 0)) hP2_ rfl rfl rfl rfl) (Nat.le_of_ble_eq_true rfl) rfl rfl ?_
  refine z_cut (dk_K dA ad (dk_lv ng nM na no) (dk_is (dk_od (dk_is X 20 g (upd (upd (X 20 g) 5 (nI (o9 + 1))) 6 (X 20 g 6 ||| i1 k))) g) 0 0 (upd ((dk_od (dk_is X 20 g (upd (upd (X 20 g) 5 (nI (o9 + 1))) 6 (X 20 g 6 ||| i1 k))) g) 0 0) 7 0)) Y (dk_is (dk_is Z 4 0 (va_up (Z 4 0) k (some (ad 30 k)))) 25 g (va_up (dk_is Z 4 0 (va_up (Z 4 0) k (some (ad 30 k))) 25 g) o9 (some (ad 30 k)))) h) (dk_wX hP2_ rfl rfl rfl rfl) rfl rfl rfl (fun h3_ hP3_ => ?_)
  refine z_aload_n C dd_D_method_58 rfl ?_
  refine z_dup C dd_D_method_59 rfl ?_
  refine gf_D_32 (v := .int ((dk_od (dk_is X 20 g (upd (upd (X 20 g) 5 (nI (o9 + 1))) 6 (X 20 g 6 ||| i1 k))) g) 0 0 4)) C dd_D_method_60 (dk_rd (k := 0) (i := 0) (x := (upd ((dk_od (dk_is X 20 g (upd (upd (X 20 g) 5 (nI (o9 + 1))) 6 (X 20 g 6 ||| i1 k))) g) 0 0) 7 0)) (y := (Y 0 0)) (z := ((dk_is (dk_is Z 4 0 (va_up (Z 4 0) k (some (ad 30 k)))) 25 g (va_up (dk_is Z 4 0 (va_up (Z 4 0) k (some (ad 30 k))) 25 g) o9 (some (ad 30 k)))) 0 0)) hP3_ rfl dk_s rfl rfl) rfl ?_
  refine z_topi (y := nI k) (e4n).symm ?_
  refine z_dup_x1 C dd_D_method_63 rfl rfl ?_
  refine z_iconst (v := 1) C dd_D_method_64 (by decide) ?_
  refine z_iadd C dd_D_method_65 ?_
  refine z_topi (y := nI (k + 1)) (by first | exact (nI_add _ _).symm | (rw [← nI_add]; rfl)) ?_
  refine pf_D_32 C dd_D_method_66 (dk_rd (k := 0) (i := 0) (x := (upd ((dk_od (dk_is X 20 g (upd (upd (X 20 g) 5 (nI (o9 + 1))) 6 (X 20 g 6 ||| i1 k))) g) 0 0) 7 0)) (y := (Y 0 0)) (z := ((dk_is (dk_is Z 4 0 (va_up (Z 4 0) k (some (ad 30 k)))) 25 g (va_up (dk_is Z 4 0 (va_up (Z 4 0) k (some (ad 30 k))) 25 g) o9 (some (ad 30 k)))) 0 0)) hP3_ rfl dk_s rfl rfl) (Nat.le_of_ble_eq_true rfl) rfl rfl ?_
  refine z_cut (dk_K dA ad (dk_lv ng nM na no) (dk_is (dk_is (dk_od (dk_is X 20 g (upd (upd (X 20 g) 5 (nI (o9 + 1))) 6 (X 20 g 6 ||| i1 k))) g) 0 0 (upd ((dk_od (dk_is X 20 g (upd (upd (X 20 g) 5 (nI (o9 + 1))) 6 (X 20 g 6 ||| i1 k))) g) 0 0) 7 0)) 0 0 (upd (upd ((dk_od (dk_is X 20 g (upd (upd (X 20 g) 5 (nI (o9 + 1))) 6 (X 20 g 6 ||| i1 k))) g) 0 0) 7 0) 4 (nI (k + 1)))) Y (dk_is (dk_is Z 4 0 (va_up (Z 4 0) k (some (ad 30 k)))) 25 g (va_up (dk_is Z 4 0 (va_up (Z 4 0) k (some (ad 30 k))) 25 g) o9 (some (ad 30 k)))) h) (dk_wX hP3_ rfl rfl rfl rfl) rfl rfl rfl (fun h4_ hP4_ => ?_)
  exact kx _ hP4_
def dk_xm (X : dk_X) (nM g o9 : Nat) : dk_X := (dk_is (dk_is (dk_od (dk_is (dk_xM X nM (nI nM)) 20 g (upd (upd ((dk_xM X nM (nI nM)) 20 g) 5 (nI (o9 + 1))) 6 ((dk_xM X nM (nI nM)) 20 g 6 ||| i1 nM))) g) 0 0 (upd ((dk_od (dk_is (dk_xM X nM (nI nM)) 20 g (upd (upd ((dk_xM X nM (nI nM)) 20 g) 5 (nI (o9 + 1))) 6 ((dk_xM X nM (nI nM)) 20 g 6 ||| i1 nM))) g) 0 0) 7 0)) 0 0 (upd (upd ((dk_od (dk_is (dk_xM X nM (nI nM)) 20 g (upd (upd ((dk_xM X nM (nI nM)) 20 g) 5 (nI (o9 + 1))) 6 ((dk_xM X nM (nI nM)) 20 g 6 ||| i1 nM))) g) 0 0) 7 0) 4 (nI (nM + 1))))
def dk_zm (ad : Nat → Nat → Nat) (Z : dk_Z) (nM g o9 n : Nat) : dk_Z := (dk_is (dk_is (dk_zM Z nM (ad 20 g)) 4 0 (va_up ((dk_zM Z nM (ad 20 g)) 4 0) nM (some (dk_aM ad nM n 30 nM)))) 25 g (va_up (dk_is (dk_zM Z nM (ad 20 g)) 4 0 (va_up ((dk_zM Z nM (ad 20 g)) 4 0) nM (some (dk_aM ad nM n 30 nM))) 25 g) o9 (some (dk_aM ad nM n 30 nM))))
set_option maxRecDepth 20000 in
/-- method -/
theorem cd_D_method (l : Launch) (D : va_G) (dA : Nat → ClassId) (B : Nat) (h : zz_H) (n : Nat) (ad : Nat → Nat → Nat) (ng nM : Nat) (na no : Nat → Nat) (X : dk_X) (Y : dk_Y) (Z : dk_Z) (hP0 : dk_P dA ad (dk_lv ng nM na no) X Y Z h) (F : Nat → Int32) (I : mq_M) (nc : Nat) (oc : Nat → Nat) (ow : Nat → Nat → Nat) (IV : dk_IV F ad ng nM na no X Y Z I nc oc ow) (hlt : ∀ k i, dk_lv ng nM na no k i → ad k i < n) (x : Int32) (hl : l.stackTraces = false) : zz_MX l D zz_cl (zz_ty dA) B zz_tb (zz_x B) yy_D_method (Cond.code yy_D_method bb_D_method 4 (some FieldType.int)) rm_D_method [.ref ((ad 0 0)), .int x] h n zz_mi (fun r h' n' => n' = n + 3 ∧ ∃ g, g < ng ∧ x = nI g ∧ nM < 12 ∧ r = nI nM ∧ dk_P dA (dk_aM ad nM n) (dk_lv ng (nM + 1) (dk_0 na nM) (dk_0 no nM)) (dk_xm X nM g (oc g)) (dk_yM Y nM) (dk_zm ad Z nM g (oc g) n) h' ∧ (∀ k i, dk_lv ng (nM + 1) (dk_0 na nM) (dk_0 no nM) k i → dk_aM ad nM n k i < n') ∧ ∀ y, y < n → (∀ k i, dk_lv ng nM na no k i → y ≠ ad k i) → h' y = h y) (fun E h' n' => h' = h ∧ n ≤ n' ∧ ((E = "java/lang/IllegalArgumentException" ∧ ∀ g, g < ng → ¬ x = nI g) ∨ (E = "java/lang/IllegalStateException" ∧ nM = 12 ∧ ∃ g, g < ng ∧ x = nI g))) := by
  refine zz_ofX (zz_f B) [some (.ref ((ad 0 0))), some (.int x), none, none] (by decide) rfl rfl (Nat.le_of_ble_eq_true rfl) ?_
  intro p e s m below meth c C hno
  have hP := dk_rf hP0
  have Wp := IV.1.1
  have g4 := Wp.g4
  have m12 := Wp.m12
  have h8 := Wp.c8
  have h1 := Wp.c1
  refine z_aload_n C dd_D_method_0 rfl ?_
  refine z_iload_n C dd_D_method_1 rfl ?_
  refine ix_D_92 (sk := fun r => .ref r :: []) (zz_f B) C dd_D_method_2 (cc_D_genericAt l D dA B _ _ (ad 0 0) _ _ _ _ _ _ _ _ _ _ (dk_rd (k := 0) (i := 0) (x := (X 0 0)) (y := (Y 0 0)) (z := (Z 0 0)) hP rfl rfl rfl rfl) x (Z 3 0) (dk_rd (k := 3) (i := 0) (x := (X 3 0)) (y := (Y 3 0)) (z := (Z 3 0)) hP rfl rfl rfl rfl) (fun a b => dk_gat_h g4 (by decide) IV.2.2.1.2.2.1 a (by rw [← IV.2.2.1.1]; exact b)) hl) hno (dk_rd (k := 0) (i := 0) (x := (X 0 0)) (y := (Y 0 0)) (z := (Z 0 0)) hP rfl rfl rfl rfl) rfl rfl ⟨by decide, by decide⟩ (Nat.le_of_ble_eq_true rfl) ⟨by decide, by decide⟩ (fun _ => rfl) (fun E h' n' p9 => ⟨p9.2.1, p9.2.2.1, Or.inl ⟨p9.1, fun g9 h9 z => dk_gat_n (by omega) (by rw [← IV.2.2.1.1]; exact p9.2.2.2) g9 h9 z⟩⟩) (by decide) (by decide) (fun a1_ h1_ n1_ p1_ => ?_)
  obtain ⟨e1_, f1_, v1_, w1_, x1_⟩ := p1_
  have e1z := e1_.symm
  have f1z := f1_.symm
  subst e1z
  subst f1z
  rw [IV.2.2.1.1] at x1_
  obtain ⟨g0, hg0, rfl, rfl⟩ := dk_gat_p (by omega) IV.2.2.1.2.2.1 v1_ w1_ x1_
  refine z_astore_n C dd_D_method_5 rfl ?_
  refine z_aload_n C dd_D_method_6 rfl ?_
  refine gf_D_32 (v := .int (X 0 0 4)) C dd_D_method_7 (dk_rd (k := 0) (i := 0) (x := (X 0 0)) (y := (Y 0 0)) (z := (Z 0 0)) hP rfl rfl rfl rfl) rfl ?_
  refine z_topi (y := nI nM) IV.2.2.1.2.1.symm ?_
  refine z_bipush (v := 12) C dd_D_method_10 (by decide) ?_
  refine z_icmp_lt (tgt := 25) C dd_D_method_12 (by decide) (fun q1 => ?_) (fun q1 => ?_)
  · replace q1 : nM < 12 := (@nI_ltI nM 12 (by omega) (by omega)).mp q1
    refine nw_D_26 C dd_D_method_25 (by decide) (by decide) ?_
    refine z_cut (fun h1 => dk_P dA ad (dk_lv ng nM na no) X Y Z h1 ∧ h1 n = some (.inr (4, [.int 0, .null, .null, .int 0, .null, .int 0, .long 0, .long 0, .int 0, .int 0])) ∧ ∀ a, a < n → h1 a = h a) ⟨dk_up hP0 hlt, zz_us _ _ _, fun a ha => zz_un (by omega)⟩ rfl rfl rfl (fun h1 u => ?_)
    obtain ⟨u1, u2, u3⟩ := u
    have hPb := dk_rf u1
    refine z_dup C dd_D_method_28 rfl ?_
    refine z_aload_n C dd_D_method_29 rfl ?_
    refine gf_D_32 (v := .int (X 0 0 4)) C dd_D_method_30 (dk_rd (k := 0) (i := 0) (x := (X 0 0)) (y := (Y 0 0)) (z := (Z 0 0)) hPb rfl rfl rfl rfl) rfl ?_
    refine z_topi (y := nI nM) IV.2.2.1.2.1.symm ?_
    refine z_aload_n C dd_D_method_33 rfl ?_
    refine ii_D_98 (sk := fun _ => [.ref n]) (zz_f B) C dd_D_method_34 (cc_M_init l D dA B _ _ n (nI nM) (ad 20 g0) u2 (by omega)) rfl rfl ⟨by decide, by decide⟩ (Nat.le_of_ble_eq_true rfl) ⟨by decide, by decide⟩ (fun _ => rfl) (fun _ h2 n2 p2 => ?_)
    obtain ⟨rfl, k0, k1, k2, gf⟩ := p2
    refine z_astore_n C dd_D_method_37 rfl ?_
    have PN := dk_newM (a := nI nM) (o := ad 20 g0) hP0 hlt (fun a ha => (gf a (by omega) (by omega)).trans (u3 a ha)) k0 k1 k2
    have E0 := (IV.2.1 g0 hg0).1
    have ole := dk_en_le E0.2.1
    refine tl_D_method (k := nM) (g := g0) (o9 := oc g0) (ad := dk_aM ad nM n) C (by decide) (by decide) PN (by omega) (by omega) hg0 (by omega) ((congrFun (if_neg (by omega)) 4).trans IV.2.2.1.2.1) ((congrFun (if_neg (by omega)) 5).trans E0.1.1) (congrFun (if_pos ⟨by omega, rfl⟩) 0) (if_neg (by omega)) (if_neg (by omega)) ((if_pos ⟨by omega, rfl⟩ : dk_aM ad nM n 30 nM = n + (30 - 30))) (fun h' K => ?_)
    exact z_iretX C dd_D_method_69 ⟨by omega, g0, hg0, rfl, by omega, rfl, K.1, fun k i hl => dk_gl (d := 3) (fun _ _ => dk_lv_M) (fun k i z => (dk_aM_N k i z).2) dk_aM_o hlt k i hl, fun y hy hn => (K.2 y (dk_gf (fun _ _ => dk_lv_M) (fun k i z => (dk_aM_N k i z).1) dk_aM_o hy hn)).trans ((gf y (by omega) (by omega)).trans (u3 y hy))⟩ (by decide) (by decide)
  · replace q1 : ¬ nM < 12 := fun z => q1 ((@nI_ltI nM 12 (by omega) (by omega)).mpr z)
    exact tr_ISE "no room for a method" C hl hno (by decide +kernel) dd_D_method_15 dd_D_method_18 dd_D_method_19 dd_D_method_21 dd_D_method_24 (by decide) (Nat.le_of_ble_eq_true rfl) (by decide) (by decide) (by decide) (by decide) (fun n' hn => ⟨rfl, by omega, Or.inr ⟨rfl, by omega, g0, hg0, rfl⟩⟩)
theorem cw_M_addAtom (l : Launch) (D : va_G) (dA : Nat → ClassId) (B : Nat) (h : zz_H) (n : Nat) (ad : Nat → Nat → Nat) (ng nM : Nat) (na no : Nat → Nat) (X : dk_X) (Y : dk_Y) (Z : dk_Z) (hP0 : dk_P dA ad (dk_lv ng nM na no) X Y Z h) (m0 a k0 : Nat) (hm : m0 < nM) (ha : dk_lv ng nM na no 33 a) (hk : k0 < 4) (ec : X 30 m0 3 = nI k0) (am an : Nat) (em : ad 30 m0 = am) (en : ad 33 a = an) : zz_M l D zz_cl (zz_ty dA) B zz_tb (zz_x B) yy_M_addAtom (Cond.code yy_M_addAtom bb_M_addAtom 2 (some FieldType.int)) rm_M_addAtom [.ref am, .ref an] h n zz_mi (fun r h' n' => n' = n ∧ r = nI (k0 + 1) ∧ dk_K dA ad (dk_lv ng nM na no) (dk_is X 30 m0 (upd (X 30 m0) 3 (nI (k0 + 1)))) Y (dk_is Z 31 m0 (va_up (Z 31 m0) k0 (some (ad 33 a)))) h h') := by
  subst em
  subst en
  exact cd_M_addAtom l D dA B h n ad ng nM na no X Y Z hP0 m0 a k0 hm ha hk ec
theorem cw_M_addOperation (l : Launch) (D : va_G) (dA : Nat → ClassId) (B : Nat) (h : zz_H) (n : Nat) (ad : Nat → Nat → Nat) (ng nM : Nat) (na no : Nat → Nat) (X : dk_X) (Y : dk_Y) (Z : dk_Z) (hP0 : dk_P dA ad (dk_lv ng nM na no) X Y Z h) (m0 a k0 : Nat) (hm : m0 < nM) (ha : dk_lv ng nM na no 34 a) (hk : k0 < 8) (ec : X 30 m0 5 = nI k0) (am an : Nat) (em : ad 30 m0 = am) (en : ad 34 a = an) : zz_M l D zz_cl (zz_ty dA) B zz_tb (zz_x B) yy_M_addOperation (Cond.code yy_M_addOperation bb_M_addOperation 2 (some FieldType.int)) rm_M_addOperation [.ref am, .ref an] h n zz_mi (fun r h' n' => n' = n ∧ r = nI (k0 + 1) ∧ dk_K dA ad (dk_lv ng nM na no) (dk_is X 30 m0 (upd (X 30 m0) 5 (nI (k0 + 1)))) Y (dk_is Z 32 m0 (va_up (Z 32 m0) k0 (some (ad 34 a)))) h h') := by
  subst em
  subst en
  exact cd_M_addOperation l D dA B h n ad ng nM na no X Y Z hP0 m0 a k0 hm ha hk ec
def dk_fa (a b c d : Int32) : Nat → Int32
  | 0 => a
  | 1 => b
  | 2 => c
  | _ => d
def dk_xa (X : dk_X) (m g a : Nat) (f : Nat → Int32) : dk_X := dk_is (dk_is (dk_is (dk_od X g) 0 0 (upd (dk_od X g 0 0) 7 0)) 33 (4 * m + a) f) 30 m (upd (X 30 m) 3 (nI (a + 1)))
def dk_xo (X : dk_X) (m a : Nat) (f : Nat → Int32) : dk_X := dk_is (dk_is X 34 (8 * m + a) f) 30 m (upd (X 30 m) 5 (nI (a + 1)))
abbrev rm_D_atom : Room := { frames := 12, cells := 4, slots := 30, locals := 260 }
set_option maxRecDepth 20000 in
/-- atom -/
theorem cd_D_atom (l : Launch) (D : va_G) (dA : Nat → ClassId) (B : Nat) (h : zz_H) (n : Nat) (ad : Nat → Nat → Nat) (ng nM : Nat) (na no : Nat → Nat) (X : dk_X) (Y : dk_Y) (Z : dk_Z) (hP0 : dk_P dA ad (dk_lv ng nM na no) X Y Z h) (F : Nat → Int32) (I : mq_M) (nc : Nat) (oc : Nat → Nat) (ow : Nat → Nat → Nat) (IV : dk_IV F ad ng nM na no X Y Z I nc oc ow) (hlt : ∀ k i, dk_lv ng nM na no k i → ad k i < n) (x1 x2 x3 x4 x5 : Int32) (hb : x5 = 0 ∨ x5 = 1) (hl : l.stackTraces = false) : zz_MX l D zz_cl (zz_ty dA) B zz_tb (zz_x B) yy_D_atom (Cond.code yy_D_atom bb_D_atom 7 (some FieldType.int)) rm_D_atom [.ref ((ad 0 0)), .int x1, .int x2, .int x3, .int x4, .int x5] h n zz_mi (fun r h' n' => n' = n + 1 ∧ ∃ m0 kd g0 ar, (m0 < nM ∧ x1 = nI m0 ∧ kd < 6 ∧ x2 = nI kd ∧ g0 < ng ∧ I 2 m0 = nI g0 ∧ (ar = 1 ∨ ar = 2) ∧ I 1 g0 = nI ar) ∧ pu_ain nc ar kd x3 x4 = true ∧ na m0 < 4 ∧ r = nI (na m0 + 1) ∧ dk_P dA (dk_a1 ad 33 (4 * m0 + na m0) n) (dk_lv ng nM (dk_inc na m0) no) (dk_xa X m0 g0 (na m0) (dk_fa (nI kd) (if 3 < kd then 0 else x3) (if 2 < kd then 0 else x4) x5)) Y (dk_is Z 31 m0 (va_up (Z 31 m0) (na m0) (some n))) h' ∧ (∀ k i, dk_lv ng nM (dk_inc na m0) no k i → dk_a1 ad 33 (4 * m0 + na m0) n k i < n') ∧ ∀ y, y < n → (∀ k i, dk_lv ng nM na no k i → y ≠ ad k i) → h' y = h y) (fun E h' n' => h' = h ∧ n ≤ n' ∧ ((E = "java/lang/IllegalArgumentException" ∧ ∀ m0 kd g0 ar, (m0 < nM ∧ x1 = nI m0 ∧ kd < 6 ∧ x2 = nI kd ∧ g0 < ng ∧ I 2 m0 = nI g0 ∧ (ar = 1 ∨ ar = 2) ∧ I 1 g0 = nI ar) → pu_ain nc ar kd x3 x4 = false) ∨ (E = "java/lang/IllegalStateException" ∧ ∃ m0 kd g0 ar, (m0 < nM ∧ x1 = nI m0 ∧ kd < 6 ∧ x2 = nI kd ∧ g0 < ng ∧ I 2 m0 = nI g0 ∧ (ar = 1 ∨ ar = 2) ∧ I 1 g0 = nI ar) ∧ pu_ain nc ar kd x3 x4 = true ∧ na m0 = 4))) := by
  refine zz_ofX (zz_f B) [some (.ref ((ad 0 0))), some (.int x1), some (.int x2), some (.int x3), some (.int x4), some (.int x5), none] (by decide) rfl rfl (Nat.le_of_ble_eq_true rfl) ?_
  intro p e s m below meth c C hno
  have hP := dk_rf hP0
  have Wp := IV.1.1
  have g4 := Wp.g4
  have m12 := Wp.m12
  have h8 := Wp.c8
  have h1 := Wp.c1
  refine z_aload_n C dd_D_atom_0 rfl ?_
  refine z_iload_n C dd_D_atom_1 rfl ?_
  refine ix_D_104 (sk := fun r => .ref r :: []) (zz_f B) C dd_D_atom_2 (cc_D_methodAt l D dA B _ _ (ad 0 0) _ _ _ _ _ _ _ _ _ _ (dk_rd (k := 0) (i := 0) (x := (X 0 0)) (y := (Y 0 0)) (z := (Z 0 0)) hP rfl rfl rfl rfl) x1 (Z 4 0) (dk_rd (k := 4) (i := 0) (x := (X 4 0)) (y := (Y 4 0)) (z := (Z 4 0)) hP rfl rfl rfl rfl) (fun a b => dk_gat_h m12 (by decide) IV.2.2.1.2.2.2.1 a (by rw [← IV.2.2.1.2.1]; exact b)) hl) hno (dk_rd (k := 0) (i := 0) (x := (X 0 0)) (y := (Y 0 0)) (z := (Z 0 0)) hP rfl rfl rfl rfl) rfl rfl ⟨by decide, by decide⟩ (Nat.le_of_ble_eq_true rfl) ⟨by decide, by decide⟩ (fun _ => rfl) (fun E h' n' p9 => ⟨p9.2.1, p9.2.2.1, Or.inl ⟨p9.1, fun m9 k9 g9 r9 z => absurd z.2.1 (dk_gat_n (by omega) (by rw [← IV.2.2.1.2.1]; exact p9.2.2.2) m9 z.1)⟩⟩) (by decide) (by decide) (fun a1_ h1_ n1_ p1_ => ?_)
  obtain ⟨e1_, f1_, v1_, w1_, x1_⟩ := p1_
  have e1z := e1_.symm
  have f1z := f1_.symm
  subst e1z
  subst f1z
  rw [IV.2.2.1.2.1] at x1_
  obtain ⟨m0, hm0, rfl, rfl⟩ := dk_gat_p (by omega) IV.2.2.1.2.2.2.1 v1_ w1_ x1_
  obtain ⟨g0, hg0, og⟩ := Wp.own m0 hm0
  have emo : mq_of I m0 = g0 := by unfold mq_of; rw [og, nI_clamp (by omega)]
  have ez : Z 30 m0 1 = some (ad 20 g0) := by have q := (IV.2.2.2 m0 hm0).1; rw [emo] at q; exact q
  obtain ⟨ar, har2, har⟩ := Wp.ar g0 hg0
  have ear : X 20 g0 0 = nI ar := by rw [(IV.2.1 g0 hg0).1.2.2.1]; unfold mq_ar; rw [har, nI_clamp (by omega)]
  obtain ⟨bm1, bm2, bm3, bm4, bm5⟩ := IV.1.2.1.2.2.2.2 m0 hm0
  obtain ⟨om1, om2, om3, om4, om5⟩ := IV.2.2.2 m0 hm0
  refine z_astore C dd_D_atom_5 rfl ?_
  refine z_aload_n C dd_D_atom_7 rfl ?_
  refine z_iload_n C dd_D_atom_8 rfl ?_
  refine z_iload_n C dd_D_atom_9 rfl ?_
  refine z_iload C dd_D_atom_10 rfl ?_
  refine z_aload C dd_D_atom_12 rfl ?_
  refine gf_D_108 (v := .ref ((Z 30 m0 1).getD 0)) C dd_D_atom_14 (dk_rd (k := 30) (i := m0) (x := (X 30 m0)) (y := (Y 30 m0)) (z := (Z 30 m0)) hP hm0 rfl rfl rfl) rfl ?_
  refine z_topr (y := ad 20 g0) (by rw [ez]; rfl) ?_
  refine gf_D_112 (v := .int (X 20 g0 0)) C dd_D_atom_17 (dk_rd (k := 20) (i := g0) (x := (X 20 g0)) (y := (Y 20 g0)) (z := (Z 20 g0)) hP hg0 rfl rfl rfl) rfl ?_
  refine z_topi (y := nI ar) ear.symm ?_
  refine iv_D_115 (sk := fun r => .int r :: []) (zz_f B) C dd_D_atom_20 (cd_D_isAtom l D dA B _ _ ad ng nM na no X Y Z hP.1 nc ar h8 IV.1.2.1.1.1 har2 x2 x3 x4) (dk_rd (k := 0) (i := 0) (x := (X 0 0)) (y := (Y 0 0)) (z := (Z 0 0)) hP rfl rfl rfl rfl) rfl rfl ⟨by decide, by decide⟩ (Nat.le_of_ble_eq_true rfl) ⟨by decide, by decide⟩ (fun _ => rfl) (fun v2_ h2_ n2_ p2_ => ?_)
  obtain ⟨f2_, e2_, p2_⟩ := p2_
  have e2z := e2_.symm
  have f2z := f2_.symm
  subst e2z
  subst f2z
  rcases p2_ with ⟨kd, hkd, rfl, rfl⟩ | ⟨ck, rfl⟩
  · skip
    refine z_if_ne (tgt := 36) C dd_D_atom_23 (by decide) (fun q1 => ?_) (fun q1 => ?_)
    · skip
      refine z_aload C dd_D_atom_36 rfl ?_
      refine gf_D_121 (v := .int (X 30 m0 3)) C dd_D_atom_38 (dk_rd (k := 30) (i := m0) (x := (X 30 m0)) (y := (Y 30 m0)) (z := (Z 30 m0)) hP hm0 rfl rfl rfl) rfl ?_
      refine z_topi (y := nI (na m0)) bm2.symm ?_
      refine z_iconst (v := 4) C dd_D_atom_41 (by decide) ?_
      refine z_icmp_lt (tgt := 55) C dd_D_atom_42 (by decide) (fun q2 => ?_) (fun q2 => ?_)
      · replace q2 : (na m0) < 4 := (@nI_ltI (na m0) 4 (by omega) (by omega)).mp q2
        refine z_aload C dd_D_atom_55 rfl ?_
        refine gf_D_108 (v := .ref ((Z 30 m0 1).getD 0)) C dd_D_atom_57 (dk_rd (k := 30) (i := m0) (x := (X 30 m0)) (y := (Y 30 m0)) (z := (Z 30 m0)) hP hm0 rfl rfl rfl) rfl ?_
        refine z_topr (y := ad 20 g0) (by rw [ez]; rfl) ?_
        refine iv_D_78 (sk := fun _ => []) (zz_f B) C dd_D_atom_60 (cd_G_outdate l D dA B _ _ ad ng nM na no X Y Z hP.1 g0 hg0) (dk_rd (k := 20) (i := g0) (x := (X 20 g0)) (y := (Y 20 g0)) (z := (Z 20 g0)) hP hg0 rfl rfl rfl) rfl rfl ⟨by decide, by decide⟩ (Nat.le_of_ble_eq_true rfl) ⟨by decide, by decide⟩ (fun _ => rfl) (fun _ h3_ n3_ p3_ => ?_)
        obtain ⟨rfl, p3_⟩ := p3_
        have hP3_ := dk_tr hP p3_
        refine z_aload_n C dd_D_atom_63 rfl ?_
        refine z_iconst (v := 0) C dd_D_atom_64 (by decide) ?_
        refine pf_D_49 C dd_D_atom_65 (dk_rd (k := 0) (i := 0) (x := ((dk_od X g0) 0 0)) (y := (Y 0 0)) (z := (Z 0 0)) hP3_ rfl rfl rfl rfl) (Nat.le_of_ble_eq_true rfl) rfl rfl ?_
        refine z_cut (dk_K dA ad (dk_lv ng nM na no) (dk_is (dk_od X g0) 0 0 (upd ((dk_od X g0) 0 0) 7 0)) Y Z h) (dk_wX hP3_ rfl rfl rfl rfl) rfl rfl rfl (fun h4_ hP4_ => ?_)
        refine z_aload C dd_D_atom_68 rfl ?_
        refine z_iload_n C dd_D_atom_70 rfl ?_
        refine z_iload_n C dd_D_atom_71 rfl ?_
        refine z_iload C dd_D_atom_72 rfl ?_
        refine z_iload C dd_D_atom_74 rfl ?_
        refine is_D_126 (sk := fun r => .ref r :: [.ref ((ad 30 m0))]) (zz_f B) C dd_D_atom_76 (cd_A_plainest l D dA B _ _ kd hkd x3 x4 x5 hb) rfl rfl ⟨by decide, by decide⟩ (Nat.le_of_ble_eq_true rfl) ⟨by decide, by decide⟩ (fun _ => rfl) (fun a2 h2 n2 p2 => ?_)
        obtain ⟨rfl, rfl, k1, k2⟩ := p2
        have hna : na m0 < 4 := q2
        have PN := dk_new1 (f := (dk_fa (nI kd) (if 3 < kd then 0 else x3) (if 2 < kd then 0 else x4) x5)) (lv' := dk_lv ng nM (dk_inc na m0) no) (k0 := 33) (i0 := 4 * m0 + na m0) (n := a2) (h' := h2) (Or.inl rfl) (fun _ _ => dk_lv_A hna) (fun _ _ => dk_lv_nA hna) hP4_.1 hlt k2 k1
        have e30 : dk_is (dk_is (dk_od X g0) 0 0 (upd (dk_od X g0 0 0) 7 0)) 33 (4 * m0 + na m0) (dk_fa (nI kd) (if 3 < kd then 0 else x3) (if 2 < kd then 0 else x4) x5) 30 m0 = X 30 m0 := by rw [dk_n (by omega), dk_n (by omega), dk_od_n (by omega)]
        have hl33 : dk_lv ng nM (dk_inc na m0) no 33 (4 * m0 + na m0) := by
          show _ ∧ _ < dk_inc na m0 ((4 * m0 + na m0) / 4)
          rw [show (4 * m0 + na m0) / 4 = m0 by omega]
          unfold dk_inc
          rw [if_pos rfl]
          omega
        have ead : dk_a1 ad 33 (4 * m0 + na m0) a2 30 m0 = ad 30 m0 := if_neg (by omega)
        have ean : dk_a1 ad 33 (4 * m0 + na m0) a2 33 (4 * m0 + na m0) = a2 := if_pos ⟨rfl, rfl⟩
        have hm9 := PN.1 30 m0 hm0
        rw [ead] at hm9
        refine iv_D_132 (sk := fun r => [.int r]) (zz_f B) C dd_D_atom_79 (cw_M_addAtom l D dA B _ _ _ _ _ _ _ _ _ _ PN m0 (4 * m0 + na m0) (na m0) hm0 hl33 hna (by rw [e30]; exact bm2) (ad 30 m0) a2 ead ean) hm9 rfl rfl ⟨by decide, by decide⟩ (Nat.le_of_ble_eq_true rfl) ⟨by decide, by decide⟩ (fun _ => rfl) (fun r3 h3 n3 p3 => ?_)
        obtain ⟨rfl, rfl, p3⟩ := p3
        rw [e30, ean] at p3
        exact z_iretX C dd_D_atom_82 ⟨rfl, m0, kd, g0, ar, ⟨hm0, rfl, hkd, rfl, hg0, og, har2, har⟩, pu_bn1.mp q1, hna, rfl, p3.1, fun k i hl => dk_gl (ad' := dk_a1 ad 33 (4 * m0 + na m0) a2) (d := 1) (fun _ _ => dk_lv_A hna) (fun k i z => by obtain ⟨rfl, rfl⟩ := z; rw [ean]; omega) (fun k i hl => if_neg (dk_lv_nA hna hl)) hlt k i hl, fun y hy hn => (p3.2 y (dk_gf (ad' := dk_a1 ad 33 (4 * m0 + na m0) a2) (fun _ _ => dk_lv_A hna) (fun k i z => by obtain ⟨rfl, rfl⟩ := z; rw [ean]; omega) (fun k i hl => if_neg (dk_lv_nA hna hl)) hy hn)).trans ((k2 y hy).trans (hP4_.2 y hn))⟩ (by decide) (by decide)
      · replace q2 : ¬ (na m0) < 4 := fun z => q2 ((@nI_ltI (na m0) 4 (by omega) (by omega)).mpr z)
        exact tr_ISE "no room for an atom" C hl hno (by decide +kernel) dd_D_atom_45 dd_D_atom_48 dd_D_atom_49 dd_D_atom_51 dd_D_atom_54 (by decide) (Nat.le_of_ble_eq_true rfl) (by decide) (by decide) (by decide) (by decide) (fun n' hn => ⟨rfl, by omega, Or.inr ⟨rfl, m0, kd, g0, ar, ⟨hm0, rfl, hkd, rfl, hg0, og, har2, har⟩, pu_bn1.mp q1, by omega⟩⟩)
    · skip
      exact tr_IAE "no such atom" C hl hno (by decide +kernel) dd_D_atom_26 dd_D_atom_29 dd_D_atom_30 dd_D_atom_32 dd_D_atom_35 (by decide) (Nat.le_of_ble_eq_true rfl) (by decide) (by decide) (by decide) (by decide) (fun n' hn => ⟨rfl, by omega, Or.inl ⟨rfl, fun m9 k9 g9 r9 z => by have q1 : m9 = m0 := ((nI_eq (by omega) (by have := z.1; omega)).mp z.2.1).symm; subst q1; have q2 : g9 = g0 := (nI_eq (by have := z.2.2.2.2.1; omega) (by omega)).mp (z.2.2.2.2.2.1.symm.trans og); subst q2; have q3 : r9 = ar := (nI_eq (by have := z.2.2.2.2.2.2.1; omega) (by omega)).mp (z.2.2.2.2.2.2.2.symm.trans har); subst q3; have q4 : kd = k9 := (nI_eq (by omega) (by have := z.2.2.1; omega)).mp z.2.2.2.1; subst q4; exact (pu_b0 _).mp q1⟩⟩)
  · skip
    refine z_if_ne (tgt := 36) C dd_D_atom_23 (by decide) (fun q3 => absurd (by decide) q3) (fun q3 => ?_)
    exact tr_IAE "no such atom" C hl hno (by decide +kernel) dd_D_atom_26 dd_D_atom_29 dd_D_atom_30 dd_D_atom_32 dd_D_atom_35 (by decide) (Nat.le_of_ble_eq_true rfl) (by decide) (by decide) (by decide) (by decide) (fun n' hn => ⟨rfl, by omega, Or.inl ⟨rfl, fun m9 k9 g9 r9 z => absurd z.2.2.2.1 (ck k9 z.2.2.1)⟩⟩)
abbrev rm_D_operation : Room := { frames := 12, cells := 4, slots := 30, locals := 260 }
set_option maxRecDepth 20000 in
/-- operation -/
theorem cd_D_operation (l : Launch) (D : va_G) (dA : Nat → ClassId) (B : Nat) (h : zz_H) (n : Nat) (ad : Nat → Nat → Nat) (ng nM : Nat) (na no : Nat → Nat) (X : dk_X) (Y : dk_Y) (Z : dk_Z) (hP0 : dk_P dA ad (dk_lv ng nM na no) X Y Z h) (F : Nat → Int32) (I : mq_M) (nc : Nat) (oc : Nat → Nat) (ow : Nat → Nat → Nat) (IV : dk_IV F ad ng nM na no X Y Z I nc oc ow) (hlt : ∀ k i, dk_lv ng nM na no k i → ad k i < n) (x1 x2 x3 : Int32) (hl : l.stackTraces = false) : zz_MX l D zz_cl (zz_ty dA) B zz_tb (zz_x B) yy_D_operation (Cond.code yy_D_operation bb_D_operation 5 (some FieldType.int)) rm_D_operation [.ref ((ad 0 0)), .int x1, .int x2, .int x3] h n zz_mi (fun r h' n' => n' = n + 1 ∧ ∃ m0 kd g0 ar, (m0 < nM ∧ x1 = nI m0 ∧ kd < 7 ∧ x2 = nI kd ∧ g0 < ng ∧ I 2 m0 = nI g0 ∧ (ar = 1 ∨ ar = 2) ∧ I 1 g0 = nI ar) ∧ pu_oin nc ng ar kd x3 = true ∧ no m0 < 8 ∧ r = nI (no m0 + 1) ∧ dk_P dA (dk_a1 ad 34 (8 * m0 + no m0) n) (dk_lv ng nM na (dk_inc no m0)) (dk_xo X m0 (no m0) (dk_fa (nI kd) x3 0 0)) Y (dk_is Z 32 m0 (va_up (Z 32 m0) (no m0) (some n))) h' ∧ (∀ k i, dk_lv ng nM na (dk_inc no m0) k i → dk_a1 ad 34 (8 * m0 + no m0) n k i < n') ∧ ∀ y, y < n → (∀ k i, dk_lv ng nM na no k i → y ≠ ad k i) → h' y = h y) (fun E h' n' => h' = h ∧ n ≤ n' ∧ ((E = "java/lang/IllegalArgumentException" ∧ ∀ m0 kd g0 ar, (m0 < nM ∧ x1 = nI m0 ∧ kd < 7 ∧ x2 = nI kd ∧ g0 < ng ∧ I 2 m0 = nI g0 ∧ (ar = 1 ∨ ar = 2) ∧ I 1 g0 = nI ar) → pu_oin nc ng ar kd x3 = false) ∨ (E = "java/lang/IllegalStateException" ∧ ∃ m0 kd g0 ar, (m0 < nM ∧ x1 = nI m0 ∧ kd < 7 ∧ x2 = nI kd ∧ g0 < ng ∧ I 2 m0 = nI g0 ∧ (ar = 1 ∨ ar = 2) ∧ I 1 g0 = nI ar) ∧ pu_oin nc ng ar kd x3 = true ∧ no m0 = 8))) := by
  refine zz_ofX (zz_f B) [some (.ref ((ad 0 0))), some (.int x1), some (.int x2), some (.int x3), none] (by decide) rfl rfl (Nat.le_of_ble_eq_true rfl) ?_
  intro p e s m below meth c C hno
  have hP := dk_rf hP0
  have Wp := IV.1.1
  have g4 := Wp.g4
  have m12 := Wp.m12
  have h8 := Wp.c8
  have h1 := Wp.c1
  refine z_aload_n C dd_D_operation_0 rfl ?_
  refine z_iload_n C dd_D_operation_1 rfl ?_
  refine ix_D_104 (sk := fun r => .ref r :: []) (zz_f B) C dd_D_operation_2 (cc_D_methodAt l D dA B _ _ (ad 0 0) _ _ _ _ _ _ _ _ _ _ (dk_rd (k := 0) (i := 0) (x := (X 0 0)) (y := (Y 0 0)) (z := (Z 0 0)) hP rfl rfl rfl rfl) x1 (Z 4 0) (dk_rd (k := 4) (i := 0) (x := (X 4 0)) (y := (Y 4 0)) (z := (Z 4 0)) hP rfl rfl rfl rfl) (fun a b => dk_gat_h m12 (by decide) IV.2.2.1.2.2.2.1 a (by rw [← IV.2.2.1.2.1]; exact b)) hl) hno (dk_rd (k := 0) (i := 0) (x := (X 0 0)) (y := (Y 0 0)) (z := (Z 0 0)) hP rfl rfl rfl rfl) rfl rfl ⟨by decide, by decide⟩ (Nat.le_of_ble_eq_true rfl) ⟨by decide, by decide⟩ (fun _ => rfl) (fun E h' n' p9 => ⟨p9.2.1, p9.2.2.1, Or.inl ⟨p9.1, fun m9 k9 g9 r9 z => absurd z.2.1 (dk_gat_n (by omega) (by rw [← IV.2.2.1.2.1]; exact p9.2.2.2) m9 z.1)⟩⟩) (by decide) (by decide) (fun a1_ h1_ n1_ p1_ => ?_)
  obtain ⟨e1_, f1_, v1_, w1_, x1_⟩ := p1_
  have e1z := e1_.symm
  have f1z := f1_.symm
  subst e1z
  subst f1z
  rw [IV.2.2.1.2.1] at x1_
  obtain ⟨m0, hm0, rfl, rfl⟩ := dk_gat_p (by omega) IV.2.2.1.2.2.2.1 v1_ w1_ x1_
  obtain ⟨g0, hg0, og⟩ := Wp.own m0 hm0
  have emo : mq_of I m0 = g0 := by unfold mq_of; rw [og, nI_clamp (by omega)]
  have ez : Z 30 m0 1 = some (ad 20 g0) := by have q := (IV.2.2.2 m0 hm0).1; rw [emo] at q; exact q
  obtain ⟨ar, har2, har⟩ := Wp.ar g0 hg0
  have ear : X 20 g0 0 = nI ar := by rw [(IV.2.1 g0 hg0).1.2.2.1]; unfold mq_ar; rw [har, nI_clamp (by omega)]
  obtain ⟨bm1, bm2, bm3, bm4, bm5⟩ := IV.1.2.1.2.2.2.2 m0 hm0
  obtain ⟨om1, om2, om3, om4, om5⟩ := IV.2.2.2 m0 hm0
  refine z_astore C dd_D_operation_5 rfl ?_
  refine z_aload_n C dd_D_operation_7 rfl ?_
  refine z_iload_n C dd_D_operation_8 rfl ?_
  refine z_iload_n C dd_D_operation_9 rfl ?_
  refine z_aload C dd_D_operation_10 rfl ?_
  refine gf_D_108 (v := .ref ((Z 30 m0 1).getD 0)) C dd_D_operation_12 (dk_rd (k := 30) (i := m0) (x := (X 30 m0)) (y := (Y 30 m0)) (z := (Z 30 m0)) hP hm0 rfl rfl rfl) rfl ?_
  refine z_topr (y := ad 20 g0) (by rw [ez]; rfl) ?_
  refine gf_D_112 (v := .int (X 20 g0 0)) C dd_D_operation_15 (dk_rd (k := 20) (i := g0) (x := (X 20 g0)) (y := (Y 20 g0)) (z := (Z 20 g0)) hP hg0 rfl rfl rfl) rfl ?_
  refine z_topi (y := nI ar) ear.symm ?_
  refine iv_D_136 (sk := fun r => .int r :: []) (zz_f B) C dd_D_operation_18 (cd_D_isOperation l D dA B _ _ ad ng nM na no X Y Z hP.1 nc ar h8 g4 IV.1.2.1.1.1 IV.2.2.1.1 har2 x2 x3) (dk_rd (k := 0) (i := 0) (x := (X 0 0)) (y := (Y 0 0)) (z := (Z 0 0)) hP rfl rfl rfl rfl) rfl rfl ⟨by decide, by decide⟩ (Nat.le_of_ble_eq_true rfl) ⟨by decide, by decide⟩ (fun _ => rfl) (fun v2_ h2_ n2_ p2_ => ?_)
  obtain ⟨f2_, e2_, p2_⟩ := p2_
  have e2z := e2_.symm
  have f2z := f2_.symm
  subst e2z
  subst f2z
  rcases p2_ with ⟨kd, hkd, rfl, rfl⟩ | ⟨ck, rfl⟩
  · skip
    refine z_if_ne (tgt := 34) C dd_D_operation_21 (by decide) (fun q1 => ?_) (fun q1 => ?_)
    · skip
      refine z_aload C dd_D_operation_34 rfl ?_
      refine gf_D_142 (v := .int (X 30 m0 5)) C dd_D_operation_36 (dk_rd (k := 30) (i := m0) (x := (X 30 m0)) (y := (Y 30 m0)) (z := (Z 30 m0)) hP hm0 rfl rfl rfl) rfl ?_
      refine z_topi (y := nI (no m0)) om2.symm ?_
      refine z_bipush (v := 8) C dd_D_operation_39 (by decide) ?_
      refine z_icmp_lt (tgt := 54) C dd_D_operation_41 (by decide) (fun q2 => ?_) (fun q2 => ?_)
      · replace q2 : (no m0) < 8 := (@nI_ltI (no m0) 8 (by omega) (by omega)).mp q2
        refine z_aload C dd_D_operation_54 rfl ?_
        refine nw_D_147 C dd_D_operation_56 (by decide) (by decide) ?_
        have hno8 : no m0 < 8 := q2
        refine z_dup C dd_D_operation_59 rfl ?_
        refine z_iload_n C dd_D_operation_60 rfl ?_
        refine z_iload_n C dd_D_operation_61 rfl ?_
        refine ii_D_149 (sk := fun _ => [.ref n, .ref ((ad 30 m0))]) (zz_f B) C dd_D_operation_62 (cc_O_init l D dA B _ _ n (nI kd) x3 (zz_us _ _ _) (by omega)) rfl rfl ⟨by decide, by decide⟩ (Nat.le_of_ble_eq_true rfl) ⟨by decide, by decide⟩ (fun _ => rfl) (fun _ h2 n2 p2 => ?_)
        obtain ⟨rfl, k1, k3⟩ := p2
        have k2 : ∀ y, y < n → h2 y = h y := fun y hy => (k3 y (by omega) (by omega)).trans (zz_un (by omega))
        have PN := dk_new1 (f := (dk_fa (nI kd) x3 0 0)) (lv' := dk_lv ng nM na (dk_inc no m0)) (k0 := 34) (i0 := 8 * m0 + no m0) (n := n) (h' := h2) (Or.inr rfl) (fun _ _ => dk_lv_O hno8) (fun _ _ => dk_lv_nO hno8) hP0 hlt k2 k1
        have e30 : dk_is X 34 (8 * m0 + no m0) (dk_fa (nI kd) x3 0 0) 30 m0 = X 30 m0 := dk_n (by omega)
        have hl34 : dk_lv ng nM na (dk_inc no m0) 34 (8 * m0 + no m0) := by
          show _ ∧ _ < dk_inc no m0 ((8 * m0 + no m0) / 8)
          rw [show (8 * m0 + no m0) / 8 = m0 by omega]
          unfold dk_inc
          rw [if_pos rfl]
          omega
        have ead : dk_a1 ad 34 (8 * m0 + no m0) n 30 m0 = ad 30 m0 := if_neg (by omega)
        have ean : dk_a1 ad 34 (8 * m0 + no m0) n 34 (8 * m0 + no m0) = n := if_pos ⟨rfl, rfl⟩
        have hm9 := PN.1 30 m0 hm0
        rw [ead] at hm9
        refine iv_D_152 (sk := fun r => [.int r]) (zz_f B) C dd_D_operation_65 (cw_M_addOperation l D dA B _ _ _ _ _ _ _ _ _ _ PN m0 (8 * m0 + no m0) (no m0) hm0 hl34 hno8 (by rw [e30]; exact om2) (ad 30 m0) n ead ean) hm9 rfl rfl ⟨by decide, by decide⟩ (Nat.le_of_ble_eq_true rfl) ⟨by decide, by decide⟩ (fun _ => rfl) (fun r3 h3 n3 p3 => ?_)
        obtain ⟨rfl, rfl, p3⟩ := p3
        rw [e30, ean] at p3
        exact z_iretX C dd_D_operation_68 ⟨rfl, m0, kd, g0, ar, ⟨hm0, rfl, hkd, rfl, hg0, og, har2, har⟩, pu_bn1.mp q1, hno8, rfl, p3.1, fun k i hl => dk_gl (ad' := dk_a1 ad 34 (8 * m0 + no m0) n) (d := 1) (fun _ _ => dk_lv_O hno8) (fun k i z => by obtain ⟨rfl, rfl⟩ := z; rw [ean]; omega) (fun k i hl => if_neg (dk_lv_nO hno8 hl)) hlt k i hl, fun y hy hn => (p3.2 y (dk_gf (ad' := dk_a1 ad 34 (8 * m0 + no m0) n) (fun _ _ => dk_lv_O hno8) (fun k i z => by obtain ⟨rfl, rfl⟩ := z; rw [ean]; omega) (fun k i hl => if_neg (dk_lv_nO hno8 hl)) hy hn)).trans (k2 y hy)⟩ (by decide) (by decide)
      · replace q2 : ¬ (no m0) < 8 := fun z => q2 ((@nI_ltI (no m0) 8 (by omega) (by omega)).mpr z)
        exact tr_ISE "no room for an operation" C hl hno (by decide +kernel) dd_D_operation_44 dd_D_operation_47 dd_D_operation_48 dd_D_operation_50 dd_D_operation_53 (by decide) (Nat.le_of_ble_eq_true rfl) (by decide) (by decide) (by decide) (by decide) (fun n' hn => ⟨rfl, by omega, Or.inr ⟨rfl, m0, kd, g0, ar, ⟨hm0, rfl, hkd, rfl, hg0, og, har2, har⟩, pu_bn1.mp q1, by omega⟩⟩)
    · skip
      exact tr_IAE "no such operation" C hl hno (by decide +kernel) dd_D_operation_24 dd_D_operation_27 dd_D_operation_28 dd_D_operation_30 dd_D_operation_33 (by decide) (Nat.le_of_ble_eq_true rfl) (by decide) (by decide) (by decide) (by decide) (fun n' hn => ⟨rfl, by omega, Or.inl ⟨rfl, fun m9 k9 g9 r9 z => by have q1 : m9 = m0 := ((nI_eq (by omega) (by have := z.1; omega)).mp z.2.1).symm; subst q1; have q2 : g9 = g0 := (nI_eq (by have := z.2.2.2.2.1; omega) (by omega)).mp (z.2.2.2.2.2.1.symm.trans og); subst q2; have q3 : r9 = ar := (nI_eq (by have := z.2.2.2.2.2.2.1; omega) (by omega)).mp (z.2.2.2.2.2.2.2.symm.trans har); subst q3; have q4 : kd = k9 := (nI_eq (by omega) (by have := z.2.2.1; omega)).mp z.2.2.2.1; subst q4; exact (pu_b0 _).mp q1⟩⟩)
  · skip
    refine z_if_ne (tgt := 34) C dd_D_operation_21 (by decide) (fun q3 => absurd (by decide) q3) (fun q3 => ?_)
    exact tr_IAE "no such operation" C hl hno (by decide +kernel) dd_D_operation_24 dd_D_operation_27 dd_D_operation_28 dd_D_operation_30 dd_D_operation_33 (by decide) (Nat.le_of_ble_eq_true rfl) (by decide) (by decide) (by decide) (by decide) (fun n' hn => ⟨rfl, by omega, Or.inl ⟨rfl, fun m9 k9 g9 r9 z => absurd z.2.2.2.1 (ck k9 z.2.2.1)⟩⟩)
