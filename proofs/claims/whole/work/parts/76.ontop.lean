abbrev rm_N_call (k : Nat) : Room := { frames := 20 + 5 * k, cells := 0, slots := 0, locals := 600 + 200 * k }
abbrev rm_N_callNext (k : Nat) : Room := { frames := 20 + 5 * k, cells := 0, slots := 0, locals := 600 + 200 * k }
abbrev rm_N_callOnTop (k : Nat) : Room := { frames := 21 + 5 * k, cells := 0, slots := 0, locals := 640 + 200 * k }
abbrev rm_N_step (k : Nat) : Room := { frames := 22 + 5 * k, cells := 0, slots := 0, locals := 680 + 200 * k }
abbrev rm_N_perform (k : Nat) : Room := { frames := 23 + 5 * k, cells := 0, slots := 0, locals := 730 + 200 * k }
/-- call, where k levels are left -/
def dk_CT (l : Launch) (D : va_G) (dA : Nat → ClassId) (B : Nat) (F : Nat → Int32) (ad : Nat → Nat → Nat) (ng nM : Nat) (na no : Nat → Nat) (I : mq_M) (nc : Nat) (oc : Nat → Nat) (ow tf : Nat → Nat → Nat) (k : Nat) : Prop := ∀ (h : zz_H) (n : Nat) (X : dk_X) (Y : dk_Y) (Z : dk_Z) (fs : List mq_F) (g x y fu th re : Nat), dk_P dA ad (dk_lv ng nM na no) X Y Z h → dk_RW F ad ng nM na no X Y Z I nc oc ow tf → fs.length + k = 8 → g < ng → x < 8 * nc → y < 8 * nc → (mq_ar I g = 1 → y = 0) → X 7 0 0 = nI fu → fu ≤ 200 → X 7 0 1 = nI th → zz_M l D zz_cl (zz_ty dA) B zz_tb (zz_x B) yy_N_call (Cond.code yy_N_call bb_N_call 9 (some FieldType.int)) (rm_N_call k) [.ref (ad 7 0), .ref (ad 20 g), .int (nI x), .int (nI y), .int (nI fs.length)] h n zz_mi (fun r h' n' => n' = n ∧ ∃ X' Y' Z', dk_K dA ad (dk_lv ng nM na no) X' Y' Z' h h' ∧ dk_fz fs.length X X' Y Y' Z Z' ∧ (∀ g9, g9 < ng → dk_ch X' Y' (ow g9) g9 (oc g9)) ∧ dk_rs I nc nM (mq_enter (mq_ch I nc nM g x y) x y fu th fs re) fs r X')
/-- callNext, where k levels are left -/
def dk_NT (l : Launch) (D : va_G) (dA : Nat → ClassId) (B : Nat) (F : Nat → Int32) (ad : Nat → Nat → Nat) (ng nM : Nat) (na no : Nat → Nat) (I : mq_M) (nc : Nat) (oc : Nat → Nat) (ow tf : Nat → Nat → Nat) (k : Nat) : Prop := ∀ (h : zz_H) (n : Nat) (X : dk_X) (Y : dk_Y) (Z : dk_Z) (fs : List mq_F) (m x y a d : Nat) (st : List Nat) (fu th re : Nat), dk_P dA ad (dk_lv ng nM na no) X Y Z h → dk_RW F ad ng nM na no X Y Z I nc oc ow tf → fs.length + k = 8 → d < 8 → dk_m1 ad X Z d (m, x, y, a, st) → m < nM → x < 8 * nc → y < 8 * nc → (mq_ar I (mq_of I m) = 1 → y = 0) → X 7 0 0 = nI fu → fu ≤ 200 → X 7 0 1 = nI th → zz_M l D zz_cl (zz_ty dA) B zz_tb (zz_x B) yy_N_callNext (Cond.code yy_N_callNext bb_N_callNext 8 (some FieldType.int)) (rm_N_callNext k) [.ref (ad 7 0), .ref (ad 9 d), .int (nI fs.length)] h n zz_mi (fun r h' n' => n' = n ∧ ∃ X' Y' Z', dk_K dA ad (dk_lv ng nM na no) X' Y' Z' h h' ∧ dk_fz fs.length X X' Y Y' Z Z' ∧ (∀ g9, g9 < ng → dk_ch X' Y' (ow g9) g9 (oc g9)) ∧ dk_rs I nc nM (mq_enter (mq_cn I nc nM m x y, 0) x y fu th fs re) fs r X')
theorem dk_back {I : mq_M} {nc nM m x y a : Nat} {st : List Nat} {fs : List mq_F} {z : mq_S} {r : Int32} {X' : dk_X} (q : dk_rs I nc nM z ((m, x, y, a, st) :: fs) r X') (hr : ¬ r < 0) : ∃ j fu th v, r = nI v ∧ v < 8 * nc ∧ fu ≤ 200 ∧ X' 7 0 0 = nI fu ∧ X' 7 0 1 = nI th ∧ mq_pt I nc nM j z (mq_push v fu th m x y a st fs v) := by
  obtain ⟨j, z1, q1, q2, q3, q4, q5⟩ := q
  rcases q5 with ⟨q6, _⟩ | ⟨fu, th, m2, x2, y2, a2, st2, re, rfl, q7, q8, q9⟩
  · exact absurd q6 hr
  · refine ⟨j + 1, fu, th, st2.headD x2, q8, q9, q4, q2, q3, mq_pt_tr (b := (fu, th, (m2, x2, y2, a2, st2) :: (m, x, y, a, st) :: fs, 0, re)) ?_ j z q1⟩
    refine ⟨by simp, rfl, ?_⟩
    show mq_step I nc nM _ = _
    rw [mq_step, if_neg q7]
    rfl
/-- a value came back: it is pushed -/
theorem dk_back_v {I : mq_M} {nc nM m x y a : Nat} {st : List Nat} {fs : List mq_F} {z : mq_S} {r : Int32} {X1 X2 : dk_X} {j fu th v rz : Nat} (h : mq_pt I nc nM j z (mq_push v fu th m x y a st fs rz)) (hv : v < 8 * nc) (h8 : 8 * nc ≤ 64) (hf : fu ≤ 200) (e0 : X1 7 0 0 = nI fu) (e1 : X1 7 0 1 = nI th) (hs : ∀ w : Nat, w ∈ st → w < 8 * nc) (pp : (st.length = 6 ∧ r = -4 ∧ X2 = X1) ∨ (st.length < 6 ∧ r = nI v ∧ dk_fm X2 fs.length (v :: st) ∧ dk_fd fs.length X1 X2)) : dk_rt I nc nM z m x y a fs r X2 := by
  rcases pp with ⟨p1, rfl, rfl⟩ | ⟨p1, rfl, p3, p4⟩
  · unfold mq_push at h
    rw [if_pos p1] at h
    exact ⟨j, _, h, e0, e1, hf, Or.inl ⟨by decide, rfl⟩⟩
  · unfold mq_push at h
    rw [if_neg (by omega)] at h
    refine ⟨j, _, h, by rw [p4.1 7 0 (by omega)]; exact e0, by rw [p4.1 7 0 (by omega)]; exact e1, hf, Or.inr ⟨nI_pos (by omega), fu, th, v :: st, rz, rfl, p3, fun w hw => ?_⟩⟩
    rcases List.mem_cons.mp hw with e | e
    · rw [e]; exact hv
    · exact hs w e
theorem dk_fd_fz {d : Nat} {X X' : dk_X} {Y : dk_Y} {Z : dk_Z} (a : dk_fd d X X') : dk_fz d X X' Y Y Z Z := ⟨fun k i h1 h2 h3 => a.1 k i (fun z => h3 ⟨z.1, by omega⟩), fun i p _ => by rw [a.1 20 i (by omega)], fun _ _ _ => rfl, fun _ _ _ => rfl⟩
/-- a frame's head is as it was -/
def dk_fy (w : Nat) (X X' : dk_X) (Z Z' : dk_Z) : Prop := (∀ p, p < 4 → X' 9 w p = X 9 w p) ∧ Z' 9 w = Z 9 w
theorem dk_fy_rf {w : Nat} {X : dk_X} {Z : dk_Z} : dk_fy w X X Z Z := ⟨fun _ _ => rfl, rfl⟩
theorem dk_fy_tr {w : Nat} {X X' X2 : dk_X} {Z Z' Z2 : dk_Z} (a : dk_fy w X X' Z Z') (b : dk_fy w X' X2 Z' Z2) : dk_fy w X X2 Z Z2 := ⟨fun p h => (b.1 p h).trans (a.1 p h), b.2.trans a.2⟩
theorem dk_fd_fy {d : Nat} {X X' : dk_X} {Z : dk_Z} (a : dk_fd d X X') : dk_fy d X X' Z Z := ⟨a.2, rfl⟩
theorem dk_fz_fy {w w' : Nat} {X X' : dk_X} {Y Y' : dk_Y} {Z Z' : dk_Z} (a : dk_fz w' X X' Y Y' Z Z') (h : w < w') : dk_fy w X X' Z Z' := ⟨fun p _ => by rw [a.1 9 w (by decide) (by decide) (by omega)], a.2.2.2 9 w (by omega)⟩
theorem dk_fd_ch {d g oc : Nat} {X X' : dk_X} {Y : dk_Y} {ow : Nat → Nat} (a : dk_fd d X X') (h : dk_ch X Y ow g oc) : dk_ch X' Y ow g oc := dk_ch_X h (fun i => a.1 30 i (by omega)) (a.1 20 g (by omega))
def dk_do5 (I : mq_M) (nc nM g fu th m0 x y a : Nat) (st : List Nat) (fs : List mq_F) (re : Nat) : mq_S := (if mq_ar I g = 1 then (match st with
    | u :: t => mq_enter (mq_ch I nc nM g u 0) u 0 fu th ((m0, x, y, a, t) :: fs) re
    | _ => (fu, th, (m0, x, y, a, st) :: fs, -4, re)) else (match st with
    | u :: v :: t => mq_enter (mq_ch I nc nM g v u) v u fu th ((m0, x, y, a, t) :: fs) re
    | _ => (fu, th, (m0, x, y, a, st) :: fs, -4, re)))
set_option maxRecDepth 20000 in
theorem cd_N_callOnTop (l : Launch) (D : va_G) (dA : Nat → ClassId) (B : Nat) (F : Nat → Int32) (ad : Nat → Nat → Nat) (ng nM : Nat) (na no : Nat → Nat) (I : mq_M) (nc : Nat) (oc : Nat → Nat) (ow tf : Nat → Nat → Nat) (k : Nat) (ih : dk_CT l D dA B F ad ng nM na no I nc oc ow tf k) (h : zz_H) (n : Nat) (X : dk_X) (Y : dk_Y) (Z : dk_Z) (fs : List mq_F) (g fu th re m0 x y a : Nat) (st : List Nat) (hP0 : dk_P dA ad (dk_lv ng nM na no) X Y Z h) (R : dk_RW F ad ng nM na no X Y Z I nc oc ow tf) (hk : fs.length + (k + 1) = 8) (hg : g < ng) (FM : dk_fm X fs.length st) (hs : ∀ v : Nat, v ∈ st → v < 8 * nc) (e0 : X 7 0 0 = nI fu) (hf : fu ≤ 200) (e1 : X 7 0 1 = nI th) : zz_M l D zz_cl (zz_ty dA) B zz_tb (zz_x B) yy_N_callOnTop (Cond.code yy_N_callOnTop bb_N_callOnTop 6 (some FieldType.int)) (rm_N_callOnTop k) [.ref (ad 7 0), .ref (ad 20 g), .ref (ad 9 fs.length), .int (nI fs.length)] h n zz_mi (fun r h' n' => n' = n ∧ ∃ X' Y' Z', dk_K dA ad (dk_lv ng nM na no) X' Y' Z' h h' ∧ dk_fz fs.length X X' Y Y' Z Z' ∧ (∀ g9, g9 < ng → dk_ch X' Y' (ow g9) g9 (oc g9)) ∧ dk_fy fs.length X X' Z Z' ∧ dk_rt I nc nM (dk_do5 I nc nM g fu th m0 x y a st fs re) m0 x y a fs r X') := by
  refine zz_ofW (zz_f B) [some (.ref ((ad 7 0))), some (.ref ((ad 20 g))), some (.ref ((ad 9 fs.length))), some (.int ((nI fs.length))), none, none] (by decide) rfl rfl (Nat.le_of_ble_eq_true rfl) ?_
  intro p e s m below meth c C
  have hP := dk_rf hP0
  have hd : fs.length < 8 := by omega
  obtain ⟨g1, g2, g3, g4, g5, g6⟩ := R.1 g hg
  have h8 := g2.1.c8
  have h6 := FM.2.2
  have chA : ∀ g9, g9 < ng → dk_ch X Y (ow g9) g9 (oc g9) := fun g9 h9 => (R.1 g9 h9).2.2.2.2.1
  rcases g2.2.2.2.2.1 with ear | ear
  · skip
    rcases st with _ | ⟨u, t⟩
    · skip
      have hl : ([] : List Nat).length = 0 := rfl
      refine z_aload_n C dd_N_callOnTop_0 rfl ?_
      refine z_aload_n C dd_N_callOnTop_1 rfl ?_
      refine gf_N_172 (v := .int (X 20 g 0)) C dd_N_callOnTop_2 (dk_rd (k := 20) (i := g) (x := (X 20 g)) (y := (Y 20 g)) (z := (Z 20 g)) hP hg rfl rfl rfl) rfl ?_
      refine z_topi (y := nI 1) (by rw [g3, ear]) ?_
      refine iv_N_160 (sk := fun r => .int r :: []) (zz_f B) C dd_N_callOnTop_5 (cc_E_has l D dA B _ _ _ _ _ _ _ _ (dk_rd (k := 9) (i := fs.length) (x := (X 9 fs.length)) (y := (Y 9 fs.length)) (z := (Z 9 fs.length)) hP hd rfl rfl rfl) (nI 1)) (dk_rd (k := 9) (i := fs.length) (x := (X 9 fs.length)) (y := (Y 9 fs.length)) (z := (Z 9 fs.length)) hP hd rfl rfl rfl) rfl rfl (by refine ⟨?_, ?_⟩ <;> dsimp only [rm_N_call, rm_N_callNext, rm_N_callOnTop, rm_N_step, rm_N_perform, rm_E_has, rm_E_pop, rm_E_push, rm_N_pushUnlessEnded, rm_N_combine, rm_N_recast, rm_O_kind, rm_O_n, rm_V_of, rm_E_open, rm_E_result, rm_N_spend, rm_N_enter, rm_N_walk, rm_F_ofRow, rm_G_choose, rm_G_chooseBehind, rm_R_isEmpty] <;> omega) (Nat.le_of_ble_eq_true rfl) ⟨Nat.le_refl _, Nat.le_refl _⟩ (fun _ => rfl) (fun v1_ h1_ n1_ p1_ => ?_)
      obtain ⟨f1_, e1_, p1_⟩ := p1_
      have e1z := e1_.symm
      have f1z := f1_.symm
      subst e1z
      subst f1z
      have e9 : v1_ = 0 := by
        rcases p1_ with ⟨z1, z2⟩ | ⟨z1, z2⟩
        · exact z2
        · rw [FM.1] at z1; exact absurd ((@nI_ltI ([] : List Nat).length 1 (by omega) (by omega)).mpr (by omega)) z1
      have e9z := e9.symm
      subst e9z
      refine z_if_ne (tgt := 14) C dd_N_callOnTop_8 (by decide) (fun q1 => absurd (by decide) q1) (fun q1 => ?_)
      refine z_bipush (v := (-4)) C dd_N_callOnTop_11 (by decide) ?_
      have ed : dk_do5 I nc nM g fu th m0 x y a [] fs re = (fu, th, (m0, x, y, a, []) :: fs, -4, re) := by unfold dk_do5; rw [if_pos ear]
      rw [ed]
      exact z_iret C dd_N_callOnTop_13 ⟨rfl, X, Y, Z, hP, dk_fz_rf, chA, dk_fy_rf, 0, _, rfl, e0, e1, hf, Or.inl ⟨by decide, rfl⟩⟩ (Nat.zero_le _) (Nat.zero_le _)
    · skip
      have hl : (u :: t : List Nat).length = t.length + 1 := rfl
      refine z_aload_n C dd_N_callOnTop_0 rfl ?_
      refine z_aload_n C dd_N_callOnTop_1 rfl ?_
      refine gf_N_172 (v := .int (X 20 g 0)) C dd_N_callOnTop_2 (dk_rd (k := 20) (i := g) (x := (X 20 g)) (y := (Y 20 g)) (z := (Z 20 g)) hP hg rfl rfl rfl) rfl ?_
      refine z_topi (y := nI 1) (by rw [g3, ear]) ?_
      refine iv_N_160 (sk := fun r => .int r :: []) (zz_f B) C dd_N_callOnTop_5 (cc_E_has l D dA B _ _ _ _ _ _ _ _ (dk_rd (k := 9) (i := fs.length) (x := (X 9 fs.length)) (y := (Y 9 fs.length)) (z := (Z 9 fs.length)) hP hd rfl rfl rfl) (nI 1)) (dk_rd (k := 9) (i := fs.length) (x := (X 9 fs.length)) (y := (Y 9 fs.length)) (z := (Z 9 fs.length)) hP hd rfl rfl rfl) rfl rfl (by refine ⟨?_, ?_⟩ <;> dsimp only [rm_N_call, rm_N_callNext, rm_N_callOnTop, rm_N_step, rm_N_perform, rm_E_has, rm_E_pop, rm_E_push, rm_N_pushUnlessEnded, rm_N_combine, rm_N_recast, rm_O_kind, rm_O_n, rm_V_of, rm_E_open, rm_E_result, rm_N_spend, rm_N_enter, rm_N_walk, rm_F_ofRow, rm_G_choose, rm_G_chooseBehind, rm_R_isEmpty] <;> omega) (Nat.le_of_ble_eq_true rfl) ⟨Nat.le_refl _, Nat.le_refl _⟩ (fun _ => rfl) (fun v1_ h1_ n1_ p1_ => ?_)
      obtain ⟨f1_, e1_, p1_⟩ := p1_
      have e1z := e1_.symm
      have f1z := f1_.symm
      subst e1z
      subst f1z
      have e9 : v1_ = 1 := by
        rcases p1_ with ⟨z1, z2⟩ | ⟨z1, z2⟩
        · rw [FM.1] at z1; exact absurd ((@nI_ltI (u :: t : List Nat).length 1 (by omega) (by omega)).mp z1) (by omega)
        · exact z2
      have e9z := e9.symm
      subst e9z
      refine z_if_ne (tgt := 14) C dd_N_callOnTop_8 (by decide) (fun q1 => ?_) (fun q1 => absurd q1 (by decide))
      refine z_aload_n C dd_N_callOnTop_14 rfl ?_
      refine gf_N_172 (v := .int (X 20 g 0)) C dd_N_callOnTop_15 (dk_rd (k := 20) (i := g) (x := (X 20 g)) (y := (Y 20 g)) (z := (Z 20 g)) hP hg rfl rfl rfl) rfl ?_
      refine z_topi (y := nI 1) (by rw [g3, ear]) ?_
      refine z_iconst (v := 2) C dd_N_callOnTop_18 (by decide) ?_
      refine z_icmp_ne (tgt := 29) C dd_N_callOnTop_19 (by decide) (fun q2 => ?_) (fun q2 => absurd q2 (by decide))
      refine z_iconst (v := 0) C dd_N_callOnTop_29 (by decide) ?_
      refine z_istore C dd_N_callOnTop_30 rfl ?_
      refine z_aload_n C dd_N_callOnTop_32 rfl ?_
      refine iv_N_163 (sk := fun r => .int r :: []) (zz_f B) C dd_N_callOnTop_33 (cd_E_pop l D dA B _ _ ad ng nM na no X Y Z hP.1 fs.length u t hd FM) (dk_rd (k := 9) (i := fs.length) (x := (X 9 fs.length)) (y := (Y 9 fs.length)) (z := (Z 9 fs.length)) hP hd rfl rfl rfl) rfl rfl (by refine ⟨?_, ?_⟩ <;> dsimp only [rm_N_call, rm_N_callNext, rm_N_callOnTop, rm_N_step, rm_N_perform, rm_E_has, rm_E_pop, rm_E_push, rm_N_pushUnlessEnded, rm_N_combine, rm_N_recast, rm_O_kind, rm_O_n, rm_V_of, rm_E_open, rm_E_result, rm_N_spend, rm_N_enter, rm_N_walk, rm_F_ofRow, rm_G_choose, rm_G_chooseBehind, rm_R_isEmpty] <;> omega) (Nat.le_of_ble_eq_true rfl) ⟨Nat.le_refl _, Nat.le_refl _⟩ (fun _ => rfl) (fun v2_ h2_ n2_ p2_ => ?_)
      obtain ⟨rfl, q2_, X2, w2_, FM2, fd2⟩ := p2_
      have q2z := q2_.symm
      subst q2z
      have hP2_ := dk_tr hP w2_
      refine z_istore C dd_N_callOnTop_36 rfl ?_
      refine z_aload_n C dd_N_callOnTop_38 rfl ?_
      refine z_aload_n C dd_N_callOnTop_39 rfl ?_
      refine z_aload_n C dd_N_callOnTop_40 rfl ?_
      refine z_iload C dd_N_callOnTop_41 rfl ?_
      refine z_iload C dd_N_callOnTop_43 rfl ?_
      refine z_iload_n C dd_N_callOnTop_45 rfl ?_
      refine z_iconst (v := 1) C dd_N_callOnTop_46 (by decide) ?_
      refine z_iadd C dd_N_callOnTop_47 ?_
      refine z_topi (y := nI (fs.length + 1)) (by first | exact (nI_add _ _).symm | (rw [← nI_add]; rfl)) ?_
      have fdz := fd2
      have Rz := dk_RW_fz R (dk_fd_fz (Y := Y) (Z := Z) fdz) (fun g9 h9 => dk_fd_ch fdz (chA g9 h9))
      refine iv_N_175 (sk := fun r => .int r :: [.ref ((ad 9 fs.length))]) (zz_f B) C dd_N_callOnTop_48 (ih _ _ X2 Y Z ((m0, x, y, a, t) :: fs) g u 0 fu th re hP2_.1 Rz (by simp; omega) hg (hs u (by simp)) (by have := hs u (by simp); omega) (fun _ => rfl) (by rw [fdz.1 7 0 (by omega)]; exact e0) hf (by rw [fdz.1 7 0 (by omega)]; exact e1)) (dk_rd (k := 7) (i := 0) (x := (X2 7 0)) (y := (Y 7 0)) (z := (Z 7 0)) hP2_ rfl rfl rfl rfl) rfl rfl (by refine ⟨?_, ?_⟩ <;> dsimp only [rm_N_call, rm_N_callNext, rm_N_callOnTop, rm_N_step, rm_N_perform, rm_E_has, rm_E_pop, rm_E_push, rm_N_pushUnlessEnded, rm_N_combine, rm_N_recast, rm_O_kind, rm_O_n, rm_V_of, rm_E_open, rm_E_result, rm_N_spend, rm_N_enter, rm_N_walk, rm_F_ofRow, rm_G_choose, rm_G_chooseBehind, rm_R_isEmpty] <;> omega) (Nat.le_of_ble_eq_true rfl) ⟨Nat.le_refl _, Nat.le_refl _⟩ (fun _ => rfl) (fun v3_ h3_ n3_ p3_ => ?_)
      obtain ⟨rfl, X8, Y8, Z8, u1, u2, u3, u4⟩ := p3_
      have hPz := dk_tr hP2_ u1
      have ed : dk_do5 I nc nM g fu th m0 x y a (u :: t) fs re = mq_enter (mq_ch I nc nM g u 0) u 0 fu th ((m0, x, y, a, t) :: fs) re := by unfold dk_do5; rw [if_pos ear]
      rw [ed]
      have fz0 : dk_fz fs.length X X8 Y Y8 Z Z8 := dk_fz_tr (dk_fd_fz fdz) (dk_fz_up u2 (by simp))
      have fy0 : dk_fy fs.length X X8 Z Z8 := dk_fy_tr (dk_fd_fy fdz) (dk_fz_fy u2 (by simp))
      have FM8 : dk_fm X8 fs.length t := by unfold dk_fm; rw [u2.1 9 fs.length (by decide) (by decide) (by simp), u2.1 10 fs.length (by decide) (by decide) (by simp)]; exact FM2
      by_cases hr : v3_ < 0
      · skip
        refine is_N_157 (sk := fun r => .int r :: []) (zz_f B) C dd_N_callOnTop_51 (cd_N_pue_e l D dA B _ _ ad ng nM na no X8 Y8 Z8 hPz.1 fs.length hd v3_ hr) rfl rfl (by refine ⟨?_, ?_⟩ <;> dsimp only [rm_N_call, rm_N_callNext, rm_N_callOnTop, rm_N_step, rm_N_perform, rm_E_has, rm_E_pop, rm_E_push, rm_N_pushUnlessEnded, rm_N_combine, rm_N_recast, rm_O_kind, rm_O_n, rm_V_of, rm_E_open, rm_E_result, rm_N_spend, rm_N_enter, rm_N_walk, rm_F_ofRow, rm_G_choose, rm_G_chooseBehind, rm_R_isEmpty] <;> omega) (Nat.le_of_ble_eq_true rfl) ⟨Nat.le_refl _, Nat.le_refl _⟩ (fun _ => rfl) (fun v4_ h4_ n4_ p4_ => ?_)
        obtain ⟨f4_, e4_, q4_⟩ := p4_
        have e4z := e4_.symm
        have f4z := f4_.symm
        have q4z := q4_.symm
        subst e4z
        subst f4z
        subst q4z
        obtain ⟨j, z1, y1, y2, y3, y4, y5⟩ := u4
        rcases y5 with y5 | ⟨_, _, _, _, _, _, st9, _, _, _, y6, y7⟩
        · exact z_iret C dd_N_callOnTop_54 ⟨rfl, X8, Y8, Z8, hPz, fz0, u3, fy0, j, z1, y1, y2, y3, y4, Or.inl y5⟩ (Nat.zero_le _) (Nat.zero_le _)
        · exact absurd hr (by rw [y6]; exact nI_pos (by omega))
      · skip
        obtain ⟨j, fu8, th8, v8, b1, b2, b3, b4, b5, b6⟩ := dk_back u4 hr
        have b1z := b1.symm
        subst b1z
        refine is_N_157 (sk := fun r => .int r :: []) (zz_f B) C dd_N_callOnTop_51 (cd_N_pue_v l D dA B _ _ ad ng nM na no X8 Y8 Z8 hPz.1 fs.length v8 t hd (by omega) FM8) rfl rfl (by refine ⟨?_, ?_⟩ <;> dsimp only [rm_N_call, rm_N_callNext, rm_N_callOnTop, rm_N_step, rm_N_perform, rm_E_has, rm_E_pop, rm_E_push, rm_N_pushUnlessEnded, rm_N_combine, rm_N_recast, rm_O_kind, rm_O_n, rm_V_of, rm_E_open, rm_E_result, rm_N_spend, rm_N_enter, rm_N_walk, rm_F_ofRow, rm_G_choose, rm_G_chooseBehind, rm_R_isEmpty] <;> omega) (Nat.le_of_ble_eq_true rfl) ⟨Nat.le_refl _, Nat.le_refl _⟩ (fun _ => rfl) (fun v5_ h5_ n5_ p5_ => ?_)
        obtain ⟨rfl, p5_⟩ := p5_
        rcases p5_ with ⟨z, _⟩ | ⟨z, z2, X9, z3, z4, z5⟩
        · omega
        · exact z_iret C dd_N_callOnTop_54 ⟨rfl, X9, Y8, Z8, dk_tr hPz z3, dk_fz_tr fz0 (dk_fd_fz z5), fun g9 h9 => dk_fd_ch z5 (u3 g9 h9), dk_fy_tr fy0 (dk_fd_fy z5), dk_back_v b6 b2 (by omega) b3 b4 b5 (fun w hw => hs w (by simp [hw])) (Or.inr ⟨z, z2, z4, z5⟩)⟩ (Nat.zero_le _) (Nat.zero_le _)
  · skip
    rcases st with _ | ⟨u, _ | ⟨v, t⟩⟩
    · skip
      have hl : ([] : List Nat).length = 0 := rfl
      refine z_aload_n C dd_N_callOnTop_0 rfl ?_
      refine z_aload_n C dd_N_callOnTop_1 rfl ?_
      refine gf_N_172 (v := .int (X 20 g 0)) C dd_N_callOnTop_2 (dk_rd (k := 20) (i := g) (x := (X 20 g)) (y := (Y 20 g)) (z := (Z 20 g)) hP hg rfl rfl rfl) rfl ?_
      refine z_topi (y := nI 2) (by rw [g3, ear]) ?_
      refine iv_N_160 (sk := fun r => .int r :: []) (zz_f B) C dd_N_callOnTop_5 (cc_E_has l D dA B _ _ _ _ _ _ _ _ (dk_rd (k := 9) (i := fs.length) (x := (X 9 fs.length)) (y := (Y 9 fs.length)) (z := (Z 9 fs.length)) hP hd rfl rfl rfl) (nI 2)) (dk_rd (k := 9) (i := fs.length) (x := (X 9 fs.length)) (y := (Y 9 fs.length)) (z := (Z 9 fs.length)) hP hd rfl rfl rfl) rfl rfl (by refine ⟨?_, ?_⟩ <;> dsimp only [rm_N_call, rm_N_callNext, rm_N_callOnTop, rm_N_step, rm_N_perform, rm_E_has, rm_E_pop, rm_E_push, rm_N_pushUnlessEnded, rm_N_combine, rm_N_recast, rm_O_kind, rm_O_n, rm_V_of, rm_E_open, rm_E_result, rm_N_spend, rm_N_enter, rm_N_walk, rm_F_ofRow, rm_G_choose, rm_G_chooseBehind, rm_R_isEmpty] <;> omega) (Nat.le_of_ble_eq_true rfl) ⟨Nat.le_refl _, Nat.le_refl _⟩ (fun _ => rfl) (fun v1_ h1_ n1_ p1_ => ?_)
      obtain ⟨f1_, e1_, p1_⟩ := p1_
      have e1z := e1_.symm
      have f1z := f1_.symm
      subst e1z
      subst f1z
      have e9 : v1_ = 0 := by
        rcases p1_ with ⟨z1, z2⟩ | ⟨z1, z2⟩
        · exact z2
        · rw [FM.1] at z1; exact absurd ((@nI_ltI ([] : List Nat).length 2 (by omega) (by omega)).mpr (by omega)) z1
      have e9z := e9.symm
      subst e9z
      refine z_if_ne (tgt := 14) C dd_N_callOnTop_8 (by decide) (fun q1 => absurd (by decide) q1) (fun q1 => ?_)
      refine z_bipush (v := (-4)) C dd_N_callOnTop_11 (by decide) ?_
      have ed : dk_do5 I nc nM g fu th m0 x y a [] fs re = (fu, th, (m0, x, y, a, []) :: fs, -4, re) := by unfold dk_do5; rw [if_neg (by rw [ear]; decide)]
      rw [ed]
      exact z_iret C dd_N_callOnTop_13 ⟨rfl, X, Y, Z, hP, dk_fz_rf, chA, dk_fy_rf, 0, _, rfl, e0, e1, hf, Or.inl ⟨by decide, rfl⟩⟩ (Nat.zero_le _) (Nat.zero_le _)
    · skip
      have hl : ([u] : List Nat).length = 1 := rfl
      refine z_aload_n C dd_N_callOnTop_0 rfl ?_
      refine z_aload_n C dd_N_callOnTop_1 rfl ?_
      refine gf_N_172 (v := .int (X 20 g 0)) C dd_N_callOnTop_2 (dk_rd (k := 20) (i := g) (x := (X 20 g)) (y := (Y 20 g)) (z := (Z 20 g)) hP hg rfl rfl rfl) rfl ?_
      refine z_topi (y := nI 2) (by rw [g3, ear]) ?_
      refine iv_N_160 (sk := fun r => .int r :: []) (zz_f B) C dd_N_callOnTop_5 (cc_E_has l D dA B _ _ _ _ _ _ _ _ (dk_rd (k := 9) (i := fs.length) (x := (X 9 fs.length)) (y := (Y 9 fs.length)) (z := (Z 9 fs.length)) hP hd rfl rfl rfl) (nI 2)) (dk_rd (k := 9) (i := fs.length) (x := (X 9 fs.length)) (y := (Y 9 fs.length)) (z := (Z 9 fs.length)) hP hd rfl rfl rfl) rfl rfl (by refine ⟨?_, ?_⟩ <;> dsimp only [rm_N_call, rm_N_callNext, rm_N_callOnTop, rm_N_step, rm_N_perform, rm_E_has, rm_E_pop, rm_E_push, rm_N_pushUnlessEnded, rm_N_combine, rm_N_recast, rm_O_kind, rm_O_n, rm_V_of, rm_E_open, rm_E_result, rm_N_spend, rm_N_enter, rm_N_walk, rm_F_ofRow, rm_G_choose, rm_G_chooseBehind, rm_R_isEmpty] <;> omega) (Nat.le_of_ble_eq_true rfl) ⟨Nat.le_refl _, Nat.le_refl _⟩ (fun _ => rfl) (fun v1_ h1_ n1_ p1_ => ?_)
      obtain ⟨f1_, e1_, p1_⟩ := p1_
      have e1z := e1_.symm
      have f1z := f1_.symm
      subst e1z
      subst f1z
      have e9 : v1_ = 0 := by
        rcases p1_ with ⟨z1, z2⟩ | ⟨z1, z2⟩
        · exact z2
        · rw [FM.1] at z1; exact absurd ((@nI_ltI ([u] : List Nat).length 2 (by omega) (by omega)).mpr (by omega)) z1
      have e9z := e9.symm
      subst e9z
      refine z_if_ne (tgt := 14) C dd_N_callOnTop_8 (by decide) (fun q1 => absurd (by decide) q1) (fun q1 => ?_)
      refine z_bipush (v := (-4)) C dd_N_callOnTop_11 (by decide) ?_
      have ed : dk_do5 I nc nM g fu th m0 x y a [u] fs re = (fu, th, (m0, x, y, a, [u]) :: fs, -4, re) := by unfold dk_do5; rw [if_neg (by rw [ear]; decide)]
      rw [ed]
      exact z_iret C dd_N_callOnTop_13 ⟨rfl, X, Y, Z, hP, dk_fz_rf, chA, dk_fy_rf, 0, _, rfl, e0, e1, hf, Or.inl ⟨by decide, rfl⟩⟩ (Nat.zero_le _) (Nat.zero_le _)
    · skip
      have hl : (u :: v :: t : List Nat).length = t.length + 2 := rfl
      refine z_aload_n C dd_N_callOnTop_0 rfl ?_
      refine z_aload_n C dd_N_callOnTop_1 rfl ?_
      refine gf_N_172 (v := .int (X 20 g 0)) C dd_N_callOnTop_2 (dk_rd (k := 20) (i := g) (x := (X 20 g)) (y := (Y 20 g)) (z := (Z 20 g)) hP hg rfl rfl rfl) rfl ?_
      refine z_topi (y := nI 2) (by rw [g3, ear]) ?_
      refine iv_N_160 (sk := fun r => .int r :: []) (zz_f B) C dd_N_callOnTop_5 (cc_E_has l D dA B _ _ _ _ _ _ _ _ (dk_rd (k := 9) (i := fs.length) (x := (X 9 fs.length)) (y := (Y 9 fs.length)) (z := (Z 9 fs.length)) hP hd rfl rfl rfl) (nI 2)) (dk_rd (k := 9) (i := fs.length) (x := (X 9 fs.length)) (y := (Y 9 fs.length)) (z := (Z 9 fs.length)) hP hd rfl rfl rfl) rfl rfl (by refine ⟨?_, ?_⟩ <;> dsimp only [rm_N_call, rm_N_callNext, rm_N_callOnTop, rm_N_step, rm_N_perform, rm_E_has, rm_E_pop, rm_E_push, rm_N_pushUnlessEnded, rm_N_combine, rm_N_recast, rm_O_kind, rm_O_n, rm_V_of, rm_E_open, rm_E_result, rm_N_spend, rm_N_enter, rm_N_walk, rm_F_ofRow, rm_G_choose, rm_G_chooseBehind, rm_R_isEmpty] <;> omega) (Nat.le_of_ble_eq_true rfl) ⟨Nat.le_refl _, Nat.le_refl _⟩ (fun _ => rfl) (fun v1_ h1_ n1_ p1_ => ?_)
      obtain ⟨f1_, e1_, p1_⟩ := p1_
      have e1z := e1_.symm
      have f1z := f1_.symm
      subst e1z
      subst f1z
      have e9 : v1_ = 1 := by
        rcases p1_ with ⟨z1, z2⟩ | ⟨z1, z2⟩
        · rw [FM.1] at z1; exact absurd ((@nI_ltI (u :: v :: t : List Nat).length 2 (by omega) (by omega)).mp z1) (by omega)
        · exact z2
      have e9z := e9.symm
      subst e9z
      refine z_if_ne (tgt := 14) C dd_N_callOnTop_8 (by decide) (fun q1 => ?_) (fun q1 => absurd q1 (by decide))
      refine z_aload_n C dd_N_callOnTop_14 rfl ?_
      refine gf_N_172 (v := .int (X 20 g 0)) C dd_N_callOnTop_15 (dk_rd (k := 20) (i := g) (x := (X 20 g)) (y := (Y 20 g)) (z := (Z 20 g)) hP hg rfl rfl rfl) rfl ?_
      refine z_topi (y := nI 2) (by rw [g3, ear]) ?_
      refine z_iconst (v := 2) C dd_N_callOnTop_18 (by decide) ?_
      refine z_icmp_ne (tgt := 29) C dd_N_callOnTop_19 (by decide) (fun q2 => absurd (by decide) q2) (fun q2 => ?_)
      refine z_aload_n C dd_N_callOnTop_22 rfl ?_
      refine iv_N_163 (sk := fun r => .int r :: []) (zz_f B) C dd_N_callOnTop_23 (cd_E_pop l D dA B _ _ ad ng nM na no X Y Z hP.1 fs.length u (v :: t) hd FM) (dk_rd (k := 9) (i := fs.length) (x := (X 9 fs.length)) (y := (Y 9 fs.length)) (z := (Z 9 fs.length)) hP hd rfl rfl rfl) rfl rfl (by refine ⟨?_, ?_⟩ <;> dsimp only [rm_N_call, rm_N_callNext, rm_N_callOnTop, rm_N_step, rm_N_perform, rm_E_has, rm_E_pop, rm_E_push, rm_N_pushUnlessEnded, rm_N_combine, rm_N_recast, rm_O_kind, rm_O_n, rm_V_of, rm_E_open, rm_E_result, rm_N_spend, rm_N_enter, rm_N_walk, rm_F_ofRow, rm_G_choose, rm_G_chooseBehind, rm_R_isEmpty] <;> omega) (Nat.le_of_ble_eq_true rfl) ⟨Nat.le_refl _, Nat.le_refl _⟩ (fun _ => rfl) (fun v2_ h2_ n2_ p2_ => ?_)
      obtain ⟨rfl, q2_, X2, w2_, FM2, fd2⟩ := p2_
      have q2z := q2_.symm
      subst q2z
      have hP2_ := dk_tr hP w2_
      refine z_goto (tgt := 30) C dd_N_callOnTop_26 (by decide) ?_
      refine z_istore C dd_N_callOnTop_30 rfl ?_
      refine z_aload_n C dd_N_callOnTop_32 rfl ?_
      refine iv_N_163 (sk := fun r => .int r :: []) (zz_f B) C dd_N_callOnTop_33 (cd_E_pop l D dA B _ _ ad ng nM na no X2 Y Z hP2_.1 fs.length v t hd FM2) (dk_rd (k := 9) (i := fs.length) (x := (X2 9 fs.length)) (y := (Y 9 fs.length)) (z := (Z 9 fs.length)) hP2_ hd rfl rfl rfl) rfl rfl (by refine ⟨?_, ?_⟩ <;> dsimp only [rm_N_call, rm_N_callNext, rm_N_callOnTop, rm_N_step, rm_N_perform, rm_E_has, rm_E_pop, rm_E_push, rm_N_pushUnlessEnded, rm_N_combine, rm_N_recast, rm_O_kind, rm_O_n, rm_V_of, rm_E_open, rm_E_result, rm_N_spend, rm_N_enter, rm_N_walk, rm_F_ofRow, rm_G_choose, rm_G_chooseBehind, rm_R_isEmpty] <;> omega) (Nat.le_of_ble_eq_true rfl) ⟨Nat.le_refl _, Nat.le_refl _⟩ (fun _ => rfl) (fun v3_ h3_ n3_ p3_ => ?_)
      obtain ⟨rfl, q3_, X3, w3_, FM3, fd3⟩ := p3_
      have q3z := q3_.symm
      subst q3z
      have hP3_ := dk_tr hP2_ w3_
      refine z_istore C dd_N_callOnTop_36 rfl ?_
      refine z_aload_n C dd_N_callOnTop_38 rfl ?_
      refine z_aload_n C dd_N_callOnTop_39 rfl ?_
      refine z_aload_n C dd_N_callOnTop_40 rfl ?_
      refine z_iload C dd_N_callOnTop_41 rfl ?_
      refine z_iload C dd_N_callOnTop_43 rfl ?_
      refine z_iload_n C dd_N_callOnTop_45 rfl ?_
      refine z_iconst (v := 1) C dd_N_callOnTop_46 (by decide) ?_
      refine z_iadd C dd_N_callOnTop_47 ?_
      refine z_topi (y := nI (fs.length + 1)) (by first | exact (nI_add _ _).symm | (rw [← nI_add]; rfl)) ?_
      have fdz := (dk_fd_tr fd2 fd3)
      have Rz := dk_RW_fz R (dk_fd_fz (Y := Y) (Z := Z) fdz) (fun g9 h9 => dk_fd_ch fdz (chA g9 h9))
      refine iv_N_175 (sk := fun r => .int r :: [.ref ((ad 9 fs.length))]) (zz_f B) C dd_N_callOnTop_48 (ih _ _ X3 Y Z ((m0, x, y, a, t) :: fs) g v u fu th re hP3_.1 Rz (by simp; omega) hg (hs v (by simp)) (hs u (by simp)) (fun z => absurd (ear.symm.trans z) (by decide)) (by rw [fdz.1 7 0 (by omega)]; exact e0) hf (by rw [fdz.1 7 0 (by omega)]; exact e1)) (dk_rd (k := 7) (i := 0) (x := (X3 7 0)) (y := (Y 7 0)) (z := (Z 7 0)) hP3_ rfl rfl rfl rfl) rfl rfl (by refine ⟨?_, ?_⟩ <;> dsimp only [rm_N_call, rm_N_callNext, rm_N_callOnTop, rm_N_step, rm_N_perform, rm_E_has, rm_E_pop, rm_E_push, rm_N_pushUnlessEnded, rm_N_combine, rm_N_recast, rm_O_kind, rm_O_n, rm_V_of, rm_E_open, rm_E_result, rm_N_spend, rm_N_enter, rm_N_walk, rm_F_ofRow, rm_G_choose, rm_G_chooseBehind, rm_R_isEmpty] <;> omega) (Nat.le_of_ble_eq_true rfl) ⟨Nat.le_refl _, Nat.le_refl _⟩ (fun _ => rfl) (fun v4_ h4_ n4_ p4_ => ?_)
      obtain ⟨rfl, X8, Y8, Z8, u1, u2, u3, u4⟩ := p4_
      have hPz := dk_tr hP3_ u1
      have ed : dk_do5 I nc nM g fu th m0 x y a (u :: v :: t) fs re = mq_enter (mq_ch I nc nM g v u) v u fu th ((m0, x, y, a, t) :: fs) re := by unfold dk_do5; rw [if_neg (by rw [ear]; decide)]
      rw [ed]
      have fz0 : dk_fz fs.length X X8 Y Y8 Z Z8 := dk_fz_tr (dk_fd_fz fdz) (dk_fz_up u2 (by simp))
      have fy0 : dk_fy fs.length X X8 Z Z8 := dk_fy_tr (dk_fd_fy fdz) (dk_fz_fy u2 (by simp))
      have FM8 : dk_fm X8 fs.length t := by unfold dk_fm; rw [u2.1 9 fs.length (by decide) (by decide) (by simp), u2.1 10 fs.length (by decide) (by decide) (by simp)]; exact FM3
      by_cases hr : v4_ < 0
      · skip
        refine is_N_157 (sk := fun r => .int r :: []) (zz_f B) C dd_N_callOnTop_51 (cd_N_pue_e l D dA B _ _ ad ng nM na no X8 Y8 Z8 hPz.1 fs.length hd v4_ hr) rfl rfl (by refine ⟨?_, ?_⟩ <;> dsimp only [rm_N_call, rm_N_callNext, rm_N_callOnTop, rm_N_step, rm_N_perform, rm_E_has, rm_E_pop, rm_E_push, rm_N_pushUnlessEnded, rm_N_combine, rm_N_recast, rm_O_kind, rm_O_n, rm_V_of, rm_E_open, rm_E_result, rm_N_spend, rm_N_enter, rm_N_walk, rm_F_ofRow, rm_G_choose, rm_G_chooseBehind, rm_R_isEmpty] <;> omega) (Nat.le_of_ble_eq_true rfl) ⟨Nat.le_refl _, Nat.le_refl _⟩ (fun _ => rfl) (fun v5_ h5_ n5_ p5_ => ?_)
        obtain ⟨f5_, e5_, q5_⟩ := p5_
        have e5z := e5_.symm
        have f5z := f5_.symm
        have q5z := q5_.symm
        subst e5z
        subst f5z
        subst q5z
        obtain ⟨j, z1, y1, y2, y3, y4, y5⟩ := u4
        rcases y5 with y5 | ⟨_, _, _, _, _, _, st9, _, _, _, y6, y7⟩
        · exact z_iret C dd_N_callOnTop_54 ⟨rfl, X8, Y8, Z8, hPz, fz0, u3, fy0, j, z1, y1, y2, y3, y4, Or.inl y5⟩ (Nat.zero_le _) (Nat.zero_le _)
        · exact absurd hr (by rw [y6]; exact nI_pos (by omega))
      · skip
        obtain ⟨j, fu8, th8, v8, b1, b2, b3, b4, b5, b6⟩ := dk_back u4 hr
        have b1z := b1.symm
        subst b1z
        refine is_N_157 (sk := fun r => .int r :: []) (zz_f B) C dd_N_callOnTop_51 (cd_N_pue_v l D dA B _ _ ad ng nM na no X8 Y8 Z8 hPz.1 fs.length v8 t hd (by omega) FM8) rfl rfl (by refine ⟨?_, ?_⟩ <;> dsimp only [rm_N_call, rm_N_callNext, rm_N_callOnTop, rm_N_step, rm_N_perform, rm_E_has, rm_E_pop, rm_E_push, rm_N_pushUnlessEnded, rm_N_combine, rm_N_recast, rm_O_kind, rm_O_n, rm_V_of, rm_E_open, rm_E_result, rm_N_spend, rm_N_enter, rm_N_walk, rm_F_ofRow, rm_G_choose, rm_G_chooseBehind, rm_R_isEmpty] <;> omega) (Nat.le_of_ble_eq_true rfl) ⟨Nat.le_refl _, Nat.le_refl _⟩ (fun _ => rfl) (fun v6_ h6_ n6_ p6_ => ?_)
        obtain ⟨rfl, p6_⟩ := p6_
        rcases p6_ with ⟨z, _⟩ | ⟨z, z2, X9, z3, z4, z5⟩
        · omega
        · exact z_iret C dd_N_callOnTop_54 ⟨rfl, X9, Y8, Z8, dk_tr hPz z3, dk_fz_tr fz0 (dk_fd_fz z5), fun g9 h9 => dk_fd_ch z5 (u3 g9 h9), dk_fy_tr fy0 (dk_fd_fy z5), dk_back_v b6 b2 (by omega) b3 b4 b5 (fun w hw => hs w (by simp [hw])) (Or.inr ⟨z, z2, z4, z5⟩)⟩ (Nat.zero_le _) (Nat.zero_le _)
