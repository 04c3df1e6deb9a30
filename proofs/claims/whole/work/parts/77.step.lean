theorem dk_lv34 {ng nM : Nat} {na no : Nat → Nat} {m k : Nat} (hm : m < nM) (h8 : no m ≤ 8) (hk : k < no m) : dk_lv ng nM na no 34 (8 * m + k) := by
  show (8 * m + k) / 8 < nM ∧ (8 * m + k) % 8 < no ((8 * m + k) / 8)
  rw [show (8 * m + k) / 8 = m by omega, show (8 * m + k) % 8 = k by omega]
  exact ⟨hm, hk⟩
set_option maxRecDepth 20000 in
theorem cd_N_step (l : Launch) (D : va_G) (dA : Nat → ClassId) (B : Nat) (F : Nat → Int32) (ad : Nat → Nat → Nat) (ng nM : Nat) (na no : Nat → Nat) (I : mq_M) (nc : Nat) (oc : Nat → Nat) (ow tf : Nat → Nat → Nat) (k : Nat) (ihC : dk_CT l D dA B F ad ng nM na no I nc oc ow tf k) (ihN : dk_NT l D dA B F ad ng nM na no I nc oc ow tf k) (h : zz_H) (n : Nat) (X : dk_X) (Y : dk_Y) (Z : dk_Z) (fs : List mq_F) (fu th re m0 k9 x y a9 : Nat) (st : List Nat) (hP0 : dk_P dA ad (dk_lv ng nM na no) X Y Z h) (R : dk_RW F ad ng nM na no X Y Z I nc oc ow tf) (hk : fs.length + (k + 1) = 8) (hm : m0 < nM) (hkn : k9 < no m0) (M1 : dk_m1 ad X Z fs.length (m0, x, y, a9, st)) (hx : x < 8 * nc) (hy : y < 8 * nc) (hy1 : mq_ar I (mq_of I m0) = 1 → y = 0) (hs : ∀ v : Nat, v ∈ st → v < 8 * nc) (e0 : X 7 0 0 = nI fu) (hf : fu ≤ 200) (e1 : X 7 0 1 = nI th) : zz_M l D zz_cl (zz_ty dA) B zz_tb (zz_x B) yy_N_step (Cond.code yy_N_step bb_N_step 4 (some FieldType.int)) (rm_N_step k) [.ref (ad 7 0), .ref (ad 34 (8 * m0 + k9)), .ref (ad 9 fs.length), .int (nI fs.length)] h n zz_mi (fun r h' n' => n' = n ∧ ∃ X' Y' Z', dk_K dA ad (dk_lv ng nM na no) X' Y' Z' h h' ∧ dk_fz fs.length X X' Y Y' Z Z' ∧ (∀ g9, g9 < ng → dk_ch X' Y' (ow g9) g9 (oc g9)) ∧ dk_fy fs.length X X' Z Z' ∧ dk_rt I nc nM (mq_do I nc nM (mq_kd I m0 k9) (I 10 (8 * m0 + k9)) fu th m0 x y (k9 + 1) st fs re) m0 x y (k9 + 1) fs r X') := by
  refine zz_ofW (zz_f B) [some (.ref ((ad 7 0))), some (.ref ((ad 34 (8 * m0 + k9)))), some (.ref ((ad 9 fs.length))), some (.int ((nI fs.length)))] (by decide) rfl rfl (Nat.le_of_ble_eq_true rfl) ?_
  intro p e s m below meth c C
  have hP := dk_rf hP0
  have hd : fs.length < 8 := by omega
  have chA : ∀ g9, g9 < ng → dk_ch X Y (ow g9) g9 (oc g9) := fun g9 h9 => (R.1 g9 h9).2.2.2.2.1
  obtain ⟨o1, o2, o3, o4, o5⟩ := R.2.2.1 m0 hm
  obtain ⟨o6, o7, o8⟩ := o5 k9 hkn
  have Wp := R.2.2.2.1
  have h8 := Wp.c8
  have h1 := Wp.c1
  have hg4 := Wp.g4
  have hla := dk_lv34 (ng := ng) (na := na) hm o4 hkn
  obtain ⟨m1, m2, m3, FM⟩ := M1
  have h6 : st.length ≤ 6 := FM.2.2
  have FMs : dk_fm X fs.length st := FM
  have ex1 : X 9 fs.length 1 = nI x := m2
  have ex2 : X 9 fs.length 2 = nI y := m3
  have eno : mq_no I m0 = no m0 := by unfold mq_no; rw [o3, nI_clamp (by omega)]
  obtain ⟨p1, p2, p3⟩ := (R.2.2.2.2 m0 hm).2.2 k9 (by rw [eno]; exact hkn)
  obtain ⟨kd, ekd⟩ : ∃ kd, mq_kd I m0 k9 = kd := ⟨_, rfl⟩
  obtain ⟨n9, en9⟩ : ∃ n9, I 10 (8 * m0 + k9) = n9 := ⟨_, rfl⟩
  rw [ekd] at p1 p2 p3
  rw [en9] at p3 o8
  rw [ekd, en9]
  rw [p2] at o7
  unfold pu_oin at p3
  refine z_aload_n C dd_N_step_0 rfl ?_
  refine iv_N_125 (sk := fun r => .int r :: []) (zz_f B) C dd_N_step_1 (cc_O_kind l D dA B _ _ _ _ _ (dk_rd (k := 34) (i := (8 * m0 + k9)) (x := (X 34 (8 * m0 + k9))) (y := (Y 34 (8 * m0 + k9))) (z := (Z 34 (8 * m0 + k9))) hP hla rfl rfl rfl)) (dk_rd (k := 34) (i := (8 * m0 + k9)) (x := (X 34 (8 * m0 + k9))) (y := (Y 34 (8 * m0 + k9))) (z := (Z 34 (8 * m0 + k9))) hP hla rfl rfl rfl) rfl rfl (by refine ⟨?_, ?_⟩ <;> dsimp only [rm_N_call, rm_N_callNext, rm_N_callOnTop, rm_N_step, rm_N_perform, rm_E_has, rm_E_pop, rm_E_push, rm_N_pushUnlessEnded, rm_N_combine, rm_N_recast, rm_O_kind, rm_O_n, rm_V_of, rm_E_open, rm_E_result, rm_N_spend, rm_N_enter, rm_N_walk, rm_F_ofRow, rm_G_choose, rm_G_chooseBehind, rm_R_isEmpty] <;> omega) (Nat.le_of_ble_eq_true rfl) ⟨Nat.le_refl _, Nat.le_refl _⟩ (fun _ => rfl) (fun v1_ h1_ n1_ p1_ => ?_)
  obtain ⟨f1_, e1_, p1_⟩ := p1_
  have e1z := e1_.symm
  have f1z := f1_.symm
  subst e1z
  subst f1z
  refine z_topi (y := nI kd) (by rw [p1_, o7]) ?_
  have hk7 : kd = 0 ∨ kd = 1 ∨ kd = 2 ∨ kd = 3 ∨ kd = 4 ∨ kd = 5 ∨ kd = 6 := by omega
  rcases hk7 with rfl | rfl | rfl | rfl | rfl | rfl | rfl
  · skip
    refine z_tableIn (off := 40) (tgt := 44) C dd_N_step_4 (by decide) (by decide) rfl (by decide) ?_
    rw [if_pos rfl] at p3
    obtain ⟨w, hw, ew⟩ := mq_num p3
    refine z_aload_n C dd_N_step_44 rfl ?_
    refine z_iconst (v := 0) C dd_N_step_45 (by decide) ?_
    refine z_aload_n C dd_N_step_46 rfl ?_
    refine iv_N_130 (sk := fun r => .int r :: [.int 0, .ref ((ad 9 fs.length))]) (zz_f B) C dd_N_step_47 (cc_O_n l D dA B _ _ _ _ _ (dk_rd (k := 34) (i := (8 * m0 + k9)) (x := (X 34 (8 * m0 + k9))) (y := (Y 34 (8 * m0 + k9))) (z := (Z 34 (8 * m0 + k9))) hP hla rfl rfl rfl)) (dk_rd (k := 34) (i := (8 * m0 + k9)) (x := (X 34 (8 * m0 + k9))) (y := (Y 34 (8 * m0 + k9))) (z := (Z 34 (8 * m0 + k9))) hP hla rfl rfl rfl) rfl rfl (by refine ⟨?_, ?_⟩ <;> dsimp only [rm_N_call, rm_N_callNext, rm_N_callOnTop, rm_N_step, rm_N_perform, rm_E_has, rm_E_pop, rm_E_push, rm_N_pushUnlessEnded, rm_N_combine, rm_N_recast, rm_O_kind, rm_O_n, rm_V_of, rm_E_open, rm_E_result, rm_N_spend, rm_N_enter, rm_N_walk, rm_F_ofRow, rm_G_choose, rm_G_chooseBehind, rm_R_isEmpty] <;> omega) (Nat.le_of_ble_eq_true rfl) ⟨Nat.le_refl _, Nat.le_refl _⟩ (fun _ => rfl) (fun v2_ h2_ n2_ p2_ => ?_)
    obtain ⟨f2_, e2_, p2_⟩ := p2_
    have e2z := e2_.symm
    have f2z := f2_.symm
    subst e2z
    subst f2z
    refine z_topi (y := n9) (by rw [p2_, o8]) ?_
    refine is_N_133 (sk := fun r => .int r :: [.ref ((ad 9 fs.length))]) (zz_f B) C dd_N_step_50 (cc_V_of l D dA B _ _ _ _) rfl rfl (by refine ⟨?_, ?_⟩ <;> dsimp only [rm_N_call, rm_N_callNext, rm_N_callOnTop, rm_N_step, rm_N_perform, rm_E_has, rm_E_pop, rm_E_push, rm_N_pushUnlessEnded, rm_N_combine, rm_N_recast, rm_O_kind, rm_O_n, rm_V_of, rm_E_open, rm_E_result, rm_N_spend, rm_N_enter, rm_N_walk, rm_F_ofRow, rm_G_choose, rm_G_chooseBehind, rm_R_isEmpty] <;> omega) (Nat.le_of_ble_eq_true rfl) ⟨Nat.le_refl _, Nat.le_refl _⟩ (fun _ => rfl) (fun v3_ h3_ n3_ p3_ => ?_)
    obtain ⟨f3_, e3_, p3_⟩ := p3_
    have e3z := e3_.symm
    have f3z := f3_.symm
    subst e3z
    subst f3z
    refine z_topi (y := nI w) (by rw [p3_]; exact (dk_onum hw ew).symm) ?_
    refine iv_N_139 (sk := fun r => .int r :: []) (zz_f B) C dd_N_step_53 (cd_E_push l D dA B _ _ ad ng nM na no X Y Z hP.1 fs.length w st hd FMs) (dk_rd (k := 9) (i := fs.length) (x := (X 9 fs.length)) (y := (Y 9 fs.length)) (z := (Z 9 fs.length)) hP hd rfl rfl rfl) rfl rfl (by refine ⟨?_, ?_⟩ <;> dsimp only [rm_N_call, rm_N_callNext, rm_N_callOnTop, rm_N_step, rm_N_perform, rm_E_has, rm_E_pop, rm_E_push, rm_N_pushUnlessEnded, rm_N_combine, rm_N_recast, rm_O_kind, rm_O_n, rm_V_of, rm_E_open, rm_E_result, rm_N_spend, rm_N_enter, rm_N_walk, rm_F_ofRow, rm_G_choose, rm_G_chooseBehind, rm_R_isEmpty] <;> omega) (Nat.le_of_ble_eq_true rfl) ⟨Nat.le_refl _, Nat.le_refl _⟩ (fun _ => rfl) (fun v4_ h4_ n4_ p4_ => ?_)
    obtain ⟨rfl, p4_⟩ := p4_
    have pz : mq_pt I nc nM 0 (mq_do I nc nM 0 n9 fu th m0 x y (k9 + 1) st fs re) (mq_push w fu th m0 x y (k9 + 1) st fs re) := (show mq_push (n9 + 4).toNatClampNeg fu th m0 x y (k9 + 1) st fs re = _ by rw [ew, nI_clamp (by omega)])
    rcases p4_ with ⟨z1, z2, z3⟩ | ⟨z, z2, X9, z3, z4, z5⟩
    · have z3z := z3.symm
      subst z3z
      exact z_iret C dd_N_step_56 ⟨rfl, X, Y, Z, hP, dk_fz_rf, chA, dk_fy_rf, dk_back_v pz (by omega) (by omega) hf e0 e1 hs (Or.inl ⟨z1, z2, rfl⟩)⟩ (Nat.zero_le _) (Nat.zero_le _)
    · exact z_iret C dd_N_step_56 ⟨rfl, X9, Y, Z, dk_tr hP z3, dk_fd_fz z5, fun g9 h9 => dk_fd_ch z5 (chA g9 h9), dk_fd_fy z5, dk_back_v pz (by omega) (by omega) hf e0 e1 hs (Or.inr ⟨z, z2, z4, z5⟩)⟩ (Nat.zero_le _) (Nat.zero_le _)
  · skip
    refine z_tableIn (off := 53) (tgt := 57) C dd_N_step_4 (by decide) (by decide) rfl (by decide) ?_
    rw [if_neg (by decide), if_pos rfl] at p3
    have har : mq_ar I (mq_of I m0) = 1 ∨ mq_ar I (mq_of I m0) = 2 := by
      obtain ⟨g9, hg9, ho⟩ := Wp.own m0 hm
      obtain ⟨ar, har2, har⟩ := Wp.ar g9 hg9
      unfold mq_of mq_ar
      rw [ho, nI_clamp (by omega), har, nI_clamp (by omega)]
      exact har2
    obtain ⟨i9, hi9, rfl⟩ := (pu_iv_0 (N := mq_ar I (mq_of I m0)) (by omega)).mp p3
    refine z_aload_n C dd_N_step_57 rfl ?_
    refine z_aload_n C dd_N_step_58 rfl ?_
    refine iv_N_130 (sk := fun r => .int r :: [.ref ((ad 9 fs.length))]) (zz_f B) C dd_N_step_59 (cc_O_n l D dA B _ _ _ _ _ (dk_rd (k := 34) (i := (8 * m0 + k9)) (x := (X 34 (8 * m0 + k9))) (y := (Y 34 (8 * m0 + k9))) (z := (Z 34 (8 * m0 + k9))) hP hla rfl rfl rfl)) (dk_rd (k := 34) (i := (8 * m0 + k9)) (x := (X 34 (8 * m0 + k9))) (y := (Y 34 (8 * m0 + k9))) (z := (Z 34 (8 * m0 + k9))) hP hla rfl rfl rfl) rfl rfl (by refine ⟨?_, ?_⟩ <;> dsimp only [rm_N_call, rm_N_callNext, rm_N_callOnTop, rm_N_step, rm_N_perform, rm_E_has, rm_E_pop, rm_E_push, rm_N_pushUnlessEnded, rm_N_combine, rm_N_recast, rm_O_kind, rm_O_n, rm_V_of, rm_E_open, rm_E_result, rm_N_spend, rm_N_enter, rm_N_walk, rm_F_ofRow, rm_G_choose, rm_G_chooseBehind, rm_R_isEmpty] <;> omega) (Nat.le_of_ble_eq_true rfl) ⟨Nat.le_refl _, Nat.le_refl _⟩ (fun _ => rfl) (fun v5_ h5_ n5_ p5_ => ?_)
    obtain ⟨f5_, e5_, p5_⟩ := p5_
    have e5z := e5_.symm
    have f5z := f5_.symm
    subst e5z
    subst f5z
    refine z_topi (y := nI i9) (by rw [p5_, o8]) ?_
    refine z_if_ne (tgt := 72) C dd_N_step_62 (by decide) (fun q1 => ?_) (fun q1 => ?_)
    · replace q1 : ¬ i9 = 0 := fun z => q1 ((@nI_eq i9 0 (by omega) (by omega)).mpr z)
      refine z_aload_n C dd_N_step_72 rfl ?_
      refine gf_N_82 (v := .int (X 9 fs.length 2)) C dd_N_step_73 (dk_rd (k := 9) (i := fs.length) (x := (X 9 fs.length)) (y := (Y 9 fs.length)) (z := (Z 9 fs.length)) hP hd rfl rfl rfl) rfl ?_
      refine z_topi (y := nI y) ex2.symm ?_
      refine iv_N_139 (sk := fun r => .int r :: []) (zz_f B) C dd_N_step_76 (cd_E_push l D dA B _ _ ad ng nM na no X Y Z hP.1 fs.length y st hd FMs) (dk_rd (k := 9) (i := fs.length) (x := (X 9 fs.length)) (y := (Y 9 fs.length)) (z := (Z 9 fs.length)) hP hd rfl rfl rfl) rfl rfl (by refine ⟨?_, ?_⟩ <;> dsimp only [rm_N_call, rm_N_callNext, rm_N_callOnTop, rm_N_step, rm_N_perform, rm_E_has, rm_E_pop, rm_E_push, rm_N_pushUnlessEnded, rm_N_combine, rm_N_recast, rm_O_kind, rm_O_n, rm_V_of, rm_E_open, rm_E_result, rm_N_spend, rm_N_enter, rm_N_walk, rm_F_ofRow, rm_G_choose, rm_G_chooseBehind, rm_R_isEmpty] <;> omega) (Nat.le_of_ble_eq_true rfl) ⟨Nat.le_refl _, Nat.le_refl _⟩ (fun _ => rfl) (fun v6_ h6_ n6_ p6_ => ?_)
      obtain ⟨rfl, p6_⟩ := p6_
      have pz : mq_pt I nc nM 0 (mq_do I nc nM 1 (nI i9) fu th m0 x y (k9 + 1) st fs re) (mq_push y fu th m0 x y (k9 + 1) st fs re) := (show mq_push (if nI i9 = 0 then x else y) fu th m0 x y (k9 + 1) st fs re = _ by rw [if_neg (show ¬ nI i9 = 0 from fun z => q1 ((@nI_eq i9 0 (by omega) (by omega)).mp z))])
      rcases p6_ with ⟨z1, z2, z3⟩ | ⟨z, z2, X9, z3, z4, z5⟩
      · have z3z := z3.symm
        subst z3z
        exact z_iret C dd_N_step_79 ⟨rfl, X, Y, Z, hP, dk_fz_rf, chA, dk_fy_rf, dk_back_v pz hy (by omega) hf e0 e1 hs (Or.inl ⟨z1, z2, rfl⟩)⟩ (Nat.zero_le _) (Nat.zero_le _)
      · exact z_iret C dd_N_step_79 ⟨rfl, X9, Y, Z, dk_tr hP z3, dk_fd_fz z5, fun g9 h9 => dk_fd_ch z5 (chA g9 h9), dk_fd_fy z5, dk_back_v pz hy (by omega) hf e0 e1 hs (Or.inr ⟨z, z2, z4, z5⟩)⟩ (Nat.zero_le _) (Nat.zero_le _)
    · replace q1 : i9 = 0 := (@nI_eq i9 0 (by omega) (by omega)).mp q1
      refine z_aload_n C dd_N_step_65 rfl ?_
      refine gf_N_79 (v := .int (X 9 fs.length 1)) C dd_N_step_66 (dk_rd (k := 9) (i := fs.length) (x := (X 9 fs.length)) (y := (Y 9 fs.length)) (z := (Z 9 fs.length)) hP hd rfl rfl rfl) rfl ?_
      refine z_topi (y := nI x) ex1.symm ?_
      refine z_goto (tgt := 76) C dd_N_step_69 (by decide) ?_
      refine iv_N_139 (sk := fun r => .int r :: []) (zz_f B) C dd_N_step_76 (cd_E_push l D dA B _ _ ad ng nM na no X Y Z hP.1 fs.length x st hd FMs) (dk_rd (k := 9) (i := fs.length) (x := (X 9 fs.length)) (y := (Y 9 fs.length)) (z := (Z 9 fs.length)) hP hd rfl rfl rfl) rfl rfl (by refine ⟨?_, ?_⟩ <;> dsimp only [rm_N_call, rm_N_callNext, rm_N_callOnTop, rm_N_step, rm_N_perform, rm_E_has, rm_E_pop, rm_E_push, rm_N_pushUnlessEnded, rm_N_combine, rm_N_recast, rm_O_kind, rm_O_n, rm_V_of, rm_E_open, rm_E_result, rm_N_spend, rm_N_enter, rm_N_walk, rm_F_ofRow, rm_G_choose, rm_G_chooseBehind, rm_R_isEmpty] <;> omega) (Nat.le_of_ble_eq_true rfl) ⟨Nat.le_refl _, Nat.le_refl _⟩ (fun _ => rfl) (fun v7_ h7_ n7_ p7_ => ?_)
      obtain ⟨rfl, p7_⟩ := p7_
      have pz : mq_pt I nc nM 0 (mq_do I nc nM 1 (nI i9) fu th m0 x y (k9 + 1) st fs re) (mq_push x fu th m0 x y (k9 + 1) st fs re) := (show mq_push (if nI i9 = 0 then x else y) fu th m0 x y (k9 + 1) st fs re = _ by rw [if_pos (by rw [q1]; rfl)])
      rcases p7_ with ⟨z1, z2, z3⟩ | ⟨z, z2, X9, z3, z4, z5⟩
      · have z3z := z3.symm
        subst z3z
        exact z_iret C dd_N_step_79 ⟨rfl, X, Y, Z, hP, dk_fz_rf, chA, dk_fy_rf, dk_back_v pz hx (by omega) hf e0 e1 hs (Or.inl ⟨z1, z2, rfl⟩)⟩ (Nat.zero_le _) (Nat.zero_le _)
      · exact z_iret C dd_N_step_79 ⟨rfl, X9, Y, Z, dk_tr hP z3, dk_fd_fz z5, fun g9 h9 => dk_fd_ch z5 (chA g9 h9), dk_fd_fy z5, dk_back_v pz hx (by omega) hf e0 e1 hs (Or.inr ⟨z, z2, z4, z5⟩)⟩ (Nat.zero_le _) (Nat.zero_le _)
  · skip
    refine z_tableIn (off := 76) (tgt := 80) C dd_N_step_4 (by decide) (by decide) rfl (by decide) ?_
    rcases st with _ | ⟨u, _ | ⟨v, t⟩⟩
    · skip
      refine z_aload_n C dd_N_step_80 rfl ?_
      refine z_aload_n C dd_N_step_81 rfl ?_
      refine iv_N_125 (sk := fun r => .int r :: [.ref ((ad 9 fs.length))]) (zz_f B) C dd_N_step_82 (cc_O_kind l D dA B _ _ _ _ _ (dk_rd (k := 34) (i := (8 * m0 + k9)) (x := (X 34 (8 * m0 + k9))) (y := (Y 34 (8 * m0 + k9))) (z := (Z 34 (8 * m0 + k9))) hP hla rfl rfl rfl)) (dk_rd (k := 34) (i := (8 * m0 + k9)) (x := (X 34 (8 * m0 + k9))) (y := (Y 34 (8 * m0 + k9))) (z := (Z 34 (8 * m0 + k9))) hP hla rfl rfl rfl) rfl rfl (by refine ⟨?_, ?_⟩ <;> dsimp only [rm_N_call, rm_N_callNext, rm_N_callOnTop, rm_N_step, rm_N_perform, rm_E_has, rm_E_pop, rm_E_push, rm_N_pushUnlessEnded, rm_N_combine, rm_N_recast, rm_O_kind, rm_O_n, rm_V_of, rm_E_open, rm_E_result, rm_N_spend, rm_N_enter, rm_N_walk, rm_F_ofRow, rm_G_choose, rm_G_chooseBehind, rm_R_isEmpty] <;> omega) (Nat.le_of_ble_eq_true rfl) ⟨Nat.le_refl _, Nat.le_refl _⟩ (fun _ => rfl) (fun v8_ h8_ n8_ p8_ => ?_)
      obtain ⟨f8_, e8_, p8_⟩ := p8_
      have e8z := e8_.symm
      have f8z := f8_.symm
      subst e8z
      subst f8z
      refine z_topi (y := nI 2) (by rw [p8_, o7]) ?_
      refine z_iconst (v := 2) C dd_N_step_85 (by decide) ?_
      refine z_icmp_ne (tgt := 93) C dd_N_step_86 (by decide) (fun q2 => absurd (by decide) q2) (fun q2 => ?_)
      refine z_iconst (v := 1) C dd_N_step_89 (by decide) ?_
      refine z_goto (tgt := 94) C dd_N_step_90 (by decide) ?_
      refine is_N_142 (sk := fun r => .int r :: []) (zz_f B) C dd_N_step_94 (cd_N_combine_few l D dA B _ _ ad ng nM na no X Y Z hP.1 fs.length _ hd FMs (by first | decide | exact Nat.le_refl 2) _) rfl rfl (by refine ⟨?_, ?_⟩ <;> dsimp only [rm_N_call, rm_N_callNext, rm_N_callOnTop, rm_N_step, rm_N_perform, rm_E_has, rm_E_pop, rm_E_push, rm_N_pushUnlessEnded, rm_N_combine, rm_N_recast, rm_O_kind, rm_O_n, rm_V_of, rm_E_open, rm_E_result, rm_N_spend, rm_N_enter, rm_N_walk, rm_F_ofRow, rm_G_choose, rm_G_chooseBehind, rm_R_isEmpty] <;> omega) (Nat.le_of_ble_eq_true rfl) ⟨Nat.le_refl _, Nat.le_refl _⟩ (fun _ => rfl) (fun v9_ h9_ n9_ p9_ => ?_)
      obtain ⟨f9_, e9_, q9_⟩ := p9_
      have e9z := e9_.symm
      have f9z := f9_.symm
      subst e9z
      subst f9z
      exact z_iret C dd_N_step_97 ⟨rfl, X, Y, Z, hP, dk_fz_rf, chA, dk_fy_rf, 0, _, rfl, e0, e1, hf, Or.inl ⟨by rw [q9_]; decide, q9_⟩⟩ (Nat.zero_le _) (Nat.zero_le _)
    · skip
      refine z_aload_n C dd_N_step_80 rfl ?_
      refine z_aload_n C dd_N_step_81 rfl ?_
      refine iv_N_125 (sk := fun r => .int r :: [.ref ((ad 9 fs.length))]) (zz_f B) C dd_N_step_82 (cc_O_kind l D dA B _ _ _ _ _ (dk_rd (k := 34) (i := (8 * m0 + k9)) (x := (X 34 (8 * m0 + k9))) (y := (Y 34 (8 * m0 + k9))) (z := (Z 34 (8 * m0 + k9))) hP hla rfl rfl rfl)) (dk_rd (k := 34) (i := (8 * m0 + k9)) (x := (X 34 (8 * m0 + k9))) (y := (Y 34 (8 * m0 + k9))) (z := (Z 34 (8 * m0 + k9))) hP hla rfl rfl rfl) rfl rfl (by refine ⟨?_, ?_⟩ <;> dsimp only [rm_N_call, rm_N_callNext, rm_N_callOnTop, rm_N_step, rm_N_perform, rm_E_has, rm_E_pop, rm_E_push, rm_N_pushUnlessEnded, rm_N_combine, rm_N_recast, rm_O_kind, rm_O_n, rm_V_of, rm_E_open, rm_E_result, rm_N_spend, rm_N_enter, rm_N_walk, rm_F_ofRow, rm_G_choose, rm_G_chooseBehind, rm_R_isEmpty] <;> omega) (Nat.le_of_ble_eq_true rfl) ⟨Nat.le_refl _, Nat.le_refl _⟩ (fun _ => rfl) (fun v10_ h10_ n10_ p10_ => ?_)
      obtain ⟨f10_, e10_, p10_⟩ := p10_
      have e10z := e10_.symm
      have f10z := f10_.symm
      subst e10z
      subst f10z
      refine z_topi (y := nI 2) (by rw [p10_, o7]) ?_
      refine z_iconst (v := 2) C dd_N_step_85 (by decide) ?_
      refine z_icmp_ne (tgt := 93) C dd_N_step_86 (by decide) (fun q3 => absurd (by decide) q3) (fun q3 => ?_)
      refine z_iconst (v := 1) C dd_N_step_89 (by decide) ?_
      refine z_goto (tgt := 94) C dd_N_step_90 (by decide) ?_
      refine is_N_142 (sk := fun r => .int r :: []) (zz_f B) C dd_N_step_94 (cd_N_combine_few l D dA B _ _ ad ng nM na no X Y Z hP.1 fs.length _ hd FMs (by first | decide | exact Nat.le_refl 2) _) rfl rfl (by refine ⟨?_, ?_⟩ <;> dsimp only [rm_N_call, rm_N_callNext, rm_N_callOnTop, rm_N_step, rm_N_perform, rm_E_has, rm_E_pop, rm_E_push, rm_N_pushUnlessEnded, rm_N_combine, rm_N_recast, rm_O_kind, rm_O_n, rm_V_of, rm_E_open, rm_E_result, rm_N_spend, rm_N_enter, rm_N_walk, rm_F_ofRow, rm_G_choose, rm_G_chooseBehind, rm_R_isEmpty] <;> omega) (Nat.le_of_ble_eq_true rfl) ⟨Nat.le_refl _, Nat.le_refl _⟩ (fun _ => rfl) (fun v11_ h11_ n11_ p11_ => ?_)
      obtain ⟨f11_, e11_, q11_⟩ := p11_
      have e11z := e11_.symm
      have f11z := f11_.symm
      subst e11z
      subst f11z
      exact z_iret C dd_N_step_97 ⟨rfl, X, Y, Z, hP, dk_fz_rf, chA, dk_fy_rf, 0, _, rfl, e0, e1, hf, Or.inl ⟨by rw [q11_]; decide, q11_⟩⟩ (Nat.zero_le _) (Nat.zero_le _)
    · skip
      have hu := hs u (by simp)
      have hv := hs v (by simp)
      have vlt9 : mq_add v u < 8 * nc := mq_add_lt hv
      refine z_aload_n C dd_N_step_80 rfl ?_
      refine z_aload_n C dd_N_step_81 rfl ?_
      refine iv_N_125 (sk := fun r => .int r :: [.ref ((ad 9 fs.length))]) (zz_f B) C dd_N_step_82 (cc_O_kind l D dA B _ _ _ _ _ (dk_rd (k := 34) (i := (8 * m0 + k9)) (x := (X 34 (8 * m0 + k9))) (y := (Y 34 (8 * m0 + k9))) (z := (Z 34 (8 * m0 + k9))) hP hla rfl rfl rfl)) (dk_rd (k := 34) (i := (8 * m0 + k9)) (x := (X 34 (8 * m0 + k9))) (y := (Y 34 (8 * m0 + k9))) (z := (Z 34 (8 * m0 + k9))) hP hla rfl rfl rfl) rfl rfl (by refine ⟨?_, ?_⟩ <;> dsimp only [rm_N_call, rm_N_callNext, rm_N_callOnTop, rm_N_step, rm_N_perform, rm_E_has, rm_E_pop, rm_E_push, rm_N_pushUnlessEnded, rm_N_combine, rm_N_recast, rm_O_kind, rm_O_n, rm_V_of, rm_E_open, rm_E_result, rm_N_spend, rm_N_enter, rm_N_walk, rm_F_ofRow, rm_G_choose, rm_G_chooseBehind, rm_R_isEmpty] <;> omega) (Nat.le_of_ble_eq_true rfl) ⟨Nat.le_refl _, Nat.le_refl _⟩ (fun _ => rfl) (fun v12_ h12_ n12_ p12_ => ?_)
      obtain ⟨f12_, e12_, p12_⟩ := p12_
      have e12z := e12_.symm
      have f12z := f12_.symm
      subst e12z
      subst f12z
      refine z_topi (y := nI 2) (by rw [p12_, o7]) ?_
      refine z_iconst (v := 2) C dd_N_step_85 (by decide) ?_
      refine z_icmp_ne (tgt := 93) C dd_N_step_86 (by decide) (fun q4 => absurd (by decide) q4) (fun q4 => ?_)
      refine z_iconst (v := 1) C dd_N_step_89 (by decide) ?_
      refine z_goto (tgt := 94) C dd_N_step_90 (by decide) ?_
      refine is_N_142 (sk := fun r => .int r :: []) (zz_f B) C dd_N_step_94 (cd_N_combine_add l D dA B _ _ ad ng nM na no X Y Z hP.1 fs.length u v t hd (by omega) (by omega) FMs) rfl rfl (by refine ⟨?_, ?_⟩ <;> dsimp only [rm_N_call, rm_N_callNext, rm_N_callOnTop, rm_N_step, rm_N_perform, rm_E_has, rm_E_pop, rm_E_push, rm_N_pushUnlessEnded, rm_N_combine, rm_N_recast, rm_O_kind, rm_O_n, rm_V_of, rm_E_open, rm_E_result, rm_N_spend, rm_N_enter, rm_N_walk, rm_F_ofRow, rm_G_choose, rm_G_chooseBehind, rm_R_isEmpty] <;> omega) (Nat.le_of_ble_eq_true rfl) ⟨Nat.le_refl _, Nat.le_refl _⟩ (fun _ => rfl) (fun v13_ h13_ n13_ p13_ => ?_)
      obtain ⟨rfl, z2, X9, z3, z4, z5⟩ := p13_
      refine z_iret C dd_N_step_97 ⟨rfl, X9, Y, Z, dk_tr hP z3, dk_fd_fz z5, fun g9 h9 => dk_fd_ch z5 (chA g9 h9), dk_fd_fy z5, 0, _, rfl, by rw [z5.1 7 0 (by omega)]; exact e0, by rw [z5.1 7 0 (by omega)]; exact e1, hf, Or.inr ⟨by rw [z2]; exact nI_pos (by omega), fu, th, (mq_add v u :: t), re, rfl, z4, fun w hw => ?_⟩⟩ (Nat.zero_le _) (Nat.zero_le _)
      rcases List.mem_cons.mp hw with e | e
      · rw [e]; exact vlt9
      · exact hs w (by simp [e])
  · skip
    refine z_tableIn (off := 76) (tgt := 80) C dd_N_step_4 (by decide) (by decide) rfl (by decide) ?_
    rcases st with _ | ⟨u, _ | ⟨v, t⟩⟩
    · skip
      refine z_aload_n C dd_N_step_80 rfl ?_
      refine z_aload_n C dd_N_step_81 rfl ?_
      refine iv_N_125 (sk := fun r => .int r :: [.ref ((ad 9 fs.length))]) (zz_f B) C dd_N_step_82 (cc_O_kind l D dA B _ _ _ _ _ (dk_rd (k := 34) (i := (8 * m0 + k9)) (x := (X 34 (8 * m0 + k9))) (y := (Y 34 (8 * m0 + k9))) (z := (Z 34 (8 * m0 + k9))) hP hla rfl rfl rfl)) (dk_rd (k := 34) (i := (8 * m0 + k9)) (x := (X 34 (8 * m0 + k9))) (y := (Y 34 (8 * m0 + k9))) (z := (Z 34 (8 * m0 + k9))) hP hla rfl rfl rfl) rfl rfl (by refine ⟨?_, ?_⟩ <;> dsimp only [rm_N_call, rm_N_callNext, rm_N_callOnTop, rm_N_step, rm_N_perform, rm_E_has, rm_E_pop, rm_E_push, rm_N_pushUnlessEnded, rm_N_combine, rm_N_recast, rm_O_kind, rm_O_n, rm_V_of, rm_E_open, rm_E_result, rm_N_spend, rm_N_enter, rm_N_walk, rm_F_ofRow, rm_G_choose, rm_G_chooseBehind, rm_R_isEmpty] <;> omega) (Nat.le_of_ble_eq_true rfl) ⟨Nat.le_refl _, Nat.le_refl _⟩ (fun _ => rfl) (fun v14_ h14_ n14_ p14_ => ?_)
      obtain ⟨f14_, e14_, p14_⟩ := p14_
      have e14z := e14_.symm
      have f14z := f14_.symm
      subst e14z
      subst f14z
      refine z_topi (y := nI 3) (by rw [p14_, o7]) ?_
      refine z_iconst (v := 2) C dd_N_step_85 (by decide) ?_
      refine z_icmp_ne (tgt := 93) C dd_N_step_86 (by decide) (fun q5 => ?_) (fun q5 => absurd q5 (by decide))
      refine z_iconst (v := 0) C dd_N_step_93 (by decide) ?_
      refine is_N_142 (sk := fun r => .int r :: []) (zz_f B) C dd_N_step_94 (cd_N_combine_few l D dA B _ _ ad ng nM na no X Y Z hP.1 fs.length _ hd FMs (by first | decide | exact Nat.le_refl 2) _) rfl rfl (by refine ⟨?_, ?_⟩ <;> dsimp only [rm_N_call, rm_N_callNext, rm_N_callOnTop, rm_N_step, rm_N_perform, rm_E_has, rm_E_pop, rm_E_push, rm_N_pushUnlessEnded, rm_N_combine, rm_N_recast, rm_O_kind, rm_O_n, rm_V_of, rm_E_open, rm_E_result, rm_N_spend, rm_N_enter, rm_N_walk, rm_F_ofRow, rm_G_choose, rm_G_chooseBehind, rm_R_isEmpty] <;> omega) (Nat.le_of_ble_eq_true rfl) ⟨Nat.le_refl _, Nat.le_refl _⟩ (fun _ => rfl) (fun v15_ h15_ n15_ p15_ => ?_)
      obtain ⟨f15_, e15_, q15_⟩ := p15_
      have e15z := e15_.symm
      have f15z := f15_.symm
      subst e15z
      subst f15z
      exact z_iret C dd_N_step_97 ⟨rfl, X, Y, Z, hP, dk_fz_rf, chA, dk_fy_rf, 0, _, rfl, e0, e1, hf, Or.inl ⟨by rw [q15_]; decide, q15_⟩⟩ (Nat.zero_le _) (Nat.zero_le _)
    · skip
      refine z_aload_n C dd_N_step_80 rfl ?_
      refine z_aload_n C dd_N_step_81 rfl ?_
      refine iv_N_125 (sk := fun r => .int r :: [.ref ((ad 9 fs.length))]) (zz_f B) C dd_N_step_82 (cc_O_kind l D dA B _ _ _ _ _ (dk_rd (k := 34) (i := (8 * m0 + k9)) (x := (X 34 (8 * m0 + k9))) (y := (Y 34 (8 * m0 + k9))) (z := (Z 34 (8 * m0 + k9))) hP hla rfl rfl rfl)) (dk_rd (k := 34) (i := (8 * m0 + k9)) (x := (X 34 (8 * m0 + k9))) (y := (Y 34 (8 * m0 + k9))) (z := (Z 34 (8 * m0 + k9))) hP hla rfl rfl rfl) rfl rfl (by refine ⟨?_, ?_⟩ <;> dsimp only [rm_N_call, rm_N_callNext, rm_N_callOnTop, rm_N_step, rm_N_perform, rm_E_has, rm_E_pop, rm_E_push, rm_N_pushUnlessEnded, rm_N_combine, rm_N_recast, rm_O_kind, rm_O_n, rm_V_of, rm_E_open, rm_E_result, rm_N_spend, rm_N_enter, rm_N_walk, rm_F_ofRow, rm_G_choose, rm_G_chooseBehind, rm_R_isEmpty] <;> omega) (Nat.le_of_ble_eq_true rfl) ⟨Nat.le_refl _, Nat.le_refl _⟩ (fun _ => rfl) (fun v16_ h16_ n16_ p16_ => ?_)
      obtain ⟨f16_, e16_, p16_⟩ := p16_
      have e16z := e16_.symm
      have f16z := f16_.symm
      subst e16z
      subst f16z
      refine z_topi (y := nI 3) (by rw [p16_, o7]) ?_
      refine z_iconst (v := 2) C dd_N_step_85 (by decide) ?_
      refine z_icmp_ne (tgt := 93) C dd_N_step_86 (by decide) (fun q6 => ?_) (fun q6 => absurd q6 (by decide))
      refine z_iconst (v := 0) C dd_N_step_93 (by decide) ?_
      refine is_N_142 (sk := fun r => .int r :: []) (zz_f B) C dd_N_step_94 (cd_N_combine_few l D dA B _ _ ad ng nM na no X Y Z hP.1 fs.length _ hd FMs (by first | decide | exact Nat.le_refl 2) _) rfl rfl (by refine ⟨?_, ?_⟩ <;> dsimp only [rm_N_call, rm_N_callNext, rm_N_callOnTop, rm_N_step, rm_N_perform, rm_E_has, rm_E_pop, rm_E_push, rm_N_pushUnlessEnded, rm_N_combine, rm_N_recast, rm_O_kind, rm_O_n, rm_V_of, rm_E_open, rm_E_result, rm_N_spend, rm_N_enter, rm_N_walk, rm_F_ofRow, rm_G_choose, rm_G_chooseBehind, rm_R_isEmpty] <;> omega) (Nat.le_of_ble_eq_true rfl) ⟨Nat.le_refl _, Nat.le_refl _⟩ (fun _ => rfl) (fun v17_ h17_ n17_ p17_ => ?_)
      obtain ⟨f17_, e17_, q17_⟩ := p17_
      have e17z := e17_.symm
      have f17z := f17_.symm
      subst e17z
      subst f17z
      exact z_iret C dd_N_step_97 ⟨rfl, X, Y, Z, hP, dk_fz_rf, chA, dk_fy_rf, 0, _, rfl, e0, e1, hf, Or.inl ⟨by rw [q17_]; decide, q17_⟩⟩ (Nat.zero_le _) (Nat.zero_le _)
    · skip
      have hu := hs u (by simp)
      have hv := hs v (by simp)
      have vlt9 : mq_mul v u < 8 * nc := mq_mul_lt hv
      refine z_aload_n C dd_N_step_80 rfl ?_
      refine z_aload_n C dd_N_step_81 rfl ?_
      refine iv_N_125 (sk := fun r => .int r :: [.ref ((ad 9 fs.length))]) (zz_f B) C dd_N_step_82 (cc_O_kind l D dA B _ _ _ _ _ (dk_rd (k := 34) (i := (8 * m0 + k9)) (x := (X 34 (8 * m0 + k9))) (y := (Y 34 (8 * m0 + k9))) (z := (Z 34 (8 * m0 + k9))) hP hla rfl rfl rfl)) (dk_rd (k := 34) (i := (8 * m0 + k9)) (x := (X 34 (8 * m0 + k9))) (y := (Y 34 (8 * m0 + k9))) (z := (Z 34 (8 * m0 + k9))) hP hla rfl rfl rfl) rfl rfl (by refine ⟨?_, ?_⟩ <;> dsimp only [rm_N_call, rm_N_callNext, rm_N_callOnTop, rm_N_step, rm_N_perform, rm_E_has, rm_E_pop, rm_E_push, rm_N_pushUnlessEnded, rm_N_combine, rm_N_recast, rm_O_kind, rm_O_n, rm_V_of, rm_E_open, rm_E_result, rm_N_spend, rm_N_enter, rm_N_walk, rm_F_ofRow, rm_G_choose, rm_G_chooseBehind, rm_R_isEmpty] <;> omega) (Nat.le_of_ble_eq_true rfl) ⟨Nat.le_refl _, Nat.le_refl _⟩ (fun _ => rfl) (fun v18_ h18_ n18_ p18_ => ?_)
      obtain ⟨f18_, e18_, p18_⟩ := p18_
      have e18z := e18_.symm
      have f18z := f18_.symm
      subst e18z
      subst f18z
      refine z_topi (y := nI 3) (by rw [p18_, o7]) ?_
      refine z_iconst (v := 2) C dd_N_step_85 (by decide) ?_
      refine z_icmp_ne (tgt := 93) C dd_N_step_86 (by decide) (fun q7 => ?_) (fun q7 => absurd q7 (by decide))
      refine z_iconst (v := 0) C dd_N_step_93 (by decide) ?_
      refine is_N_142 (sk := fun r => .int r :: []) (zz_f B) C dd_N_step_94 (cd_N_combine_mul l D dA B _ _ ad ng nM na no X Y Z hP.1 fs.length u v t hd (by omega) (by omega) FMs) rfl rfl (by refine ⟨?_, ?_⟩ <;> dsimp only [rm_N_call, rm_N_callNext, rm_N_callOnTop, rm_N_step, rm_N_perform, rm_E_has, rm_E_pop, rm_E_push, rm_N_pushUnlessEnded, rm_N_combine, rm_N_recast, rm_O_kind, rm_O_n, rm_V_of, rm_E_open, rm_E_result, rm_N_spend, rm_N_enter, rm_N_walk, rm_F_ofRow, rm_G_choose, rm_G_chooseBehind, rm_R_isEmpty] <;> omega) (Nat.le_of_ble_eq_true rfl) ⟨Nat.le_refl _, Nat.le_refl _⟩ (fun _ => rfl) (fun v19_ h19_ n19_ p19_ => ?_)
      obtain ⟨rfl, z2, X9, z3, z4, z5⟩ := p19_
      refine z_iret C dd_N_step_97 ⟨rfl, X9, Y, Z, dk_tr hP z3, dk_fd_fz z5, fun g9 h9 => dk_fd_ch z5 (chA g9 h9), dk_fd_fy z5, 0, _, rfl, by rw [z5.1 7 0 (by omega)]; exact e0, by rw [z5.1 7 0 (by omega)]; exact e1, hf, Or.inr ⟨by rw [z2]; exact nI_pos (by omega), fu, th, (mq_mul v u :: t), re, rfl, z4, fun w hw => ?_⟩⟩ (Nat.zero_le _) (Nat.zero_le _)
      rcases List.mem_cons.mp hw with e | e
      · rw [e]; exact vlt9
      · exact hs w (by simp [e])
  · skip
    refine z_tableIn (off := 94) (tgt := 98) C dd_N_step_4 (by decide) (by decide) rfl (by decide) ?_
    rw [if_neg (by decide), if_neg (by decide), if_pos rfl] at p3
    obtain ⟨i9, hi9, rfl⟩ := (pu_iv_0 (N := nc) (by omega)).mp p3
    rcases st with _ | ⟨u, t⟩
    · skip
      refine z_aload_n C dd_N_step_98 rfl ?_
      refine z_aload_n C dd_N_step_99 rfl ?_
      refine iv_N_130 (sk := fun r => .int r :: [.ref ((ad 9 fs.length))]) (zz_f B) C dd_N_step_100 (cc_O_n l D dA B _ _ _ _ _ (dk_rd (k := 34) (i := (8 * m0 + k9)) (x := (X 34 (8 * m0 + k9))) (y := (Y 34 (8 * m0 + k9))) (z := (Z 34 (8 * m0 + k9))) hP hla rfl rfl rfl)) (dk_rd (k := 34) (i := (8 * m0 + k9)) (x := (X 34 (8 * m0 + k9))) (y := (Y 34 (8 * m0 + k9))) (z := (Z 34 (8 * m0 + k9))) hP hla rfl rfl rfl) rfl rfl (by refine ⟨?_, ?_⟩ <;> dsimp only [rm_N_call, rm_N_callNext, rm_N_callOnTop, rm_N_step, rm_N_perform, rm_E_has, rm_E_pop, rm_E_push, rm_N_pushUnlessEnded, rm_N_combine, rm_N_recast, rm_O_kind, rm_O_n, rm_V_of, rm_E_open, rm_E_result, rm_N_spend, rm_N_enter, rm_N_walk, rm_F_ofRow, rm_G_choose, rm_G_chooseBehind, rm_R_isEmpty] <;> omega) (Nat.le_of_ble_eq_true rfl) ⟨Nat.le_refl _, Nat.le_refl _⟩ (fun _ => rfl) (fun v20_ h20_ n20_ p20_ => ?_)
      obtain ⟨f20_, e20_, p20_⟩ := p20_
      have e20z := e20_.symm
      have f20z := f20_.symm
      subst e20z
      subst f20z
      refine z_topi (y := nI i9) (by rw [p20_, o8]) ?_
      refine is_N_146 (sk := fun r => .int r :: []) (zz_f B) C dd_N_step_103 (cd_N_recast_few l D dA B _ _ ad ng nM na no X Y Z hP.1 fs.length _ hd FMs (by decide) _) rfl rfl (by refine ⟨?_, ?_⟩ <;> dsimp only [rm_N_call, rm_N_callNext, rm_N_callOnTop, rm_N_step, rm_N_perform, rm_E_has, rm_E_pop, rm_E_push, rm_N_pushUnlessEnded, rm_N_combine, rm_N_recast, rm_O_kind, rm_O_n, rm_V_of, rm_E_open, rm_E_result, rm_N_spend, rm_N_enter, rm_N_walk, rm_F_ofRow, rm_G_choose, rm_G_chooseBehind, rm_R_isEmpty] <;> omega) (Nat.le_of_ble_eq_true rfl) ⟨Nat.le_refl _, Nat.le_refl _⟩ (fun _ => rfl) (fun v21_ h21_ n21_ p21_ => ?_)
      obtain ⟨f21_, e21_, q21_⟩ := p21_
      have e21z := e21_.symm
      have f21z := f21_.symm
      subst e21z
      subst f21z
      exact z_iret C dd_N_step_106 ⟨rfl, X, Y, Z, hP, dk_fz_rf, chA, dk_fy_rf, 0, _, rfl, e0, e1, hf, Or.inl ⟨by rw [q21_]; decide, q21_⟩⟩ (Nat.zero_le _) (Nat.zero_le _)
    · skip
      have hu := hs u (by simp)
      have vlt9 : 8 * i9 + u % 8 < 8 * nc := by omega
      refine z_aload_n C dd_N_step_98 rfl ?_
      refine z_aload_n C dd_N_step_99 rfl ?_
      refine iv_N_130 (sk := fun r => .int r :: [.ref ((ad 9 fs.length))]) (zz_f B) C dd_N_step_100 (cc_O_n l D dA B _ _ _ _ _ (dk_rd (k := 34) (i := (8 * m0 + k9)) (x := (X 34 (8 * m0 + k9))) (y := (Y 34 (8 * m0 + k9))) (z := (Z 34 (8 * m0 + k9))) hP hla rfl rfl rfl)) (dk_rd (k := 34) (i := (8 * m0 + k9)) (x := (X 34 (8 * m0 + k9))) (y := (Y 34 (8 * m0 + k9))) (z := (Z 34 (8 * m0 + k9))) hP hla rfl rfl rfl) rfl rfl (by refine ⟨?_, ?_⟩ <;> dsimp only [rm_N_call, rm_N_callNext, rm_N_callOnTop, rm_N_step, rm_N_perform, rm_E_has, rm_E_pop, rm_E_push, rm_N_pushUnlessEnded, rm_N_combine, rm_N_recast, rm_O_kind, rm_O_n, rm_V_of, rm_E_open, rm_E_result, rm_N_spend, rm_N_enter, rm_N_walk, rm_F_ofRow, rm_G_choose, rm_G_chooseBehind, rm_R_isEmpty] <;> omega) (Nat.le_of_ble_eq_true rfl) ⟨Nat.le_refl _, Nat.le_refl _⟩ (fun _ => rfl) (fun v22_ h22_ n22_ p22_ => ?_)
      obtain ⟨f22_, e22_, p22_⟩ := p22_
      have e22z := e22_.symm
      have f22z := f22_.symm
      subst e22z
      subst f22z
      refine z_topi (y := nI i9) (by rw [p22_, o8]) ?_
      refine is_N_146 (sk := fun r => .int r :: []) (zz_f B) C dd_N_step_103 (cd_N_recast l D dA B _ _ ad ng nM na no X Y Z hP.1 fs.length u i9 t hd (by omega) (by omega) FMs) rfl rfl (by refine ⟨?_, ?_⟩ <;> dsimp only [rm_N_call, rm_N_callNext, rm_N_callOnTop, rm_N_step, rm_N_perform, rm_E_has, rm_E_pop, rm_E_push, rm_N_pushUnlessEnded, rm_N_combine, rm_N_recast, rm_O_kind, rm_O_n, rm_V_of, rm_E_open, rm_E_result, rm_N_spend, rm_N_enter, rm_N_walk, rm_F_ofRow, rm_G_choose, rm_G_chooseBehind, rm_R_isEmpty] <;> omega) (Nat.le_of_ble_eq_true rfl) ⟨Nat.le_refl _, Nat.le_refl _⟩ (fun _ => rfl) (fun v23_ h23_ n23_ p23_ => ?_)
      obtain ⟨rfl, z2, X9, z3, z4, z5⟩ := p23_
      refine z_iret C dd_N_step_106 ⟨rfl, X9, Y, Z, dk_tr hP z3, dk_fd_fz z5, fun g9 h9 => dk_fd_ch z5 (chA g9 h9), dk_fd_fy z5, 0, _, rfl, by rw [z5.1 7 0 (by omega)]; exact e0, by rw [z5.1 7 0 (by omega)]; exact e1, hf, Or.inr ⟨by rw [z2]; exact nI_pos (by omega), fu, th, ((8 * i9 + u % 8) :: t), re, (show (fu, th, (m0, x, y, k9 + 1, (8 * (nI i9).toNatClampNeg + u % 8) :: t) :: fs, (0 : Int32), re) = _ by rw [nI_clamp (n := i9) (by omega)]), z4, fun w hw => ?_⟩⟩ (Nat.zero_le _) (Nat.zero_le _)
      rcases List.mem_cons.mp hw with e | e
      · rw [e]; exact vlt9
      · exact hs w (by simp [e])
  · skip
    refine z_tableIn (off := 103) (tgt := 107) C dd_N_step_4 (by decide) (by decide) rfl (by decide) ?_
    rw [if_neg (by decide), if_neg (by decide), if_neg (by decide), if_pos rfl] at p3
    obtain ⟨g9, hg9, rfl⟩ := (pu_iv_0 (N := ng) (by omega)).mp p3
    refine z_aload_n C dd_N_step_107 rfl ?_
    refine z_aload_n C dd_N_step_108 rfl ?_
    refine gf_N_16 (v := va_rf (Z 7 0 2)) C dd_N_step_109 (dk_rd (k := 7) (i := 0) (x := (X 7 0)) (y := (Y 7 0)) (z := (Z 7 0)) hP rfl rfl rfl rfl) rfl ?_
    refine z_topr (y := ad 3 0) (by rw [R.2.1.2.2.2.1]; rfl) ?_
    refine z_aload_n C dd_N_step_112 rfl ?_
    refine iv_N_130 (sk := fun r => .int r :: [.ref ((ad 3 0)), .ref ((ad 7 0))]) (zz_f B) C dd_N_step_113 (cc_O_n l D dA B _ _ _ _ _ (dk_rd (k := 34) (i := (8 * m0 + k9)) (x := (X 34 (8 * m0 + k9))) (y := (Y 34 (8 * m0 + k9))) (z := (Z 34 (8 * m0 + k9))) hP hla rfl rfl rfl)) (dk_rd (k := 34) (i := (8 * m0 + k9)) (x := (X 34 (8 * m0 + k9))) (y := (Y 34 (8 * m0 + k9))) (z := (Z 34 (8 * m0 + k9))) hP hla rfl rfl rfl) rfl rfl (by refine ⟨?_, ?_⟩ <;> dsimp only [rm_N_call, rm_N_callNext, rm_N_callOnTop, rm_N_step, rm_N_perform, rm_E_has, rm_E_pop, rm_E_push, rm_N_pushUnlessEnded, rm_N_combine, rm_N_recast, rm_O_kind, rm_O_n, rm_V_of, rm_E_open, rm_E_result, rm_N_spend, rm_N_enter, rm_N_walk, rm_F_ofRow, rm_G_choose, rm_G_chooseBehind, rm_R_isEmpty] <;> omega) (Nat.le_of_ble_eq_true rfl) ⟨Nat.le_refl _, Nat.le_refl _⟩ (fun _ => rfl) (fun v24_ h24_ n24_ p24_ => ?_)
    obtain ⟨f24_, e24_, p24_⟩ := p24_
    have e24z := e24_.symm
    have f24z := f24_.symm
    subst e24z
    subst f24z
    refine z_topi (y := nI g9) (by rw [p24_, o8]) ?_
    refine z_aald (t0 := 3) (N := 4) (f := (Z 3 0)) C rfl dd_N_step_116 (dk_rd (k := 3) (i := 0) (x := (X 3 0)) (y := (Y 3 0)) (z := (Z 3 0)) hP rfl rfl rfl rfl) (vp_in_nI (by omega) (by decide)) ?_
    refine z_topr (y := ad 20 g9) (by rw [nI_clamp (by omega), R.2.1.1 g9 hg9]; rfl) ?_
    refine z_aload_n C dd_N_step_117 rfl ?_
    refine z_iload_n C dd_N_step_118 rfl ?_
    refine iv_N_150 (sk := fun r => .int r :: []) (zz_f B) C dd_N_step_119 (cd_N_callOnTop l D dA B F ad ng nM na no I nc oc ow tf k ihC _ _ X Y Z fs g9 fu th re m0 x y (k9 + 1) st hP.1 R hk hg9 FMs hs e0 hf e1) (dk_rd (k := 7) (i := 0) (x := (X 7 0)) (y := (Y 7 0)) (z := (Z 7 0)) hP rfl rfl rfl rfl) rfl rfl (by refine ⟨?_, ?_⟩ <;> dsimp only [rm_N_call, rm_N_callNext, rm_N_callOnTop, rm_N_step, rm_N_perform, rm_E_has, rm_E_pop, rm_E_push, rm_N_pushUnlessEnded, rm_N_combine, rm_N_recast, rm_O_kind, rm_O_n, rm_V_of, rm_E_open, rm_E_result, rm_N_spend, rm_N_enter, rm_N_walk, rm_F_ofRow, rm_G_choose, rm_G_chooseBehind, rm_R_isEmpty] <;> omega) (Nat.le_of_ble_eq_true rfl) ⟨Nat.le_refl _, Nat.le_refl _⟩ (fun _ => rfl) (fun v25_ h25_ n25_ p25_ => ?_)
    obtain ⟨rfl, X8, Y8, Z8, u1, u2, u3, u4⟩ := p25_
    have ed : mq_do I nc nM 5 (nI g9) fu th m0 x y (k9 + 1) st fs re = dk_do5 I nc nM g9 fu th m0 x y (k9 + 1) st fs re := by
      unfold mq_do dk_do5
      rw [nI_clamp (n := g9) (by omega)]
      rcases st with _ | ⟨u, _ | ⟨v, t⟩⟩ <;> rfl
    rw [ed]
    exact z_iret C dd_N_step_122 ⟨rfl, X8, Y8, Z8, dk_tr hP u1, u2, u3, u4⟩ (Nat.zero_le _) (Nat.zero_le _)
  · skip
    refine z_tableOut (tgt := 123) C dd_N_step_4 (Or.inr (by decide)) (by decide) ?_
    refine z_aload_n C dd_N_step_123 rfl ?_
    refine z_aload_n C dd_N_step_124 rfl ?_
    refine z_aload_n C dd_N_step_125 rfl ?_
    refine z_iload_n C dd_N_step_126 rfl ?_
    refine z_iconst (v := 1) C dd_N_step_127 (by decide) ?_
    refine z_iadd C dd_N_step_128 ?_
    refine z_topi (y := nI (fs.length + 1)) (by first | exact (nI_add _ _).symm | (rw [← nI_add]; rfl)) ?_
    refine iv_N_154 (sk := fun r => .int r :: [.ref ((ad 9 fs.length))]) (zz_f B) C dd_N_step_129 (ihN _ _ X Y Z ((m0, x, y, k9 + 1, st) :: fs) m0 x y a9 fs.length st fu th re hP.1 R (by simp; omega) hd ⟨m1, m2, m3, FM⟩ hm hx hy hy1 e0 hf e1) (dk_rd (k := 7) (i := 0) (x := (X 7 0)) (y := (Y 7 0)) (z := (Z 7 0)) hP rfl rfl rfl rfl) rfl rfl (by refine ⟨?_, ?_⟩ <;> dsimp only [rm_N_call, rm_N_callNext, rm_N_callOnTop, rm_N_step, rm_N_perform, rm_E_has, rm_E_pop, rm_E_push, rm_N_pushUnlessEnded, rm_N_combine, rm_N_recast, rm_O_kind, rm_O_n, rm_V_of, rm_E_open, rm_E_result, rm_N_spend, rm_N_enter, rm_N_walk, rm_F_ofRow, rm_G_choose, rm_G_chooseBehind, rm_R_isEmpty] <;> omega) (Nat.le_of_ble_eq_true rfl) ⟨Nat.le_refl _, Nat.le_refl _⟩ (fun _ => rfl) (fun v26_ h26_ n26_ p26_ => ?_)
    obtain ⟨rfl, X8, Y8, Z8, u1, u2, u3, u4⟩ := p26_
    have hPz := dk_tr hP u1
    have ed : mq_do I nc nM 6 n9 fu th m0 x y (k9 + 1) st fs re = mq_enter (mq_cn I nc nM m0 x y, 0) x y fu th ((m0, x, y, k9 + 1, st) :: fs) re := rfl
    rw [ed]
    have fz0 : dk_fz fs.length X X8 Y Y8 Z Z8 := dk_fz_up u2 (by simp)
    have fy0 : dk_fy fs.length X X8 Z Z8 := dk_fz_fy u2 (by simp)
    have FM8 : dk_fm X8 fs.length st := by unfold dk_fm; rw [u2.1 9 fs.length (by decide) (by decide) (by simp), u2.1 10 fs.length (by decide) (by decide) (by simp)]; exact FMs
    by_cases hr : v26_ < 0
    · skip
      refine is_N_157 (sk := fun r => .int r :: []) (zz_f B) C dd_N_step_132 (cd_N_pue_e l D dA B _ _ ad ng nM na no X8 Y8 Z8 hPz.1 fs.length hd v26_ hr) rfl rfl (by refine ⟨?_, ?_⟩ <;> dsimp only [rm_N_call, rm_N_callNext, rm_N_callOnTop, rm_N_step, rm_N_perform, rm_E_has, rm_E_pop, rm_E_push, rm_N_pushUnlessEnded, rm_N_combine, rm_N_recast, rm_O_kind, rm_O_n, rm_V_of, rm_E_open, rm_E_result, rm_N_spend, rm_N_enter, rm_N_walk, rm_F_ofRow, rm_G_choose, rm_G_chooseBehind, rm_R_isEmpty] <;> omega) (Nat.le_of_ble_eq_true rfl) ⟨Nat.le_refl _, Nat.le_refl _⟩ (fun _ => rfl) (fun v27_ h27_ n27_ p27_ => ?_)
      obtain ⟨f27_, e27_, q27_⟩ := p27_
      have e27z := e27_.symm
      have f27z := f27_.symm
      have q27z := q27_.symm
      subst e27z
      subst f27z
      subst q27z
      obtain ⟨j, z1, y1, y2, y3, y4, y5⟩ := u4
      rcases y5 with y5 | ⟨_, _, _, _, _, _, st9, _, _, _, y6, y7⟩
      · exact z_iret C dd_N_step_135 ⟨rfl, X8, Y8, Z8, hPz, fz0, u3, fy0, j, z1, y1, y2, y3, y4, Or.inl y5⟩ (Nat.zero_le _) (Nat.zero_le _)
      · exact absurd hr (by rw [y6]; exact nI_pos (by omega))
    · skip
      obtain ⟨j, fu8, th8, v8, b1, b2, b3, b4, b5, b6⟩ := dk_back u4 hr
      have b1z := b1.symm
      subst b1z
      refine is_N_157 (sk := fun r => .int r :: []) (zz_f B) C dd_N_step_132 (cd_N_pue_v l D dA B _ _ ad ng nM na no X8 Y8 Z8 hPz.1 fs.length v8 st hd (by omega) FM8) rfl rfl (by refine ⟨?_, ?_⟩ <;> dsimp only [rm_N_call, rm_N_callNext, rm_N_callOnTop, rm_N_step, rm_N_perform, rm_E_has, rm_E_pop, rm_E_push, rm_N_pushUnlessEnded, rm_N_combine, rm_N_recast, rm_O_kind, rm_O_n, rm_V_of, rm_E_open, rm_E_result, rm_N_spend, rm_N_enter, rm_N_walk, rm_F_ofRow, rm_G_choose, rm_G_chooseBehind, rm_R_isEmpty] <;> omega) (Nat.le_of_ble_eq_true rfl) ⟨Nat.le_refl _, Nat.le_refl _⟩ (fun _ => rfl) (fun v28_ h28_ n28_ p28_ => ?_)
      obtain ⟨rfl, p28_⟩ := p28_
      rcases p28_ with ⟨z1, z2, z3⟩ | ⟨z, z2, X9, z3, z4, z5⟩
      · have z3z := z3.symm
        subst z3z
        exact z_iret C dd_N_step_135 ⟨rfl, X8, Y8, Z8, hPz, fz0, u3, fy0, dk_back_v b6 b2 (by omega) b3 b4 b5 hs (Or.inl ⟨z1, z2, rfl⟩)⟩ (Nat.zero_le _) (Nat.zero_le _)
      · exact z_iret C dd_N_step_135 ⟨rfl, X9, Y8, Z8, dk_tr hPz z3, dk_fz_tr fz0 (dk_fd_fz z5), fun g9 h9 => dk_fd_ch z5 (u3 g9 h9), dk_fy_tr fy0 (dk_fd_fy z5), dk_back_v b6 b2 (by omega) b3 b4 b5 hs (Or.inr ⟨z, z2, z4, z5⟩)⟩ (Nat.zero_le _) (Nat.zero_le _)
