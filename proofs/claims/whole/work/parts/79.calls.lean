set_option maxRecDepth 20000 in
theorem cd_N_call (l : Launch) (D : va_G) (dA : Nat → ClassId) (B : Nat) (F : Nat → Int32) (ad : Nat → Nat → Nat) (ng nM : Nat) (na no : Nat → Nat) (I : mq_M) (nc : Nat) (oc : Nat → Nat) (ow tf : Nat → Nat → Nat) (k : Nat) (ihC : dk_CT l D dA B F ad ng nM na no I nc oc ow tf k) (ihN : dk_NT l D dA B F ad ng nM na no I nc oc ow tf k) : dk_CT l D dA B F ad ng nM na no I nc oc ow tf (k + 1) := by
  intro h n X Y Z fs g x y fu th re hP0 R hk hg hx hy hy1 e0 hf e1
  refine zz_ofW (zz_f B) [some (.ref ((ad 7 0))), some (.ref ((ad 20 g))), some (.int ((nI x))), some (.int ((nI y))), some (.int ((nI fs.length))), none, none, none, none] (by decide) rfl rfl (Nat.le_of_ble_eq_true rfl) ?_
  intro p e s m below meth c C
  have hP := dk_rf hP0
  have hd : fs.length < 8 := by omega
  have chA : ∀ g9, g9 < ng → dk_ch X Y (ow g9) g9 (oc g9) := fun g9 h9 => (R.1 g9 h9).2.2.2.2.1
  have Wp := R.2.2.2.1
  have h8 := Wp.c8
  have h12 := Wp.m12
  have hg4 := Wp.g4
  obtain ⟨g1, g2, g3, g4, g5, g6⟩ := R.1 g hg
  have fz2 : dk_fz fs.length X (dk_is X 7 0 (upd (X 7 0) 0 (nI (fu - 1)))) Y Y Z Z := dk_fz_7
  have ch2 : ∀ g9, g9 < ng → dk_ch (dk_is X 7 0 (upd (X 7 0) 0 (nI (fu - 1)))) Y (ow g9) g9 (oc g9) := fun g9 h9 => dk_ch_7 (chA g9 h9)
  refine z_aload_n C dd_N_call_0 rfl ?_
  refine z_iload C dd_N_call_1 rfl ?_
  refine iv_N_31 (sk := fun r => .int r :: []) (zz_f B) C dd_N_call_3 (cd_N_enter l D dA B _ _ ad ng nM na no X Y Z hP.1 fu fs.length hf (by omega) e0) (dk_rd (k := 7) (i := 0) (x := (X 7 0)) (y := (Y 7 0)) (z := (Z 7 0)) hP rfl rfl rfl rfl) rfl rfl (by refine ⟨?_, ?_⟩ <;> dsimp only [rm_N_call, rm_N_callNext, rm_N_callOnTop, rm_N_step, rm_N_perform, rm_E_has, rm_E_pop, rm_E_push, rm_N_pushUnlessEnded, rm_N_combine, rm_N_recast, rm_O_kind, rm_O_n, rm_V_of, rm_E_open, rm_E_result, rm_N_spend, rm_N_enter, rm_N_walk, rm_F_ofRow, rm_G_choose, rm_G_chooseBehind, rm_R_isEmpty] <;> omega) (Nat.le_of_ble_eq_true rfl) ⟨Nat.le_refl _, Nat.le_refl _⟩ (fun _ => rfl) (fun v1_ h1_ n1_ p1_ => ?_)
  obtain ⟨rfl, p1_⟩ := p1_
  rcases p1_ with ⟨z0, _⟩ | ⟨_, ⟨z1, z2, z3⟩ | ⟨z1, z2, z3⟩⟩
  · omega
  · skip
    have z2z := z2.symm
    have z3z := z3.symm
    subst z2z
    subst z3z
    refine z_istore C dd_N_call_6 rfl ?_
    refine z_iload C dd_N_call_8 rfl ?_
    refine z_if_ge (tgt := 16) C dd_N_call_10 (by decide) (fun q1 => absurd q1 (by decide)) (fun q1 => ?_)
    refine z_iload C dd_N_call_13 rfl ?_
    refine z_iret C dd_N_call_15 ⟨rfl, X, Y, Z, hP, dk_fz_rf, chA, ?_⟩ (Nat.zero_le _) (Nat.zero_le _)
    unfold mq_enter
    rw [if_neg (by omega), if_pos z1]
    exact ⟨0, _, rfl, by rw [e0, z1], e1, Nat.zero_le _, Or.inl ⟨by decide, rfl⟩⟩
  · skip
    have z2z := z2.symm
    subst z2z
    have hP1_ := dk_tr hP z3
    have e02 : (dk_is X 7 0 (upd (X 7 0) 0 (nI (fu - 1)))) 7 0 0 = nI (fu - 1) := by rw [dk_s]; exact pk_us
    have e12 : (dk_is X 7 0 (upd (X 7 0) 0 (nI (fu - 1)))) 7 0 1 = nI th := by rw [dk_s]; exact (pk_un (by decide)).trans e1
    have R2 := dk_RW_fz R fz2 ch2
    refine z_istore C dd_N_call_6 rfl ?_
    refine z_iload C dd_N_call_8 rfl ?_
    refine z_if_ge (tgt := 16) C dd_N_call_10 (by decide) (fun q2 => ?_) (fun q2 => ?_)
    · replace q2 : 0 ≤ (fu - 1) := (@nI_leI 0 (fu - 1) (by omega) (by omega)).mp q2
      refine z_aload_n C dd_N_call_16 rfl ?_
      refine gf_N_35 (v := .ref ((ad 26 g))) C dd_N_call_17 (dk_rd (k := 20) (i := g) (x := (X 20 g)) (y := (Y 20 g)) (z := (Z 20 g)) hP1_ hg rfl rfl rfl) rfl ?_
      refine z_iload_n C dd_N_call_20 rfl ?_
      refine z_iload_n C dd_N_call_21 rfl ?_
      refine iv_N_41 (sk := fun r => .long r :: []) (zz_f B) C dd_N_call_22 (cd_F_ofRow l D dA B _ _ ad ng nM na no (dk_is X 7 0 (upd (X 7 0) 0 (nI (fu - 1)))) Y Z hP1_.1 g x y hg (by omega) (by omega)) (dk_rd (k := 26) (i := g) (x := (X 26 g)) (y := (Y 26 g)) (z := (Z 26 g)) hP1_ hg rfl rfl rfl) rfl rfl (by refine ⟨?_, ?_⟩ <;> dsimp only [rm_N_call, rm_N_callNext, rm_N_callOnTop, rm_N_step, rm_N_perform, rm_E_has, rm_E_pop, rm_E_push, rm_N_pushUnlessEnded, rm_N_combine, rm_N_recast, rm_O_kind, rm_O_n, rm_V_of, rm_E_open, rm_E_result, rm_N_spend, rm_N_enter, rm_N_walk, rm_F_ofRow, rm_G_choose, rm_G_chooseBehind, rm_R_isEmpty] <;> omega) (Nat.le_of_ble_eq_true rfl) ⟨Nat.le_refl _, Nat.le_refl _⟩ (fun _ => rfl) (fun v2_ h2_ n2_ p2_ => ?_)
      obtain ⟨f2_, e2_, p2_⟩ := p2_
      have e2z := e2_.symm
      have f2z := f2_.symm
      subst e2z
      subst f2z
      have q2_ := p2_.symm
      subst q2_
      refine z_lstore C dd_N_call_25 rfl ?_
      refine z_aload_n C dd_N_call_27 rfl ?_
      refine gf_N_47 (v := .ref ((ad 21 g))) C dd_N_call_28 (dk_rd (k := 20) (i := g) (x := (X 20 g)) (y := (Y 20 g)) (z := (Z 20 g)) hP1_ hg rfl rfl rfl) rfl ?_
      refine iv_N_51 (sk := fun r => .int r :: []) (zz_f B) C dd_N_call_31 (cc_R_isEmpty l D dA B _ _ _ _ _ _ _ (dk_rd (k := 21) (i := g) (x := (X 21 g)) (y := (Y 21 g)) (z := (Z 21 g)) hP1_ hg rfl rfl rfl)) (dk_rd (k := 21) (i := g) (x := (X 21 g)) (y := (Y 21 g)) (z := (Z 21 g)) hP1_ hg rfl rfl rfl) rfl rfl (by refine ⟨?_, ?_⟩ <;> dsimp only [rm_N_call, rm_N_callNext, rm_N_callOnTop, rm_N_step, rm_N_perform, rm_E_has, rm_E_pop, rm_E_push, rm_N_pushUnlessEnded, rm_N_combine, rm_N_recast, rm_O_kind, rm_O_n, rm_V_of, rm_E_open, rm_E_result, rm_N_spend, rm_N_enter, rm_N_walk, rm_F_ofRow, rm_G_choose, rm_G_chooseBehind, rm_R_isEmpty] <;> omega) (Nat.le_of_ble_eq_true rfl) ⟨Nat.le_refl _, Nat.le_refl _⟩ (fun _ => rfl) (fun v3_ h3_ n3_ p3_ => ?_)
      obtain ⟨f3_, e3_, p3_⟩ := p3_
      have e3z := e3_.symm
      have f3z := f3_.symm
      subst e3z
      subst f3z
      have hl80 := g4.1
      rcases p3_ with ⟨z4, z5⟩ | ⟨z4, z5⟩
      · skip
        have z5z := z5.symm
        subst z5z
        have hne : ¬ (mq_G I g).length = 0 := fun z => z4 (by show X 21 g 3 = 0; rw [g4.2.1, z]; rfl)
        refine z_if_eq (tgt := 46) C dd_N_call_34 (by decide) (fun q3 => ?_) (fun q3 => absurd (by decide) q3)
        refine z_aload_n C dd_N_call_46 rfl ?_
        refine z_aload_n C dd_N_call_47 rfl ?_
        refine gf_N_47 (v := .ref ((ad 21 g))) C dd_N_call_48 (dk_rd (k := 20) (i := g) (x := (X 20 g)) (y := (Y 20 g)) (z := (Z 20 g)) hP1_ hg rfl rfl rfl) rfl ?_
        refine z_lload C dd_N_call_51 rfl ?_
        obtain ⟨b1, b2, b3, b4⟩ := g6 hne
        obtain ⟨a1, a2, a3, a4, a5, a6⟩ := R2.1 g hg
        refine iv_N_61 (sk := fun r => .int r :: []) (zz_f B) C dd_N_call_53 (cd_N_walk l D dA B _ _ ad ng nM na no (dk_is X 7 0 (upd (X 7 0) 0 (nI (fu - 1)))) Y Z hP1_.1 g (dk_T (pu_g3 I g nM) g) (mq_G I g) (dk_of Y g x y) (pu_qz I g x y) hg a4 b1 g2.T b2 (fun t ht => by rw [dk_of_b g2.2.1.1 g2.T g2.wt hx hy (by have := g2.T; omega), decide_eq_true ht, b4 t ht]; rfl) hne th e12) (dk_rd (k := 7) (i := 0) (x := (upd (X 7 0) 0 (nI (fu - 1)))) (y := (Y 7 0)) (z := (Z 7 0)) hP1_ rfl dk_s rfl rfl) rfl rfl (by refine ⟨?_, ?_⟩ <;> dsimp only [rm_N_call, rm_N_callNext, rm_N_callOnTop, rm_N_step, rm_N_perform, rm_E_has, rm_E_pop, rm_E_push, rm_N_pushUnlessEnded, rm_N_combine, rm_N_recast, rm_O_kind, rm_O_n, rm_V_of, rm_E_open, rm_E_result, rm_N_spend, rm_N_enter, rm_N_walk, rm_F_ofRow, rm_G_choose, rm_G_chooseBehind, rm_R_isEmpty] <;> omega) (Nat.le_of_ble_eq_true rfl) ⟨Nat.le_refl _, Nat.le_refl _⟩ (fun _ => rfl) (fun v4_ h4_ n4_ p4_ => ?_)
        obtain ⟨rfl, q9, w1⟩ := p4_
        have hP4_ := dk_tr hP1_ w1
        rw [dk_ii, dk_s] at hP4_
        have fz3 : dk_fz fs.length X (dk_is X 7 0 (upd (upd (X 7 0) 0 (nI (fu - 1))) 1 (nI (th + (tg_go (mq_G I g) (pu_qz I g x y) (mq_G I g).length ((mq_G I g).length - 1)).2)))) Y Y Z Z := dk_fz_7
        have ch3 : ∀ g9, g9 < ng → dk_ch (dk_is X 7 0 (upd (upd (X 7 0) 0 (nI (fu - 1))) 1 (nI (th + (tg_go (mq_G I g) (pu_qz I g x y) (mq_G I g).length ((mq_G I g).length - 1)).2)))) Y (ow g9) g9 (oc g9) := fun g9 h9 => dk_ch_7 (chA g9 h9)
        have e03 : (dk_is X 7 0 (upd (upd (X 7 0) 0 (nI (fu - 1))) 1 (nI (th + (tg_go (mq_G I g) (pu_qz I g x y) (mq_G I g).length ((mq_G I g).length - 1)).2)))) 7 0 0 = nI (fu - 1) := by rw [dk_s]; rfl
        have e13 : (dk_is X 7 0 (upd (upd (X 7 0) 0 (nI (fu - 1))) 1 (nI (th + (tg_go (mq_G I g) (pu_qz I g x y) (mq_G I g).length ((mq_G I g).length - 1)).2)))) 7 0 1 = nI (th + (tg_go (mq_G I g) (pu_qz I g x y) (mq_G I g).length ((mq_G I g).length - 1)).2) := by rw [dk_s]; rfl
        have ec : mq_enter (mq_ch I nc nM g x y) x y fu th fs re = mq_in v4_ x y (fu - 1) (th + (tg_go (mq_G I g) (pu_qz I g x y) (mq_G I g).length ((mq_G I g).length - 1)).2) fs re := by
          rw [mq_enter_in (by omega) z1]
          unfold mq_ch
          rw [if_neg hne, q9]
        have hvv : v4_ < 0 ∨ ∃ m9, (m9 < nM ∧ I 2 m9 = nI g) ∧ v4_ = nI m9 := by
          rw [q9]
          exact tg_go_rg b1 g2.T g4.1 b3 _ _ (by omega) (by omega)
        rcases hvv with hneg | ⟨mz, ⟨hmz, hoz⟩, hvz⟩
        · skip
          refine z_istore C dd_N_call_56 rfl ?_
          refine z_iload C dd_N_call_58 rfl ?_
          refine z_if_ge (tgt := 68) C dd_N_call_60 (by decide) (fun q4 => absurd hneg (Int32.not_lt.mpr q4)) (fun q4 => ?_)
          refine z_iload C dd_N_call_63 rfl ?_
          refine z_goto (tgt := 83) C dd_N_call_65 (by decide) ?_
          refine z_iret C dd_N_call_83 ⟨rfl, (dk_is X 7 0 (upd (upd (X 7 0) 0 (nI (fu - 1))) 1 (nI (th + (tg_go (mq_G I g) (pu_qz I g x y) (mq_G I g).length ((mq_G I g).length - 1)).2)))), Y, Z, hP4_, fz3, ch3, ?_⟩ (Nat.zero_le _) (Nat.zero_le _)
          rw [ec]
          unfold mq_in
          rw [if_pos hneg]
          exact ⟨0, _, rfl, e03, e13, (by show fu - 1 ≤ 200; omega), Or.inl ⟨hneg, rfl⟩⟩
        · skip
          have hvzz := hvz
          rw [hvz] at ec
          refine z_topi (y := nI mz) hvz.symm ?_
          have R3 := dk_RW_fz R fz3 ch3
          have eof : mq_of I mz = g := by unfold mq_of; rw [hoz, nI_clamp (by omega)]
          refine z_istore C dd_N_call_56 rfl ?_
          refine z_iload C dd_N_call_58 rfl ?_
          refine z_if_ge (tgt := 68) C dd_N_call_60 (by decide) (fun q5 => ?_) (fun q5 => ?_)
          · replace q5 : 0 ≤ mz := (@nI_leI 0 mz (by omega) (by omega)).mp q5
            refine z_aload_n C dd_N_call_68 rfl ?_
            refine z_aload_n C dd_N_call_69 rfl ?_
            refine gf_N_20 (v := va_rf (Z 7 0 3)) C dd_N_call_70 (dk_rd (k := 7) (i := 0) (x := (upd (upd (X 7 0) 0 (nI (fu - 1))) 1 (nI (th + (tg_go (mq_G I g) (pu_qz I g x y) (mq_G I g).length ((mq_G I g).length - 1)).2)))) (y := (Y 7 0)) (z := (Z 7 0)) hP4_ rfl dk_s rfl rfl) rfl ?_
            refine z_topr (y := ad 4 0) (by rw [R3.2.1.2.2.2.2]; rfl) ?_
            refine z_iload C dd_N_call_73 rfl ?_
            refine z_aald (t0 := 4) (N := 12) (f := (Z 4 0)) C rfl dd_N_call_75 (dk_rd (k := 4) (i := 0) (x := (X 4 0)) (y := (Y 4 0)) (z := (Z 4 0)) hP4_ rfl rfl rfl rfl) (vp_in_nI (by omega) (by decide)) ?_
            refine z_topr (y := ad 30 mz) (by rw [nI_clamp (by omega), R3.2.1.2.1 mz hmz]; rfl) ?_
            refine z_iload_n C dd_N_call_76 rfl ?_
            refine z_iload_n C dd_N_call_77 rfl ?_
            refine z_iload C dd_N_call_78 rfl ?_
            refine iv_N_65 (sk := fun r => .int r :: []) (zz_f B) C dd_N_call_80 (cd_N_perform l D dA B F ad ng nM na no I nc oc ow tf k ihC ihN _ _ (dk_is X 7 0 (upd (upd (X 7 0) 0 (nI (fu - 1))) 1 (nI (th + (tg_go (mq_G I g) (pu_qz I g x y) (mq_G I g).length ((mq_G I g).length - 1)).2)))) Y Z fs (fu - 1) (th + (tg_go (mq_G I g) (pu_qz I g x y) (mq_G I g).length ((mq_G I g).length - 1)).2) re mz x y hP4_.1 R3 hk hmz hx hy (by rw [eof]; exact hy1) e03 (by omega) e13) (dk_rd (k := 7) (i := 0) (x := (upd (upd (X 7 0) 0 (nI (fu - 1))) 1 (nI (th + (tg_go (mq_G I g) (pu_qz I g x y) (mq_G I g).length ((mq_G I g).length - 1)).2)))) (y := (Y 7 0)) (z := (Z 7 0)) hP4_ rfl dk_s rfl rfl) rfl rfl (by refine ⟨?_, ?_⟩ <;> dsimp only [rm_N_call, rm_N_callNext, rm_N_callOnTop, rm_N_step, rm_N_perform, rm_E_has, rm_E_pop, rm_E_push, rm_N_pushUnlessEnded, rm_N_combine, rm_N_recast, rm_O_kind, rm_O_n, rm_V_of, rm_E_open, rm_E_result, rm_N_spend, rm_N_enter, rm_N_walk, rm_F_ofRow, rm_G_choose, rm_G_chooseBehind, rm_R_isEmpty] <;> omega) (Nat.le_of_ble_eq_true rfl) ⟨Nat.le_refl _, Nat.le_refl _⟩ (fun _ => rfl) (fun v5_ h5_ n5_ p5_ => ?_)
            obtain ⟨rfl, X8, Y8, Z8, u1, u2, u3, u4⟩ := p5_
            refine z_iret C dd_N_call_83 ⟨rfl, X8, Y8, Z8, dk_tr hP4_ u1, dk_fz_tr fz3 u2, u3, ?_⟩ (Nat.zero_le _) (Nat.zero_le _)
            rw [ec]
            unfold mq_in
            rw [if_neg (nI_pos (by omega)), nI_clamp (by omega)]
            exact u4
          · replace q5 : ¬ 0 ≤ mz := fun z => q5 ((@nI_leI 0 mz (by omega) (by omega)).mpr z)
            omega
      · skip
        have z5z := z5.symm
        subst z5z
        have hze : (mq_G I g).length = 0 := (@nI_eq (mq_G I g).length 0 (by omega) (by omega)).mp (g4.2.1.symm.trans z4)
        refine z_if_eq (tgt := 46) C dd_N_call_34 (by decide) (fun q6 => absurd q6 (by decide)) (fun q6 => ?_)
        refine z_aload_n C dd_N_call_37 rfl ?_
        refine z_lload C dd_N_call_38 rfl ?_
        obtain ⟨a1, a2, a3, a4, a5, a6⟩ := R2.1 g hg
        refine iv_N_57 (sk := fun r => .int r :: []) (zz_f B) C dd_N_call_40 (cd_G_choose l D dA B _ _ ad ng nM na no (dk_is X 7 0 (upd (X 7 0) 0 (nI (fu - 1)))) Y Z hP1_.1 g (oc g) (ow g) (dk_of Y g x y) hg a1 a5) (dk_rd (k := 20) (i := g) (x := (X 20 g)) (y := (Y 20 g)) (z := (Z 20 g)) hP1_ hg rfl rfl rfl) rfl rfl (by refine ⟨?_, ?_⟩ <;> dsimp only [rm_N_call, rm_N_callNext, rm_N_callOnTop, rm_N_step, rm_N_perform, rm_E_has, rm_E_pop, rm_E_push, rm_N_pushUnlessEnded, rm_N_combine, rm_N_recast, rm_O_kind, rm_O_n, rm_V_of, rm_E_open, rm_E_result, rm_N_spend, rm_N_enter, rm_N_walk, rm_F_ofRow, rm_G_choose, rm_G_chooseBehind, rm_R_isEmpty] <;> omega) (Nat.le_of_ble_eq_true rfl) ⟨Nat.le_refl _, Nat.le_refl _⟩ (fun _ => rfl) (fun v6_ h6_ n6_ p6_ => ?_)
        obtain ⟨rfl, q9, X3, Y3, w1, w2, w3⟩ := p6_
        have hP6_ := dk_tr hP1_ w1
        replace q9 : v6_ = pu_bs I nc nM g (mq_ar I g) (pu_rw nc (mq_ar I g) x y) := q9.trans (a2.best hx hy hy1)
        have fz3 : dk_fz fs.length X X3 Y Y3 Z Z := dk_fz_tr fz2 ⟨fun k9 i9 c1 _ _ => w3.1 k9 i9 (fun z => c1 z.1), fun i9 p9 hp => by by_cases c : i9 = g; subst c; exact w3.2.1 p9 hp; rw [w3.1 20 i9 (fun z => c z.2)], fun k9 i9 c1 => w3.2.2 k9 i9 (fun z => c1 z.1), fun _ _ _ => rfl⟩
        have ch3 : ∀ g9, g9 < ng → dk_ch X3 Y3 (ow g9) g9 (oc g9) := by
          intro g9 h9
          by_cases c : g9 = g
          · subst c; exact w2
          · exact dk_ch_Y (dk_ch_X (ch2 g9 h9) (fun i9 => w3.1 30 i9 (by omega)) (w3.1 20 g9 (fun z => c z.2))) (fun i9 => w3.2.2 30 i9 (by omega)) (by rw [w3.2.2 20 g9 (fun z => c z.2)])
        have e03 : X3 7 0 0 = nI (fu - 1) := by rw [w3.1 7 0 (by omega)]; exact e02
        have e13 : X3 7 0 1 = nI (th + 0) := by rw [w3.1 7 0 (by omega)]; exact e12
        have ec : mq_enter (mq_ch I nc nM g x y) x y fu th fs re = mq_in v6_ x y (fu - 1) (th + 0) fs re := by
          rw [mq_enter_in (by omega) z1]
          unfold mq_ch
          rw [if_pos hze, q9]
        have hvv : v6_ < 0 ∨ ∃ m9, (m9 < nM ∧ I 2 m9 = nI g) ∧ v6_ = nI m9 := by
          rw [q9]
          unfold pu_bs
          rcases pu_fm_rg (pu_A I nc nM g (mq_ar I g) (pu_rw nc (mq_ar I g) x y)) (pu_B I nc nM g (mq_ar I g)) nM with w | ⟨m9, v1, v2, v3⟩
          · exact Or.inl w
          · exact Or.inr ⟨m9, ⟨v1, pu_A_of h12 v3 v1⟩, v2⟩
        refine z_goto (tgt := 56) C dd_N_call_43 (by decide) ?_
        rcases hvv with hneg | ⟨mz, ⟨hmz, hoz⟩, hvz⟩
        · skip
          refine z_istore C dd_N_call_56 rfl ?_
          refine z_iload C dd_N_call_58 rfl ?_
          refine z_if_ge (tgt := 68) C dd_N_call_60 (by decide) (fun q7 => absurd hneg (Int32.not_lt.mpr q7)) (fun q7 => ?_)
          refine z_iload C dd_N_call_63 rfl ?_
          refine z_goto (tgt := 83) C dd_N_call_65 (by decide) ?_
          refine z_iret C dd_N_call_83 ⟨rfl, X3, Y3, Z, hP6_, fz3, ch3, ?_⟩ (Nat.zero_le _) (Nat.zero_le _)
          rw [ec]
          unfold mq_in
          rw [if_pos hneg]
          exact ⟨0, _, rfl, e03, e13, (by show fu - 1 ≤ 200; omega), Or.inl ⟨hneg, rfl⟩⟩
        · skip
          have hvzz := hvz
          rw [hvz] at ec
          refine z_topi (y := nI mz) hvz.symm ?_
          have R3 := dk_RW_fz R fz3 ch3
          have eof : mq_of I mz = g := by unfold mq_of; rw [hoz, nI_clamp (by omega)]
          refine z_istore C dd_N_call_56 rfl ?_
          refine z_iload C dd_N_call_58 rfl ?_
          refine z_if_ge (tgt := 68) C dd_N_call_60 (by decide) (fun q8 => ?_) (fun q8 => ?_)
          · replace q8 : 0 ≤ mz := (@nI_leI 0 mz (by omega) (by omega)).mp q8
            refine z_aload_n C dd_N_call_68 rfl ?_
            refine z_aload_n C dd_N_call_69 rfl ?_
            refine gf_N_20 (v := va_rf (Z 7 0 3)) C dd_N_call_70 (dk_rd (k := 7) (i := 0) (x := (X3 7 0)) (y := (Y3 7 0)) (z := (Z 7 0)) hP6_ rfl rfl rfl rfl) rfl ?_
            refine z_topr (y := ad 4 0) (by rw [R3.2.1.2.2.2.2]; rfl) ?_
            refine z_iload C dd_N_call_73 rfl ?_
            refine z_aald (t0 := 4) (N := 12) (f := (Z 4 0)) C rfl dd_N_call_75 (dk_rd (k := 4) (i := 0) (x := (X3 4 0)) (y := (Y3 4 0)) (z := (Z 4 0)) hP6_ rfl rfl rfl rfl) (vp_in_nI (by omega) (by decide)) ?_
            refine z_topr (y := ad 30 mz) (by rw [nI_clamp (by omega), R3.2.1.2.1 mz hmz]; rfl) ?_
            refine z_iload_n C dd_N_call_76 rfl ?_
            refine z_iload_n C dd_N_call_77 rfl ?_
            refine z_iload C dd_N_call_78 rfl ?_
            refine iv_N_65 (sk := fun r => .int r :: []) (zz_f B) C dd_N_call_80 (cd_N_perform l D dA B F ad ng nM na no I nc oc ow tf k ihC ihN _ _ X3 Y3 Z fs (fu - 1) (th + 0) re mz x y hP6_.1 R3 hk hmz hx hy (by rw [eof]; exact hy1) e03 (by omega) e13) (dk_rd (k := 7) (i := 0) (x := (X3 7 0)) (y := (Y3 7 0)) (z := (Z 7 0)) hP6_ rfl rfl rfl rfl) rfl rfl (by refine ⟨?_, ?_⟩ <;> dsimp only [rm_N_call, rm_N_callNext, rm_N_callOnTop, rm_N_step, rm_N_perform, rm_E_has, rm_E_pop, rm_E_push, rm_N_pushUnlessEnded, rm_N_combine, rm_N_recast, rm_O_kind, rm_O_n, rm_V_of, rm_E_open, rm_E_result, rm_N_spend, rm_N_enter, rm_N_walk, rm_F_ofRow, rm_G_choose, rm_G_chooseBehind, rm_R_isEmpty] <;> omega) (Nat.le_of_ble_eq_true rfl) ⟨Nat.le_refl _, Nat.le_refl _⟩ (fun _ => rfl) (fun v7_ h7_ n7_ p7_ => ?_)
            obtain ⟨rfl, X8, Y8, Z8, u1, u2, u3, u4⟩ := p7_
            refine z_iret C dd_N_call_83 ⟨rfl, X8, Y8, Z8, dk_tr hP6_ u1, dk_fz_tr fz3 u2, u3, ?_⟩ (Nat.zero_le _) (Nat.zero_le _)
            rw [ec]
            unfold mq_in
            rw [if_neg (nI_pos (by omega)), nI_clamp (by omega)]
            exact u4
          · replace q8 : ¬ 0 ≤ mz := fun z => q8 ((@nI_leI 0 mz (by omega) (by omega)).mpr z)
            omega
    · replace q2 : ¬ 0 ≤ (fu - 1) := fun z => q2 ((@nI_leI 0 (fu - 1) (by omega) (by omega)).mpr z)
      omega
set_option maxRecDepth 20000 in
theorem cd_N_callNext (l : Launch) (D : va_G) (dA : Nat → ClassId) (B : Nat) (F : Nat → Int32) (ad : Nat → Nat → Nat) (ng nM : Nat) (na no : Nat → Nat) (I : mq_M) (nc : Nat) (oc : Nat → Nat) (ow tf : Nat → Nat → Nat) (k : Nat) (ihC : dk_CT l D dA B F ad ng nM na no I nc oc ow tf k) (ihN : dk_NT l D dA B F ad ng nM na no I nc oc ow tf k) : dk_NT l D dA B F ad ng nM na no I nc oc ow tf (k + 1) := by
  intro h n X Y Z fs m0 x y a9 d st fu th re hP0 R hk hd8 M1 hm hx hy hy1 e0 hf e1
  refine zz_ofW (zz_f B) [some (.ref ((ad 7 0))), some (.ref ((ad 9 d))), some (.int ((nI fs.length))), none, none, none, none, none] (by decide) rfl rfl (Nat.le_of_ble_eq_true rfl) ?_
  intro p e s m below meth c C
  obtain ⟨gz, hgz, hoz⟩ := R.2.2.2.1.own m0 hm
  have eof : mq_of I m0 = gz := by unfold mq_of; rw [hoz, nI_clamp (by have := R.2.2.2.1.g4; omega)]
  rw [eof] at hy1
  have hg := hgz
  have hP := dk_rf hP0
  have hd : fs.length < 8 := by omega
  have chA : ∀ g9, g9 < ng → dk_ch X Y (ow g9) g9 (oc g9) := fun g9 h9 => (R.1 g9 h9).2.2.2.2.1
  have Wp := R.2.2.2.1
  have h8 := Wp.c8
  have h12 := Wp.m12
  have hg4 := Wp.g4
  obtain ⟨g1, g2, g3, g4, g5, g6⟩ := R.1 gz hg
  have fz2 : dk_fz fs.length X (dk_is X 7 0 (upd (X 7 0) 0 (nI (fu - 1)))) Y Y Z Z := dk_fz_7
  have ch2 : ∀ g9, g9 < ng → dk_ch (dk_is X 7 0 (upd (X 7 0) 0 (nI (fu - 1)))) Y (ow g9) g9 (oc g9) := fun g9 h9 => dk_ch_7 (chA g9 h9)
  obtain ⟨k8, hk8, ek8⟩ := g2.2.2.2.1.2.2 m0 hm hoz
  have em : Z 9 d 0 = some (ad 30 m0) := M1.1
  have ex1 : X 9 d 1 = nI x := M1.2.1
  have ex2 : X 9 d 2 = nI y := M1.2.2.1
  have eow : Z 30 m0 1 = some (ad 20 gz) := by rw [← eof]; exact (R.2.2.1 m0 hm).1
  refine z_aload_n C dd_N_callNext_0 rfl ?_
  refine z_iload_n C dd_N_callNext_1 rfl ?_
  refine iv_N_31 (sk := fun r => .int r :: []) (zz_f B) C dd_N_callNext_2 (cd_N_enter l D dA B _ _ ad ng nM na no X Y Z hP.1 fu fs.length hf (by omega) e0) (dk_rd (k := 7) (i := 0) (x := (X 7 0)) (y := (Y 7 0)) (z := (Z 7 0)) hP rfl rfl rfl rfl) rfl rfl (by refine ⟨?_, ?_⟩ <;> dsimp only [rm_N_call, rm_N_callNext, rm_N_callOnTop, rm_N_step, rm_N_perform, rm_E_has, rm_E_pop, rm_E_push, rm_N_pushUnlessEnded, rm_N_combine, rm_N_recast, rm_O_kind, rm_O_n, rm_V_of, rm_E_open, rm_E_result, rm_N_spend, rm_N_enter, rm_N_walk, rm_F_ofRow, rm_G_choose, rm_G_chooseBehind, rm_R_isEmpty] <;> omega) (Nat.le_of_ble_eq_true rfl) ⟨Nat.le_refl _, Nat.le_refl _⟩ (fun _ => rfl) (fun v1_ h1_ n1_ p1_ => ?_)
  obtain ⟨rfl, p1_⟩ := p1_
  rcases p1_ with ⟨z0, _⟩ | ⟨_, ⟨z1, z2, z3⟩ | ⟨z1, z2, z3⟩⟩
  · omega
  · skip
    have z2z := z2.symm
    have z3z := z3.symm
    subst z2z
    subst z3z
    refine z_istore_n C dd_N_callNext_5 rfl ?_
    refine z_iload_n C dd_N_callNext_6 rfl ?_
    refine z_if_ge (tgt := 12) C dd_N_callNext_7 (by decide) (fun q1 => absurd q1 (by decide)) (fun q1 => ?_)
    refine z_iload_n C dd_N_callNext_10 rfl ?_
    refine z_iret C dd_N_callNext_11 ⟨rfl, X, Y, Z, hP, dk_fz_rf, chA, ?_⟩ (Nat.zero_le _) (Nat.zero_le _)
    unfold mq_enter
    rw [if_neg (by omega), if_pos z1]
    exact ⟨0, _, rfl, by rw [e0, z1], e1, Nat.zero_le _, Or.inl ⟨by decide, rfl⟩⟩
  · skip
    have z2z := z2.symm
    subst z2z
    have hP1_ := dk_tr hP z3
    have e02 : (dk_is X 7 0 (upd (X 7 0) 0 (nI (fu - 1)))) 7 0 0 = nI (fu - 1) := by rw [dk_s]; exact pk_us
    have e12 : (dk_is X 7 0 (upd (X 7 0) 0 (nI (fu - 1)))) 7 0 1 = nI th := by rw [dk_s]; exact (pk_un (by decide)).trans e1
    have R2 := dk_RW_fz R fz2 ch2
    refine z_istore_n C dd_N_callNext_5 rfl ?_
    refine z_iload_n C dd_N_callNext_6 rfl ?_
    refine z_if_ge (tgt := 12) C dd_N_callNext_7 (by decide) (fun q2 => ?_) (fun q2 => ?_)
    · replace q2 : 0 ≤ (fu - 1) := (@nI_leI 0 (fu - 1) (by omega) (by omega)).mp q2
      refine z_aload_n C dd_N_callNext_12 rfl ?_
      refine gf_N_69 (v := va_rf (Z 9 d 0)) C dd_N_callNext_13 (dk_rd (k := 9) (i := d) (x := (X 9 d)) (y := (Y 9 d)) (z := (Z 9 d)) hP1_ hd8 rfl rfl rfl) rfl ?_
      refine z_topr (y := ad 30 m0) (by rw [em]; rfl) ?_
      refine gf_N_73 (v := .ref ((Z 30 m0 1).getD 0)) C dd_N_callNext_16 (dk_rd (k := 30) (i := m0) (x := (X 30 m0)) (y := (Y 30 m0)) (z := (Z 30 m0)) hP1_ hm rfl rfl rfl) rfl ?_
      refine z_topr (y := ad 20 gz) (by rw [eow]; rfl) ?_
      refine z_astore C dd_N_callNext_19 rfl ?_
      refine z_aload C dd_N_callNext_21 rfl ?_
      refine gf_N_35 (v := .ref ((ad 26 gz))) C dd_N_callNext_23 (dk_rd (k := 20) (i := gz) (x := (X 20 gz)) (y := (Y 20 gz)) (z := (Z 20 gz)) hP1_ hg rfl rfl rfl) rfl ?_
      refine z_aload_n C dd_N_callNext_26 rfl ?_
      refine gf_N_79 (v := .int (X 9 d 1)) C dd_N_callNext_27 (dk_rd (k := 9) (i := d) (x := (X 9 d)) (y := (Y 9 d)) (z := (Z 9 d)) hP1_ hd8 rfl rfl rfl) rfl ?_
      refine z_topi (y := nI x) ex1.symm ?_
      refine z_aload_n C dd_N_callNext_30 rfl ?_
      refine gf_N_82 (v := .int (X 9 d 2)) C dd_N_callNext_31 (dk_rd (k := 9) (i := d) (x := (X 9 d)) (y := (Y 9 d)) (z := (Z 9 d)) hP1_ hd8 rfl rfl rfl) rfl ?_
      refine z_topi (y := nI y) ex2.symm ?_
      refine iv_N_41 (sk := fun r => .long r :: []) (zz_f B) C dd_N_callNext_34 (cd_F_ofRow l D dA B _ _ ad ng nM na no (dk_is X 7 0 (upd (X 7 0) 0 (nI (fu - 1)))) Y Z hP1_.1 gz x y hg (by omega) (by omega)) (dk_rd (k := 26) (i := gz) (x := (X 26 gz)) (y := (Y 26 gz)) (z := (Z 26 gz)) hP1_ hg rfl rfl rfl) rfl rfl (by refine ⟨?_, ?_⟩ <;> dsimp only [rm_N_call, rm_N_callNext, rm_N_callOnTop, rm_N_step, rm_N_perform, rm_E_has, rm_E_pop, rm_E_push, rm_N_pushUnlessEnded, rm_N_combine, rm_N_recast, rm_O_kind, rm_O_n, rm_V_of, rm_E_open, rm_E_result, rm_N_spend, rm_N_enter, rm_N_walk, rm_F_ofRow, rm_G_choose, rm_G_chooseBehind, rm_R_isEmpty] <;> omega) (Nat.le_of_ble_eq_true rfl) ⟨Nat.le_refl _, Nat.le_refl _⟩ (fun _ => rfl) (fun v2_ h2_ n2_ p2_ => ?_)
      obtain ⟨f2_, e2_, p2_⟩ := p2_
      have e2z := e2_.symm
      have f2z := f2_.symm
      subst e2z
      subst f2z
      have q2_ := p2_.symm
      subst q2_
      refine z_lstore C dd_N_callNext_37 rfl ?_
      refine z_aload C dd_N_callNext_39 rfl ?_
      refine z_aload_n C dd_N_callNext_41 rfl ?_
      refine gf_N_69 (v := va_rf (Z 9 d 0)) C dd_N_callNext_42 (dk_rd (k := 9) (i := d) (x := (X 9 d)) (y := (Y 9 d)) (z := (Z 9 d)) hP1_ hd8 rfl rfl rfl) rfl ?_
      refine z_topr (y := ad 30 m0) (by rw [em]; rfl) ?_
      refine z_lload C dd_N_callNext_45 rfl ?_
      obtain ⟨a1, a2, a3, a4, a5, a6⟩ := R2.1 gz hg
      refine iv_N_85 (sk := fun r => .int r :: []) (zz_f B) C dd_N_callNext_47 (cd_G_chooseBehind l D dA B _ _ ad ng nM na no (dk_is X 7 0 (upd (X 7 0) 0 (nI (fu - 1)))) Y Z hP1_.1 gz (oc gz) m0 (ow gz) (dk_of Y gz x y) hg hm a1) (dk_rd (k := 20) (i := gz) (x := (X 20 gz)) (y := (Y 20 gz)) (z := (Z 20 gz)) hP1_ hg rfl rfl rfl) rfl rfl (by refine ⟨?_, ?_⟩ <;> dsimp only [rm_N_call, rm_N_callNext, rm_N_callOnTop, rm_N_step, rm_N_perform, rm_E_has, rm_E_pop, rm_E_push, rm_N_pushUnlessEnded, rm_N_combine, rm_N_recast, rm_O_kind, rm_O_n, rm_V_of, rm_E_open, rm_E_result, rm_N_spend, rm_N_enter, rm_N_walk, rm_F_ofRow, rm_G_choose, rm_G_chooseBehind, rm_R_isEmpty] <;> omega) (Nat.le_of_ble_eq_true rfl) ⟨Nat.le_refl _, Nat.le_refl _⟩ (fun _ => rfl) (fun v4_ h4_ n4_ p4_ => ?_)
      obtain ⟨f4_, e4_, p4_⟩ := p4_
      have e4z := e4_.symm
      have f4z := f4_.symm
      subst e4z
      subst f4z
      have q9 : v4_ = pu_nx I nc nM gz (mq_ar I gz) m0 (pu_rw nc (mq_ar I gz) x y) := by
        have qq := a2.next hx hy hy1 hk8
        rw [ek8] at qq
        exact p4_.trans qq
      have fz3 := fz2
      have ch3 := ch2
      have e03 := e02
      have e13 : (dk_is X 7 0 (upd (X 7 0) 0 (nI (fu - 1)))) 7 0 1 = nI (th + 0) := e12
      have ec : mq_enter (mq_cn I nc nM m0 x y, 0) x y fu th fs re = mq_in v4_ x y (fu - 1) (th + 0) fs re := by
        rw [mq_enter_in (by omega) z1]
        unfold mq_cn
        rw [eof, q9]
      have hvv : v4_ < 0 ∨ ∃ m9, (m9 < nM ∧ I 2 m9 = nI gz) ∧ v4_ = nI m9 := by
        rw [q9]
        unfold pu_nx
        rcases pu_fm_rg (pu_A I nc nM gz (mq_ar I gz) (pu_rw nc (mq_ar I gz) x y) &&& pu_B I nc nM gz (mq_ar I gz) m0) (pu_B I nc nM gz (mq_ar I gz)) nM with w | ⟨m9, v1, v2, v3⟩
        · exact Or.inl w
        · rw [b_and, Bool.and_eq_true] at v3
          exact Or.inr ⟨m9, ⟨v1, pu_A_of h12 v3.1 v1⟩, v2⟩
      rcases hvv with hneg | ⟨mz, ⟨hmz, hoz⟩, hvz⟩
      · skip
        refine z_istore C dd_N_callNext_50 rfl ?_
        refine z_iload C dd_N_callNext_52 rfl ?_
        refine z_if_ge (tgt := 62) C dd_N_callNext_54 (by decide) (fun q3 => absurd hneg (Int32.not_lt.mpr q3)) (fun q3 => ?_)
        refine z_iload C dd_N_callNext_57 rfl ?_
        refine z_goto (tgt := 82) C dd_N_callNext_59 (by decide) ?_
        refine z_iret C dd_N_callNext_82 ⟨rfl, (dk_is X 7 0 (upd (X 7 0) 0 (nI (fu - 1)))), Y, Z, hP1_, fz3, ch3, ?_⟩ (Nat.zero_le _) (Nat.zero_le _)
        rw [ec]
        unfold mq_in
        rw [if_pos hneg]
        exact ⟨0, _, rfl, e03, e13, (by show fu - 1 ≤ 200; omega), Or.inl ⟨hneg, rfl⟩⟩
      · skip
        have hvzz := hvz
        rw [hvz] at ec
        refine z_topi (y := nI mz) hvz.symm ?_
        have R3 := dk_RW_fz R fz3 ch3
        have eof : mq_of I mz = gz := by unfold mq_of; rw [hoz, nI_clamp (by omega)]
        refine z_istore C dd_N_callNext_50 rfl ?_
        refine z_iload C dd_N_callNext_52 rfl ?_
        refine z_if_ge (tgt := 62) C dd_N_callNext_54 (by decide) (fun q4 => ?_) (fun q4 => ?_)
        · replace q4 : 0 ≤ mz := (@nI_leI 0 mz (by omega) (by omega)).mp q4
          refine z_aload_n C dd_N_callNext_62 rfl ?_
          refine z_aload_n C dd_N_callNext_63 rfl ?_
          refine gf_N_20 (v := va_rf (Z 7 0 3)) C dd_N_callNext_64 (dk_rd (k := 7) (i := 0) (x := (upd (X 7 0) 0 (nI (fu - 1)))) (y := (Y 7 0)) (z := (Z 7 0)) hP1_ rfl dk_s rfl rfl) rfl ?_
          refine z_topr (y := ad 4 0) (by rw [R3.2.1.2.2.2.2]; rfl) ?_
          refine z_iload C dd_N_callNext_67 rfl ?_
          refine z_aald (t0 := 4) (N := 12) (f := (Z 4 0)) C rfl dd_N_callNext_69 (dk_rd (k := 4) (i := 0) (x := (X 4 0)) (y := (Y 4 0)) (z := (Z 4 0)) hP1_ rfl rfl rfl rfl) (vp_in_nI (by omega) (by decide)) ?_
          refine z_topr (y := ad 30 mz) (by rw [nI_clamp (by omega), R3.2.1.2.1 mz hmz]; rfl) ?_
          refine z_aload_n C dd_N_callNext_70 rfl ?_
          refine gf_N_79 (v := .int (X 9 d 1)) C dd_N_callNext_71 (dk_rd (k := 9) (i := d) (x := (X 9 d)) (y := (Y 9 d)) (z := (Z 9 d)) hP1_ hd8 rfl rfl rfl) rfl ?_
          refine z_topi (y := nI x) ex1.symm ?_
          refine z_aload_n C dd_N_callNext_74 rfl ?_
          refine gf_N_82 (v := .int (X 9 d 2)) C dd_N_callNext_75 (dk_rd (k := 9) (i := d) (x := (X 9 d)) (y := (Y 9 d)) (z := (Z 9 d)) hP1_ hd8 rfl rfl rfl) rfl ?_
          refine z_topi (y := nI y) ex2.symm ?_
          refine z_iload_n C dd_N_callNext_78 rfl ?_
          refine iv_N_65 (sk := fun r => .int r :: []) (zz_f B) C dd_N_callNext_79 (cd_N_perform l D dA B F ad ng nM na no I nc oc ow tf k ihC ihN _ _ (dk_is X 7 0 (upd (X 7 0) 0 (nI (fu - 1)))) Y Z fs (fu - 1) (th + 0) re mz x y hP1_.1 R3 hk hmz hx hy (by rw [eof]; exact hy1) e03 (by omega) e13) (dk_rd (k := 7) (i := 0) (x := (upd (X 7 0) 0 (nI (fu - 1)))) (y := (Y 7 0)) (z := (Z 7 0)) hP1_ rfl dk_s rfl rfl) rfl rfl (by refine ⟨?_, ?_⟩ <;> dsimp only [rm_N_call, rm_N_callNext, rm_N_callOnTop, rm_N_step, rm_N_perform, rm_E_has, rm_E_pop, rm_E_push, rm_N_pushUnlessEnded, rm_N_combine, rm_N_recast, rm_O_kind, rm_O_n, rm_V_of, rm_E_open, rm_E_result, rm_N_spend, rm_N_enter, rm_N_walk, rm_F_ofRow, rm_G_choose, rm_G_chooseBehind, rm_R_isEmpty] <;> omega) (Nat.le_of_ble_eq_true rfl) ⟨Nat.le_refl _, Nat.le_refl _⟩ (fun _ => rfl) (fun v5_ h5_ n5_ p5_ => ?_)
          obtain ⟨rfl, X8, Y8, Z8, u1, u2, u3, u4⟩ := p5_
          refine z_iret C dd_N_callNext_82 ⟨rfl, X8, Y8, Z8, dk_tr hP1_ u1, dk_fz_tr fz3 u2, u3, ?_⟩ (Nat.zero_le _) (Nat.zero_le _)
          rw [ec]
          unfold mq_in
          rw [if_neg (nI_pos (by omega)), nI_clamp (by omega)]
          exact u4
        · replace q4 : ¬ 0 ≤ mz := fun z => q4 ((@nI_leI 0 mz (by omega) (by omega)).mpr z)
          omega
    · replace q2 : ¬ 0 ≤ (fu - 1) := fun z => q2 ((@nI_leI 0 (fu - 1) (by omega) (by omega)).mpr z)
      omega
set_option maxRecDepth 20000 in
theorem cd_N_call0 (l : Launch) (D : va_G) (dA : Nat → ClassId) (B : Nat) (F : Nat → Int32) (ad : Nat → Nat → Nat) (ng nM : Nat) (na no : Nat → Nat) (I : mq_M) (nc : Nat) (oc : Nat → Nat) (ow tf : Nat → Nat → Nat) : dk_CT l D dA B F ad ng nM na no I nc oc ow tf 0 := by
  intro h n X Y Z fs g x y fu th re hP0 R hk hg hx hy hy1 e0 hf e1
  refine zz_ofW (zz_f B) [some (.ref ((ad 7 0))), some (.ref ((ad 20 g))), some (.int ((nI x))), some (.int ((nI y))), some (.int ((nI fs.length))), none, none, none, none] (by decide) rfl rfl (Nat.le_of_ble_eq_true rfl) ?_
  intro p e s m below meth c C
  have hP := dk_rf hP0
  have chA : ∀ g9, g9 < ng → dk_ch X Y (ow g9) g9 (oc g9) := fun g9 h9 => (R.1 g9 h9).2.2.2.2.1
  refine z_aload_n C dd_N_call_0 rfl ?_
  refine z_iload C dd_N_call_1 rfl ?_
  refine iv_N_31 (sk := fun r => .int r :: []) (zz_f B) C dd_N_call_3 (cd_N_enter l D dA B _ _ ad ng nM na no X Y Z hP.1 fu fs.length hf (by omega) e0) (dk_rd (k := 7) (i := 0) (x := (X 7 0)) (y := (Y 7 0)) (z := (Z 7 0)) hP rfl rfl rfl rfl) rfl rfl (by refine ⟨?_, ?_⟩ <;> dsimp only [rm_N_call, rm_N_callNext, rm_N_callOnTop, rm_N_step, rm_N_perform, rm_E_has, rm_E_pop, rm_E_push, rm_N_pushUnlessEnded, rm_N_combine, rm_N_recast, rm_O_kind, rm_O_n, rm_V_of, rm_E_open, rm_E_result, rm_N_spend, rm_N_enter, rm_N_walk, rm_F_ofRow, rm_G_choose, rm_G_chooseBehind, rm_R_isEmpty] <;> omega) (Nat.le_of_ble_eq_true rfl) ⟨Nat.le_refl _, Nat.le_refl _⟩ (fun _ => rfl) (fun v1_ h1_ n1_ p1_ => ?_)
  obtain ⟨rfl, p1_⟩ := p1_
  obtain ⟨z0, z2, z3⟩ : fs.length = 8 ∧ v1_ = -5 ∧ h1_ = h := by
    rcases p1_ with z | ⟨z, _⟩
    · exact z
    · omega
  have z2z := z2.symm
  have z3z := z3.symm
  subst z2z
  subst z3z
  refine z_istore C dd_N_call_6 rfl ?_
  refine z_iload C dd_N_call_8 rfl ?_
  refine z_if_ge (tgt := 16) C dd_N_call_10 (by decide) (fun q1 => absurd q1 (by decide)) (fun q1 => ?_)
  refine z_iload C dd_N_call_13 rfl ?_
  refine z_iret C dd_N_call_15 ⟨rfl, X, Y, Z, hP, dk_fz_rf, chA, ?_⟩ (Nat.zero_le _) (Nat.zero_le _)
  unfold mq_enter
  rw [if_pos z0]
  exact ⟨0, _, rfl, e0, e1, hf, Or.inl ⟨by decide, rfl⟩⟩
set_option maxRecDepth 20000 in
theorem cd_N_callNext0 (l : Launch) (D : va_G) (dA : Nat → ClassId) (B : Nat) (F : Nat → Int32) (ad : Nat → Nat → Nat) (ng nM : Nat) (na no : Nat → Nat) (I : mq_M) (nc : Nat) (oc : Nat → Nat) (ow tf : Nat → Nat → Nat) : dk_NT l D dA B F ad ng nM na no I nc oc ow tf 0 := by
  intro h n X Y Z fs m0 x y a9 d st fu th re hP0 R hk hd8 M1 hm hx hy hy1 e0 hf e1
  refine zz_ofW (zz_f B) [some (.ref ((ad 7 0))), some (.ref ((ad 9 d))), some (.int ((nI fs.length))), none, none, none, none, none] (by decide) rfl rfl (Nat.le_of_ble_eq_true rfl) ?_
  intro p e s m below meth c C
  have hP := dk_rf hP0
  have chA : ∀ g9, g9 < ng → dk_ch X Y (ow g9) g9 (oc g9) := fun g9 h9 => (R.1 g9 h9).2.2.2.2.1
  refine z_aload_n C dd_N_callNext_0 rfl ?_
  refine z_iload_n C dd_N_callNext_1 rfl ?_
  refine iv_N_31 (sk := fun r => .int r :: []) (zz_f B) C dd_N_callNext_2 (cd_N_enter l D dA B _ _ ad ng nM na no X Y Z hP.1 fu fs.length hf (by omega) e0) (dk_rd (k := 7) (i := 0) (x := (X 7 0)) (y := (Y 7 0)) (z := (Z 7 0)) hP rfl rfl rfl rfl) rfl rfl (by refine ⟨?_, ?_⟩ <;> dsimp only [rm_N_call, rm_N_callNext, rm_N_callOnTop, rm_N_step, rm_N_perform, rm_E_has, rm_E_pop, rm_E_push, rm_N_pushUnlessEnded, rm_N_combine, rm_N_recast, rm_O_kind, rm_O_n, rm_V_of, rm_E_open, rm_E_result, rm_N_spend, rm_N_enter, rm_N_walk, rm_F_ofRow, rm_G_choose, rm_G_chooseBehind, rm_R_isEmpty] <;> omega) (Nat.le_of_ble_eq_true rfl) ⟨Nat.le_refl _, Nat.le_refl _⟩ (fun _ => rfl) (fun v1_ h1_ n1_ p1_ => ?_)
  obtain ⟨rfl, p1_⟩ := p1_
  obtain ⟨z0, z2, z3⟩ : fs.length = 8 ∧ v1_ = -5 ∧ h1_ = h := by
    rcases p1_ with z | ⟨z, _⟩
    · exact z
    · omega
  have z2z := z2.symm
  have z3z := z3.symm
  subst z2z
  subst z3z
  refine z_istore_n C dd_N_callNext_5 rfl ?_
  refine z_iload_n C dd_N_callNext_6 rfl ?_
  refine z_if_ge (tgt := 12) C dd_N_callNext_7 (by decide) (fun q1 => absurd q1 (by decide)) (fun q1 => ?_)
  refine z_iload_n C dd_N_callNext_10 rfl ?_
  refine z_iret C dd_N_callNext_11 ⟨rfl, X, Y, Z, hP, dk_fz_rf, chA, ?_⟩ (Nat.zero_le _) (Nat.zero_le _)
  unfold mq_enter
  rw [if_pos z0]
  exact ⟨0, _, rfl, e0, e1, hf, Or.inl ⟨by decide, rfl⟩⟩
/-- calls, at all levels -/
theorem cd_N_calls (l : Launch) (D : va_G) (dA : Nat → ClassId) (B : Nat) (F : Nat → Int32) (ad : Nat → Nat → Nat) (ng nM : Nat) (na no : Nat → Nat) (I : mq_M) (nc : Nat) (oc : Nat → Nat) (ow tf : Nat → Nat → Nat) : ∀ k, dk_CT l D dA B F ad ng nM na no I nc oc ow tf k ∧ dk_NT l D dA B F ad ng nM na no I nc oc ow tf k
  | 0 => ⟨cd_N_call0 l D dA B F ad ng nM na no I nc oc ow tf, cd_N_callNext0 l D dA B F ad ng nM na no I nc oc ow tf⟩
  | k + 1 => by
    obtain ⟨ihC, ihN⟩ := cd_N_calls l D dA B F ad ng nM na no I nc oc ow tf k
    exact ⟨cd_N_call l D dA B F ad ng nM na no I nc oc ow tf k ihC ihN, cd_N_callNext l D dA B F ad ng nM na no I nc oc ow tf k ihC ihN⟩
