theorem dk_ch_7 {X : dk_X} {Y : dk_Y} {ow : Nat → Nat} {g oc : Nat} {f : Nat → Int32} (h : dk_ch X Y ow g oc) : dk_ch (dk_is X 7 0 f) Y ow g oc := dk_ch_X h (fun i => rfl) rfl
theorem dk_fz_7 {w : Nat} {X : dk_X} {Y : dk_Y} {Z : dk_Z} {f : Nat → Int32} : dk_fz w X (dk_is X 7 0 f) Y Y Z Z := ⟨fun k i h1 h2 h3 => dk_n (fun z => h2 z.1), fun i p _ => rfl, fun _ _ _ => rfl, fun _ _ _ => rfl⟩
set_option maxRecDepth 20000 in
theorem lp_N_perform {D : va_G} {dA : Nat → ClassId} {B : Nat} {p : Program} {l : Launch} {e : Env} {s : State} {m : MethodId} {args : Array Value} {below : List Frame} {meth : Method} {c : Code} {Q : State → Prop} {n : Nat} {nm : String} {ret9 : Option FieldType} {h : zz_H} (C : zz_C D zz_cl (zz_ty dA) B zz_tb (zz_x B) p s m args meth c bb_N_perform RR_N ret9 nm) {F : Nat → Int32} {ad : Nat → Nat → Nat} {ng nM : Nat} {na no : Nat → Nat} {I : mq_M} {nc : Nat} {oc : Nat → Nat} {ow tf : Nat → Nat → Nat} {k : Nat} (ihC : dk_CT l D dA B F ad ng nM na no I nc oc ow tf k) (ihN : dk_NT l D dA B F ad ng nM na no I nc oc ow tf k) {X : dk_X} {Y : dk_Y} {Z : dk_Z} {fs : List mq_F} {fu th re m0 x y : Nat} (R : dk_RW F ad ng nM na no X Y Z I nc oc ow tf) (hk : fs.length + (k + 1) = 8) (hm : m0 < nM) (hx : x < 8 * nc) (hy : y < 8 * nc) (hy1 : mq_ar I (mq_of I m0) = 1 → y = 0) (kx : ∀ X' Y' Z' h' r pc k9 a b, (pc = 69 ∨ pc = 81) → dk_K dA ad (dk_lv ng nM na no) X' Y' Z' h h' → dk_fz fs.length X X' Y Y' Z Z' → (∀ g9, g9 < ng → dk_ch X' Y' (ow g9) g9 (oc g9)) → dk_rs I nc nM (fu, th, (m0, x, y, 0, []) :: fs, 0, re) fs r X' → zz_W D zz_cl B p l e (rm_N_perform k) s m args below meth c Q h' n 0 0 [some (.ref (ad 7 0)), some (.ref (ad 30 m0)), some (.int (nI x)), some (.int (nI y)), some (.int (nI fs.length)), some (.ref (ad 9 fs.length)), some (.int (nI k9)), a, b] pc [.int r]) :
    ∀ f k9 X1 Y1 Z1 h9 a b, k9 + f = no m0 → (∀ w, a = some w → w.category = 1) → (∀ w, b = some w → w.category = 1) → (dk_K dA ad (dk_lv ng nM na no) X1 Y1 Z1 h h9 ∧ dk_fz fs.length X X1 Y Y1 Z Z1 ∧ (∀ g9, g9 < ng → dk_ch X1 Y1 (ow g9) g9 (oc g9)) ∧ ∃ j fu1 th1 st re1, mq_pt I nc nM j (fu, th, (m0, x, y, 0, []) :: fs, 0, re) (fu1, th1, (m0, x, y, k9, st) :: fs, 0, re1) ∧ X1 7 0 0 = nI fu1 ∧ X1 7 0 1 = nI th1 ∧ fu1 ≤ 200 ∧ dk_m1 ad X1 Z1 fs.length (m0, x, y, k9, st) ∧ ∀ v : Nat, v ∈ st → v < 8 * nc) → zz_W D zz_cl B p l e (rm_N_perform k) s m args below meth c Q h9 n 0 0 [some (.ref (ad 7 0)), some (.ref (ad 30 m0)), some (.int (nI x)), some (.int (nI y)), some (.int (nI fs.length)), some (.ref (ad 9 fs.length)), some (.int (nI k9)), a, b] 20 [] := by
  intro f
  obtain ⟨o1, o2, o3, o4, o5⟩ := R.2.2.1 m0 hm
  have hd : fs.length < 8 := by omega
  have h8 := R.2.2.2.1.c8
  have eno : mq_no I m0 = no m0 := by unfold mq_no; rw [o3, nI_clamp (by omega)]
  induction f with
  | zero =>
    intro k9 X1 Y1 Z1 h9 a b hk9 ca cb J
    obtain ⟨hP, fz, ch, j, fu1, th1, st, re1, j1, j2, j3, j4, j5, j6⟩ := J
    have R1 := dk_RW_fz R fz ch
    have e5 : X1 30 m0 5 = nI (no m0) := (R1.2.2.1 m0 hm).2.1
    have hk8 : k9 = no m0 := by omega
    have FM : dk_fm X1 fs.length st := j5.2.2.2
    have ex1 : X1 9 fs.length 1 = nI x := j5.2.1
    have hh := mq_head_lt hx j6
    refine z_iload C dd_N_perform_20 rfl ?_
    refine z_aload_n C dd_N_perform_22 rfl ?_
    refine gf_N_111 (v := .int (X1 30 m0 5)) C dd_N_perform_23 (dk_rd (k := 30) (i := m0) (x := (X1 30 m0)) (y := (Y1 30 m0)) (z := (Z1 30 m0)) hP hm rfl rfl rfl) rfl ?_
    refine z_topi (y := nI (no m0)) e5.symm ?_
    refine z_icmp_ge (tgt := 76) C dd_N_perform_26 (by decide) (fun q1 => ?_) (fun q1 => ?_)
    · replace q1 : (no m0) ≤ k9 := (@nI_leI (no m0) k9 (by omega) (by omega)).mp q1
      refine z_aload C dd_N_perform_76 rfl ?_
      refine iv_N_122 (sk := fun r => .int r :: []) (zz_f B) C dd_N_perform_78 (cd_E_result l D dA B _ _ ad ng nM na no X1 Y1 Z1 hP.1 fs.length x st hd FM ex1) (dk_rd (k := 9) (i := fs.length) (x := (X1 9 fs.length)) (y := (Y1 9 fs.length)) (z := (Z1 9 fs.length)) hP hd rfl rfl rfl) rfl rfl (by refine ⟨?_, ?_⟩ <;> dsimp only [rm_N_call, rm_N_callNext, rm_N_callOnTop, rm_N_step, rm_N_perform, rm_E_has, rm_E_pop, rm_E_push, rm_N_pushUnlessEnded, rm_N_combine, rm_N_recast, rm_O_kind, rm_O_n, rm_V_of, rm_E_open, rm_E_result, rm_N_spend, rm_N_enter, rm_N_walk, rm_F_ofRow, rm_G_choose, rm_G_chooseBehind, rm_R_isEmpty] <;> omega) (Nat.le_of_ble_eq_true rfl) ⟨Nat.le_refl _, Nat.le_refl _⟩ (fun _ => rfl) (fun v1_ h1_ n1_ p1_ => ?_)
      obtain ⟨f1_, e1_, p1_⟩ := p1_
      have e1z := e1_.symm
      have f1z := f1_.symm
      subst e1z
      subst f1z
      exact kx X1 Y1 Z1 _ _ 81 k9 a b (Or.inr rfl) hP fz ch ⟨j, _, j1, j2, j3, j4, Or.inr ⟨fu1, th1, m0, x, y, k9, st, re1, rfl, by rw [eno]; omega, p1_, hh⟩⟩
    · replace q1 : ¬ (no m0) ≤ k9 := fun z => q1 ((@nI_leI (no m0) k9 (by omega) (by omega)).mpr z)
      omega
  | succ f ih =>
    intro k9 X1 Y1 Z1 h9 a b hk9 ca cb J
    obtain ⟨hP, fz, ch, j, fu1, th1, st, re1, j1, j2, j3, j4, j5, j6⟩ := J
    have R1 := dk_RW_fz R fz ch
    have e5 : X1 30 m0 5 = nI (no m0) := (R1.2.2.1 m0 hm).2.1
    have hla := dk_lv34 (ng := ng) (na := na) hm o4 (show k9 < no m0 by omega)
    refine z_iload C dd_N_perform_20 rfl ?_
    refine z_aload_n C dd_N_perform_22 rfl ?_
    refine gf_N_111 (v := .int (X1 30 m0 5)) C dd_N_perform_23 (dk_rd (k := 30) (i := m0) (x := (X1 30 m0)) (y := (Y1 30 m0)) (z := (Z1 30 m0)) hP hm rfl rfl rfl) rfl ?_
    refine z_topi (y := nI (no m0)) e5.symm ?_
    refine z_icmp_ge (tgt := 76) C dd_N_perform_26 (by decide) (fun q1 => ?_) (fun q1 => ?_)
    · replace q1 : (no m0) ≤ k9 := (@nI_leI (no m0) k9 (by omega) (by omega)).mp q1
      omega
    · replace q1 : ¬ (no m0) ≤ k9 := fun z => q1 ((@nI_leI (no m0) k9 (by omega) (by omega)).mpr z)
      refine z_aload_n C dd_N_perform_29 rfl ?_
      refine iv_N_89 (sk := fun r => .int r :: []) (zz_f B) C dd_N_perform_30 (cd_N_spend l D dA B _ _ ad ng nM na no X1 Y1 Z1 hP.1 fu1 j4 j2) (dk_rd (k := 7) (i := 0) (x := (X1 7 0)) (y := (Y1 7 0)) (z := (Z1 7 0)) hP rfl rfl rfl rfl) rfl rfl (by refine ⟨?_, ?_⟩ <;> dsimp only [rm_N_call, rm_N_callNext, rm_N_callOnTop, rm_N_step, rm_N_perform, rm_E_has, rm_E_pop, rm_E_push, rm_N_pushUnlessEnded, rm_N_combine, rm_N_recast, rm_O_kind, rm_O_n, rm_V_of, rm_E_open, rm_E_result, rm_N_spend, rm_N_enter, rm_N_walk, rm_F_ofRow, rm_G_choose, rm_G_chooseBehind, rm_R_isEmpty] <;> omega) (Nat.le_of_ble_eq_true rfl) ⟨Nat.le_refl _, Nat.le_refl _⟩ (fun _ => rfl) (fun v1_ h1_ n1_ p1_ => ?_)
      obtain ⟨rfl, p1_⟩ := p1_
      rcases p1_ with ⟨z1, z2, z3⟩ | ⟨z1, z2, z3⟩
      · skip
        have z2z := z2.symm
        have z3z := z3.symm
        subst z2z
        subst z3z
        refine z_istore C dd_N_perform_33 rfl ?_
        refine z_iload C dd_N_perform_35 rfl ?_
        refine z_if_ge (tgt := 45) C dd_N_perform_37 (by decide) (fun q2 => absurd q2 (by decide)) (fun q2 => ?_)
        refine z_iload C dd_N_perform_40 rfl ?_
        refine z_goto (tgt := 60) C dd_N_perform_42 (by decide) ?_
        refine z_istore C dd_N_perform_60 rfl ?_
        refine z_iload C dd_N_perform_62 rfl ?_
        refine z_if_ge (tgt := 70) C dd_N_perform_64 (by decide) (fun q3 => absurd q3 (by decide)) (fun q3 => ?_)
        refine z_iload C dd_N_perform_67 rfl ?_
        have es : mq_pt I nc nM (j + 1) (fu, th, (m0, x, y, 0, []) :: fs, 0, re) (0, th1, (m0, x, y, k9, st) :: fs, -3, re1) := mq_pt_tr (b := (fu1, th1, (m0, x, y, k9, st) :: fs, 0, re1)) (j := 1) ⟨by simp, rfl, by show mq_step I nc nM _ = _; rw [mq_step, if_pos (by rw [eno]; omega), if_pos z1]⟩ j _ j1
        exact kx X1 Y1 Z1 _ _ 69 _ _ _ (Or.inl rfl) hP fz ch ⟨_, _, es, by rw [j2, z1], j3, Nat.zero_le _, Or.inl ⟨by decide, rfl⟩⟩
      · skip
        have z2z := z2.symm
        subst z2z
        have hP1_ := dk_tr hP z3
        have ez32 : Z1 32 m0 k9 = some (ad 34 (8 * m0 + k9)) := ((R1.2.2.1 m0 hm).2.2.2.2 k9 (by omega)).1
        have fz2 : dk_fz fs.length X1 (dk_is X1 7 0 (upd (X1 7 0) 0 (nI (fu1 - 1)))) Y1 Y1 Z1 Z1 := dk_fz_7
        have ch2 : ∀ g9, g9 < ng → dk_ch (dk_is X1 7 0 (upd (X1 7 0) 0 (nI (fu1 - 1)))) Y1 (ow g9) g9 (oc g9) := fun g9 h9 => dk_ch_7 (ch g9 h9)
        have R2 := dk_RW_fz R1 fz2 ch2
        have es : mq_pt I nc nM (j + 1) (fu, th, (m0, x, y, 0, []) :: fs, 0, re) (mq_do I nc nM (mq_kd I m0 k9) (I 10 (8 * m0 + k9)) (fu1 - 1) th1 m0 x y (k9 + 1) st fs re1) := mq_pt_tr (b := (fu1, th1, (m0, x, y, k9, st) :: fs, 0, re1)) (j := 1) ⟨by simp, rfl, by show mq_step I nc nM _ = _; rw [mq_step, if_pos (by rw [eno]; omega), if_neg (by omega)]⟩ j _ j1
        refine z_istore C dd_N_perform_33 rfl ?_
        refine z_iload C dd_N_perform_35 rfl ?_
        refine z_if_ge (tgt := 45) C dd_N_perform_37 (by decide) (fun q4 => ?_) (fun q4 => ?_)
        · replace q4 : 0 ≤ (fu1 - 1) := (@nI_leI 0 (fu1 - 1) (by omega) (by omega)).mp q4
          refine z_aload_n C dd_N_perform_45 rfl ?_
          refine z_aload_n C dd_N_perform_46 rfl ?_
          refine gf_N_114 (v := .ref ((ad 32 m0))) C dd_N_perform_47 (dk_rd (k := 30) (i := m0) (x := (X1 30 m0)) (y := (Y1 30 m0)) (z := (Z1 30 m0)) hP1_ hm rfl rfl rfl) rfl ?_
          refine z_iload C dd_N_perform_50 rfl ?_
          refine z_aald (t0 := 6) (N := 8) (f := (Z1 32 m0)) C rfl dd_N_perform_52 (dk_rd (k := 32) (i := m0) (x := (X1 32 m0)) (y := (Y1 32 m0)) (z := (Z1 32 m0)) hP1_ hm rfl rfl rfl) (vp_in_nI (by omega) (by decide)) ?_
          refine z_topr (y := ad 34 (8 * m0 + k9)) (by rw [nI_clamp (by omega), ez32]; rfl) ?_
          refine z_aload C dd_N_perform_53 rfl ?_
          refine z_iload C dd_N_perform_55 rfl ?_
          refine iv_N_118 (sk := fun r => .int r :: []) (zz_f B) C dd_N_perform_57 (cd_N_step l D dA B F ad ng nM na no I nc oc ow tf k ihC ihN _ _ (dk_is X1 7 0 (upd (X1 7 0) 0 (nI (fu1 - 1)))) Y1 Z1 fs (fu1 - 1) th1 re1 m0 k9 x y k9 st hP1_.1 R2 hk hm (by omega) j5 hx hy hy1 j6 (by rw [dk_s]; exact pk_us) (by omega) (by rw [dk_s]; exact (pk_un (by decide)).trans j3)) (dk_rd (k := 7) (i := 0) (x := (upd (X1 7 0) 0 (nI (fu1 - 1)))) (y := (Y1 7 0)) (z := (Z1 7 0)) hP1_ rfl dk_s rfl rfl) rfl rfl (by refine ⟨?_, ?_⟩ <;> dsimp only [rm_N_call, rm_N_callNext, rm_N_callOnTop, rm_N_step, rm_N_perform, rm_E_has, rm_E_pop, rm_E_push, rm_N_pushUnlessEnded, rm_N_combine, rm_N_recast, rm_O_kind, rm_O_n, rm_V_of, rm_E_open, rm_E_result, rm_N_spend, rm_N_enter, rm_N_walk, rm_F_ofRow, rm_G_choose, rm_G_chooseBehind, rm_R_isEmpty] <;> omega) (Nat.le_of_ble_eq_true rfl) ⟨Nat.le_refl _, Nat.le_refl _⟩ (fun _ => rfl) (fun v2_ h2_ n2_ p2_ => ?_)
          obtain ⟨rfl, X3, Y3, Z3, u1, u2, u3, u4, u5⟩ := p2_
          have hP2_ := dk_tr hP1_ u1
          have fz3 := dk_fz_tr fz (dk_fz_tr fz2 u2)
          have u6 := dk_rt_pre es u5
          refine z_istore C dd_N_perform_60 rfl ?_
          refine z_iload C dd_N_perform_62 rfl ?_
          obtain ⟨j9, z9, y1, y2, y3, y4, y5⟩ := u6
          refine z_if_ge (tgt := 70) C dd_N_perform_64 (by decide) (fun q => ?_) (fun q => ?_)
          · rcases y5 with ⟨y6, _⟩ | ⟨_, fu3, th3, st3, re3, rfl, y7, y8⟩
            · exact absurd y6 (Int32.not_lt.mpr q)
            · refine z_iincN C dd_N_perform_70 rfl rfl ?_
              refine z_goto (tgt := 20) C dd_N_perform_73 (by decide) ?_
              refine ih (k9 + 1) X3 Y3 Z3 _ _ _ (by omega) (fun w hw => by cases hw; rfl) (fun w hw => by cases hw; rfl) ⟨hP2_, fz3, u3, j9, fu3, th3, st3, re3, y1, y2, y3, y4, ⟨?_, ?_, ?_, y7⟩, y8⟩
              · rw [u4.2]; exact j5.1
              · exact (u4.1 1 (by decide)).trans j5.2.1
              · exact (u4.1 2 (by decide)).trans j5.2.2.1
          · rcases y5 with y5 | ⟨y6, _⟩
            · refine z_iload C dd_N_perform_67 rfl ?_
              exact kx X3 Y3 Z3 _ _ 69 _ _ _ (Or.inl rfl) hP2_ fz3 u3 ⟨j9, z9, y1, y2, y3, y4, Or.inl y5⟩
            · exact absurd (Int32.not_le.mp q) y6
        · replace q4 : ¬ 0 ≤ (fu1 - 1) := fun z => q4 ((@nI_leI 0 (fu1 - 1) (by omega) (by omega)).mpr z)
          omega
set_option maxRecDepth 20000 in
theorem cd_N_perform (l : Launch) (D : va_G) (dA : Nat → ClassId) (B : Nat) (F : Nat → Int32) (ad : Nat → Nat → Nat) (ng nM : Nat) (na no : Nat → Nat) (I : mq_M) (nc : Nat) (oc : Nat → Nat) (ow tf : Nat → Nat → Nat) (k : Nat) (ihC : dk_CT l D dA B F ad ng nM na no I nc oc ow tf k) (ihN : dk_NT l D dA B F ad ng nM na no I nc oc ow tf k) (h : zz_H) (n : Nat) (X : dk_X) (Y : dk_Y) (Z : dk_Z) (fs : List mq_F) (fu th re m0 x y : Nat) (hP0 : dk_P dA ad (dk_lv ng nM na no) X Y Z h) (R : dk_RW F ad ng nM na no X Y Z I nc oc ow tf) (hk : fs.length + (k + 1) = 8) (hm : m0 < nM) (hx : x < 8 * nc) (hy : y < 8 * nc) (hy1 : mq_ar I (mq_of I m0) = 1 → y = 0) (e0 : X 7 0 0 = nI fu) (hf : fu ≤ 200) (e1 : X 7 0 1 = nI th) : zz_M l D zz_cl (zz_ty dA) B zz_tb (zz_x B) yy_N_perform (Cond.code yy_N_perform bb_N_perform 9 (some FieldType.int)) (rm_N_perform k) [.ref (ad 7 0), .ref (ad 30 m0), .int (nI x), .int (nI y), .int (nI fs.length)] h n zz_mi (fun r h' n' => n' = n ∧ ∃ X' Y' Z', dk_K dA ad (dk_lv ng nM na no) X' Y' Z' h h' ∧ dk_fz fs.length X X' Y Y' Z Z' ∧ (∀ g9, g9 < ng → dk_ch X' Y' (ow g9) g9 (oc g9)) ∧ dk_rs I nc nM (fu, th, (m0, x, y, 0, []) :: fs, 0, re) fs r X') := by
  refine zz_ofW (zz_f B) [some (.ref ((ad 7 0))), some (.ref ((ad 30 m0))), some (.int ((nI x))), some (.int ((nI y))), some (.int ((nI fs.length))), none, none, none, none] (by decide) rfl rfl (Nat.le_of_ble_eq_true rfl) ?_
  intro p e s m below meth c C
  have hP := dk_rf hP0
  have hd : fs.length < 8 := by omega
  have chA : ∀ g9, g9 < ng → dk_ch X Y (ow g9) g9 (oc g9) := fun g9 h9 => (R.1 g9 h9).2.2.2.2.1
  refine z_aload_n C dd_N_perform_0 rfl ?_
  refine gf_N_26 (v := .ref ((ad 8 0))) C dd_N_perform_1 (dk_rd (k := 7) (i := 0) (x := (X 7 0)) (y := (Y 7 0)) (z := (Z 7 0)) hP rfl rfl rfl rfl) rfl ?_
  refine z_iload C dd_N_perform_4 rfl ?_
  refine z_aald (t0 := 7) (N := 8) (f := (Z 8 0)) C rfl dd_N_perform_6 (dk_rd (k := 8) (i := 0) (x := (X 8 0)) (y := (Y 8 0)) (z := (Z 8 0)) hP rfl rfl rfl rfl) (vp_in_nI (by omega) (by decide)) ?_
  refine z_topr (y := ad 9 fs.length) (by rw [nI_clamp (by omega), R.2.1.2.2.1 fs.length hd]; rfl) ?_
  refine z_astore C dd_N_perform_7 rfl ?_
  refine z_aload C dd_N_perform_9 rfl ?_
  refine z_aload_n C dd_N_perform_11 rfl ?_
  refine z_iload_n C dd_N_perform_12 rfl ?_
  refine z_iload_n C dd_N_perform_13 rfl ?_
  refine iv_N_107 (sk := fun _ => []) (zz_f B) C dd_N_perform_14 (cd_E_begin l D dA B _ _ ad ng nM na no X Y Z hP.1 fs.length m0 x y hd hm) (dk_rd (k := 9) (i := fs.length) (x := (X 9 fs.length)) (y := (Y 9 fs.length)) (z := (Z 9 fs.length)) hP hd rfl rfl rfl) rfl rfl (by refine ⟨?_, ?_⟩ <;> dsimp only [rm_N_call, rm_N_callNext, rm_N_callOnTop, rm_N_step, rm_N_perform, rm_E_has, rm_E_pop, rm_E_push, rm_N_pushUnlessEnded, rm_N_combine, rm_N_recast, rm_O_kind, rm_O_n, rm_V_of, rm_E_open, rm_E_result, rm_N_spend, rm_N_enter, rm_N_walk, rm_F_ofRow, rm_G_choose, rm_G_chooseBehind, rm_R_isEmpty] <;> omega) (Nat.le_of_ble_eq_true rfl) ⟨Nat.le_refl _, Nat.le_refl _⟩ (fun _ => rfl) (fun _ h1_ n1_ p1_ => ?_)
  obtain ⟨rfl, X1, w1, w2, w3, w4, w5⟩ := p1_
  have hP1_ := dk_tr hP w1
  refine z_iconst (v := 0) C dd_N_perform_17 (by decide) ?_
  refine z_istore C dd_N_perform_18 rfl ?_
  have fz1 : dk_fz fs.length X X1 Y Y Z (dk_is Z 9 fs.length (va_up (Z 9 fs.length) 0 (some (ad 30 m0)))) := ⟨fun k9 i9 c1 c2 c3 => w5 k9 i9 (fun z => c3 ⟨Or.inl z.1, by omega⟩), fun i9 p9 _ => by rw [w5 20 i9 (by omega)], fun _ _ _ => rfl, fun k9 i9 c => dk_n (fun z => c ⟨z.1, by omega⟩)⟩
  have ch1 : ∀ g9, g9 < ng → dk_ch X1 Y (ow g9) g9 (oc g9) := fun g9 h9 => dk_ch_X (chA g9 h9) (fun i9 => w5 30 i9 (by omega)) (w5 20 g9 (by omega))
  refine lp_N_perform (h := h) C ihC ihN R hk hm hx hy hy1 (fun X' Y' Z' h' r pc k9 a b v1 v2 v3 v4 v5 => ?_) (no m0) 0 X1 Y _ _ none none (by omega) (fun w hw => by cases hw) (fun w hw => by cases hw) ⟨hP1_, fz1, ch1, 0, fu, th, [], re, rfl, by rw [w5 7 0 (by omega)]; exact e0, by rw [w5 7 0 (by omega)]; exact e1, hf, ⟨?_, w3, w4, w2⟩, fun v hv => by cases hv⟩
  · rcases v1 with rfl | rfl
    · exact z_iret C dd_N_perform_69 ⟨rfl, X', Y', Z', v2, v3, v4, v5⟩ (Nat.zero_le _) (Nat.zero_le _)
    · exact z_iret C dd_N_perform_81 ⟨rfl, X', Y', Z', v2, v3, v4, v5⟩ (Nat.zero_le _) (Nat.zero_le _)
  · rw [dk_s]; rfl
