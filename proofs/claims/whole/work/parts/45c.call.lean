set_option maxRecDepth 20000 in
/-- spends -/
theorem cn_Q_spends (l : Launch) (D : va_G) (dA : Nat → ClassId) (B : Nat) (h : zz_H) (n : Nat) (q : Nat) (F : Nat → Int32) (I : Nat → Nat → Int32) (J : Nat → Nat → Int64) (hP0 : md_P dA F I J q h) (fu : Nat) (hf : fu ≤ 200) (e43 : F 43 = nI fu) : zz_M l D zz_cl (zz_ty dA) B zz_tb (zz_x B) yy_Q_spends (Cond.code yy_Q_spends bb_Q_spends 1 (some FieldType.boolean)) rm_Q_spends [.ref q] h n zz_mi (fun r h' n' => n' = n ∧ ((fu = 0 ∧ r = 0 ∧ md_K dA (md_fs (md_fs F 45 (-3)) 43 (nI 0)) I J q h h') ∨ (0 < fu ∧ r = 1 ∧ md_K dA (md_fs (md_fs F 45 0) 43 (nI (fu - 1))) I J q h h'))) := by
  refine zz_ofW (zz_f B) [some (.ref q)] (by decide) rfl rfl (Nat.le_of_ble_eq_true rfl) ?_
  intro p e s m below meth c C
  have hP := md_rf hP0
  refine z_aload_n C dd_Q_spends_0 rfl ?_
  refine z_aload_n C dd_Q_spends_1 rfl ?_
  refine gf_Q_225 (v := .int (F 43)) C dd_Q_spends_2 hP.1.1 rfl ?_
  refine z_topi (y := nI fu) e43.symm ?_
  refine z_if_ne (tgt := 13) C dd_Q_spends_5 (by decide) (fun q1 => ?_) (fun q1 => ?_)
  · replace q1 : ¬ fu = 0 := fun z => q1 ((@nI_eq fu 0 (by omega) (by omega)).mpr z)
    refine z_iconst (v := 0) C dd_Q_spends_13 (by decide) ?_
    refine pf_Q_228 C dd_Q_spends_14 hP.1.1 (Nat.le_of_ble_eq_true rfl) rfl rfl ?_
    refine z_cut (md_K dA (md_fs F 45 0) I J q h) (md_wF hP rfl) rfl rfl rfl (fun h1_ hP1_ => ?_)
    refine z_aload_n C dd_Q_spends_17 rfl ?_
    refine z_aload_n C dd_Q_spends_18 rfl ?_
    refine gf_Q_225 (v := .int (F 43)) C dd_Q_spends_19 hP1_.1.1 rfl ?_
    refine z_topi (y := nI fu) e43.symm ?_
    refine z_if_le (tgt := 34) C dd_Q_spends_22 (by decide) (fun q2 => absurd ((@nI_leI fu 0 (by omega) (by omega)).mp q2) (by omega)) (fun q2 => ?_)
    refine z_aload_n C dd_Q_spends_25 rfl ?_
    refine gf_Q_225 (v := .int (F 43)) C dd_Q_spends_26 hP1_.1.1 rfl ?_
    refine z_topi (y := nI fu) e43.symm ?_
    refine z_iconst (v := 1) C dd_Q_spends_29 (by decide) ?_
    refine z_isub C dd_Q_spends_30 ?_
    refine z_topi (y := nI (fu - 1)) (by rw [← pk_sub (a := fu) (b := 1) (by omega)]; rfl) ?_
    refine z_goto (tgt := 35) C dd_Q_spends_31 (by decide) ?_
    refine pf_Q_225 C dd_Q_spends_35 hP1_.1.1 (Nat.le_of_ble_eq_true rfl) rfl rfl ?_
    refine z_cut (md_K dA (md_fs (md_fs F 45 0) 43 (nI (fu - 1))) I J q h) (md_wF hP1_ rfl) rfl rfl rfl (fun h2_ hP2_ => ?_)
    refine z_aload_n C dd_Q_spends_38 rfl ?_
    refine gf_Q_228 (v := .int 0) C dd_Q_spends_39 hP2_.1.1 rfl ?_
    refine z_if_ne (tgt := 49) C dd_Q_spends_42 (by decide) (fun q3 => absurd (by decide) q3) (fun q3 => ?_)
    refine z_iconst (v := 1) C dd_Q_spends_45 (by decide) ?_
    refine z_goto (tgt := 50) C dd_Q_spends_46 (by decide) ?_
    exact z_zret C dd_Q_spends_50 rfl ⟨rfl, Or.inr ⟨by omega, rfl, hP2_⟩⟩ (by decide) (by decide)
  · replace q1 : fu = 0 := (@nI_eq fu 0 (by omega) (by omega)).mp q1
    refine z_bipush (v := (-3)) C dd_Q_spends_8 (by decide) ?_
    refine z_goto (tgt := 14) C dd_Q_spends_10 (by decide) ?_
    refine pf_Q_228 C dd_Q_spends_14 hP.1.1 (Nat.le_of_ble_eq_true rfl) rfl rfl ?_
    refine z_cut (md_K dA (md_fs F 45 (-3)) I J q h) (md_wF hP rfl) rfl rfl rfl (fun h3_ hP3_ => ?_)
    refine z_aload_n C dd_Q_spends_17 rfl ?_
    refine z_aload_n C dd_Q_spends_18 rfl ?_
    refine gf_Q_225 (v := .int (F 43)) C dd_Q_spends_19 hP3_.1.1 rfl ?_
    refine z_topi (y := nI fu) e43.symm ?_
    refine z_if_le (tgt := 34) C dd_Q_spends_22 (by decide) (fun q4 => ?_) (fun q4 => absurd ((@nI_leI fu 0 (by omega) (by omega)).mpr (by omega)) q4)
    refine z_iconst (v := 0) C dd_Q_spends_34 (by decide) ?_
    refine pf_Q_225 C dd_Q_spends_35 hP3_.1.1 (Nat.le_of_ble_eq_true rfl) rfl rfl ?_
    refine z_cut (md_K dA (md_fs (md_fs F 45 (-3)) 43 0) I J q h) (md_wF hP3_ rfl) rfl rfl rfl (fun h4_ hP4_ => ?_)
    refine z_aload_n C dd_Q_spends_38 rfl ?_
    refine gf_Q_228 (v := .int (-3)) C dd_Q_spends_39 hP4_.1.1 rfl ?_
    refine z_if_ne (tgt := 49) C dd_Q_spends_42 (by decide) (fun q5 => ?_) (fun q5 => absurd q5 (by decide))
    refine z_iconst (v := 0) C dd_Q_spends_49 (by decide) ?_
    exact z_zret C dd_Q_spends_50 rfl ⟨rfl, Or.inl ⟨q1, rfl, hP4_⟩⟩ (by decide) (by decide)
abbrev rm_Q_call : Room := { frames := 12, cells := 0, slots := 0, locals := 400 }
set_option maxRecDepth 20000 in
theorem tl_Q_call {D : va_G} {dA : Nat → ClassId} {B : Nat} {p : Program} {l : Launch} {e : Env} {s : State} {m : MethodId} {args : Array Value} {below : List Frame} {meth : Method} {c : Code} {Q : State → Prop} {n : Nat} {nm : String} {ret9 : Option FieldType} {h : zz_H} (C : zz_C D zz_cl (zz_ty dA) B zz_tb (zz_x B) p s m args meth c bb_Q_call RR_Q ret9 nm) {q : Nat} {F0 F : Nat → Int32} {I0 I : mq_M} {J : Nat → Nat → Int64} {nc ng nM : Nat} (W : pu_W F0 I0 nc ng nM) {g0 ar x0 y0 fu th re : Nat} {y be v : Int32} {fs : List mq_F} (hg : g0 < ng) (har : I0 1 g0 = nI ar) (ha : ar = 1 ∨ ar = 2) (hx : x0 < 8 * nc) (hy : pu_y nc ar y y0) (A : mq_A F0 I0 nc ng nM F I (fu, th, fs, 0, re)) (hd : fs.length < 8) (hv : v < 0 ∨ ∃ m, (m < nM ∧ I0 2 m = nI g0) ∧ v = nI m) {h9 : zz_H} (hP : md_K dA F I J q h h9)
    (kx : ∀ pc h' F' I', (pc = 91 ∨ pc = 154) → md_K dA F' I' J q h h' → mq_A F0 I0 nc ng nM F' I' (mq_in v x0 y0 fu th fs re) → zz_W D zz_cl B p l e rm_Q_call s m args below meth c Q h' n 0 0 [some (.ref q), some (.int (nI g0)), some (.int be), some (.int (nI x0)), some (.int y), some (.int v)] pc []) : zz_W D zz_cl B p l e rm_Q_call s m args below meth c Q h9 n 0 0 [some (.ref q), some (.int (nI g0)), some (.int be), some (.int (nI x0)), some (.int y), none] 78 [.int v] := by
  have h12 := W.m12
  have hg4 := W.g4
  rcases hv with hv | ⟨m0, ⟨hm, ho⟩, rfl⟩
  · skip
    refine z_istore C dd_Q_call_78 rfl ?_
    refine z_iload C dd_Q_call_80 rfl ?_
    refine z_if_ge (tgt := 92) C dd_Q_call_82 (by decide) (fun q1 => absurd hv (Int32.not_lt.mpr q1)) (fun q1 => ?_)
    refine z_aload_n C dd_Q_call_85 rfl ?_
    refine z_iload C dd_Q_call_86 rfl ?_
    refine pf_Q_228 C dd_Q_call_88 hP.1.1 (Nat.le_of_ble_eq_true rfl) rfl rfl ?_
    refine z_cut (md_K dA (md_fs F 45 v) I J q h) (md_wF hP rfl) rfl rfl rfl (fun h1_ hP1_ => ?_)
    refine kx 91 _ _ _ (Or.inl rfl) hP1_ ?_
    unfold mq_in
    rw [if_pos hv]
    exact A.e v
  · skip
    refine z_istore C dd_Q_call_78 rfl ?_
    refine z_iload C dd_Q_call_80 rfl ?_
    refine z_if_ge (tgt := 92) C dd_Q_call_82 (by decide) (fun q1 => ?_) (fun q1 => absurd (nI_pos' (n := m0) (by omega)) q1)
    refine z_aload_n C dd_Q_call_92 rfl ?_
    refine gf_Q_103 (v := .ref (q + 1 + 29)) C dd_Q_call_93 hP.1.1 rfl ?_
    refine z_aload_n C dd_Q_call_96 rfl ?_
    refine gf_Q_231 (v := .int (F 36)) C dd_Q_call_97 hP.1.1 rfl ?_
    refine z_topi (y := nI fs.length) A.2.2.2.2.2.1.symm ?_
    refine z_iload C dd_Q_call_100 rfl ?_
    refine z_iast (t0 := 0) (N := 9) (f := (I 29)) C rfl dd_Q_call_102 (hP.1.2 29 (by decide)) (vp_in_nI (by omega) (by decide)) ?_
    refine z_cut (md_K dA F (md_is I 29 (upd (I 29) (Int32.toNatClampNeg (nI fs.length)) (nI m0))) J q h) (md_wI hP 29 (by decide) rfl) rfl rfl rfl (fun h1_ hP1_ => ?_)
    refine z_aload_n C dd_Q_call_103 rfl ?_
    refine gf_Q_106 (v := .ref (q + 1 + 30)) C dd_Q_call_104 hP1_.1.1 rfl ?_
    refine z_aload_n C dd_Q_call_107 rfl ?_
    refine gf_Q_231 (v := .int (F 36)) C dd_Q_call_108 hP1_.1.1 rfl ?_
    refine z_topi (y := nI fs.length) A.2.2.2.2.2.1.symm ?_
    refine z_iload_n C dd_Q_call_111 rfl ?_
    refine z_iast (t0 := 0) (N := 9) (f := (I 30)) C rfl dd_Q_call_112 (hP1_.1.2 30 (by decide)) (vp_in_nI (by omega) (by decide)) ?_
    refine z_cut (md_K dA F (md_is (md_is I 29 (upd (I 29) (Int32.toNatClampNeg (nI fs.length)) (nI m0))) 30 (upd (I 30) (Int32.toNatClampNeg (nI fs.length)) (nI x0))) J q h) (md_wI hP1_ 30 (by decide) rfl) rfl rfl rfl (fun h2_ hP2_ => ?_)
    refine z_aload_n C dd_Q_call_113 rfl ?_
    refine gf_Q_109 (v := .ref (q + 1 + 31)) C dd_Q_call_114 hP2_.1.1 rfl ?_
    refine z_aload_n C dd_Q_call_117 rfl ?_
    refine gf_Q_231 (v := .int (F 36)) C dd_Q_call_118 hP2_.1.1 rfl ?_
    refine z_topi (y := nI fs.length) A.2.2.2.2.2.1.symm ?_
    refine z_iload C dd_Q_call_121 rfl ?_
    refine z_iast (t0 := 0) (N := 9) (f := (I 31)) C rfl dd_Q_call_123 (hP2_.1.2 31 (by decide)) (vp_in_nI (by omega) (by decide)) ?_
    refine z_cut (md_K dA F (md_is (md_is (md_is I 29 (upd (I 29) (Int32.toNatClampNeg (nI fs.length)) (nI m0))) 30 (upd (I 30) (Int32.toNatClampNeg (nI fs.length)) (nI x0))) 31 (upd (I 31) (Int32.toNatClampNeg (nI fs.length)) y)) J q h) (md_wI hP2_ 31 (by decide) rfl) rfl rfl rfl (fun h3_ hP3_ => ?_)
    refine z_aload_n C dd_Q_call_124 rfl ?_
    refine gf_Q_112 (v := .ref (q + 1 + 32)) C dd_Q_call_125 hP3_.1.1 rfl ?_
    refine z_aload_n C dd_Q_call_128 rfl ?_
    refine gf_Q_231 (v := .int (F 36)) C dd_Q_call_129 hP3_.1.1 rfl ?_
    refine z_topi (y := nI fs.length) A.2.2.2.2.2.1.symm ?_
    refine z_iconst (v := 0) C dd_Q_call_132 (by decide) ?_
    refine z_iast (t0 := 0) (N := 9) (f := (I 32)) C rfl dd_Q_call_133 (hP3_.1.2 32 (by decide)) (vp_in_nI (by omega) (by decide)) ?_
    refine z_cut (md_K dA F (md_is (md_is (md_is (md_is I 29 (upd (I 29) (Int32.toNatClampNeg (nI fs.length)) (nI m0))) 30 (upd (I 30) (Int32.toNatClampNeg (nI fs.length)) (nI x0))) 31 (upd (I 31) (Int32.toNatClampNeg (nI fs.length)) y)) 32 (upd (I 32) (Int32.toNatClampNeg (nI fs.length)) 0)) J q h) (md_wI hP3_ 32 (by decide) rfl) rfl rfl rfl (fun h4_ hP4_ => ?_)
    refine z_aload_n C dd_Q_call_134 rfl ?_
    refine gf_Q_115 (v := .ref (q + 1 + 33)) C dd_Q_call_135 hP4_.1.1 rfl ?_
    refine z_aload_n C dd_Q_call_138 rfl ?_
    refine gf_Q_231 (v := .int (F 36)) C dd_Q_call_139 hP4_.1.1 rfl ?_
    refine z_topi (y := nI fs.length) A.2.2.2.2.2.1.symm ?_
    refine z_iconst (v := 0) C dd_Q_call_142 (by decide) ?_
    refine z_iast (t0 := 0) (N := 9) (f := (I 33)) C rfl dd_Q_call_143 (hP4_.1.2 33 (by decide)) (vp_in_nI (by omega) (by decide)) ?_
    refine z_cut (md_K dA F (md_is (md_is (md_is (md_is (md_is I 29 (upd (I 29) (Int32.toNatClampNeg (nI fs.length)) (nI m0))) 30 (upd (I 30) (Int32.toNatClampNeg (nI fs.length)) (nI x0))) 31 (upd (I 31) (Int32.toNatClampNeg (nI fs.length)) y)) 32 (upd (I 32) (Int32.toNatClampNeg (nI fs.length)) 0)) 33 (upd (I 33) (Int32.toNatClampNeg (nI fs.length)) 0)) J q h) (md_wI hP4_ 33 (by decide) rfl) rfl rfl rfl (fun h5_ hP5_ => ?_)
    refine z_aload_n C dd_Q_call_144 rfl ?_
    refine z_dup C dd_Q_call_145 rfl ?_
    refine gf_Q_231 (v := .int (F 36)) C dd_Q_call_146 hP5_.1.1 rfl ?_
    refine z_topi (y := nI fs.length) A.2.2.2.2.2.1.symm ?_
    refine z_iconst (v := 1) C dd_Q_call_149 (by decide) ?_
    refine z_iadd C dd_Q_call_150 ?_
    refine z_topi (y := nI (fs.length + 1)) (by first | exact (nI_add _ _).symm | (rw [← nI_add]; rfl)) ?_
    refine pf_Q_231 C dd_Q_call_151 hP5_.1.1 (Nat.le_of_ble_eq_true rfl) rfl rfl ?_
    refine z_cut (md_K dA (md_fs F 36 (nI (fs.length + 1))) (md_is (md_is (md_is (md_is (md_is I 29 (upd (I 29) (Int32.toNatClampNeg (nI fs.length)) (nI m0))) 30 (upd (I 30) (Int32.toNatClampNeg (nI fs.length)) (nI x0))) 31 (upd (I 31) (Int32.toNatClampNeg (nI fs.length)) y)) 32 (upd (I 32) (Int32.toNatClampNeg (nI fs.length)) 0)) 33 (upd (I 33) (Int32.toNatClampNeg (nI fs.length)) 0)) J q h) (md_wF hP5_ rfl) rfl rfl rfl (fun h6_ hP6_ => ?_)
    rw [nI_clamp (by omega)] at hP6_
    refine kx 154 _ _ _ (Or.inr rfl) hP6_ ?_
    have e9 : mq_of I0 m0 = g0 := by unfold mq_of; rw [ho, nI_clamp (by omega)]
    have e8 : mq_ar I0 g0 = ar := by unfold mq_ar; rw [har, nI_clamp (by omega)]
    unfold mq_in
    rw [if_neg (nI_pos (by omega)), nI_clamp (by omega)]
    exact A.p hd hm hx (by rw [e9, e8]; exact hy)
set_option maxRecDepth 20000 in
/-- call -/
theorem cc_Q_callC (l : Launch) (D : va_G) (dA : Nat → ClassId) (B : Nat) (h : zz_H) (n : Nat) (q : Nat) (F : Nat → Int32) (I : Nat → Nat → Int32) (J : Nat → Nat → Int64) (hP0 : md_P dA F I J q h) (F0 : Nat → Int32) (I0 : mq_M) (nc ng nM : Nat) (W : pu_W F0 I0 nc ng nM) (GS : pu_gs I0 ng nM) (g0 ar x0 y0 fu th re : Nat) (y en : Int32) (fs : List mq_F) (hg : g0 < ng) (har : I0 1 g0 = nI ar) (ha : ar = 1 ∨ ar = 2) (hx : x0 < 8 * nc) (hy : pu_y nc ar y y0) (A : mq_A F0 I0 nc ng nM F I (fu, th, fs, en, re)) : zz_M l D zz_cl (zz_ty dA) B zz_tb (zz_x B) yy_Q_call (Cond.code yy_Q_call bb_Q_call 6 none) rm_Q_call [.ref q, .int ((nI g0)), .int ((-1)), .int ((nI x0)), .int y] h n zz_mv (fun _ h' n' => n' = n ∧ ∃ F' I', md_K dA F' I' J q h h' ∧ mq_A F0 I0 nc ng nM F' I' (mq_enter (mq_ch I0 nc nM g0 x0 y0) x0 y0 fu th fs re)) := by
  refine zz_ofW (zz_f B) [some (.ref q), some (.int ((nI g0))), some (.int ((-1))), some (.int ((nI x0))), some (.int y), none] (by decide) rfl rfl (Nat.le_of_ble_eq_true rfl) ?_
  intro p e s m below meth c C
  have hg4 := W.g4
  have h12 := W.m12
  have h8 := W.c8
  have h1 := W.c1
  have hP := md_rf hP0
  have hl8 : fs.length ≤ 8 := A.2.2.2.2.2.2.2.2.2.1
  have hf2 : fu ≤ 200 := A.2.2.2.2.2.2.2.2.1
  have hrl := pu_rw_lt (ar := ar) hx hy.1
  have hRl := pu_R_le (nc := nc) (ar := ar) h8
  have e8 : mq_ar I0 g0 = ar := by unfold mq_ar; rw [har, nI_clamp (by omega)]
  refine z_aload_n C dd_Q_call_0 rfl ?_
  refine gf_Q_231 (v := .int (F 36)) C dd_Q_call_1 hP.1.1 rfl ?_
  refine z_topi (y := nI fs.length) A.2.2.2.2.2.1.symm ?_
  refine z_bipush (v := 8) C dd_Q_call_4 (by decide) ?_
  refine z_icmp_ne (tgt := 16) C dd_Q_call_6 (by decide) (fun q1 => ?_) (fun q1 => ?_)
  · replace q1 : ¬ fs.length = 8 := fun z => q1 ((@nI_eq fs.length 8 (by omega) (by omega)).mpr z)
    refine z_aload_n C dd_Q_call_16 rfl ?_
    refine iv_Q_234 (sk := fun r => .int r :: []) (zz_f B) C dd_Q_call_17 (cn_Q_spends l D dA B _ _ q _ _ _ hP.1 fu hf2 A.2.2.2.1) hP.1.1 rfl rfl ⟨by decide, by decide⟩ (Nat.le_of_ble_eq_true rfl) ⟨by decide, by decide⟩ (fun _ => rfl) (fun v1_ h1_ n1_ p1_ => ?_)
    obtain ⟨rfl, p1_⟩ := p1_
    rcases p1_ with ⟨z1, rfl, m1_⟩ | ⟨z1, rfl, m1_⟩
    · skip
      have hP1_ := md_tr hP m1_
      refine z_if_ne (tgt := 24) C dd_Q_call_20 (by decide) (fun q2 => absurd (by decide) q2) (fun q2 => ?_)
      refine z_vret C dd_Q_call_23 ⟨rfl, _, _, hP1_, ?_⟩ (by decide) (by decide)
      unfold mq_enter
      rw [if_neg q1, if_pos z1]
      exact A.s (-3) 0 (by decide)
    · skip
      have hP1_ := md_tr hP m1_
      have A1 := A.s 0 (fu - 1) (by omega)
      have W1 := A1.W W
      have har1 : I 1 g0 = nI ar := by rw [A.2.1 1 (by omega)]; exact har
      refine z_if_ne (tgt := 24) C dd_Q_call_20 (by decide) (fun q3 => ?_) (fun q3 => absurd q3 (by decide))
      refine z_iload_n C dd_Q_call_24 rfl ?_
      refine z_if_lt (tgt := 33) C dd_Q_call_25 (by decide) (fun q4 => ?_) (fun q4 => absurd (by decide) q4)
      refine z_iload_n C dd_Q_call_33 rfl ?_
      refine z_if_ge (tgt := 48) C dd_Q_call_34 (by decide) (fun q5 => absurd q5 (by decide)) (fun q5 => ?_)
      refine z_aload_n C dd_Q_call_37 rfl ?_
      refine z_iload_n C dd_Q_call_38 rfl ?_
      refine z_iload_n C dd_Q_call_39 rfl ?_
      refine z_iload C dd_Q_call_40 rfl ?_
      obtain ⟨T, t1, t2, t3, t4, t5⟩ := A1.gs GS hg (by omega) har
      refine iv_Q_238 (sk := fun r => .int r :: []) (zz_f B) C dd_Q_call_42 (cc_Q_choose l D dA B _ _ q _ _ _ hP1_.1 nc ng nM W1 g0 ar T x0 y0 th y hg har1 ha t1 hx hy (mq_G I0 g0) t2 t3 t4 A1.2.2.2.2.1) hP1_.1.1 rfl rfl ⟨by decide, by decide⟩ (Nat.le_of_ble_eq_true rfl) ⟨by decide, by decide⟩ (fun _ => rfl) (fun v2_ h2_ n2_ p2_ => ?_)
      obtain ⟨rfl, p2_⟩ := p2_
      rcases p2_ with ⟨z2, z3, m2_⟩ | ⟨z2, z3, m2_⟩
      · skip
        have hP2_ := md_tr hP1_ m2_
        rw [pu_best_bs A1.2.2.1 (by omega) hg (by omega) har1 hrl, A1.bs] at z3
        have ec : mq_enter (mq_ch I0 nc nM g0 x0 y0) x0 y0 fu th fs re = mq_in v2_ x0 y0 (fu - 1) th fs re := by
          rw [mq_enter_in (by omega) z1]
          unfold mq_ch
          rw [if_pos z2, e8, z3, Nat.add_zero]
        have hv : v2_ < 0 ∨ ∃ m, (m < nM ∧ I0 2 m = nI g0) ∧ v2_ = nI m := by
          rw [z3]
          unfold pu_bs
          rcases pu_fm_rg (pu_A I0 nc nM g0 ar (pu_rw nc ar x0 y0)) (pu_B I0 nc nM g0 ar) nM with w | ⟨m, w1, w2, w3⟩
          · exact Or.inl w
          · exact Or.inr ⟨m, ⟨w1, pu_A_of (by omega) w3 w1⟩, w2⟩
        refine z_goto (tgt := 78) C dd_Q_call_45 (by decide) ?_
        refine tl_Q_call (h := h) C W hg har ha hx hy (A1.k h8 hg4 hg har1 (by omega)) (by omega) hv hP2_ (fun pc h' F' I' w1 w2 w3 => ?_)
        rw [← ec] at w3
        rcases w1 with rfl | rfl
        · exact z_vret C dd_Q_call_91 ⟨rfl, F', I', w2, w3⟩ (by decide) (by decide)
        · exact z_vret C dd_Q_call_154 ⟨rfl, F', I', w2, w3⟩ (by decide) (by decide)
      · skip
        have hP2_ := md_tr hP1_ m2_
        rw [A1.qz] at z3
        rw [A1.qz] at hP2_
        have ec : mq_enter (mq_ch I0 nc nM g0 x0 y0) x0 y0 fu th fs re = mq_in v2_ x0 y0 (fu - 1) (th + (tg_go (mq_G I0 g0) (pu_qz I0 g0 x0 y0) (mq_G I0 g0).length ((mq_G I0 g0).length - 1)).2) fs re := by
          rw [mq_enter_in (by omega) z1]
          unfold mq_ch
          rw [if_neg z2, z3]
        have hv : v2_ < 0 ∨ ∃ m, (m < nM ∧ I0 2 m = nI g0) ∧ v2_ = nI m := by
          rw [z3]
          exact tg_go_rg t3 t1 t2.1 t5 _ _ (by omega) (by omega)
        refine z_goto (tgt := 78) C dd_Q_call_45 (by decide) ?_
        refine tl_Q_call (h := h) C W hg har ha hx hy (A1.t _) (by omega) hv hP2_ (fun pc h' F' I' w1 w2 w3 => ?_)
        rw [← ec] at w3
        rcases w1 with rfl | rfl
        · exact z_vret C dd_Q_call_91 ⟨rfl, F', I', w2, w3⟩ (by decide) (by decide)
        · exact z_vret C dd_Q_call_154 ⟨rfl, F', I', w2, w3⟩ (by decide) (by decide)
  · replace q1 : fs.length = 8 := (@nI_eq fs.length 8 (by omega) (by omega)).mp q1
    refine z_aload_n C dd_Q_call_9 rfl ?_
    refine z_bipush (v := (-5)) C dd_Q_call_10 (by decide) ?_
    refine pf_Q_228 C dd_Q_call_12 hP.1.1 (Nat.le_of_ble_eq_true rfl) rfl rfl ?_
    refine z_cut (md_K dA (md_fs F 45 (-5)) I J q h) (md_wF hP rfl) rfl rfl rfl (fun h3_ hP3_ => ?_)
    refine z_vret C dd_Q_call_15 ⟨rfl, _, _, hP3_, ?_⟩ (by decide) (by decide)
    unfold mq_enter
    rw [if_pos q1]
    exact A.e (-5)
set_option maxRecDepth 20000 in
/-- call -/
theorem cc_Q_callN (l : Launch) (D : va_G) (dA : Nat → ClassId) (B : Nat) (h : zz_H) (n : Nat) (q : Nat) (F : Nat → Int32) (I : Nat → Nat → Int32) (J : Nat → Nat → Int64) (hP0 : md_P dA F I J q h) (F0 : Nat → Int32) (I0 : mq_M) (nc ng nM : Nat) (W : pu_W F0 I0 nc ng nM) (GS : pu_gs I0 ng nM) (g0 ar x0 y0 fu th re : Nat) (y en : Int32) (fs : List mq_F) (hg : g0 < ng) (har : I0 1 g0 = nI ar) (ha : ar = 1 ∨ ar = 2) (hx : x0 < 8 * nc) (hy : pu_y nc ar y y0) (A : mq_A F0 I0 nc ng nM F I (fu, th, fs, en, re)) (m0 : Nat) (hm0 : m0 < nM) (ho : I0 2 m0 = nI g0) : zz_M l D zz_cl (zz_ty dA) B zz_tb (zz_x B) yy_Q_call (Cond.code yy_Q_call bb_Q_call 6 none) rm_Q_call [.ref q, .int ((nI g0)), .int ((nI m0)), .int ((nI x0)), .int y] h n zz_mv (fun _ h' n' => n' = n ∧ ∃ F' I', md_K dA F' I' J q h h' ∧ mq_A F0 I0 nc ng nM F' I' (mq_enter (mq_cn I0 nc nM m0 x0 y0, 0) x0 y0 fu th fs re)) := by
  refine zz_ofW (zz_f B) [some (.ref q), some (.int ((nI g0))), some (.int ((nI m0))), some (.int ((nI x0))), some (.int y), none] (by decide) rfl rfl (Nat.le_of_ble_eq_true rfl) ?_
  intro p e s m below meth c C
  have hg4 := W.g4
  have h12 := W.m12
  have h8 := W.c8
  have h1 := W.c1
  have hP := md_rf hP0
  have hl8 : fs.length ≤ 8 := A.2.2.2.2.2.2.2.2.2.1
  have hf2 : fu ≤ 200 := A.2.2.2.2.2.2.2.2.1
  have hrl := pu_rw_lt (ar := ar) hx hy.1
  have hRl := pu_R_le (nc := nc) (ar := ar) h8
  have e8 : mq_ar I0 g0 = ar := by unfold mq_ar; rw [har, nI_clamp (by omega)]
  have e9 : mq_of I0 m0 = g0 := by unfold mq_of; rw [ho, nI_clamp (by omega)]
  refine z_aload_n C dd_Q_call_0 rfl ?_
  refine gf_Q_231 (v := .int (F 36)) C dd_Q_call_1 hP.1.1 rfl ?_
  refine z_topi (y := nI fs.length) A.2.2.2.2.2.1.symm ?_
  refine z_bipush (v := 8) C dd_Q_call_4 (by decide) ?_
  refine z_icmp_ne (tgt := 16) C dd_Q_call_6 (by decide) (fun q1 => ?_) (fun q1 => ?_)
  · replace q1 : ¬ fs.length = 8 := fun z => q1 ((@nI_eq fs.length 8 (by omega) (by omega)).mpr z)
    refine z_aload_n C dd_Q_call_16 rfl ?_
    refine iv_Q_234 (sk := fun r => .int r :: []) (zz_f B) C dd_Q_call_17 (cn_Q_spends l D dA B _ _ q _ _ _ hP.1 fu hf2 A.2.2.2.1) hP.1.1 rfl rfl ⟨by decide, by decide⟩ (Nat.le_of_ble_eq_true rfl) ⟨by decide, by decide⟩ (fun _ => rfl) (fun v1_ h1_ n1_ p1_ => ?_)
    obtain ⟨rfl, p1_⟩ := p1_
    rcases p1_ with ⟨z1, rfl, m1_⟩ | ⟨z1, rfl, m1_⟩
    · skip
      have hP1_ := md_tr hP m1_
      refine z_if_ne (tgt := 24) C dd_Q_call_20 (by decide) (fun q2 => absurd (by decide) q2) (fun q2 => ?_)
      refine z_vret C dd_Q_call_23 ⟨rfl, _, _, hP1_, ?_⟩ (by decide) (by decide)
      unfold mq_enter
      rw [if_neg q1, if_pos z1]
      exact A.s (-3) 0 (by decide)
    · skip
      have hP1_ := md_tr hP m1_
      have A1 := A.s 0 (fu - 1) (by omega)
      have W1 := A1.W W
      have har1 : I 1 g0 = nI ar := by rw [A.2.1 1 (by omega)]; exact har
      refine z_if_ne (tgt := 24) C dd_Q_call_20 (by decide) (fun q3 => ?_) (fun q3 => absurd q3 (by decide))
      refine z_iload_n C dd_Q_call_24 rfl ?_
      refine z_if_lt (tgt := 33) C dd_Q_call_25 (by decide) (fun q4 => absurd q4 (nI_pos (by omega))) (fun q4 => ?_)
      refine z_aload_n C dd_Q_call_28 rfl ?_
      refine z_iload_n C dd_Q_call_29 rfl ?_
      refine iv_Q_173 (sk := fun _ => []) (zz_f B) C dd_Q_call_30 (cc_Q_know l D dA B _ _ q _ I J hP1_.1 nc ng nM W1 g0 ar hg har1 ha) hP1_.1.1 rfl rfl ⟨by decide, by decide⟩ (Nat.le_of_ble_eq_true rfl) ⟨by decide, by decide⟩ (fun _ => rfl) (fun _ h2_ n2_ p2_ => ?_)
      obtain ⟨m2_, rfl⟩ := p2_
      have hP2_ := md_tr hP1_ m2_
      have A2 := A1.k h8 hg4 hg har1 (by omega)
      have W2 := A2.W W
      have ek1 : pu_know I nc nM g0 ar 1 g0 = nI ar := by rw [A2.2.1 1 (by omega)]; exact har
      refine z_iload_n C dd_Q_call_33 rfl ?_
      refine z_if_ge (tgt := 48) C dd_Q_call_34 (by decide) (fun q5 => ?_) (fun q5 => absurd (nI_pos' (n := m0) (by omega)) q5)
      refine z_aload_n C dd_Q_call_48 rfl ?_
      refine z_aload_n C dd_Q_call_49 rfl ?_
      refine gf_Q_51 (v := .ref (q + 1 + 12)) C dd_Q_call_50 hP2_.1.1 rfl ?_
      refine z_sipush (v := 4096) C dd_Q_call_53 (by decide) ?_
      refine z_iload_n C dd_Q_call_56 rfl ?_
      refine z_imul C dd_Q_call_57 ?_
      refine z_topi (y := nI (4096 * g0)) (by first | exact (pk_mul _ _).symm | (rw [← pk_mul]; rfl)) ?_
      refine z_aload_n C dd_Q_call_58 rfl ?_
      refine z_iload_n C dd_Q_call_59 rfl ?_
      refine z_iload_n C dd_Q_call_60 rfl ?_
      refine z_iload C dd_Q_call_61 rfl ?_
      refine iv_Q_179 (sk := fun r => .int r :: [.int ((nI (4096 * g0))), .ref (q + 1 + 12), .ref q]) (zz_f B) C dd_Q_call_63 (cx_Q_row l D dA B _ _ q _ _ J hP2_.1 nc ng nM W2 g0 ar hg ek1 ha x0 y0 y hy) hP2_.1.1 rfl rfl ⟨by decide, by decide⟩ (Nat.le_of_ble_eq_true rfl) ⟨by decide, by decide⟩ (fun _ => rfl) (fun v3_ h3_ n3_ p3_ => ?_)
      obtain ⟨e3_, f3_, rfl⟩ := p3_
      have e3z := e3_.symm
      have f3z := f3_.symm
      subst e3z
      subst f3z
      refine z_iadd C dd_Q_call_66 ?_
      refine z_topi (y := nI ((4096 * g0) + (pu_rw nc ar x0 y0))) (by first | exact (nI_add _ _).symm | (rw [← nI_add]; rfl)) ?_
      refine z_iald (t0 := 0) (N := 16384) (f := ((pu_know I nc nM g0 ar) 12)) C rfl dd_Q_call_67 (hP2_.1.2 12 (by decide)) (vp_in_nI (by omega) (by decide)) ?_
      refine z_topi (y := (((pu_know I nc nM g0 ar) 12) ((4096 * g0) + (pu_rw nc ar x0 y0)))) (by rw [nI_clamp (by omega)]) ?_
      refine z_aload_n C dd_Q_call_68 rfl ?_
      refine gf_Q_54 (v := .ref (q + 1 + 13)) C dd_Q_call_69 hP2_.1.1 rfl ?_
      refine z_iload_n C dd_Q_call_72 rfl ?_
      refine z_iald (t0 := 0) (N := 12) (f := ((pu_know I nc nM g0 ar) 13)) C rfl dd_Q_call_73 (hP2_.1.2 13 (by decide)) (vp_in_nI (by omega) (by decide)) ?_
      refine z_topi (y := (((pu_know I nc nM g0 ar) 13) m0)) (by rw [nI_clamp (by omega)]) ?_
      refine z_iand C dd_Q_call_74 ?_
      refine iv_Q_170 (sk := fun r => .int r :: []) (zz_f B) C dd_Q_call_75 (cc_Q_firstMethod l D dA B _ _ q _ _ J hP2_.1 _ nM (by omega) W2.fm) hP2_.1.1 rfl rfl ⟨by decide, by decide⟩ (Nat.le_of_ble_eq_true rfl) ⟨by decide, by decide⟩ (fun _ => rfl) (fun v4_ h4_ n4_ p4_ => ?_)
      obtain ⟨e4_, f4_, z3⟩ := p4_
      have e4z := e4_.symm
      have f4z := f4_.symm
      subst e4z
      subst f4z
      replace z3 := z3.trans ((pu_next_nx A1.2.2.1 (by omega) hg (by omega) har1 hrl hm0 (by rw [A1.2.1 2 (by omega)]; exact ho)).trans (A1.nx _ _ _ _))
      have ec : mq_enter (mq_cn I0 nc nM m0 x0 y0, 0) x0 y0 fu th fs re = mq_in v4_ x0 y0 (fu - 1) th fs re := by
        rw [mq_enter_in (by omega) z1]
        unfold mq_cn
        rw [e9, e8, z3]
        rfl
      have hv : v4_ < 0 ∨ ∃ m, (m < nM ∧ I0 2 m = nI g0) ∧ v4_ = nI m := by
        rw [z3]
        unfold pu_nx
        rcases pu_fm_rg (pu_A I0 nc nM g0 ar (pu_rw nc ar x0 y0) &&& pu_B I0 nc nM g0 ar m0) (pu_B I0 nc nM g0 ar) nM with w | ⟨m, w1, w2, w3⟩
        · exact Or.inl w
        · rw [b_and] at w3
          simp at w3
          exact Or.inr ⟨m, ⟨w1, pu_A_of (by omega) w3.1 w1⟩, w2⟩
      refine tl_Q_call (h := h) C W hg har ha hx hy A2 (by omega) hv hP2_ (fun pc h' F' I' w1 w2 w3 => ?_)
      rw [← ec] at w3
      rcases w1 with rfl | rfl
      · exact z_vret C dd_Q_call_91 ⟨rfl, F', I', w2, w3⟩ (by decide) (by decide)
      · exact z_vret C dd_Q_call_154 ⟨rfl, F', I', w2, w3⟩ (by decide) (by decide)
  · replace q1 : fs.length = 8 := (@nI_eq fs.length 8 (by omega) (by omega)).mp q1
    refine z_aload_n C dd_Q_call_9 rfl ?_
    refine z_bipush (v := (-5)) C dd_Q_call_10 (by decide) ?_
    refine pf_Q_228 C dd_Q_call_12 hP.1.1 (Nat.le_of_ble_eq_true rfl) rfl rfl ?_
    refine z_cut (md_K dA (md_fs F 45 (-5)) I J q h) (md_wF hP rfl) rfl rfl rfl (fun h5_ hP5_ => ?_)
    refine z_vret C dd_Q_call_15 ⟨rfl, _, _, hP5_, ?_⟩ (by decide) (by decide)
    unfold mq_enter
    rw [if_pos q1]
    exact A.e (-5)
