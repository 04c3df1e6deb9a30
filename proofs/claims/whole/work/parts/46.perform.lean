abbrev rm_Q_perform : Room := { frames := 14, cells := 0, slots := 0, locals := 500 }
set_option maxRecDepth 20000 in
/-- perform -/
theorem cc_Q_perform (l : Launch) (D : va_G) (dA : Nat → ClassId) (B : Nat) (h : zz_H) (n : Nat) (q : Nat) (F : Nat → Int32) (I : Nat → Nat → Int32) (J : Nat → Nat → Int64) (hP0 : md_P dA F I J q h) (F0 : Nat → Int32) (I0 : mq_M) (nc ng nM : Nat) (W : pu_W F0 I0 nc ng nM) (GS : pu_gs I0 ng nM) (OW : pu_ow I0 nc ng nM) (fu th m0 x0 y0 a re : Nat) (st : List Nat) (fs : List mq_F) (A : mq_A F0 I0 nc ng nM F I (fu, th, (m0, x0, y0, a, st) :: fs, 0, re)) (hno : a < mq_no I0 m0) : zz_M l D zz_cl (zz_ty dA) B zz_tb (zz_x B) yy_Q_perform (Cond.code yy_Q_perform bb_Q_perform 9 none) rm_Q_perform [.ref q] h n zz_mv (fun _ h' n' => n' = n ∧ ∃ F' I', md_K dA F' I' J q h h' ∧ mq_A F0 I0 nc ng nM F' I' (mq_do I0 nc nM (mq_kd I0 m0 a) (I0 10 (8 * m0 + a)) fu th m0 x0 y0 (a + 1) st fs re)) := by
  refine zz_ofW (zz_f B) [some (.ref q), none, none, none, none, none, none, none, none] (by decide) rfl rfl (Nat.le_of_ble_eq_true rfl) ?_
  intro p e s m below meth c C
  have hg4 := W.g4
  have h12 := W.m12
  have h8 := W.c8
  have h1 := W.c1
  have hP := md_rf hP0
  have hd8 := A.l
  obtain ⟨hm, hx, hy0, ha8, hs6, hsv⟩ := A.u
  obtain ⟨o1, o2, ow⟩ := OW m0 hm
  obtain ⟨o3, o4, o5⟩ := ow a hno
  obtain ⟨kd, ekd⟩ : ∃ kd, mq_kd I0 m0 a = kd := ⟨_, rfl⟩
  obtain ⟨n9, en9⟩ : ∃ n9, I0 10 (8 * m0 + a) = n9 := ⟨_, rfl⟩
  rw [ekd] at o3 o4 o5
  rw [en9] at o5
  rw [ekd, en9]
  have ei9 : I 9 (8 * m0 + a) = nI kd := by rw [A.2.1 9 (by omega)]; exact o4
  have ei10 : I 10 (8 * m0 + a) = n9 := by rw [A.2.1 10 (by omega)]; exact en9
  have hsv9 : ∀ w : Nat, w ∈ st → w < 8 * nc := hsv
  have hs69 : st.length ≤ 6 := hs6
  have hm9 : m0 < nM := hm
  have hx9 : x0 < 8 * nc := hx
  have hari : mq_ar I0 (mq_of I0 m0) = 1 ∨ mq_ar I0 (mq_of I0 m0) = 2 := by
    obtain ⟨g9, hg9, ho⟩ := W.own m0 hm9
    obtain ⟨ar, har2, har⟩ := W.ar g9 hg9
    unfold mq_of mq_ar
    rw [ho, nI_clamp (by omega), har, nI_clamp (by omega)]
    exact har2
  refine z_aload_n C dd_Q_perform_0 rfl ?_
  refine gf_Q_231 (v := .int (F 36)) C dd_Q_perform_1 hP.1.1 rfl ?_
  refine z_topi (y := nI (fs.length + 1)) A.2.2.2.2.2.1.symm ?_
  refine z_iconst (v := 1) C dd_Q_perform_4 (by decide) ?_
  refine z_isub C dd_Q_perform_5 ?_
  refine z_topi (y := nI fs.length) (nI_pred fs.length).symm ?_
  refine z_istore_n C dd_Q_perform_6 rfl ?_
  refine z_aload_n C dd_Q_perform_7 rfl ?_
  refine gf_Q_103 (v := .ref (q + 1 + 29)) C dd_Q_perform_8 hP.1.1 rfl ?_
  refine z_iload_n C dd_Q_perform_11 rfl ?_
  refine z_iald (t0 := 0) (N := 9) (f := (I 29)) C rfl dd_Q_perform_12 (hP.1.2 29 (by decide)) (vp_in_nI (by omega) (by decide)) ?_
  refine z_topi (y := nI m0) (by rw [nI_clamp (by omega)]; exact A.o.1.symm) ?_
  refine z_istore_n C dd_Q_perform_13 rfl ?_
  refine z_aload_n C dd_Q_perform_14 rfl ?_
  refine gf_Q_42 (v := .ref (q + 1 + 9)) C dd_Q_perform_15 hP.1.1 rfl ?_
  refine z_bipush (v := 8) C dd_Q_perform_18 (by decide) ?_
  refine z_iload_n C dd_Q_perform_20 rfl ?_
  refine z_imul C dd_Q_perform_21 ?_
  refine z_topi (y := nI (8 * m0)) (by first | exact (pk_mul _ _).symm | (rw [← pk_mul]; rfl)) ?_
  refine z_aload_n C dd_Q_perform_22 rfl ?_
  refine gf_Q_112 (v := .ref (q + 1 + 32)) C dd_Q_perform_23 hP.1.1 rfl ?_
  refine z_iload_n C dd_Q_perform_26 rfl ?_
  refine z_iald (t0 := 0) (N := 9) (f := (I 32)) C rfl dd_Q_perform_27 (hP.1.2 32 (by decide)) (vp_in_nI (by omega) (by decide)) ?_
  refine z_topi (y := nI a) (by rw [nI_clamp (by omega)]; exact A.o.2.2.2.1.symm) ?_
  refine z_iadd C dd_Q_perform_28 ?_
  refine z_topi (y := nI ((8 * m0) + a)) (by first | exact (nI_add _ _).symm | (rw [← nI_add]; rfl)) ?_
  refine z_iald (t0 := 0) (N := 96) (f := (I 9)) C rfl dd_Q_perform_29 (hP.1.2 9 (by decide)) (vp_in_nI (by omega) (by decide)) ?_
  refine z_topi (y := nI kd) (by rw [nI_clamp (by omega)]; exact ei9.symm) ?_
  refine z_istore_n C dd_Q_perform_30 rfl ?_
  refine z_aload_n C dd_Q_perform_31 rfl ?_
  refine gf_Q_45 (v := .ref (q + 1 + 10)) C dd_Q_perform_32 hP.1.1 rfl ?_
  refine z_bipush (v := 8) C dd_Q_perform_35 (by decide) ?_
  refine z_iload_n C dd_Q_perform_37 rfl ?_
  refine z_imul C dd_Q_perform_38 ?_
  refine z_topi (y := nI (8 * m0)) (by first | exact (pk_mul _ _).symm | (rw [← pk_mul]; rfl)) ?_
  refine z_aload_n C dd_Q_perform_39 rfl ?_
  refine gf_Q_112 (v := .ref (q + 1 + 32)) C dd_Q_perform_40 hP.1.1 rfl ?_
  refine z_iload_n C dd_Q_perform_43 rfl ?_
  refine z_iald (t0 := 0) (N := 9) (f := (I 32)) C rfl dd_Q_perform_44 (hP.1.2 32 (by decide)) (vp_in_nI (by omega) (by decide)) ?_
  refine z_topi (y := nI a) (by rw [nI_clamp (by omega)]; exact A.o.2.2.2.1.symm) ?_
  refine z_iadd C dd_Q_perform_45 ?_
  refine z_topi (y := nI ((8 * m0) + a)) (by first | exact (nI_add _ _).symm | (rw [← nI_add]; rfl)) ?_
  refine z_iald (t0 := 0) (N := 96) (f := (I 10)) C rfl dd_Q_perform_46 (hP.1.2 10 (by decide)) (vp_in_nI (by omega) (by decide)) ?_
  refine z_topi (y := n9) (by rw [nI_clamp (by omega)]; exact ei10.symm) ?_
  refine z_istore C dd_Q_perform_47 rfl ?_
  refine z_aload_n C dd_Q_perform_49 rfl ?_
  refine gf_Q_112 (v := .ref (q + 1 + 32)) C dd_Q_perform_50 hP.1.1 rfl ?_
  refine z_iload_n C dd_Q_perform_53 rfl ?_
  refine z_dup2_11 C dd_Q_perform_54 rfl rfl ?_
  refine z_iald (t0 := 0) (N := 9) (f := (I 32)) C rfl dd_Q_perform_55 (hP.1.2 32 (by decide)) (vp_in_nI (by omega) (by decide)) ?_
  refine z_topi (y := nI a) (by rw [nI_clamp (by omega)]; exact A.o.2.2.2.1.symm) ?_
  refine z_iconst (v := 1) C dd_Q_perform_56 (by decide) ?_
  refine z_iadd C dd_Q_perform_57 ?_
  refine z_topi (y := nI (a + 1)) (by first | exact (nI_add _ _).symm | (rw [← nI_add]; rfl)) ?_
  refine z_iast (t0 := 0) (N := 9) (f := (I 32)) C rfl dd_Q_perform_58 (hP.1.2 32 (by decide)) (vp_in_nI (by omega) (by decide)) ?_
  refine z_cut (md_K dA F (md_is I 32 (upd (I 32) (Int32.toNatClampNeg (nI fs.length)) (nI (a + 1)))) J q h) (md_wI hP 32 (by decide) rfl) rfl rfl rfl (fun h1_ hP1_ => ?_)
  rw [nI_clamp (n := fs.length) (by omega)] at hP1_
  have A1 := A.q (by omega)
  generalize md_is I 32 (upd (I 32) fs.length (nI (a + 1))) = I1 at A1 hP1_
  refine z_bipush (v := 6) C dd_Q_perform_59 (by decide) ?_
  refine z_iload_n C dd_Q_perform_61 rfl ?_
  refine z_imul C dd_Q_perform_62 ?_
  refine z_topi (y := nI (6 * fs.length)) (by first | exact (pk_mul _ _).symm | (rw [← pk_mul]; rfl)) ?_
  refine z_aload_n C dd_Q_perform_63 rfl ?_
  refine gf_Q_115 (v := .ref (q + 1 + 33)) C dd_Q_perform_64 hP1_.1.1 rfl ?_
  refine z_iload_n C dd_Q_perform_67 rfl ?_
  refine z_iald (t0 := 0) (N := 9) (f := (I1 33)) C rfl dd_Q_perform_68 (hP1_.1.2 33 (by decide)) (vp_in_nI (by omega) (by decide)) ?_
  refine z_topi (y := nI st.length) (by rw [nI_clamp (by omega)]; exact A1.o.2.2.2.2.1.symm) ?_
  refine z_iadd C dd_Q_perform_69 ?_
  refine z_topi (y := nI ((6 * fs.length) + st.length)) (by first | exact (nI_add _ _).symm | (rw [← nI_add]; rfl)) ?_
  refine z_istore C dd_Q_perform_70 rfl ?_
  have hk7 : kd = 0 ∨ kd = 1 ∨ kd = 2 ∨ kd = 3 ∨ kd = 4 ∨ kd = 5 ∨ kd = 6 := by omega
  unfold pu_oin at o5
  rcases hk7 with rfl | rfl | rfl | rfl | rfl | rfl | rfl
  · skip
    rw [if_pos rfl] at o5
    obtain ⟨w, hw, ew⟩ := mq_num o5
    refine z_iload_n C dd_Q_perform_72 rfl ?_
    refine z_iconst (v := 2) C dd_Q_perform_73 (by decide) ?_
    refine z_icmp_eq (tgt := 82) C dd_Q_perform_74 (by decide) (fun q1 => absurd q1 (by decide)) (fun q1 => ?_)
    refine z_iload_n C dd_Q_perform_77 rfl ?_
    refine z_iconst (v := 3) C dd_Q_perform_78 (by decide) ?_
    refine z_icmp_ne (tgt := 86) C dd_Q_perform_79 (by decide) (fun q2 => ?_) (fun q2 => absurd q2 (by decide))
    refine z_iload_n C dd_Q_perform_86 rfl ?_
    refine z_iconst (v := 4) C dd_Q_perform_87 (by decide) ?_
    refine z_icmp_ne (tgt := 95) C dd_Q_perform_88 (by decide) (fun q3 => ?_) (fun q3 => absurd q3 (by decide))
    refine z_iload_n C dd_Q_perform_95 rfl ?_
    refine z_iconst (v := 5) C dd_Q_perform_96 (by decide) ?_
    refine z_icmp_ne (tgt := 110) C dd_Q_perform_97 (by decide) (fun q4 => ?_) (fun q4 => absurd q4 (by decide))
    refine z_iconst (v := 0) C dd_Q_perform_110 (by decide) ?_
    refine z_istore C dd_Q_perform_111 rfl ?_
    refine z_aload_n C dd_Q_perform_113 rfl ?_
    refine gf_Q_115 (v := .ref (q + 1 + 33)) C dd_Q_perform_114 hP1_.1.1 rfl ?_
    refine z_iload_n C dd_Q_perform_117 rfl ?_
    refine z_iald (t0 := 0) (N := 9) (f := (I1 33)) C rfl dd_Q_perform_118 (hP1_.1.2 33 (by decide)) (vp_in_nI (by omega) (by decide)) ?_
    refine z_topi (y := nI st.length) (by rw [nI_clamp (by omega)]; exact A1.o.2.2.2.2.1.symm) ?_
    refine z_iload C dd_Q_perform_119 rfl ?_
    refine z_icmp_ge (tgt := 133) C dd_Q_perform_121 (by decide) (fun q5 => ?_) (fun q5 => ?_)
    · replace q5 : 0 ≤ st.length := (@nI_leI 0 st.length (by omega) (by omega)).mp q5
      refine z_iload_n C dd_Q_perform_133 rfl ?_
      refine z_if_ne (tgt := 152) C dd_Q_perform_134 (by decide) (fun q6 => absurd (by decide) q6) (fun q6 => ?_)
      refine z_aload_n C dd_Q_perform_137 rfl ?_
      refine z_iload_n C dd_Q_perform_138 rfl ?_
      refine z_iload C dd_Q_perform_139 rfl ?_
      refine z_iconst (v := 4) C dd_Q_perform_141 (by decide) ?_
      refine z_iadd C dd_Q_perform_142 ?_
      refine z_bipush (v := 8) C dd_Q_perform_143 (by decide) ?_
      refine z_irem C dd_Q_perform_145 (by decide) ?_
      refine z_topi (y := nI w) (by rw [ew]; exact (congrArg nI (Nat.mod_eq_of_lt hw)).symm.trans (@pk_rem w 8 (by omega) (by decide) (by decide)).symm) ?_
      refine iv_Q_241 (sk := fun _ => []) (zz_f B) C dd_Q_perform_146 (cc_Q_push l D dA B _ _ q _ _ _ hP1_.1 fs.length st.length (by omega) hs69 A1.o.2.2.2.2.1 (nI w)) hP1_.1.1 rfl rfl ⟨by decide, by decide⟩ (Nat.le_of_ble_eq_true rfl) ⟨by decide, by decide⟩ (fun _ => rfl) (fun _ h2_ n2_ p2_ => ?_)
      obtain ⟨rfl, p2_⟩ := p2_
      obtain ⟨F', I', w1, w2⟩ := mq_push_ok A1 (v := w) (by omega) p2_
      refine z_goto (tgt := 391) C dd_Q_perform_149 (by decide) ?_
      exact z_vret C dd_Q_perform_391 ⟨rfl, F', I', md_tr hP1_ w1, (show mq_A F0 I0 nc ng nM F' I' (mq_push (n9 + 4).toNatClampNeg fu th m0 x0 y0 (a + 1) st fs re) by rw [ew, nI_clamp (by omega)]; exact w2)⟩ (by decide) (by decide)
    · replace q5 : ¬ 0 ≤ st.length := fun z => q5 ((@nI_leI 0 st.length (by omega) (by omega)).mpr z)
      omega
  · skip
    rw [if_neg (by decide), if_pos rfl] at o5
    obtain ⟨i9, hi9, rfl⟩ := (pu_iv_0 (N := mq_ar I0 (mq_of I0 m0)) (by have := hari; omega)).mp o5
    refine z_iload_n C dd_Q_perform_72 rfl ?_
    refine z_iconst (v := 2) C dd_Q_perform_73 (by decide) ?_
    refine z_icmp_eq (tgt := 82) C dd_Q_perform_74 (by decide) (fun q7 => absurd q7 (by decide)) (fun q7 => ?_)
    refine z_iload_n C dd_Q_perform_77 rfl ?_
    refine z_iconst (v := 3) C dd_Q_perform_78 (by decide) ?_
    refine z_icmp_ne (tgt := 86) C dd_Q_perform_79 (by decide) (fun q8 => ?_) (fun q8 => absurd q8 (by decide))
    refine z_iload_n C dd_Q_perform_86 rfl ?_
    refine z_iconst (v := 4) C dd_Q_perform_87 (by decide) ?_
    refine z_icmp_ne (tgt := 95) C dd_Q_perform_88 (by decide) (fun q9 => ?_) (fun q9 => absurd q9 (by decide))
    refine z_iload_n C dd_Q_perform_95 rfl ?_
    refine z_iconst (v := 5) C dd_Q_perform_96 (by decide) ?_
    refine z_icmp_ne (tgt := 110) C dd_Q_perform_97 (by decide) (fun q10 => ?_) (fun q10 => absurd q10 (by decide))
    refine z_iconst (v := 0) C dd_Q_perform_110 (by decide) ?_
    refine z_istore C dd_Q_perform_111 rfl ?_
    refine z_aload_n C dd_Q_perform_113 rfl ?_
    refine gf_Q_115 (v := .ref (q + 1 + 33)) C dd_Q_perform_114 hP1_.1.1 rfl ?_
    refine z_iload_n C dd_Q_perform_117 rfl ?_
    refine z_iald (t0 := 0) (N := 9) (f := (I1 33)) C rfl dd_Q_perform_118 (hP1_.1.2 33 (by decide)) (vp_in_nI (by omega) (by decide)) ?_
    refine z_topi (y := nI st.length) (by rw [nI_clamp (by omega)]; exact A1.o.2.2.2.2.1.symm) ?_
    refine z_iload C dd_Q_perform_119 rfl ?_
    refine z_icmp_ge (tgt := 133) C dd_Q_perform_121 (by decide) (fun q11 => ?_) (fun q11 => ?_)
    · replace q11 : 0 ≤ st.length := (@nI_leI 0 st.length (by omega) (by omega)).mp q11
      refine z_iload_n C dd_Q_perform_133 rfl ?_
      refine z_if_ne (tgt := 152) C dd_Q_perform_134 (by decide) (fun q12 => ?_) (fun q12 => absurd q12 (by decide))
      refine z_iload_n C dd_Q_perform_152 rfl ?_
      refine z_iconst (v := 1) C dd_Q_perform_153 (by decide) ?_
      refine z_icmp_ne (tgt := 185) C dd_Q_perform_154 (by decide) (fun q13 => absurd (by decide) q13) (fun q13 => ?_)
      refine z_aload_n C dd_Q_perform_157 rfl ?_
      refine z_iload_n C dd_Q_perform_158 rfl ?_
      refine z_iload C dd_Q_perform_159 rfl ?_
      refine z_if_ne (tgt := 173) C dd_Q_perform_161 (by decide) (fun q14 => ?_) (fun q14 => ?_)
      · replace q14 : ¬ i9 = 0 := fun z => q14 ((@nI_eq i9 0 (by omega) (by omega)).mpr z)
        have eb : I1 31 fs.length = nI y0 := A1.o.2.2.1.2.2 (show mq_ar I0 (mq_of I0 m0) = 2 by omega)
        refine z_aload_n C dd_Q_perform_173 rfl ?_
        refine gf_Q_109 (v := .ref (q + 1 + 31)) C dd_Q_perform_174 hP1_.1.1 rfl ?_
        refine z_iload_n C dd_Q_perform_177 rfl ?_
        refine z_iald (t0 := 0) (N := 9) (f := (I1 31)) C rfl dd_Q_perform_178 (hP1_.1.2 31 (by decide)) (vp_in_nI (by omega) (by decide)) ?_
        refine z_topi (y := nI y0) (by rw [nI_clamp (by omega)]; exact eb.symm) ?_
        refine iv_Q_241 (sk := fun _ => []) (zz_f B) C dd_Q_perform_179 (cc_Q_push l D dA B _ _ q _ _ _ hP1_.1 fs.length st.length (by omega) hs69 A1.o.2.2.2.2.1 (nI y0)) hP1_.1.1 rfl rfl ⟨by decide, by decide⟩ (Nat.le_of_ble_eq_true rfl) ⟨by decide, by decide⟩ (fun _ => rfl) (fun _ h3_ n3_ p3_ => ?_)
        obtain ⟨rfl, p3_⟩ := p3_
        obtain ⟨F', I', w1, w2⟩ := mq_push_ok A1 (v := y0) hy0 p3_
        refine z_goto (tgt := 391) C dd_Q_perform_182 (by decide) ?_
        exact z_vret C dd_Q_perform_391 ⟨rfl, F', I', md_tr hP1_ w1, (show mq_A F0 I0 nc ng nM F' I' (mq_push (if nI i9 = 0 then x0 else y0) fu th m0 x0 y0 (a + 1) st fs re) by rw [if_neg (show ¬ nI i9 = 0 from fun z => q14 ((@nI_eq i9 0 (by omega) (by omega)).mp z))]; exact w2)⟩ (by decide) (by decide)
      · replace q14 : i9 = 0 := (@nI_eq i9 0 (by omega) (by omega)).mp q14
        refine z_aload_n C dd_Q_perform_164 rfl ?_
        refine gf_Q_106 (v := .ref (q + 1 + 30)) C dd_Q_perform_165 hP1_.1.1 rfl ?_
        refine z_iload_n C dd_Q_perform_168 rfl ?_
        refine z_iald (t0 := 0) (N := 9) (f := (I1 30)) C rfl dd_Q_perform_169 (hP1_.1.2 30 (by decide)) (vp_in_nI (by omega) (by decide)) ?_
        refine z_topi (y := nI x0) (by rw [nI_clamp (by omega)]; exact A1.o.2.1.symm) ?_
        refine z_goto (tgt := 179) C dd_Q_perform_170 (by decide) ?_
        refine iv_Q_241 (sk := fun _ => []) (zz_f B) C dd_Q_perform_179 (cc_Q_push l D dA B _ _ q _ _ _ hP1_.1 fs.length st.length (by omega) hs69 A1.o.2.2.2.2.1 (nI x0)) hP1_.1.1 rfl rfl ⟨by decide, by decide⟩ (Nat.le_of_ble_eq_true rfl) ⟨by decide, by decide⟩ (fun _ => rfl) (fun _ h4_ n4_ p4_ => ?_)
        obtain ⟨rfl, p4_⟩ := p4_
        obtain ⟨F', I', w1, w2⟩ := mq_push_ok A1 (v := x0) hx9 p4_
        refine z_goto (tgt := 391) C dd_Q_perform_182 (by decide) ?_
        exact z_vret C dd_Q_perform_391 ⟨rfl, F', I', md_tr hP1_ w1, (show mq_A F0 I0 nc ng nM F' I' (mq_push (if nI i9 = 0 then x0 else y0) fu th m0 x0 y0 (a + 1) st fs re) by rw [if_pos (by rw [q14]; rfl)]; exact w2)⟩ (by decide) (by decide)
    · replace q11 : ¬ 0 ≤ st.length := fun z => q11 ((@nI_leI 0 st.length (by omega) (by omega)).mpr z)
      omega
  · skip
    rcases st with _ | ⟨u, _ | ⟨v, t⟩⟩
    · skip
      have hl : ([] : List Nat).length < 2 := by decide
      refine z_iload_n C dd_Q_perform_72 rfl ?_
      refine z_iconst (v := 2) C dd_Q_perform_73 (by decide) ?_
      refine z_icmp_eq (tgt := 82) C dd_Q_perform_74 (by decide) (fun q15 => ?_) (fun q15 => absurd (by decide) q15)
      refine z_iconst (v := 2) C dd_Q_perform_82 (by decide) ?_
      refine z_goto (tgt := 111) C dd_Q_perform_83 (by decide) ?_
      refine z_istore C dd_Q_perform_111 rfl ?_
      refine z_aload_n C dd_Q_perform_113 rfl ?_
      refine gf_Q_115 (v := .ref (q + 1 + 33)) C dd_Q_perform_114 hP1_.1.1 rfl ?_
      refine z_iload_n C dd_Q_perform_117 rfl ?_
      refine z_iald (t0 := 0) (N := 9) (f := (I1 33)) C rfl dd_Q_perform_118 (hP1_.1.2 33 (by decide)) (vp_in_nI (by omega) (by decide)) ?_
      refine z_topi (y := nI (([] : List Nat).length)) (by rw [nI_clamp (by omega)]; exact A1.o.2.2.2.2.1.symm) ?_
      refine z_iload C dd_Q_perform_119 rfl ?_
      refine z_icmp_ge (tgt := 133) C dd_Q_perform_121 (by decide) (fun q16 => ?_) (fun q16 => ?_)
      · replace q16 : 2 ≤ (([] : List Nat).length) := (@nI_leI 2 (([] : List Nat).length) (by omega) (by omega)).mp q16
        omega
      · replace q16 : ¬ 2 ≤ (([] : List Nat).length) := fun z => q16 ((@nI_leI 2 (([] : List Nat).length) (by omega) (by omega)).mpr z)
        refine z_aload_n C dd_Q_perform_124 rfl ?_
        refine z_bipush (v := (-4)) C dd_Q_perform_125 (by decide) ?_
        refine pf_Q_228 C dd_Q_perform_127 hP1_.1.1 (Nat.le_of_ble_eq_true rfl) rfl rfl ?_
        refine z_cut (md_K dA (md_fs F 45 (-4)) I1 J q h) (md_wF hP1_ rfl) rfl rfl rfl (fun h5_ hP5_ => ?_)
        refine z_goto (tgt := 391) C dd_Q_perform_130 (by decide) ?_
        exact z_vret C dd_Q_perform_391 ⟨rfl, _, _, hP5_, A1.e (-4)⟩ (by decide) (by decide)
    · skip
      have hl : ([u] : List Nat).length < 2 := Nat.le_refl 2
      refine z_iload_n C dd_Q_perform_72 rfl ?_
      refine z_iconst (v := 2) C dd_Q_perform_73 (by decide) ?_
      refine z_icmp_eq (tgt := 82) C dd_Q_perform_74 (by decide) (fun q17 => ?_) (fun q17 => absurd (by decide) q17)
      refine z_iconst (v := 2) C dd_Q_perform_82 (by decide) ?_
      refine z_goto (tgt := 111) C dd_Q_perform_83 (by decide) ?_
      refine z_istore C dd_Q_perform_111 rfl ?_
      refine z_aload_n C dd_Q_perform_113 rfl ?_
      refine gf_Q_115 (v := .ref (q + 1 + 33)) C dd_Q_perform_114 hP1_.1.1 rfl ?_
      refine z_iload_n C dd_Q_perform_117 rfl ?_
      refine z_iald (t0 := 0) (N := 9) (f := (I1 33)) C rfl dd_Q_perform_118 (hP1_.1.2 33 (by decide)) (vp_in_nI (by omega) (by decide)) ?_
      refine z_topi (y := nI (([u] : List Nat).length)) (by rw [nI_clamp (by omega)]; exact A1.o.2.2.2.2.1.symm) ?_
      refine z_iload C dd_Q_perform_119 rfl ?_
      refine z_icmp_ge (tgt := 133) C dd_Q_perform_121 (by decide) (fun q18 => ?_) (fun q18 => ?_)
      · replace q18 : 2 ≤ (([u] : List Nat).length) := (@nI_leI 2 (([u] : List Nat).length) (by omega) (by omega)).mp q18
        omega
      · replace q18 : ¬ 2 ≤ (([u] : List Nat).length) := fun z => q18 ((@nI_leI 2 (([u] : List Nat).length) (by omega) (by omega)).mpr z)
        refine z_aload_n C dd_Q_perform_124 rfl ?_
        refine z_bipush (v := (-4)) C dd_Q_perform_125 (by decide) ?_
        refine pf_Q_228 C dd_Q_perform_127 hP1_.1.1 (Nat.le_of_ble_eq_true rfl) rfl rfl ?_
        refine z_cut (md_K dA (md_fs F 45 (-4)) I1 J q h) (md_wF hP1_ rfl) rfl rfl rfl (fun h6_ hP6_ => ?_)
        refine z_goto (tgt := 391) C dd_Q_perform_130 (by decide) ?_
        exact z_vret C dd_Q_perform_391 ⟨rfl, _, _, hP6_, A1.e (-4)⟩ (by decide) (by decide)
    · skip
      have hl : (u :: v :: t : List Nat).length = t.length + 2 := rfl
      have hv8 : v < 8 * nc := hsv9 v (by simp)
      have hu8 : u < 8 * nc := hsv9 u (by simp)
      have sv : I1 34 (6 * fs.length + (u :: v :: t : List Nat).length - 2) = nI v := by rw [show 6 * fs.length + (u :: v :: t : List Nat).length - 2 = 6 * fs.length + t.length by omega]; exact A1.o.2.2.2.2.2.2.1
      have su : I1 34 (6 * fs.length + (u :: v :: t : List Nat).length - 1) = nI u := by rw [show 6 * fs.length + (u :: v :: t : List Nat).length - 1 = 6 * fs.length + (t.length + 1) by omega]; exact A1.o.2.2.2.2.2.1
      refine z_iload_n C dd_Q_perform_72 rfl ?_
      refine z_iconst (v := 2) C dd_Q_perform_73 (by decide) ?_
      refine z_icmp_eq (tgt := 82) C dd_Q_perform_74 (by decide) (fun q19 => ?_) (fun q19 => absurd (by decide) q19)
      refine z_iconst (v := 2) C dd_Q_perform_82 (by decide) ?_
      refine z_goto (tgt := 111) C dd_Q_perform_83 (by decide) ?_
      refine z_istore C dd_Q_perform_111 rfl ?_
      refine z_aload_n C dd_Q_perform_113 rfl ?_
      refine gf_Q_115 (v := .ref (q + 1 + 33)) C dd_Q_perform_114 hP1_.1.1 rfl ?_
      refine z_iload_n C dd_Q_perform_117 rfl ?_
      refine z_iald (t0 := 0) (N := 9) (f := (I1 33)) C rfl dd_Q_perform_118 (hP1_.1.2 33 (by decide)) (vp_in_nI (by omega) (by decide)) ?_
      refine z_topi (y := nI ((u :: v :: t : List Nat).length)) (by rw [nI_clamp (by omega)]; exact A1.o.2.2.2.2.1.symm) ?_
      refine z_iload C dd_Q_perform_119 rfl ?_
      refine z_icmp_ge (tgt := 133) C dd_Q_perform_121 (by decide) (fun q20 => ?_) (fun q20 => ?_)
      · replace q20 : 2 ≤ ((u :: v :: t : List Nat).length) := (@nI_leI 2 ((u :: v :: t : List Nat).length) (by omega) (by omega)).mp q20
        refine z_iload_n C dd_Q_perform_133 rfl ?_
        refine z_if_ne (tgt := 152) C dd_Q_perform_134 (by decide) (fun q21 => ?_) (fun q21 => absurd q21 (by decide))
        refine z_iload_n C dd_Q_perform_152 rfl ?_
        refine z_iconst (v := 1) C dd_Q_perform_153 (by decide) ?_
        refine z_icmp_ne (tgt := 185) C dd_Q_perform_154 (by decide) (fun q22 => ?_) (fun q22 => absurd q22 (by decide))
        refine z_iload_n C dd_Q_perform_185 rfl ?_
        refine z_iconst (v := 4) C dd_Q_perform_186 (by decide) ?_
        refine z_icmp_ge (tgt := 284) C dd_Q_perform_187 (by decide) (fun q23 => absurd q23 (by decide)) (fun q23 => ?_)
        refine z_aload_n C dd_Q_perform_190 rfl ?_
        refine gf_Q_118 (v := .ref (q + 1 + 34)) C dd_Q_perform_191 hP1_.1.1 rfl ?_
        refine z_iload C dd_Q_perform_194 rfl ?_
        refine z_iconst (v := 2) C dd_Q_perform_196 (by decide) ?_
        refine z_isub C dd_Q_perform_197 ?_
        refine z_topi (y := nI ((6 * fs.length + (u :: v :: t : List Nat).length) - 2)) (by first | exact (@pk_sub (6 * fs.length + (u :: v :: t : List Nat).length) 2 (by omega)).symm | (rw [← pk_sub (a := (6 * fs.length + (u :: v :: t : List Nat).length)) (b := 2) (by omega)]; rfl)) ?_
        refine z_iald (t0 := 0) (N := 54) (f := (I1 34)) C rfl dd_Q_perform_198 (hP1_.1.2 34 (by decide)) (vp_in_nI (by omega) (by decide)) ?_
        refine z_topi (y := nI v) (by rw [nI_clamp (by omega)]; exact sv.symm) ?_
        refine z_bipush (v := 8) C dd_Q_perform_199 (by decide) ?_
        refine z_irem C dd_Q_perform_201 (by decide) ?_
        refine z_topi (y := nI (v % 8)) (by first | exact (@pk_rem v 8 (by omega) (by decide) (by decide)).symm | (rw [← @pk_rem v 8 (by omega) (by decide) (by decide)]; rfl)) ?_
        refine z_iconst (v := 4) C dd_Q_perform_202 (by decide) ?_
        refine z_isub C dd_Q_perform_203 ?_
        refine z_istore C dd_Q_perform_204 rfl ?_
        refine z_aload_n C dd_Q_perform_206 rfl ?_
        refine gf_Q_118 (v := .ref (q + 1 + 34)) C dd_Q_perform_207 hP1_.1.1 rfl ?_
        refine z_iload C dd_Q_perform_210 rfl ?_
        refine z_iconst (v := 1) C dd_Q_perform_212 (by decide) ?_
        refine z_isub C dd_Q_perform_213 ?_
        refine z_topi (y := nI ((6 * fs.length + (u :: v :: t : List Nat).length) - 1)) (by first | exact (@pk_sub (6 * fs.length + (u :: v :: t : List Nat).length) 1 (by omega)).symm | (rw [← pk_sub (a := (6 * fs.length + (u :: v :: t : List Nat).length)) (b := 1) (by omega)]; rfl)) ?_
        refine z_iald (t0 := 0) (N := 54) (f := (I1 34)) C rfl dd_Q_perform_214 (hP1_.1.2 34 (by decide)) (vp_in_nI (by omega) (by decide)) ?_
        refine z_topi (y := nI u) (by rw [nI_clamp (by omega)]; exact su.symm) ?_
        refine z_bipush (v := 8) C dd_Q_perform_215 (by decide) ?_
        refine z_irem C dd_Q_perform_217 (by decide) ?_
        refine z_topi (y := nI (u % 8)) (by first | exact (@pk_rem u 8 (by omega) (by decide) (by decide)).symm | (rw [← @pk_rem u 8 (by omega) (by decide) (by decide)]; rfl)) ?_
        refine z_iconst (v := 4) C dd_Q_perform_218 (by decide) ?_
        refine z_isub C dd_Q_perform_219 ?_
        refine z_istore C dd_Q_perform_220 rfl ?_
        refine z_aload_n C dd_Q_perform_222 rfl ?_
        refine gf_Q_118 (v := .ref (q + 1 + 34)) C dd_Q_perform_223 hP1_.1.1 rfl ?_
        refine z_iload C dd_Q_perform_226 rfl ?_
        refine z_iconst (v := 2) C dd_Q_perform_228 (by decide) ?_
        refine z_isub C dd_Q_perform_229 ?_
        refine z_topi (y := nI ((6 * fs.length + (u :: v :: t : List Nat).length) - 2)) (by first | exact (@pk_sub (6 * fs.length + (u :: v :: t : List Nat).length) 2 (by omega)).symm | (rw [← pk_sub (a := (6 * fs.length + (u :: v :: t : List Nat).length)) (b := 2) (by omega)]; rfl)) ?_
        refine z_aload_n C dd_Q_perform_230 rfl ?_
        refine gf_Q_118 (v := .ref (q + 1 + 34)) C dd_Q_perform_231 hP1_.1.1 rfl ?_
        refine z_iload C dd_Q_perform_234 rfl ?_
        refine z_iconst (v := 2) C dd_Q_perform_236 (by decide) ?_
        refine z_isub C dd_Q_perform_237 ?_
        refine z_topi (y := nI ((6 * fs.length + (u :: v :: t : List Nat).length) - 2)) (by first | exact (@pk_sub (6 * fs.length + (u :: v :: t : List Nat).length) 2 (by omega)).symm | (rw [← pk_sub (a := (6 * fs.length + (u :: v :: t : List Nat).length)) (b := 2) (by omega)]; rfl)) ?_
        refine z_iald (t0 := 0) (N := 54) (f := (I1 34)) C rfl dd_Q_perform_238 (hP1_.1.2 34 (by decide)) (vp_in_nI (by omega) (by decide)) ?_
        refine z_topi (y := nI v) (by rw [nI_clamp (by omega)]; exact sv.symm) ?_
        refine z_bipush (v := 8) C dd_Q_perform_239 (by decide) ?_
        refine z_idiv C dd_Q_perform_241 (by decide) ?_
        refine z_topi (y := nI (v / 8)) (by first | exact (@pk_div v 8 (by omega) (by decide) (by decide)).symm | (rw [← @pk_div v 8 (by omega) (by decide) (by decide)]; rfl)) ?_
        refine z_bipush (v := 8) C dd_Q_perform_242 (by decide) ?_
        refine z_imul C dd_Q_perform_244 ?_
        refine z_topi (y := nI ((v / 8) * 8)) (by first | exact (pk_mul _ _).symm | (rw [← pk_mul]; rfl)) ?_
        refine z_iload_n C dd_Q_perform_245 rfl ?_
        refine z_iconst (v := 2) C dd_Q_perform_246 (by decide) ?_
        refine z_icmp_ne (tgt := 258) C dd_Q_perform_247 (by decide) (fun q24 => absurd (by decide) q24) (fun q24 => ?_)
        refine z_iload C dd_Q_perform_250 rfl ?_
        refine z_iload C dd_Q_perform_252 rfl ?_
        refine z_iadd C dd_Q_perform_254 ?_
        refine z_goto (tgt := 263) C dd_Q_perform_255 (by decide) ?_
        refine z_bipush (v := 36) C dd_Q_perform_263 (by decide) ?_
        refine z_iadd C dd_Q_perform_265 ?_
        refine z_bipush (v := 8) C dd_Q_perform_266 (by decide) ?_
        refine z_irem C dd_Q_perform_268 (by decide) ?_
        refine z_topi (y := nI ((v % 8 + u % 8 + 28) % 8)) mq_addI.symm ?_
        refine z_iadd C dd_Q_perform_269 ?_
        refine z_topi (y := nI (mq_add v u)) (by rw [nI_add]; rfl) ?_
        refine z_iast (t0 := 0) (N := 54) (f := (I1 34)) C rfl dd_Q_perform_270 (hP1_.1.2 34 (by decide)) (vp_in_nI (by omega) (by decide)) ?_
        refine z_cut (md_K dA F (md_is I1 34 (upd (I1 34) (Int32.toNatClampNeg (nI ((6 * fs.length + (u :: v :: t : List Nat).length) - 2))) (nI (mq_add v u)))) J q h) (md_wI hP1_ 34 (by decide) rfl) rfl rfl rfl (fun h7_ hP7_ => ?_)
        refine z_aload_n C dd_Q_perform_271 rfl ?_
        refine gf_Q_115 (v := .ref (q + 1 + 33)) C dd_Q_perform_272 hP7_.1.1 rfl ?_
        refine z_iload_n C dd_Q_perform_275 rfl ?_
        refine z_dup2_11 C dd_Q_perform_276 rfl rfl ?_
        refine z_iald (t0 := 0) (N := 9) (f := (I1 33)) C rfl dd_Q_perform_277 (hP7_.1.2 33 (by decide)) (vp_in_nI (by omega) (by decide)) ?_
        refine z_topi (y := nI ((u :: v :: t : List Nat).length)) (by rw [nI_clamp (by omega)]; exact A1.o.2.2.2.2.1.symm) ?_
        refine z_iconst (v := 1) C dd_Q_perform_278 (by decide) ?_
        refine z_isub C dd_Q_perform_279 ?_
        refine z_topi (y := nI (((u :: v :: t : List Nat).length) - 1)) (by first | exact (@pk_sub ((u :: v :: t : List Nat).length) 1 (by omega)).symm | (rw [← pk_sub (a := ((u :: v :: t : List Nat).length)) (b := 1) (by omega)]; rfl)) ?_
        refine z_iast (t0 := 0) (N := 9) (f := (I1 33)) C rfl dd_Q_perform_280 (hP7_.1.2 33 (by decide)) (vp_in_nI (by omega) (by decide)) ?_
        refine z_cut (md_K dA F (md_is (md_is I1 34 (upd (I1 34) (Int32.toNatClampNeg (nI ((6 * fs.length + (u :: v :: t : List Nat).length) - 2))) (nI (mq_add v u)))) 33 (upd (I1 33) (Int32.toNatClampNeg (nI fs.length)) (nI (((u :: v :: t : List Nat).length) - 1)))) J q h) (md_wI hP7_ 33 (by decide) rfl) rfl rfl rfl (fun h8_ hP8_ => ?_)
        refine z_goto (tgt := 391) C dd_Q_perform_281 (by decide) ?_
        rw [nI_clamp (n := 6 * fs.length + (u :: v :: t : List Nat).length - 2) (by omega), nI_clamp (n := fs.length) (by omega)] at hP8_
        refine z_vret C dd_Q_perform_391 ⟨rfl, _, _, hP8_, A1.w (st' := mq_add v u :: t) (by omega) ⟨?_, ?_⟩ ?_ ?_⟩ (by decide) (by decide)
        · exact if_pos (by omega)
        · exact mq_sk_up t (by omega) A1.o.2.2.2.2.2.2.2
        · exact (show t.length + 1 ≤ 6 by omega)
        · intro w hw
          rcases List.mem_cons.mp hw with e | e
          · rw [e]; exact mq_add_lt hv8
          · exact hsv9 w (by simp [e])
      · replace q20 : ¬ 2 ≤ ((u :: v :: t : List Nat).length) := fun z => q20 ((@nI_leI 2 ((u :: v :: t : List Nat).length) (by omega) (by omega)).mpr z)
        omega
  · skip
    rcases st with _ | ⟨u, _ | ⟨v, t⟩⟩
    · skip
      have hl : ([] : List Nat).length < 2 := by decide
      refine z_iload_n C dd_Q_perform_72 rfl ?_
      refine z_iconst (v := 2) C dd_Q_perform_73 (by decide) ?_
      refine z_icmp_eq (tgt := 82) C dd_Q_perform_74 (by decide) (fun q25 => absurd q25 (by decide)) (fun q25 => ?_)
      refine z_iload_n C dd_Q_perform_77 rfl ?_
      refine z_iconst (v := 3) C dd_Q_perform_78 (by decide) ?_
      refine z_icmp_ne (tgt := 86) C dd_Q_perform_79 (by decide) (fun q26 => absurd (by decide) q26) (fun q26 => ?_)
      refine z_iconst (v := 2) C dd_Q_perform_82 (by decide) ?_
      refine z_goto (tgt := 111) C dd_Q_perform_83 (by decide) ?_
      refine z_istore C dd_Q_perform_111 rfl ?_
      refine z_aload_n C dd_Q_perform_113 rfl ?_
      refine gf_Q_115 (v := .ref (q + 1 + 33)) C dd_Q_perform_114 hP1_.1.1 rfl ?_
      refine z_iload_n C dd_Q_perform_117 rfl ?_
      refine z_iald (t0 := 0) (N := 9) (f := (I1 33)) C rfl dd_Q_perform_118 (hP1_.1.2 33 (by decide)) (vp_in_nI (by omega) (by decide)) ?_
      refine z_topi (y := nI (([] : List Nat).length)) (by rw [nI_clamp (by omega)]; exact A1.o.2.2.2.2.1.symm) ?_
      refine z_iload C dd_Q_perform_119 rfl ?_
      refine z_icmp_ge (tgt := 133) C dd_Q_perform_121 (by decide) (fun q27 => ?_) (fun q27 => ?_)
      · replace q27 : 2 ≤ (([] : List Nat).length) := (@nI_leI 2 (([] : List Nat).length) (by omega) (by omega)).mp q27
        omega
      · replace q27 : ¬ 2 ≤ (([] : List Nat).length) := fun z => q27 ((@nI_leI 2 (([] : List Nat).length) (by omega) (by omega)).mpr z)
        refine z_aload_n C dd_Q_perform_124 rfl ?_
        refine z_bipush (v := (-4)) C dd_Q_perform_125 (by decide) ?_
        refine pf_Q_228 C dd_Q_perform_127 hP1_.1.1 (Nat.le_of_ble_eq_true rfl) rfl rfl ?_
        refine z_cut (md_K dA (md_fs F 45 (-4)) I1 J q h) (md_wF hP1_ rfl) rfl rfl rfl (fun h9_ hP9_ => ?_)
        refine z_goto (tgt := 391) C dd_Q_perform_130 (by decide) ?_
        exact z_vret C dd_Q_perform_391 ⟨rfl, _, _, hP9_, A1.e (-4)⟩ (by decide) (by decide)
    · skip
      have hl : ([u] : List Nat).length < 2 := Nat.le_refl 2
      refine z_iload_n C dd_Q_perform_72 rfl ?_
      refine z_iconst (v := 2) C dd_Q_perform_73 (by decide) ?_
      refine z_icmp_eq (tgt := 82) C dd_Q_perform_74 (by decide) (fun q28 => absurd q28 (by decide)) (fun q28 => ?_)
      refine z_iload_n C dd_Q_perform_77 rfl ?_
      refine z_iconst (v := 3) C dd_Q_perform_78 (by decide) ?_
      refine z_icmp_ne (tgt := 86) C dd_Q_perform_79 (by decide) (fun q29 => absurd (by decide) q29) (fun q29 => ?_)
      refine z_iconst (v := 2) C dd_Q_perform_82 (by decide) ?_
      refine z_goto (tgt := 111) C dd_Q_perform_83 (by decide) ?_
      refine z_istore C dd_Q_perform_111 rfl ?_
      refine z_aload_n C dd_Q_perform_113 rfl ?_
      refine gf_Q_115 (v := .ref (q + 1 + 33)) C dd_Q_perform_114 hP1_.1.1 rfl ?_
      refine z_iload_n C dd_Q_perform_117 rfl ?_
      refine z_iald (t0 := 0) (N := 9) (f := (I1 33)) C rfl dd_Q_perform_118 (hP1_.1.2 33 (by decide)) (vp_in_nI (by omega) (by decide)) ?_
      refine z_topi (y := nI (([u] : List Nat).length)) (by rw [nI_clamp (by omega)]; exact A1.o.2.2.2.2.1.symm) ?_
      refine z_iload C dd_Q_perform_119 rfl ?_
      refine z_icmp_ge (tgt := 133) C dd_Q_perform_121 (by decide) (fun q30 => ?_) (fun q30 => ?_)
      · replace q30 : 2 ≤ (([u] : List Nat).length) := (@nI_leI 2 (([u] : List Nat).length) (by omega) (by omega)).mp q30
        omega
      · replace q30 : ¬ 2 ≤ (([u] : List Nat).length) := fun z => q30 ((@nI_leI 2 (([u] : List Nat).length) (by omega) (by omega)).mpr z)
        refine z_aload_n C dd_Q_perform_124 rfl ?_
        refine z_bipush (v := (-4)) C dd_Q_perform_125 (by decide) ?_
        refine pf_Q_228 C dd_Q_perform_127 hP1_.1.1 (Nat.le_of_ble_eq_true rfl) rfl rfl ?_
        refine z_cut (md_K dA (md_fs F 45 (-4)) I1 J q h) (md_wF hP1_ rfl) rfl rfl rfl (fun h10_ hP10_ => ?_)
        refine z_goto (tgt := 391) C dd_Q_perform_130 (by decide) ?_
        exact z_vret C dd_Q_perform_391 ⟨rfl, _, _, hP10_, A1.e (-4)⟩ (by decide) (by decide)
    · skip
      have hl : (u :: v :: t : List Nat).length = t.length + 2 := rfl
      have hv8 : v < 8 * nc := hsv9 v (by simp)
      have hu8 : u < 8 * nc := hsv9 u (by simp)
      have sv : I1 34 (6 * fs.length + (u :: v :: t : List Nat).length - 2) = nI v := by rw [show 6 * fs.length + (u :: v :: t : List Nat).length - 2 = 6 * fs.length + t.length by omega]; exact A1.o.2.2.2.2.2.2.1
      have su : I1 34 (6 * fs.length + (u :: v :: t : List Nat).length - 1) = nI u := by rw [show 6 * fs.length + (u :: v :: t : List Nat).length - 1 = 6 * fs.length + (t.length + 1) by omega]; exact A1.o.2.2.2.2.2.1
      refine z_iload_n C dd_Q_perform_72 rfl ?_
      refine z_iconst (v := 2) C dd_Q_perform_73 (by decide) ?_
      refine z_icmp_eq (tgt := 82) C dd_Q_perform_74 (by decide) (fun q31 => absurd q31 (by decide)) (fun q31 => ?_)
      refine z_iload_n C dd_Q_perform_77 rfl ?_
      refine z_iconst (v := 3) C dd_Q_perform_78 (by decide) ?_
      refine z_icmp_ne (tgt := 86) C dd_Q_perform_79 (by decide) (fun q32 => absurd (by decide) q32) (fun q32 => ?_)
      refine z_iconst (v := 2) C dd_Q_perform_82 (by decide) ?_
      refine z_goto (tgt := 111) C dd_Q_perform_83 (by decide) ?_
      refine z_istore C dd_Q_perform_111 rfl ?_
      refine z_aload_n C dd_Q_perform_113 rfl ?_
      refine gf_Q_115 (v := .ref (q + 1 + 33)) C dd_Q_perform_114 hP1_.1.1 rfl ?_
      refine z_iload_n C dd_Q_perform_117 rfl ?_
      refine z_iald (t0 := 0) (N := 9) (f := (I1 33)) C rfl dd_Q_perform_118 (hP1_.1.2 33 (by decide)) (vp_in_nI (by omega) (by decide)) ?_
      refine z_topi (y := nI ((u :: v :: t : List Nat).length)) (by rw [nI_clamp (by omega)]; exact A1.o.2.2.2.2.1.symm) ?_
      refine z_iload C dd_Q_perform_119 rfl ?_
      refine z_icmp_ge (tgt := 133) C dd_Q_perform_121 (by decide) (fun q33 => ?_) (fun q33 => ?_)
      · replace q33 : 2 ≤ ((u :: v :: t : List Nat).length) := (@nI_leI 2 ((u :: v :: t : List Nat).length) (by omega) (by omega)).mp q33
        refine z_iload_n C dd_Q_perform_133 rfl ?_
        refine z_if_ne (tgt := 152) C dd_Q_perform_134 (by decide) (fun q34 => ?_) (fun q34 => absurd q34 (by decide))
        refine z_iload_n C dd_Q_perform_152 rfl ?_
        refine z_iconst (v := 1) C dd_Q_perform_153 (by decide) ?_
        refine z_icmp_ne (tgt := 185) C dd_Q_perform_154 (by decide) (fun q35 => ?_) (fun q35 => absurd q35 (by decide))
        refine z_iload_n C dd_Q_perform_185 rfl ?_
        refine z_iconst (v := 4) C dd_Q_perform_186 (by decide) ?_
        refine z_icmp_ge (tgt := 284) C dd_Q_perform_187 (by decide) (fun q36 => absurd q36 (by decide)) (fun q36 => ?_)
        refine z_aload_n C dd_Q_perform_190 rfl ?_
        refine gf_Q_118 (v := .ref (q + 1 + 34)) C dd_Q_perform_191 hP1_.1.1 rfl ?_
        refine z_iload C dd_Q_perform_194 rfl ?_
        refine z_iconst (v := 2) C dd_Q_perform_196 (by decide) ?_
        refine z_isub C dd_Q_perform_197 ?_
        refine z_topi (y := nI ((6 * fs.length + (u :: v :: t : List Nat).length) - 2)) (by first | exact (@pk_sub (6 * fs.length + (u :: v :: t : List Nat).length) 2 (by omega)).symm | (rw [← pk_sub (a := (6 * fs.length + (u :: v :: t : List Nat).length)) (b := 2) (by omega)]; rfl)) ?_
        refine z_iald (t0 := 0) (N := 54) (f := (I1 34)) C rfl dd_Q_perform_198 (hP1_.1.2 34 (by decide)) (vp_in_nI (by omega) (by decide)) ?_
        refine z_topi (y := nI v) (by rw [nI_clamp (by omega)]; exact sv.symm) ?_
        refine z_bipush (v := 8) C dd_Q_perform_199 (by decide) ?_
        refine z_irem C dd_Q_perform_201 (by decide) ?_
        refine z_topi (y := nI (v % 8)) (by first | exact (@pk_rem v 8 (by omega) (by decide) (by decide)).symm | (rw [← @pk_rem v 8 (by omega) (by decide) (by decide)]; rfl)) ?_
        refine z_iconst (v := 4) C dd_Q_perform_202 (by decide) ?_
        refine z_isub C dd_Q_perform_203 ?_
        refine z_istore C dd_Q_perform_204 rfl ?_
        refine z_aload_n C dd_Q_perform_206 rfl ?_
        refine gf_Q_118 (v := .ref (q + 1 + 34)) C dd_Q_perform_207 hP1_.1.1 rfl ?_
        refine z_iload C dd_Q_perform_210 rfl ?_
        refine z_iconst (v := 1) C dd_Q_perform_212 (by decide) ?_
        refine z_isub C dd_Q_perform_213 ?_
        refine z_topi (y := nI ((6 * fs.length + (u :: v :: t : List Nat).length) - 1)) (by first | exact (@pk_sub (6 * fs.length + (u :: v :: t : List Nat).length) 1 (by omega)).symm | (rw [← pk_sub (a := (6 * fs.length + (u :: v :: t : List Nat).length)) (b := 1) (by omega)]; rfl)) ?_
        refine z_iald (t0 := 0) (N := 54) (f := (I1 34)) C rfl dd_Q_perform_214 (hP1_.1.2 34 (by decide)) (vp_in_nI (by omega) (by decide)) ?_
        refine z_topi (y := nI u) (by rw [nI_clamp (by omega)]; exact su.symm) ?_
        refine z_bipush (v := 8) C dd_Q_perform_215 (by decide) ?_
        refine z_irem C dd_Q_perform_217 (by decide) ?_
        refine z_topi (y := nI (u % 8)) (by first | exact (@pk_rem u 8 (by omega) (by decide) (by decide)).symm | (rw [← @pk_rem u 8 (by omega) (by decide) (by decide)]; rfl)) ?_
        refine z_iconst (v := 4) C dd_Q_perform_218 (by decide) ?_
        refine z_isub C dd_Q_perform_219 ?_
        refine z_istore C dd_Q_perform_220 rfl ?_
        refine z_aload_n C dd_Q_perform_222 rfl ?_
        refine gf_Q_118 (v := .ref (q + 1 + 34)) C dd_Q_perform_223 hP1_.1.1 rfl ?_
        refine z_iload C dd_Q_perform_226 rfl ?_
        refine z_iconst (v := 2) C dd_Q_perform_228 (by decide) ?_
        refine z_isub C dd_Q_perform_229 ?_
        refine z_topi (y := nI ((6 * fs.length + (u :: v :: t : List Nat).length) - 2)) (by first | exact (@pk_sub (6 * fs.length + (u :: v :: t : List Nat).length) 2 (by omega)).symm | (rw [← pk_sub (a := (6 * fs.length + (u :: v :: t : List Nat).length)) (b := 2) (by omega)]; rfl)) ?_
        refine z_aload_n C dd_Q_perform_230 rfl ?_
        refine gf_Q_118 (v := .ref (q + 1 + 34)) C dd_Q_perform_231 hP1_.1.1 rfl ?_
        refine z_iload C dd_Q_perform_234 rfl ?_
        refine z_iconst (v := 2) C dd_Q_perform_236 (by decide) ?_
        refine z_isub C dd_Q_perform_237 ?_
        refine z_topi (y := nI ((6 * fs.length + (u :: v :: t : List Nat).length) - 2)) (by first | exact (@pk_sub (6 * fs.length + (u :: v :: t : List Nat).length) 2 (by omega)).symm | (rw [← pk_sub (a := (6 * fs.length + (u :: v :: t : List Nat).length)) (b := 2) (by omega)]; rfl)) ?_
        refine z_iald (t0 := 0) (N := 54) (f := (I1 34)) C rfl dd_Q_perform_238 (hP1_.1.2 34 (by decide)) (vp_in_nI (by omega) (by decide)) ?_
        refine z_topi (y := nI v) (by rw [nI_clamp (by omega)]; exact sv.symm) ?_
        refine z_bipush (v := 8) C dd_Q_perform_239 (by decide) ?_
        refine z_idiv C dd_Q_perform_241 (by decide) ?_
        refine z_topi (y := nI (v / 8)) (by first | exact (@pk_div v 8 (by omega) (by decide) (by decide)).symm | (rw [← @pk_div v 8 (by omega) (by decide) (by decide)]; rfl)) ?_
        refine z_bipush (v := 8) C dd_Q_perform_242 (by decide) ?_
        refine z_imul C dd_Q_perform_244 ?_
        refine z_topi (y := nI ((v / 8) * 8)) (by first | exact (pk_mul _ _).symm | (rw [← pk_mul]; rfl)) ?_
        refine z_iload_n C dd_Q_perform_245 rfl ?_
        refine z_iconst (v := 2) C dd_Q_perform_246 (by decide) ?_
        refine z_icmp_ne (tgt := 258) C dd_Q_perform_247 (by decide) (fun q37 => ?_) (fun q37 => absurd q37 (by decide))
        refine z_iload C dd_Q_perform_258 rfl ?_
        refine z_iload C dd_Q_perform_260 rfl ?_
        refine z_imul C dd_Q_perform_262 ?_
        refine z_bipush (v := 36) C dd_Q_perform_263 (by decide) ?_
        refine z_iadd C dd_Q_perform_265 ?_
        refine z_bipush (v := 8) C dd_Q_perform_266 (by decide) ?_
        refine z_irem C dd_Q_perform_268 (by decide) ?_
        refine z_topi (y := nI (((((v % 8 : Nat) : Int) - 4) * (((u % 8 : Nat) : Int) - 4) + 36).toNat % 8)) mq_mulI.symm ?_
        refine z_iadd C dd_Q_perform_269 ?_
        refine z_topi (y := nI (mq_mul v u)) (by rw [nI_add]; rfl) ?_
        refine z_iast (t0 := 0) (N := 54) (f := (I1 34)) C rfl dd_Q_perform_270 (hP1_.1.2 34 (by decide)) (vp_in_nI (by omega) (by decide)) ?_
        refine z_cut (md_K dA F (md_is I1 34 (upd (I1 34) (Int32.toNatClampNeg (nI ((6 * fs.length + (u :: v :: t : List Nat).length) - 2))) (nI (mq_mul v u)))) J q h) (md_wI hP1_ 34 (by decide) rfl) rfl rfl rfl (fun h11_ hP11_ => ?_)
        refine z_aload_n C dd_Q_perform_271 rfl ?_
        refine gf_Q_115 (v := .ref (q + 1 + 33)) C dd_Q_perform_272 hP11_.1.1 rfl ?_
        refine z_iload_n C dd_Q_perform_275 rfl ?_
        refine z_dup2_11 C dd_Q_perform_276 rfl rfl ?_
        refine z_iald (t0 := 0) (N := 9) (f := (I1 33)) C rfl dd_Q_perform_277 (hP11_.1.2 33 (by decide)) (vp_in_nI (by omega) (by decide)) ?_
        refine z_topi (y := nI ((u :: v :: t : List Nat).length)) (by rw [nI_clamp (by omega)]; exact A1.o.2.2.2.2.1.symm) ?_
        refine z_iconst (v := 1) C dd_Q_perform_278 (by decide) ?_
        refine z_isub C dd_Q_perform_279 ?_
        refine z_topi (y := nI (((u :: v :: t : List Nat).length) - 1)) (by first | exact (@pk_sub ((u :: v :: t : List Nat).length) 1 (by omega)).symm | (rw [← pk_sub (a := ((u :: v :: t : List Nat).length)) (b := 1) (by omega)]; rfl)) ?_
        refine z_iast (t0 := 0) (N := 9) (f := (I1 33)) C rfl dd_Q_perform_280 (hP11_.1.2 33 (by decide)) (vp_in_nI (by omega) (by decide)) ?_
        refine z_cut (md_K dA F (md_is (md_is I1 34 (upd (I1 34) (Int32.toNatClampNeg (nI ((6 * fs.length + (u :: v :: t : List Nat).length) - 2))) (nI (mq_mul v u)))) 33 (upd (I1 33) (Int32.toNatClampNeg (nI fs.length)) (nI (((u :: v :: t : List Nat).length) - 1)))) J q h) (md_wI hP11_ 33 (by decide) rfl) rfl rfl rfl (fun h12_ hP12_ => ?_)
        refine z_goto (tgt := 391) C dd_Q_perform_281 (by decide) ?_
        rw [nI_clamp (n := 6 * fs.length + (u :: v :: t : List Nat).length - 2) (by omega), nI_clamp (n := fs.length) (by omega)] at hP12_
        refine z_vret C dd_Q_perform_391 ⟨rfl, _, _, hP12_, A1.w (st' := mq_mul v u :: t) (by omega) ⟨?_, ?_⟩ ?_ ?_⟩ (by decide) (by decide)
        · exact if_pos (by omega)
        · exact mq_sk_up t (by omega) A1.o.2.2.2.2.2.2.2
        · exact (show t.length + 1 ≤ 6 by omega)
        · intro w hw
          rcases List.mem_cons.mp hw with e | e
          · rw [e]; exact mq_mul_lt hv8
          · exact hsv9 w (by simp [e])
      · replace q33 : ¬ 2 ≤ ((u :: v :: t : List Nat).length) := fun z => q33 ((@nI_leI 2 ((u :: v :: t : List Nat).length) (by omega) (by omega)).mpr z)
        omega
  · skip
    rw [if_neg (by decide), if_neg (by decide), if_pos rfl] at o5
    obtain ⟨i9, hi9, rfl⟩ := (pu_iv_0 (N := nc) (by omega)).mp o5
    rcases st with _ | ⟨u, t⟩
    · skip
      have hl : ([] : List Nat).length = 0 := rfl
      refine z_iload_n C dd_Q_perform_72 rfl ?_
      refine z_iconst (v := 2) C dd_Q_perform_73 (by decide) ?_
      refine z_icmp_eq (tgt := 82) C dd_Q_perform_74 (by decide) (fun q38 => absurd q38 (by decide)) (fun q38 => ?_)
      refine z_iload_n C dd_Q_perform_77 rfl ?_
      refine z_iconst (v := 3) C dd_Q_perform_78 (by decide) ?_
      refine z_icmp_ne (tgt := 86) C dd_Q_perform_79 (by decide) (fun q39 => ?_) (fun q39 => absurd q39 (by decide))
      refine z_iload_n C dd_Q_perform_86 rfl ?_
      refine z_iconst (v := 4) C dd_Q_perform_87 (by decide) ?_
      refine z_icmp_ne (tgt := 95) C dd_Q_perform_88 (by decide) (fun q40 => absurd (by decide) q40) (fun q40 => ?_)
      refine z_iconst (v := 1) C dd_Q_perform_91 (by decide) ?_
      refine z_goto (tgt := 111) C dd_Q_perform_92 (by decide) ?_
      refine z_istore C dd_Q_perform_111 rfl ?_
      refine z_aload_n C dd_Q_perform_113 rfl ?_
      refine gf_Q_115 (v := .ref (q + 1 + 33)) C dd_Q_perform_114 hP1_.1.1 rfl ?_
      refine z_iload_n C dd_Q_perform_117 rfl ?_
      refine z_iald (t0 := 0) (N := 9) (f := (I1 33)) C rfl dd_Q_perform_118 (hP1_.1.2 33 (by decide)) (vp_in_nI (by omega) (by decide)) ?_
      refine z_topi (y := nI (([] : List Nat).length)) (by rw [nI_clamp (by omega)]; exact A1.o.2.2.2.2.1.symm) ?_
      refine z_iload C dd_Q_perform_119 rfl ?_
      refine z_icmp_ge (tgt := 133) C dd_Q_perform_121 (by decide) (fun q41 => ?_) (fun q41 => ?_)
      · replace q41 : 1 ≤ (([] : List Nat).length) := (@nI_leI 1 (([] : List Nat).length) (by omega) (by omega)).mp q41
        omega
      · replace q41 : ¬ 1 ≤ (([] : List Nat).length) := fun z => q41 ((@nI_leI 1 (([] : List Nat).length) (by omega) (by omega)).mpr z)
        refine z_aload_n C dd_Q_perform_124 rfl ?_
        refine z_bipush (v := (-4)) C dd_Q_perform_125 (by decide) ?_
        refine pf_Q_228 C dd_Q_perform_127 hP1_.1.1 (Nat.le_of_ble_eq_true rfl) rfl rfl ?_
        refine z_cut (md_K dA (md_fs F 45 (-4)) I1 J q h) (md_wF hP1_ rfl) rfl rfl rfl (fun h13_ hP13_ => ?_)
        refine z_goto (tgt := 391) C dd_Q_perform_130 (by decide) ?_
        exact z_vret C dd_Q_perform_391 ⟨rfl, _, _, hP13_, A1.e (-4)⟩ (by decide) (by decide)
    · skip
      have hl : (u :: t : List Nat).length = t.length + 1 := rfl
      have hu8 : u < 8 * nc := hsv9 u (by simp)
      have su : I1 34 (6 * fs.length + (u :: t : List Nat).length - 1) = nI u := by rw [show 6 * fs.length + (u :: t : List Nat).length - 1 = 6 * fs.length + t.length by omega]; exact A1.o.2.2.2.2.2.1
      refine z_iload_n C dd_Q_perform_72 rfl ?_
      refine z_iconst (v := 2) C dd_Q_perform_73 (by decide) ?_
      refine z_icmp_eq (tgt := 82) C dd_Q_perform_74 (by decide) (fun q42 => absurd q42 (by decide)) (fun q42 => ?_)
      refine z_iload_n C dd_Q_perform_77 rfl ?_
      refine z_iconst (v := 3) C dd_Q_perform_78 (by decide) ?_
      refine z_icmp_ne (tgt := 86) C dd_Q_perform_79 (by decide) (fun q43 => ?_) (fun q43 => absurd q43 (by decide))
      refine z_iload_n C dd_Q_perform_86 rfl ?_
      refine z_iconst (v := 4) C dd_Q_perform_87 (by decide) ?_
      refine z_icmp_ne (tgt := 95) C dd_Q_perform_88 (by decide) (fun q44 => absurd (by decide) q44) (fun q44 => ?_)
      refine z_iconst (v := 1) C dd_Q_perform_91 (by decide) ?_
      refine z_goto (tgt := 111) C dd_Q_perform_92 (by decide) ?_
      refine z_istore C dd_Q_perform_111 rfl ?_
      refine z_aload_n C dd_Q_perform_113 rfl ?_
      refine gf_Q_115 (v := .ref (q + 1 + 33)) C dd_Q_perform_114 hP1_.1.1 rfl ?_
      refine z_iload_n C dd_Q_perform_117 rfl ?_
      refine z_iald (t0 := 0) (N := 9) (f := (I1 33)) C rfl dd_Q_perform_118 (hP1_.1.2 33 (by decide)) (vp_in_nI (by omega) (by decide)) ?_
      refine z_topi (y := nI ((u :: t : List Nat).length)) (by rw [nI_clamp (by omega)]; exact A1.o.2.2.2.2.1.symm) ?_
      refine z_iload C dd_Q_perform_119 rfl ?_
      refine z_icmp_ge (tgt := 133) C dd_Q_perform_121 (by decide) (fun q45 => ?_) (fun q45 => ?_)
      · replace q45 : 1 ≤ ((u :: t : List Nat).length) := (@nI_leI 1 ((u :: t : List Nat).length) (by omega) (by omega)).mp q45
        refine z_iload_n C dd_Q_perform_133 rfl ?_
        refine z_if_ne (tgt := 152) C dd_Q_perform_134 (by decide) (fun q46 => ?_) (fun q46 => absurd q46 (by decide))
        refine z_iload_n C dd_Q_perform_152 rfl ?_
        refine z_iconst (v := 1) C dd_Q_perform_153 (by decide) ?_
        refine z_icmp_ne (tgt := 185) C dd_Q_perform_154 (by decide) (fun q47 => ?_) (fun q47 => absurd q47 (by decide))
        refine z_iload_n C dd_Q_perform_185 rfl ?_
        refine z_iconst (v := 4) C dd_Q_perform_186 (by decide) ?_
        refine z_icmp_ge (tgt := 284) C dd_Q_perform_187 (by decide) (fun q48 => ?_) (fun q48 => absurd (by decide) q48)
        refine z_iload_n C dd_Q_perform_284 rfl ?_
        refine z_iconst (v := 4) C dd_Q_perform_285 (by decide) ?_
        refine z_icmp_ne (tgt := 319) C dd_Q_perform_286 (by decide) (fun q49 => absurd (by decide) q49) (fun q49 => ?_)
        refine z_aload_n C dd_Q_perform_289 rfl ?_
        refine gf_Q_118 (v := .ref (q + 1 + 34)) C dd_Q_perform_290 hP1_.1.1 rfl ?_
        refine z_iload C dd_Q_perform_293 rfl ?_
        refine z_iconst (v := 1) C dd_Q_perform_295 (by decide) ?_
        refine z_isub C dd_Q_perform_296 ?_
        refine z_topi (y := nI ((6 * fs.length + (u :: t : List Nat).length) - 1)) (by first | exact (@pk_sub (6 * fs.length + (u :: t : List Nat).length) 1 (by omega)).symm | (rw [← pk_sub (a := (6 * fs.length + (u :: t : List Nat).length)) (b := 1) (by omega)]; rfl)) ?_
        refine z_bipush (v := 8) C dd_Q_perform_297 (by decide) ?_
        refine z_iload C dd_Q_perform_299 rfl ?_
        refine z_imul C dd_Q_perform_301 ?_
        refine z_topi (y := nI (8 * i9)) (by first | exact (pk_mul _ _).symm | (rw [← pk_mul]; rfl)) ?_
        refine z_aload_n C dd_Q_perform_302 rfl ?_
        refine gf_Q_118 (v := .ref (q + 1 + 34)) C dd_Q_perform_303 hP1_.1.1 rfl ?_
        refine z_iload C dd_Q_perform_306 rfl ?_
        refine z_iconst (v := 1) C dd_Q_perform_308 (by decide) ?_
        refine z_isub C dd_Q_perform_309 ?_
        refine z_topi (y := nI ((6 * fs.length + (u :: t : List Nat).length) - 1)) (by first | exact (@pk_sub (6 * fs.length + (u :: t : List Nat).length) 1 (by omega)).symm | (rw [← pk_sub (a := (6 * fs.length + (u :: t : List Nat).length)) (b := 1) (by omega)]; rfl)) ?_
        refine z_iald (t0 := 0) (N := 54) (f := (I1 34)) C rfl dd_Q_perform_310 (hP1_.1.2 34 (by decide)) (vp_in_nI (by omega) (by decide)) ?_
        refine z_topi (y := nI u) (by rw [nI_clamp (by omega)]; exact su.symm) ?_
        refine z_bipush (v := 8) C dd_Q_perform_311 (by decide) ?_
        refine z_irem C dd_Q_perform_313 (by decide) ?_
        refine z_topi (y := nI (u % 8)) (by first | exact (@pk_rem u 8 (by omega) (by decide) (by decide)).symm | (rw [← @pk_rem u 8 (by omega) (by decide) (by decide)]; rfl)) ?_
        refine z_iadd C dd_Q_perform_314 ?_
        refine z_topi (y := nI ((8 * i9) + (u % 8))) (by first | exact (nI_add _ _).symm | (rw [← nI_add]; rfl)) ?_
        refine z_iast (t0 := 0) (N := 54) (f := (I1 34)) C rfl dd_Q_perform_315 (hP1_.1.2 34 (by decide)) (vp_in_nI (by omega) (by decide)) ?_
        refine z_cut (md_K dA F (md_is I1 34 (upd (I1 34) (Int32.toNatClampNeg (nI ((6 * fs.length + (u :: t : List Nat).length) - 1))) (nI ((8 * i9) + (u % 8))))) J q h) (md_wI hP1_ 34 (by decide) rfl) rfl rfl rfl (fun h14_ hP14_ => ?_)
        refine z_goto (tgt := 391) C dd_Q_perform_316 (by decide) ?_
        rw [nI_clamp (n := 6 * fs.length + (u :: t : List Nat).length - 1) (by omega)] at hP14_
        refine z_vret C dd_Q_perform_391 ⟨rfl, _, _, hP14_, ?_⟩ (by decide) (by decide)
        show mq_A F0 I0 nc ng nM _ _ (fu, th, (m0, x0, y0, a + 1, (8 * (nI i9).toNatClampNeg + u % 8) :: t) :: fs, 0, re)
        rw [nI_clamp (n := i9) (by omega)]
        refine A1.v (st' := (8 * i9 + u % 8) :: t) (by omega) ⟨?_, ?_⟩ rfl ?_
        · exact if_pos (by omega)
        · exact mq_sk_up t (by omega) A1.o.2.2.2.2.2.2
        · intro w hw
          rcases List.mem_cons.mp hw with e | e
          · omega
          · exact hsv9 w (by simp [e])
      · replace q45 : ¬ 1 ≤ ((u :: t : List Nat).length) := fun z => q45 ((@nI_leI 1 ((u :: t : List Nat).length) (by omega) (by omega)).mpr z)
        omega
  · skip
    rw [if_neg (by decide), if_neg (by decide), if_neg (by decide), if_pos rfl] at o5
    obtain ⟨g9, hg9, rfl⟩ := (pu_iv_0 (N := ng) (by omega)).mp o5
    obtain ⟨ar, har2, har⟩ := W.ar g9 hg9
    have ear : mq_ar I0 g9 = ar := by unfold mq_ar; rw [har, nI_clamp (by omega)]
    have har1 : I1 1 g9 = nI ar := by rw [A1.2.1 1 (by omega)]; exact har
    have ecl : (nI g9).toNatClampNeg = g9 := nI_clamp (by omega)
    rcases har2 with rfl | rfl
    · skip
      rcases st with _ | ⟨u, t⟩
      · skip
        have hl : ([] : List Nat).length < 1 := by decide
        refine z_iload_n C dd_Q_perform_72 rfl ?_
        refine z_iconst (v := 2) C dd_Q_perform_73 (by decide) ?_
        refine z_icmp_eq (tgt := 82) C dd_Q_perform_74 (by decide) (fun q50 => absurd q50 (by decide)) (fun q50 => ?_)
        refine z_iload_n C dd_Q_perform_77 rfl ?_
        refine z_iconst (v := 3) C dd_Q_perform_78 (by decide) ?_
        refine z_icmp_ne (tgt := 86) C dd_Q_perform_79 (by decide) (fun q51 => ?_) (fun q51 => absurd q51 (by decide))
        refine z_iload_n C dd_Q_perform_86 rfl ?_
        refine z_iconst (v := 4) C dd_Q_perform_87 (by decide) ?_
        refine z_icmp_ne (tgt := 95) C dd_Q_perform_88 (by decide) (fun q52 => ?_) (fun q52 => absurd q52 (by decide))
        refine z_iload_n C dd_Q_perform_95 rfl ?_
        refine z_iconst (v := 5) C dd_Q_perform_96 (by decide) ?_
        refine z_icmp_ne (tgt := 110) C dd_Q_perform_97 (by decide) (fun q53 => absurd (by decide) q53) (fun q53 => ?_)
        refine z_aload_n C dd_Q_perform_100 rfl ?_
        refine gf_Q_17 (v := .ref (q + 1 + 1)) C dd_Q_perform_101 hP1_.1.1 rfl ?_
        refine z_iload C dd_Q_perform_104 rfl ?_
        refine z_iald (t0 := 0) (N := 4) (f := (I1 1)) C rfl dd_Q_perform_106 (hP1_.1.2 1 (by decide)) (vp_in_nI (by omega) (by decide)) ?_
        refine z_topi (y := nI 1) (by rw [nI_clamp (by omega)]; exact har1.symm) ?_
        refine z_goto (tgt := 111) C dd_Q_perform_107 (by decide) ?_
        refine z_istore C dd_Q_perform_111 rfl ?_
        refine z_aload_n C dd_Q_perform_113 rfl ?_
        refine gf_Q_115 (v := .ref (q + 1 + 33)) C dd_Q_perform_114 hP1_.1.1 rfl ?_
        refine z_iload_n C dd_Q_perform_117 rfl ?_
        refine z_iald (t0 := 0) (N := 9) (f := (I1 33)) C rfl dd_Q_perform_118 (hP1_.1.2 33 (by decide)) (vp_in_nI (by omega) (by decide)) ?_
        refine z_topi (y := nI (([] : List Nat).length)) (by rw [nI_clamp (by omega)]; exact A1.o.2.2.2.2.1.symm) ?_
        refine z_iload C dd_Q_perform_119 rfl ?_
        refine z_icmp_ge (tgt := 133) C dd_Q_perform_121 (by decide) (fun q54 => ?_) (fun q54 => ?_)
        · replace q54 : 1 ≤ (([] : List Nat).length) := (@nI_leI 1 (([] : List Nat).length) (by omega) (by omega)).mp q54
          omega
        · replace q54 : ¬ 1 ≤ (([] : List Nat).length) := fun z => q54 ((@nI_leI 1 (([] : List Nat).length) (by omega) (by omega)).mpr z)
          refine z_aload_n C dd_Q_perform_124 rfl ?_
          refine z_bipush (v := (-4)) C dd_Q_perform_125 (by decide) ?_
          refine pf_Q_228 C dd_Q_perform_127 hP1_.1.1 (Nat.le_of_ble_eq_true rfl) rfl rfl ?_
          refine z_cut (md_K dA (md_fs F 45 (-4)) I1 J q h) (md_wF hP1_ rfl) rfl rfl rfl (fun h15_ hP15_ => ?_)
          refine z_goto (tgt := 391) C dd_Q_perform_130 (by decide) ?_
          refine z_vret C dd_Q_perform_391 ⟨rfl, _, _, hP15_, ?_⟩ (by decide) (by decide)
          unfold mq_do
          simp only [ecl, ear]
          exact A1.e (-4)
      · skip
        have hl : (u :: t : List Nat).length = t.length + 1 := rfl
        have hu8 : u < 8 * nc := hsv9 u (by simp)
        have su : I1 34 (6 * fs.length + (u :: t : List Nat).length - 1) = nI u := by rw [show 6 * fs.length + (u :: t : List Nat).length - 1 = 6 * fs.length + (t.length) by omega]; exact A1.o.2.2.2.2.2.1
        refine z_iload_n C dd_Q_perform_72 rfl ?_
        refine z_iconst (v := 2) C dd_Q_perform_73 (by decide) ?_
        refine z_icmp_eq (tgt := 82) C dd_Q_perform_74 (by decide) (fun q55 => absurd q55 (by decide)) (fun q55 => ?_)
        refine z_iload_n C dd_Q_perform_77 rfl ?_
        refine z_iconst (v := 3) C dd_Q_perform_78 (by decide) ?_
        refine z_icmp_ne (tgt := 86) C dd_Q_perform_79 (by decide) (fun q56 => ?_) (fun q56 => absurd q56 (by decide))
        refine z_iload_n C dd_Q_perform_86 rfl ?_
        refine z_iconst (v := 4) C dd_Q_perform_87 (by decide) ?_
        refine z_icmp_ne (tgt := 95) C dd_Q_perform_88 (by decide) (fun q57 => ?_) (fun q57 => absurd q57 (by decide))
        refine z_iload_n C dd_Q_perform_95 rfl ?_
        refine z_iconst (v := 5) C dd_Q_perform_96 (by decide) ?_
        refine z_icmp_ne (tgt := 110) C dd_Q_perform_97 (by decide) (fun q58 => absurd (by decide) q58) (fun q58 => ?_)
        refine z_aload_n C dd_Q_perform_100 rfl ?_
        refine gf_Q_17 (v := .ref (q + 1 + 1)) C dd_Q_perform_101 hP1_.1.1 rfl ?_
        refine z_iload C dd_Q_perform_104 rfl ?_
        refine z_iald (t0 := 0) (N := 4) (f := (I1 1)) C rfl dd_Q_perform_106 (hP1_.1.2 1 (by decide)) (vp_in_nI (by omega) (by decide)) ?_
        refine z_topi (y := nI 1) (by rw [nI_clamp (by omega)]; exact har1.symm) ?_
        refine z_goto (tgt := 111) C dd_Q_perform_107 (by decide) ?_
        refine z_istore C dd_Q_perform_111 rfl ?_
        refine z_aload_n C dd_Q_perform_113 rfl ?_
        refine gf_Q_115 (v := .ref (q + 1 + 33)) C dd_Q_perform_114 hP1_.1.1 rfl ?_
        refine z_iload_n C dd_Q_perform_117 rfl ?_
        refine z_iald (t0 := 0) (N := 9) (f := (I1 33)) C rfl dd_Q_perform_118 (hP1_.1.2 33 (by decide)) (vp_in_nI (by omega) (by decide)) ?_
        refine z_topi (y := nI ((u :: t : List Nat).length)) (by rw [nI_clamp (by omega)]; exact A1.o.2.2.2.2.1.symm) ?_
        refine z_iload C dd_Q_perform_119 rfl ?_
        refine z_icmp_ge (tgt := 133) C dd_Q_perform_121 (by decide) (fun q59 => ?_) (fun q59 => ?_)
        · replace q59 : 1 ≤ ((u :: t : List Nat).length) := (@nI_leI 1 ((u :: t : List Nat).length) (by omega) (by omega)).mp q59
          refine z_iload_n C dd_Q_perform_133 rfl ?_
          refine z_if_ne (tgt := 152) C dd_Q_perform_134 (by decide) (fun q60 => ?_) (fun q60 => absurd q60 (by decide))
          refine z_iload_n C dd_Q_perform_152 rfl ?_
          refine z_iconst (v := 1) C dd_Q_perform_153 (by decide) ?_
          refine z_icmp_ne (tgt := 185) C dd_Q_perform_154 (by decide) (fun q61 => ?_) (fun q61 => absurd q61 (by decide))
          refine z_iload_n C dd_Q_perform_185 rfl ?_
          refine z_iconst (v := 4) C dd_Q_perform_186 (by decide) ?_
          refine z_icmp_ge (tgt := 284) C dd_Q_perform_187 (by decide) (fun q62 => ?_) (fun q62 => absurd (by decide) q62)
          refine z_iload_n C dd_Q_perform_284 rfl ?_
          refine z_iconst (v := 4) C dd_Q_perform_285 (by decide) ?_
          refine z_icmp_ne (tgt := 319) C dd_Q_perform_286 (by decide) (fun q63 => ?_) (fun q63 => absurd q63 (by decide))
          refine z_iload_n C dd_Q_perform_319 rfl ?_
          refine z_iconst (v := 5) C dd_Q_perform_320 (by decide) ?_
          refine z_icmp_ne (tgt := 368) C dd_Q_perform_321 (by decide) (fun q64 => absurd (by decide) q64) (fun q64 => ?_)
          refine z_aload_n C dd_Q_perform_324 rfl ?_
          refine gf_Q_115 (v := .ref (q + 1 + 33)) C dd_Q_perform_325 hP1_.1.1 rfl ?_
          refine z_iload_n C dd_Q_perform_328 rfl ?_
          refine z_aload_n C dd_Q_perform_329 rfl ?_
          refine gf_Q_115 (v := .ref (q + 1 + 33)) C dd_Q_perform_330 hP1_.1.1 rfl ?_
          refine z_iload_n C dd_Q_perform_333 rfl ?_
          refine z_iald (t0 := 0) (N := 9) (f := (I1 33)) C rfl dd_Q_perform_334 (hP1_.1.2 33 (by decide)) (vp_in_nI (by omega) (by decide)) ?_
          refine z_topi (y := nI ((u :: t : List Nat).length)) (by rw [nI_clamp (by omega)]; exact A1.o.2.2.2.2.1.symm) ?_
          refine z_iload C dd_Q_perform_335 rfl ?_
          refine z_isub C dd_Q_perform_337 ?_
          refine z_topi (y := nI (((u :: t : List Nat).length) - 1)) (by first | exact (@pk_sub ((u :: t : List Nat).length) 1 (by omega)).symm | (rw [← pk_sub (a := ((u :: t : List Nat).length)) (b := 1) (by omega)]; rfl)) ?_
          refine z_iast (t0 := 0) (N := 9) (f := (I1 33)) C rfl dd_Q_perform_338 (hP1_.1.2 33 (by decide)) (vp_in_nI (by omega) (by decide)) ?_
          refine z_cut (md_K dA F (md_is I1 33 (upd (I1 33) (Int32.toNatClampNeg (nI fs.length)) (nI (((u :: t : List Nat).length) - 1)))) J q h) (md_wI hP1_ 33 (by decide) rfl) rfl rfl rfl (fun h16_ hP16_ => ?_)
          refine z_aload_n C dd_Q_perform_339 rfl ?_
          refine z_iload C dd_Q_perform_340 rfl ?_
          refine z_iconst (v := (-1)) C dd_Q_perform_342 (by decide) ?_
          refine z_aload_n C dd_Q_perform_343 rfl ?_
          refine gf_Q_118 (v := .ref (q + 1 + 34)) C dd_Q_perform_344 hP16_.1.1 rfl ?_
          refine z_iload C dd_Q_perform_347 rfl ?_
          refine z_iload C dd_Q_perform_349 rfl ?_
          refine z_isub C dd_Q_perform_351 ?_
          refine z_topi (y := nI ((6 * fs.length + (u :: t : List Nat).length) - 1)) (by first | exact (@pk_sub (6 * fs.length + (u :: t : List Nat).length) 1 (by omega)).symm | (rw [← pk_sub (a := (6 * fs.length + (u :: t : List Nat).length)) (b := 1) (by omega)]; rfl)) ?_
          refine z_iald (t0 := 0) (N := 54) (f := (I1 34)) C rfl dd_Q_perform_352 (hP16_.1.2 34 (by decide)) (vp_in_nI (by omega) (by decide)) ?_
          refine z_topi (y := nI u) (by rw [nI_clamp (by omega)]; exact su.symm) ?_
          refine z_aload_n C dd_Q_perform_353 rfl ?_
          refine gf_Q_118 (v := .ref (q + 1 + 34)) C dd_Q_perform_354 hP16_.1.1 rfl ?_
          refine z_iload C dd_Q_perform_357 rfl ?_
          refine z_iconst (v := 1) C dd_Q_perform_359 (by decide) ?_
          refine z_isub C dd_Q_perform_360 ?_
          refine z_topi (y := nI ((6 * fs.length + (u :: t : List Nat).length) - 1)) (by first | exact (@pk_sub (6 * fs.length + (u :: t : List Nat).length) 1 (by omega)).symm | (rw [← pk_sub (a := (6 * fs.length + (u :: t : List Nat).length)) (b := 1) (by omega)]; rfl)) ?_
          refine z_iald (t0 := 0) (N := 54) (f := (I1 34)) C rfl dd_Q_perform_361 (hP16_.1.2 34 (by decide)) (vp_in_nI (by omega) (by decide)) ?_
          refine z_topi (y := nI u) (by rw [nI_clamp (by omega)]; exact su.symm) ?_
          rw [nI_clamp (n := fs.length) (by omega), show (u :: t : List Nat).length - 1 = t.length by omega] at hP16_
          have A2 := A1.g (st' := t) A1.o.2.2.2.2.2.2 (by omega) (fun w hw => hsv9 w (by simp [hw]))
          refine iv_Q_245 (sk := fun _ => []) (zz_f B) C dd_Q_perform_362 (cc_Q_callC l D dA B _ _ q _ _ _ hP16_.1 F0 I0 nc ng nM W GS g9 1 u 0 fu th re (nI u) 0 _ hg9 har (by omega) hu8 ⟨by omega, fun _ => rfl, fun z => absurd z (by decide)⟩ A2) hP16_.1.1 rfl rfl ⟨by decide, by decide⟩ (Nat.le_of_ble_eq_true rfl) ⟨by decide, by decide⟩ (fun _ => rfl) (fun _ h17_ n17_ p17_ => ?_)
          obtain ⟨rfl, F', I', w1, w2⟩ := p17_
          refine z_goto (tgt := 391) C dd_Q_perform_365 (by decide) ?_
          refine z_vret C dd_Q_perform_391 ⟨rfl, F', I', md_tr hP16_ w1, ?_⟩ (by decide) (by decide)
          unfold mq_do
          simp only [ecl, ear]
          exact w2
        · replace q59 : ¬ 1 ≤ ((u :: t : List Nat).length) := fun z => q59 ((@nI_leI 1 ((u :: t : List Nat).length) (by omega) (by omega)).mpr z)
          omega
    · skip
      rcases st with _ | ⟨u, _ | ⟨v, t⟩⟩
      · skip
        have hl : ([] : List Nat).length < 2 := by decide
        refine z_iload_n C dd_Q_perform_72 rfl ?_
        refine z_iconst (v := 2) C dd_Q_perform_73 (by decide) ?_
        refine z_icmp_eq (tgt := 82) C dd_Q_perform_74 (by decide) (fun q65 => absurd q65 (by decide)) (fun q65 => ?_)
        refine z_iload_n C dd_Q_perform_77 rfl ?_
        refine z_iconst (v := 3) C dd_Q_perform_78 (by decide) ?_
        refine z_icmp_ne (tgt := 86) C dd_Q_perform_79 (by decide) (fun q66 => ?_) (fun q66 => absurd q66 (by decide))
        refine z_iload_n C dd_Q_perform_86 rfl ?_
        refine z_iconst (v := 4) C dd_Q_perform_87 (by decide) ?_
        refine z_icmp_ne (tgt := 95) C dd_Q_perform_88 (by decide) (fun q67 => ?_) (fun q67 => absurd q67 (by decide))
        refine z_iload_n C dd_Q_perform_95 rfl ?_
        refine z_iconst (v := 5) C dd_Q_perform_96 (by decide) ?_
        refine z_icmp_ne (tgt := 110) C dd_Q_perform_97 (by decide) (fun q68 => absurd (by decide) q68) (fun q68 => ?_)
        refine z_aload_n C dd_Q_perform_100 rfl ?_
        refine gf_Q_17 (v := .ref (q + 1 + 1)) C dd_Q_perform_101 hP1_.1.1 rfl ?_
        refine z_iload C dd_Q_perform_104 rfl ?_
        refine z_iald (t0 := 0) (N := 4) (f := (I1 1)) C rfl dd_Q_perform_106 (hP1_.1.2 1 (by decide)) (vp_in_nI (by omega) (by decide)) ?_
        refine z_topi (y := nI 2) (by rw [nI_clamp (by omega)]; exact har1.symm) ?_
        refine z_goto (tgt := 111) C dd_Q_perform_107 (by decide) ?_
        refine z_istore C dd_Q_perform_111 rfl ?_
        refine z_aload_n C dd_Q_perform_113 rfl ?_
        refine gf_Q_115 (v := .ref (q + 1 + 33)) C dd_Q_perform_114 hP1_.1.1 rfl ?_
        refine z_iload_n C dd_Q_perform_117 rfl ?_
        refine z_iald (t0 := 0) (N := 9) (f := (I1 33)) C rfl dd_Q_perform_118 (hP1_.1.2 33 (by decide)) (vp_in_nI (by omega) (by decide)) ?_
        refine z_topi (y := nI (([] : List Nat).length)) (by rw [nI_clamp (by omega)]; exact A1.o.2.2.2.2.1.symm) ?_
        refine z_iload C dd_Q_perform_119 rfl ?_
        refine z_icmp_ge (tgt := 133) C dd_Q_perform_121 (by decide) (fun q69 => ?_) (fun q69 => ?_)
        · replace q69 : 2 ≤ (([] : List Nat).length) := (@nI_leI 2 (([] : List Nat).length) (by omega) (by omega)).mp q69
          omega
        · replace q69 : ¬ 2 ≤ (([] : List Nat).length) := fun z => q69 ((@nI_leI 2 (([] : List Nat).length) (by omega) (by omega)).mpr z)
          refine z_aload_n C dd_Q_perform_124 rfl ?_
          refine z_bipush (v := (-4)) C dd_Q_perform_125 (by decide) ?_
          refine pf_Q_228 C dd_Q_perform_127 hP1_.1.1 (Nat.le_of_ble_eq_true rfl) rfl rfl ?_
          refine z_cut (md_K dA (md_fs F 45 (-4)) I1 J q h) (md_wF hP1_ rfl) rfl rfl rfl (fun h18_ hP18_ => ?_)
          refine z_goto (tgt := 391) C dd_Q_perform_130 (by decide) ?_
          refine z_vret C dd_Q_perform_391 ⟨rfl, _, _, hP18_, ?_⟩ (by decide) (by decide)
          unfold mq_do
          simp only [ecl, ear]
          exact A1.e (-4)
      · skip
        have hl : ([u] : List Nat).length < 2 := Nat.le_refl 2
        refine z_iload_n C dd_Q_perform_72 rfl ?_
        refine z_iconst (v := 2) C dd_Q_perform_73 (by decide) ?_
        refine z_icmp_eq (tgt := 82) C dd_Q_perform_74 (by decide) (fun q70 => absurd q70 (by decide)) (fun q70 => ?_)
        refine z_iload_n C dd_Q_perform_77 rfl ?_
        refine z_iconst (v := 3) C dd_Q_perform_78 (by decide) ?_
        refine z_icmp_ne (tgt := 86) C dd_Q_perform_79 (by decide) (fun q71 => ?_) (fun q71 => absurd q71 (by decide))
        refine z_iload_n C dd_Q_perform_86 rfl ?_
        refine z_iconst (v := 4) C dd_Q_perform_87 (by decide) ?_
        refine z_icmp_ne (tgt := 95) C dd_Q_perform_88 (by decide) (fun q72 => ?_) (fun q72 => absurd q72 (by decide))
        refine z_iload_n C dd_Q_perform_95 rfl ?_
        refine z_iconst (v := 5) C dd_Q_perform_96 (by decide) ?_
        refine z_icmp_ne (tgt := 110) C dd_Q_perform_97 (by decide) (fun q73 => absurd (by decide) q73) (fun q73 => ?_)
        refine z_aload_n C dd_Q_perform_100 rfl ?_
        refine gf_Q_17 (v := .ref (q + 1 + 1)) C dd_Q_perform_101 hP1_.1.1 rfl ?_
        refine z_iload C dd_Q_perform_104 rfl ?_
        refine z_iald (t0 := 0) (N := 4) (f := (I1 1)) C rfl dd_Q_perform_106 (hP1_.1.2 1 (by decide)) (vp_in_nI (by omega) (by decide)) ?_
        refine z_topi (y := nI 2) (by rw [nI_clamp (by omega)]; exact har1.symm) ?_
        refine z_goto (tgt := 111) C dd_Q_perform_107 (by decide) ?_
        refine z_istore C dd_Q_perform_111 rfl ?_
        refine z_aload_n C dd_Q_perform_113 rfl ?_
        refine gf_Q_115 (v := .ref (q + 1 + 33)) C dd_Q_perform_114 hP1_.1.1 rfl ?_
        refine z_iload_n C dd_Q_perform_117 rfl ?_
        refine z_iald (t0 := 0) (N := 9) (f := (I1 33)) C rfl dd_Q_perform_118 (hP1_.1.2 33 (by decide)) (vp_in_nI (by omega) (by decide)) ?_
        refine z_topi (y := nI (([u] : List Nat).length)) (by rw [nI_clamp (by omega)]; exact A1.o.2.2.2.2.1.symm) ?_
        refine z_iload C dd_Q_perform_119 rfl ?_
        refine z_icmp_ge (tgt := 133) C dd_Q_perform_121 (by decide) (fun q74 => ?_) (fun q74 => ?_)
        · replace q74 : 2 ≤ (([u] : List Nat).length) := (@nI_leI 2 (([u] : List Nat).length) (by omega) (by omega)).mp q74
          omega
        · replace q74 : ¬ 2 ≤ (([u] : List Nat).length) := fun z => q74 ((@nI_leI 2 (([u] : List Nat).length) (by omega) (by omega)).mpr z)
          refine z_aload_n C dd_Q_perform_124 rfl ?_
          refine z_bipush (v := (-4)) C dd_Q_perform_125 (by decide) ?_
          refine pf_Q_228 C dd_Q_perform_127 hP1_.1.1 (Nat.le_of_ble_eq_true rfl) rfl rfl ?_
          refine z_cut (md_K dA (md_fs F 45 (-4)) I1 J q h) (md_wF hP1_ rfl) rfl rfl rfl (fun h19_ hP19_ => ?_)
          refine z_goto (tgt := 391) C dd_Q_perform_130 (by decide) ?_
          refine z_vret C dd_Q_perform_391 ⟨rfl, _, _, hP19_, ?_⟩ (by decide) (by decide)
          unfold mq_do
          simp only [ecl, ear]
          exact A1.e (-4)
      · skip
        have hl : (u :: v :: t : List Nat).length = t.length + 2 := rfl
        have hu8 : u < 8 * nc := hsv9 u (by simp)
        have hv8 : v < 8 * nc := hsv9 v (by simp)
        have sv : I1 34 (6 * fs.length + (u :: v :: t : List Nat).length - 2) = nI v := by rw [show 6 * fs.length + (u :: v :: t : List Nat).length - 2 = 6 * fs.length + t.length by omega]; exact A1.o.2.2.2.2.2.2.1
        have su : I1 34 (6 * fs.length + (u :: v :: t : List Nat).length - 1) = nI u := by rw [show 6 * fs.length + (u :: v :: t : List Nat).length - 1 = 6 * fs.length + (t.length + 1) by omega]; exact A1.o.2.2.2.2.2.1
        refine z_iload_n C dd_Q_perform_72 rfl ?_
        refine z_iconst (v := 2) C dd_Q_perform_73 (by decide) ?_
        refine z_icmp_eq (tgt := 82) C dd_Q_perform_74 (by decide) (fun q75 => absurd q75 (by decide)) (fun q75 => ?_)
        refine z_iload_n C dd_Q_perform_77 rfl ?_
        refine z_iconst (v := 3) C dd_Q_perform_78 (by decide) ?_
        refine z_icmp_ne (tgt := 86) C dd_Q_perform_79 (by decide) (fun q76 => ?_) (fun q76 => absurd q76 (by decide))
        refine z_iload_n C dd_Q_perform_86 rfl ?_
        refine z_iconst (v := 4) C dd_Q_perform_87 (by decide) ?_
        refine z_icmp_ne (tgt := 95) C dd_Q_perform_88 (by decide) (fun q77 => ?_) (fun q77 => absurd q77 (by decide))
        refine z_iload_n C dd_Q_perform_95 rfl ?_
        refine z_iconst (v := 5) C dd_Q_perform_96 (by decide) ?_
        refine z_icmp_ne (tgt := 110) C dd_Q_perform_97 (by decide) (fun q78 => absurd (by decide) q78) (fun q78 => ?_)
        refine z_aload_n C dd_Q_perform_100 rfl ?_
        refine gf_Q_17 (v := .ref (q + 1 + 1)) C dd_Q_perform_101 hP1_.1.1 rfl ?_
        refine z_iload C dd_Q_perform_104 rfl ?_
        refine z_iald (t0 := 0) (N := 4) (f := (I1 1)) C rfl dd_Q_perform_106 (hP1_.1.2 1 (by decide)) (vp_in_nI (by omega) (by decide)) ?_
        refine z_topi (y := nI 2) (by rw [nI_clamp (by omega)]; exact har1.symm) ?_
        refine z_goto (tgt := 111) C dd_Q_perform_107 (by decide) ?_
        refine z_istore C dd_Q_perform_111 rfl ?_
        refine z_aload_n C dd_Q_perform_113 rfl ?_
        refine gf_Q_115 (v := .ref (q + 1 + 33)) C dd_Q_perform_114 hP1_.1.1 rfl ?_
        refine z_iload_n C dd_Q_perform_117 rfl ?_
        refine z_iald (t0 := 0) (N := 9) (f := (I1 33)) C rfl dd_Q_perform_118 (hP1_.1.2 33 (by decide)) (vp_in_nI (by omega) (by decide)) ?_
        refine z_topi (y := nI ((u :: v :: t : List Nat).length)) (by rw [nI_clamp (by omega)]; exact A1.o.2.2.2.2.1.symm) ?_
        refine z_iload C dd_Q_perform_119 rfl ?_
        refine z_icmp_ge (tgt := 133) C dd_Q_perform_121 (by decide) (fun q79 => ?_) (fun q79 => ?_)
        · replace q79 : 2 ≤ ((u :: v :: t : List Nat).length) := (@nI_leI 2 ((u :: v :: t : List Nat).length) (by omega) (by omega)).mp q79
          refine z_iload_n C dd_Q_perform_133 rfl ?_
          refine z_if_ne (tgt := 152) C dd_Q_perform_134 (by decide) (fun q80 => ?_) (fun q80 => absurd q80 (by decide))
          refine z_iload_n C dd_Q_perform_152 rfl ?_
          refine z_iconst (v := 1) C dd_Q_perform_153 (by decide) ?_
          refine z_icmp_ne (tgt := 185) C dd_Q_perform_154 (by decide) (fun q81 => ?_) (fun q81 => absurd q81 (by decide))
          refine z_iload_n C dd_Q_perform_185 rfl ?_
          refine z_iconst (v := 4) C dd_Q_perform_186 (by decide) ?_
          refine z_icmp_ge (tgt := 284) C dd_Q_perform_187 (by decide) (fun q82 => ?_) (fun q82 => absurd (by decide) q82)
          refine z_iload_n C dd_Q_perform_284 rfl ?_
          refine z_iconst (v := 4) C dd_Q_perform_285 (by decide) ?_
          refine z_icmp_ne (tgt := 319) C dd_Q_perform_286 (by decide) (fun q83 => ?_) (fun q83 => absurd q83 (by decide))
          refine z_iload_n C dd_Q_perform_319 rfl ?_
          refine z_iconst (v := 5) C dd_Q_perform_320 (by decide) ?_
          refine z_icmp_ne (tgt := 368) C dd_Q_perform_321 (by decide) (fun q84 => absurd (by decide) q84) (fun q84 => ?_)
          refine z_aload_n C dd_Q_perform_324 rfl ?_
          refine gf_Q_115 (v := .ref (q + 1 + 33)) C dd_Q_perform_325 hP1_.1.1 rfl ?_
          refine z_iload_n C dd_Q_perform_328 rfl ?_
          refine z_aload_n C dd_Q_perform_329 rfl ?_
          refine gf_Q_115 (v := .ref (q + 1 + 33)) C dd_Q_perform_330 hP1_.1.1 rfl ?_
          refine z_iload_n C dd_Q_perform_333 rfl ?_
          refine z_iald (t0 := 0) (N := 9) (f := (I1 33)) C rfl dd_Q_perform_334 (hP1_.1.2 33 (by decide)) (vp_in_nI (by omega) (by decide)) ?_
          refine z_topi (y := nI ((u :: v :: t : List Nat).length)) (by rw [nI_clamp (by omega)]; exact A1.o.2.2.2.2.1.symm) ?_
          refine z_iload C dd_Q_perform_335 rfl ?_
          refine z_isub C dd_Q_perform_337 ?_
          refine z_topi (y := nI (((u :: v :: t : List Nat).length) - 2)) (by first | exact (@pk_sub ((u :: v :: t : List Nat).length) 2 (by omega)).symm | (rw [← pk_sub (a := ((u :: v :: t : List Nat).length)) (b := 2) (by omega)]; rfl)) ?_
          refine z_iast (t0 := 0) (N := 9) (f := (I1 33)) C rfl dd_Q_perform_338 (hP1_.1.2 33 (by decide)) (vp_in_nI (by omega) (by decide)) ?_
          refine z_cut (md_K dA F (md_is I1 33 (upd (I1 33) (Int32.toNatClampNeg (nI fs.length)) (nI (((u :: v :: t : List Nat).length) - 2)))) J q h) (md_wI hP1_ 33 (by decide) rfl) rfl rfl rfl (fun h20_ hP20_ => ?_)
          refine z_aload_n C dd_Q_perform_339 rfl ?_
          refine z_iload C dd_Q_perform_340 rfl ?_
          refine z_iconst (v := (-1)) C dd_Q_perform_342 (by decide) ?_
          refine z_aload_n C dd_Q_perform_343 rfl ?_
          refine gf_Q_118 (v := .ref (q + 1 + 34)) C dd_Q_perform_344 hP20_.1.1 rfl ?_
          refine z_iload C dd_Q_perform_347 rfl ?_
          refine z_iload C dd_Q_perform_349 rfl ?_
          refine z_isub C dd_Q_perform_351 ?_
          refine z_topi (y := nI ((6 * fs.length + (u :: v :: t : List Nat).length) - 2)) (by first | exact (@pk_sub (6 * fs.length + (u :: v :: t : List Nat).length) 2 (by omega)).symm | (rw [← pk_sub (a := (6 * fs.length + (u :: v :: t : List Nat).length)) (b := 2) (by omega)]; rfl)) ?_
          refine z_iald (t0 := 0) (N := 54) (f := (I1 34)) C rfl dd_Q_perform_352 (hP20_.1.2 34 (by decide)) (vp_in_nI (by omega) (by decide)) ?_
          refine z_topi (y := nI v) (by rw [nI_clamp (by omega)]; exact sv.symm) ?_
          refine z_aload_n C dd_Q_perform_353 rfl ?_
          refine gf_Q_118 (v := .ref (q + 1 + 34)) C dd_Q_perform_354 hP20_.1.1 rfl ?_
          refine z_iload C dd_Q_perform_357 rfl ?_
          refine z_iconst (v := 1) C dd_Q_perform_359 (by decide) ?_
          refine z_isub C dd_Q_perform_360 ?_
          refine z_topi (y := nI ((6 * fs.length + (u :: v :: t : List Nat).length) - 1)) (by first | exact (@pk_sub (6 * fs.length + (u :: v :: t : List Nat).length) 1 (by omega)).symm | (rw [← pk_sub (a := (6 * fs.length + (u :: v :: t : List Nat).length)) (b := 1) (by omega)]; rfl)) ?_
          refine z_iald (t0 := 0) (N := 54) (f := (I1 34)) C rfl dd_Q_perform_361 (hP20_.1.2 34 (by decide)) (vp_in_nI (by omega) (by decide)) ?_
          refine z_topi (y := nI u) (by rw [nI_clamp (by omega)]; exact su.symm) ?_
          rw [nI_clamp (n := fs.length) (by omega), show (u :: v :: t : List Nat).length - 2 = t.length by omega] at hP20_
          have A2 := A1.g (st' := t) A1.o.2.2.2.2.2.2.2 (by omega) (fun w hw => hsv9 w (by simp [hw]))
          refine iv_Q_245 (sk := fun _ => []) (zz_f B) C dd_Q_perform_362 (cc_Q_callC l D dA B _ _ q _ _ _ hP20_.1 F0 I0 nc ng nM W GS g9 2 v u fu th re (nI u) 0 _ hg9 har (by omega) hv8 ⟨hu8, fun z => absurd z (by decide), fun _ => rfl⟩ A2) hP20_.1.1 rfl rfl ⟨by decide, by decide⟩ (Nat.le_of_ble_eq_true rfl) ⟨by decide, by decide⟩ (fun _ => rfl) (fun _ h21_ n21_ p21_ => ?_)
          obtain ⟨rfl, F', I', w1, w2⟩ := p21_
          refine z_goto (tgt := 391) C dd_Q_perform_365 (by decide) ?_
          refine z_vret C dd_Q_perform_391 ⟨rfl, F', I', md_tr hP20_ w1, ?_⟩ (by decide) (by decide)
          unfold mq_do
          simp only [ecl, ear]
          exact w2
        · replace q79 : ¬ 2 ≤ ((u :: v :: t : List Nat).length) := fun z => q79 ((@nI_leI 2 ((u :: v :: t : List Nat).length) (by omega) (by omega)).mpr z)
          omega
  · skip
    obtain ⟨g9, hg9, ho⟩ := W.own m0 hm9
    obtain ⟨ar, har2, har⟩ := W.ar g9 hg9
    have eof : mq_of I0 m0 = g9 := by unfold mq_of; rw [ho, nI_clamp (by omega)]
    have ear : mq_ar I0 g9 = ar := by unfold mq_ar; rw [har, nI_clamp (by omega)]
    have ho1 : I1 2 m0 = nI g9 := by rw [A1.2.1 2 (by omega)]; exact ho
    refine z_iload_n C dd_Q_perform_72 rfl ?_
    refine z_iconst (v := 2) C dd_Q_perform_73 (by decide) ?_
    refine z_icmp_eq (tgt := 82) C dd_Q_perform_74 (by decide) (fun q85 => absurd q85 (by decide)) (fun q85 => ?_)
    refine z_iload_n C dd_Q_perform_77 rfl ?_
    refine z_iconst (v := 3) C dd_Q_perform_78 (by decide) ?_
    refine z_icmp_ne (tgt := 86) C dd_Q_perform_79 (by decide) (fun q86 => ?_) (fun q86 => absurd q86 (by decide))
    refine z_iload_n C dd_Q_perform_86 rfl ?_
    refine z_iconst (v := 4) C dd_Q_perform_87 (by decide) ?_
    refine z_icmp_ne (tgt := 95) C dd_Q_perform_88 (by decide) (fun q87 => ?_) (fun q87 => absurd q87 (by decide))
    refine z_iload_n C dd_Q_perform_95 rfl ?_
    refine z_iconst (v := 5) C dd_Q_perform_96 (by decide) ?_
    refine z_icmp_ne (tgt := 110) C dd_Q_perform_97 (by decide) (fun q88 => ?_) (fun q88 => absurd q88 (by decide))
    refine z_iconst (v := 0) C dd_Q_perform_110 (by decide) ?_
    refine z_istore C dd_Q_perform_111 rfl ?_
    refine z_aload_n C dd_Q_perform_113 rfl ?_
    refine gf_Q_115 (v := .ref (q + 1 + 33)) C dd_Q_perform_114 hP1_.1.1 rfl ?_
    refine z_iload_n C dd_Q_perform_117 rfl ?_
    refine z_iald (t0 := 0) (N := 9) (f := (I1 33)) C rfl dd_Q_perform_118 (hP1_.1.2 33 (by decide)) (vp_in_nI (by omega) (by decide)) ?_
    refine z_topi (y := nI st.length) (by rw [nI_clamp (by omega)]; exact A1.o.2.2.2.2.1.symm) ?_
    refine z_iload C dd_Q_perform_119 rfl ?_
    refine z_icmp_ge (tgt := 133) C dd_Q_perform_121 (by decide) (fun q89 => ?_) (fun q89 => ?_)
    · replace q89 : 0 ≤ st.length := (@nI_leI 0 st.length (by omega) (by omega)).mp q89
      refine z_iload_n C dd_Q_perform_133 rfl ?_
      refine z_if_ne (tgt := 152) C dd_Q_perform_134 (by decide) (fun q90 => ?_) (fun q90 => absurd q90 (by decide))
      refine z_iload_n C dd_Q_perform_152 rfl ?_
      refine z_iconst (v := 1) C dd_Q_perform_153 (by decide) ?_
      refine z_icmp_ne (tgt := 185) C dd_Q_perform_154 (by decide) (fun q91 => ?_) (fun q91 => absurd q91 (by decide))
      refine z_iload_n C dd_Q_perform_185 rfl ?_
      refine z_iconst (v := 4) C dd_Q_perform_186 (by decide) ?_
      refine z_icmp_ge (tgt := 284) C dd_Q_perform_187 (by decide) (fun q92 => ?_) (fun q92 => absurd (by decide) q92)
      refine z_iload_n C dd_Q_perform_284 rfl ?_
      refine z_iconst (v := 4) C dd_Q_perform_285 (by decide) ?_
      refine z_icmp_ne (tgt := 319) C dd_Q_perform_286 (by decide) (fun q93 => ?_) (fun q93 => absurd q93 (by decide))
      refine z_iload_n C dd_Q_perform_319 rfl ?_
      refine z_iconst (v := 5) C dd_Q_perform_320 (by decide) ?_
      refine z_icmp_ne (tgt := 368) C dd_Q_perform_321 (by decide) (fun q94 => ?_) (fun q94 => absurd q94 (by decide))
      refine z_aload_n C dd_Q_perform_368 rfl ?_
      refine z_aload_n C dd_Q_perform_369 rfl ?_
      refine gf_Q_20 (v := .ref (q + 1 + 2)) C dd_Q_perform_370 hP1_.1.1 rfl ?_
      refine z_iload_n C dd_Q_perform_373 rfl ?_
      refine z_iald (t0 := 0) (N := 12) (f := (I1 2)) C rfl dd_Q_perform_374 (hP1_.1.2 2 (by decide)) (vp_in_nI (by omega) (by decide)) ?_
      refine z_topi (y := nI g9) (by rw [nI_clamp (by omega)]; exact ho1.symm) ?_
      refine z_iload_n C dd_Q_perform_375 rfl ?_
      refine z_aload_n C dd_Q_perform_376 rfl ?_
      refine gf_Q_106 (v := .ref (q + 1 + 30)) C dd_Q_perform_377 hP1_.1.1 rfl ?_
      refine z_iload_n C dd_Q_perform_380 rfl ?_
      refine z_iald (t0 := 0) (N := 9) (f := (I1 30)) C rfl dd_Q_perform_381 (hP1_.1.2 30 (by decide)) (vp_in_nI (by omega) (by decide)) ?_
      refine z_topi (y := nI x0) (by rw [nI_clamp (by omega)]; exact A1.o.2.1.symm) ?_
      refine z_aload_n C dd_Q_perform_382 rfl ?_
      refine gf_Q_109 (v := .ref (q + 1 + 31)) C dd_Q_perform_383 hP1_.1.1 rfl ?_
      refine z_iload_n C dd_Q_perform_386 rfl ?_
      refine z_iald (t0 := 0) (N := 9) (f := (I1 31)) C rfl dd_Q_perform_387 (hP1_.1.2 31 (by decide)) (vp_in_nI (by omega) (by decide)) ?_
      refine z_topi (y := ((I1 31) fs.length)) (by rw [nI_clamp (by omega)]) ?_
      refine iv_Q_245 (sk := fun _ => []) (zz_f B) C dd_Q_perform_388 (cc_Q_callN l D dA B _ _ q _ _ _ hP1_.1 F0 I0 nc ng nM W GS g9 ar x0 y0 fu th re (I1 31 fs.length) 0 _ hg9 har har2 hx9 (by have z := A1.o.2.2.1; rw [eof, ear] at z; exact z) A1 m0 hm9 ho) hP1_.1.1 rfl rfl ⟨by decide, by decide⟩ (Nat.le_of_ble_eq_true rfl) ⟨by decide, by decide⟩ (fun _ => rfl) (fun _ h22_ n22_ p22_ => ?_)
      obtain ⟨rfl, F', I', w1, w2⟩ := p22_
      exact z_vret C dd_Q_perform_391 ⟨rfl, F', I', md_tr hP1_ w1, w2⟩ (by decide) (by decide)
    · replace q89 : ¬ 0 ≤ st.length := fun z => q89 ((@nI_leI 0 st.length (by omega) (by omega)).mpr z)
      omega
