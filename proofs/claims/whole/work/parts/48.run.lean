abbrev rm_Q_run : Room := { frames := 16, cells := 0, slots := 0, locals := 600 }
set_option maxRecDepth 20000 in
theorem lp_Q_run {D : va_G} {dA : Nat → ClassId} {B : Nat} {p : Program} {l : Launch} {e : Env} {s : State} {m : MethodId} {args : Array Value} {below : List Frame} {meth : Method} {c : Code} {Q : State → Prop} {n : Nat} {nm : String} {ret9 : Option FieldType} {h : zz_H} (C : zz_C D zz_cl (zz_ty dA) B zz_tb (zz_x B) p s m args meth c bb_Q_run RR_Q ret9 nm) {q : Nat} {F0 : Nat → Int32} {I0 : mq_M} {J : Nat → Nat → Int64} {nc ng nM : Nat} (W : pu_W F0 I0 nc ng nM) (GS : pu_gs I0 ng nM) (OW : pu_ow I0 nc ng nM) {g x y f9 : Int32} :
    ∀ k z (F : Nat → Int32) (I : mq_M) h9 o7, mq_mu z k → (∀ w, o7 = some w → w.category = 1) → mq_A F0 I0 nc ng nM F I z → md_K dA F I J q h h9 → (∀ h' F' I' o7, md_K dA F' I' J q h h' → mq_A F0 I0 nc ng nM F' I' (mq_go I0 nc nM k z) → zz_W D zz_cl B p l e rm_Q_run s m args below meth c Q h' n 0 0 [some (.ref q), some (.int g), some (.int x), some (.int y), some (.int f9), some (.int 1), some (.int (nI (mq_go I0 nc nM k z).2.2.2.2)), o7] 228 []) → zz_W D zz_cl B p l e rm_Q_run s m args below meth c Q h9 n 0 0 [some (.ref q), some (.int g), some (.int x), some (.int y), some (.int f9), some (.int 1), some (.int (nI z.2.2.2.2)), o7] 98 [] := by
  intro k
  have hg4 := W.g4
  have h12 := W.m12
  have h8 := W.c8
  have h1 := W.c1
  induction k with
  | zero =>
    intro z F I h9 o7 hmu hc7 A hP kx
    obtain ⟨fu, th, fs, en, re⟩ := z
    refine z_aload_n C dd_Q_run_98 rfl ?_
    refine gf_Q_231 (v := .int (F 36)) C dd_Q_run_99 hP.1.1 rfl ?_
    refine z_topi (y := nI fs.length) A.2.2.2.2.2.1.symm ?_
    have hl8 : fs.length ≤ 8 := A.2.2.2.2.2.2.2.2.2.1
    refine z_if_le (tgt := 228) C dd_Q_run_102 (by decide) (fun q1 => kx _ F I o7 hP A) (fun q1 => ?_)
    replace q1 : ¬ fs.length ≤ 0 := fun z => q1 ((@nI_leI fs.length 0 (by omega) (by omega)).mpr z)
    refine z_aload_n C dd_Q_run_105 rfl ?_
    refine gf_Q_228 (v := .int (F 45)) C dd_Q_run_106 hP.1.1 rfl ?_
    refine z_topi (y := en) A.2.2.2.2.2.2.1.symm ?_
    refine z_if_ne (tgt := 228) C dd_Q_run_109 (by decide) (fun q2 => kx _ F I o7 hP A) (fun q2 => ?_)
    rcases hmu with z | z
    · exact absurd q2 z
    · exact absurd z (by simp only []; omega)
  | succ k ih =>
    intro z F I h9 o7 hmu hc7 A hP kx
    obtain ⟨fu, th, fs, en, re⟩ := z
    refine z_aload_n C dd_Q_run_98 rfl ?_
    refine gf_Q_231 (v := .int (F 36)) C dd_Q_run_99 hP.1.1 rfl ?_
    refine z_topi (y := nI fs.length) A.2.2.2.2.2.1.symm ?_
    have hl8 : fs.length ≤ 8 := A.2.2.2.2.2.2.2.2.2.1
    have hf2 : fu ≤ 200 := A.2.2.2.2.2.2.2.2.1
    refine z_if_le (tgt := 228) C dd_Q_run_102 (by decide) (fun q1 => ?_) (fun q1 => ?_)
    · have q2 : fs.length ≤ 0 := (@nI_leI fs.length 0 (by omega) (by omega)).mp q1
      have e9 := mq_go_stop (I := I0) (nc := nc) (nM := nM) (z := (fu, th, fs, en, re)) (Or.inl (by simp only []; omega)) (k + 1)
      rw [e9] at kx
      exact kx _ F I o7 hP A
    replace q1 : ¬ fs.length ≤ 0 := fun z => q1 ((@nI_leI fs.length 0 (by omega) (by omega)).mpr z)
    refine z_aload_n C dd_Q_run_105 rfl ?_
    refine gf_Q_228 (v := .int (F 45)) C dd_Q_run_106 hP.1.1 rfl ?_
    refine z_topi (y := en) A.2.2.2.2.2.2.1.symm ?_
    refine z_if_ne (tgt := 228) C dd_Q_run_109 (by decide) (fun q2 => ?_) (fun q2 => ?_)
    · have e9 := mq_go_stop (I := I0) (nc := nc) (nM := nM) (z := (fu, th, fs, en, re)) (Or.inr q2) (k + 1)
      rw [e9] at kx
      exact kx _ F I o7 hP A
    have q3 := q2.symm
    subst q3
    rcases fs with _ | ⟨⟨m0, x0, y0, a, st⟩, fs⟩
    · exact absurd (Nat.le_refl 0) q1
    have hfs : ((m0, x0, y0, a, st) :: fs : List mq_F).length = fs.length + 1 := rfl
    have hmu9 : 2 * fu + (fs.length + 1) ≤ k + 1 := hmu.elim (fun z => absurd rfl z) id
    rw [mq_go, if_neg (show ¬ (((m0, x0, y0, a, st) :: fs : List mq_F).length = 0 ∨ ¬ (0 : Int32) = 0) by simp)] at kx
    obtain ⟨hm, hx, hy0, ha8, hs6, hsv⟩ := A.u
    have hm9 : m0 < nM := hm
    obtain ⟨ow1, ow2, ow3⟩ := OW m0 hm9
    have eno : I 8 m0 = nI (mq_no I0 m0) := by rw [A.2.1 8 (by omega)]; exact ow2
    have hs69 : st.length ≤ 6 := hs6
    have ha89 : a ≤ 8 := ha8
    have hsv9 : ∀ w : Nat, w ∈ st → w < 8 * nc := hsv
    have hx9 : x0 < 8 * nc := hx
    refine z_aload_n C dd_Q_run_112 rfl ?_
    refine gf_Q_231 (v := .int (F 36)) C dd_Q_run_113 hP.1.1 rfl ?_
    refine z_topi (y := nI (fs.length + 1)) A.2.2.2.2.2.1.symm ?_
    refine z_iconst (v := 1) C dd_Q_run_116 (by decide) ?_
    refine z_isub C dd_Q_run_117 ?_
    refine z_topi (y := nI fs.length) (nI_pred fs.length).symm ?_
    refine z_istore C dd_Q_run_118 rfl ?_
    refine z_aload_n C dd_Q_run_120 rfl ?_
    refine gf_Q_112 (v := .ref (q + 1 + 32)) C dd_Q_run_121 hP.1.1 rfl ?_
    refine z_iload C dd_Q_run_124 rfl ?_
    refine z_iald (t0 := 0) (N := 9) (f := (I 32)) C rfl dd_Q_run_126 (hP.1.2 32 (by decide)) (vp_in_nI (by omega) (by decide)) ?_
    refine z_topi (y := nI a) (by rw [nI_clamp (by omega)]; exact A.o.2.2.2.1.symm) ?_
    refine z_aload_n C dd_Q_run_127 rfl ?_
    refine gf_Q_39 (v := .ref (q + 1 + 8)) C dd_Q_run_128 hP.1.1 rfl ?_
    refine z_aload_n C dd_Q_run_131 rfl ?_
    refine gf_Q_103 (v := .ref (q + 1 + 29)) C dd_Q_run_132 hP.1.1 rfl ?_
    refine z_iload C dd_Q_run_135 rfl ?_
    refine z_iald (t0 := 0) (N := 9) (f := (I 29)) C rfl dd_Q_run_137 (hP.1.2 29 (by decide)) (vp_in_nI (by omega) (by decide)) ?_
    refine z_topi (y := nI m0) (by rw [nI_clamp (by omega)]; exact A.o.1.symm) ?_
    refine z_iald (t0 := 0) (N := 12) (f := (I 8)) C rfl dd_Q_run_138 (hP.1.2 8 (by decide)) (vp_in_nI (by omega) (by decide)) ?_
    refine z_topi (y := nI (mq_no I0 m0)) (by rw [nI_clamp (by omega)]; exact eno.symm) ?_
    refine z_icmp_ge (tgt := 156) C dd_Q_run_139 (by decide) (fun q1 => ?_) (fun q1 => ?_)
    · replace q1 : (mq_no I0 m0) ≤ a := (@nI_leI (mq_no I0 m0) a (by omega) (by omega)).mp q1
      refine z_aload_n C dd_Q_run_156 rfl ?_
      refine gf_Q_115 (v := .ref (q + 1 + 33)) C dd_Q_run_157 hP.1.1 rfl ?_
      refine z_iload C dd_Q_run_160 rfl ?_
      refine z_iald (t0 := 0) (N := 9) (f := (I 33)) C rfl dd_Q_run_162 (hP.1.2 33 (by decide)) (vp_in_nI (by omega) (by decide)) ?_
      refine z_topi (y := nI st.length) (by rw [nI_clamp (by omega)]; exact A.o.2.2.2.2.1.symm) ?_
      refine z_if_ne (tgt := 176) C dd_Q_run_163 (by decide) (fun q2 => ?_) (fun q2 => ?_)
      · replace q2 : ¬ st.length = 0 := fun z => q2 ((@nI_eq st.length 0 (by omega) (by omega)).mpr z)
        have es : I 34 (6 * fs.length + st.length - 1) = nI (st.headD x0) := by
          cases st with
          | nil => exact absurd rfl q2
          | cons v t => exact A.o.2.2.2.2.2.1
        refine z_aload_n C dd_Q_run_176 rfl ?_
        refine gf_Q_118 (v := .ref (q + 1 + 34)) C dd_Q_run_177 hP.1.1 rfl ?_
        refine z_bipush (v := 6) C dd_Q_run_180 (by decide) ?_
        refine z_iload C dd_Q_run_182 rfl ?_
        refine z_imul C dd_Q_run_184 ?_
        refine z_topi (y := nI (6 * fs.length)) (by first | exact (pk_mul _ _).symm | (rw [← pk_mul]; rfl)) ?_
        refine z_aload_n C dd_Q_run_185 rfl ?_
        refine gf_Q_115 (v := .ref (q + 1 + 33)) C dd_Q_run_186 hP.1.1 rfl ?_
        refine z_iload C dd_Q_run_189 rfl ?_
        refine z_iald (t0 := 0) (N := 9) (f := (I 33)) C rfl dd_Q_run_191 (hP.1.2 33 (by decide)) (vp_in_nI (by omega) (by decide)) ?_
        refine z_topi (y := nI st.length) (by rw [nI_clamp (by omega)]; exact A.o.2.2.2.2.1.symm) ?_
        refine z_iadd C dd_Q_run_192 ?_
        refine z_topi (y := nI ((6 * fs.length) + st.length)) (by first | exact (nI_add _ _).symm | (rw [← nI_add]; rfl)) ?_
        refine z_iconst (v := 1) C dd_Q_run_193 (by decide) ?_
        refine z_isub C dd_Q_run_194 ?_
        refine z_topi (y := nI (((6 * fs.length) + st.length) - 1)) (by first | exact (@pk_sub ((6 * fs.length) + st.length) 1 (by omega)).symm | (rw [← pk_sub (a := ((6 * fs.length) + st.length)) (b := 1) (by omega)]; rfl)) ?_
        refine z_iald (t0 := 0) (N := 54) (f := (I 34)) C rfl dd_Q_run_195 (hP.1.2 34 (by decide)) (vp_in_nI (by omega) (by decide)) ?_
        refine z_topi (y := nI (st.headD x0)) (by rw [nI_clamp (by omega)]; exact es.symm) ?_
        refine z_istore C dd_Q_run_196 rfl ?_
        refine z_aload_n C dd_Q_run_198 rfl ?_
        refine z_dup C dd_Q_run_199 rfl ?_
        refine gf_Q_231 (v := .int (F 36)) C dd_Q_run_200 hP.1.1 rfl ?_
        refine z_topi (y := nI (fs.length + 1)) A.2.2.2.2.2.1.symm ?_
        refine z_iconst (v := 1) C dd_Q_run_203 (by decide) ?_
        refine z_isub C dd_Q_run_204 ?_
        refine z_topi (y := nI fs.length) (nI_pred fs.length).symm ?_
        refine pf_Q_231 C dd_Q_run_205 hP.1.1 (Nat.le_of_ble_eq_true rfl) rfl rfl ?_
        refine z_cut (md_K dA (md_fs F 36 (nI fs.length)) I J q h) (md_wF hP rfl) rfl rfl rfl (fun h1_ hP1_ => ?_)
        have A2 := A.d (st.headD x0)
        have hv8 := mq_head_lt hx9 hsv9
        have qa : ¬ a < mq_no I0 m0 := by omega
        have es9 : mq_step I0 nc nM (fu, th, (m0, x0, y0, a, st) :: fs, 0, re) = mq_back (st.headD x0) fu th fs := by rw [mq_step, if_neg qa]
        rw [es9] at kx
        have hmu8 : mq_mu (mq_back (st.headD x0) fu th fs) k := mq_mu_le (mq_mu_back fs) (by omega)
        rcases fs with _ | ⟨⟨m1, x1, y1, a1, st1⟩, fs1⟩
        · skip
          refine z_aload_n C dd_Q_run_208 rfl ?_
          refine gf_Q_231 (v := .int (nI 0)) C dd_Q_run_209 hP1_.1.1 rfl ?_
          refine z_if_le (tgt := 225) C dd_Q_run_212 (by decide) (fun _ => ?_) (fun z => absurd (by decide) z)
          refine z_goto (tgt := 98) C dd_Q_run_225 (by decide) ?_
          exact ih (fu, th, [], 0, st.headD x0) _ _ _ _ hmu8 (fun w hw => by cases hw; rfl) A2 hP1_ kx
        · skip
          have hl1 : ((m1, x1, y1, a1, st1) :: fs1 : List mq_F).length = fs1.length + 1 := rfl
          refine z_aload_n C dd_Q_run_208 rfl ?_
          refine gf_Q_231 (v := .int (nI ((m1, x1, y1, a1, st1) :: fs1 : List mq_F).length)) C dd_Q_run_209 hP1_.1.1 rfl ?_
          refine z_if_le (tgt := 225) C dd_Q_run_212 (by decide) (fun z => absurd ((@nI_leI ((m1, x1, y1, a1, st1) :: fs1 : List mq_F).length 0 (by omega) (by omega)).mp z) (by omega)) (fun z => ?_)
          refine z_aload_n C dd_Q_run_215 rfl ?_
          refine z_iload C dd_Q_run_216 rfl ?_
          refine z_iconst (v := 1) C dd_Q_run_218 (by decide) ?_
          refine z_isub C dd_Q_run_219 ?_
          refine z_topi (y := nI fs1.length) (nI_pred fs1.length).symm ?_
          refine z_iload C dd_Q_run_220 rfl ?_
          refine iv_Q_241 (sk := fun _ => []) (zz_f B) C dd_Q_run_222 (cc_Q_push l D dA B _ _ q _ _ _ hP1_.1 fs1.length st1.length (by omega) A2.u.2.2.2.2.1 A2.o.2.2.2.2.1 (nI (st.headD x0))) hP1_.1.1 rfl rfl ⟨by decide, by decide⟩ (Nat.le_of_ble_eq_true rfl) ⟨by decide, by decide⟩ (fun _ => rfl) (fun _ h2_ n2_ p2_ => ?_)
          obtain ⟨rfl, p2_⟩ := p2_
          obtain ⟨F', I', w1, w2⟩ := mq_push_ok A2 (v := st.headD x0) hv8 p2_
          have hP2_ := md_tr hP1_ w1
          have er9 : (mq_push (st.headD x0) fu th m1 x1 y1 a1 st1 fs1 (st.headD x0)).2.2.2.2 = st.headD x0 := mq_push_re
          refine z_goto (tgt := 98) C dd_Q_run_225 (by decide) ?_
          have ih9 := ih (mq_push (st.headD x0) fu th m1 x1 y1 a1 st1 fs1 (st.headD x0)) _ _ _ (some (.int (nI ((m1, x1, y1, a1, st1) :: fs1 : List mq_F).length))) hmu8 (fun w hw => by cases hw; rfl) w2 hP2_ kx
          rw [er9] at ih9
          exact ih9
      · replace q2 : st.length = 0 := (@nI_eq st.length 0 (by omega) (by omega)).mp q2
        refine z_aload_n C dd_Q_run_166 rfl ?_
        refine gf_Q_106 (v := .ref (q + 1 + 30)) C dd_Q_run_167 hP.1.1 rfl ?_
        refine z_iload C dd_Q_run_170 rfl ?_
        refine z_iald (t0 := 0) (N := 9) (f := (I 30)) C rfl dd_Q_run_172 (hP.1.2 30 (by decide)) (vp_in_nI (by omega) (by decide)) ?_
        refine z_topi (y := nI x0) (by rw [nI_clamp (by omega)]; exact A.o.2.1.symm) ?_
        refine z_goto (tgt := 196) C dd_Q_run_173 (by decide) ?_
        refine z_topi (y := nI (st.headD x0)) (by cases st with | nil => rfl | cons v t => exact absurd q2 (by simp)) ?_
        refine z_istore C dd_Q_run_196 rfl ?_
        refine z_aload_n C dd_Q_run_198 rfl ?_
        refine z_dup C dd_Q_run_199 rfl ?_
        refine gf_Q_231 (v := .int (F 36)) C dd_Q_run_200 hP.1.1 rfl ?_
        refine z_topi (y := nI (fs.length + 1)) A.2.2.2.2.2.1.symm ?_
        refine z_iconst (v := 1) C dd_Q_run_203 (by decide) ?_
        refine z_isub C dd_Q_run_204 ?_
        refine z_topi (y := nI fs.length) (nI_pred fs.length).symm ?_
        refine pf_Q_231 C dd_Q_run_205 hP.1.1 (Nat.le_of_ble_eq_true rfl) rfl rfl ?_
        refine z_cut (md_K dA (md_fs F 36 (nI fs.length)) I J q h) (md_wF hP rfl) rfl rfl rfl (fun h3_ hP3_ => ?_)
        have A2 := A.d (st.headD x0)
        have hv8 := mq_head_lt hx9 hsv9
        have qa : ¬ a < mq_no I0 m0 := by omega
        have es9 : mq_step I0 nc nM (fu, th, (m0, x0, y0, a, st) :: fs, 0, re) = mq_back (st.headD x0) fu th fs := by rw [mq_step, if_neg qa]
        rw [es9] at kx
        have hmu8 : mq_mu (mq_back (st.headD x0) fu th fs) k := mq_mu_le (mq_mu_back fs) (by omega)
        rcases fs with _ | ⟨⟨m1, x1, y1, a1, st1⟩, fs1⟩
        · skip
          refine z_aload_n C dd_Q_run_208 rfl ?_
          refine gf_Q_231 (v := .int (nI 0)) C dd_Q_run_209 hP3_.1.1 rfl ?_
          refine z_if_le (tgt := 225) C dd_Q_run_212 (by decide) (fun _ => ?_) (fun z => absurd (by decide) z)
          refine z_goto (tgt := 98) C dd_Q_run_225 (by decide) ?_
          exact ih (fu, th, [], 0, st.headD x0) _ _ _ _ hmu8 (fun w hw => by cases hw; rfl) A2 hP3_ kx
        · skip
          have hl1 : ((m1, x1, y1, a1, st1) :: fs1 : List mq_F).length = fs1.length + 1 := rfl
          refine z_aload_n C dd_Q_run_208 rfl ?_
          refine gf_Q_231 (v := .int (nI ((m1, x1, y1, a1, st1) :: fs1 : List mq_F).length)) C dd_Q_run_209 hP3_.1.1 rfl ?_
          refine z_if_le (tgt := 225) C dd_Q_run_212 (by decide) (fun z => absurd ((@nI_leI ((m1, x1, y1, a1, st1) :: fs1 : List mq_F).length 0 (by omega) (by omega)).mp z) (by omega)) (fun z => ?_)
          refine z_aload_n C dd_Q_run_215 rfl ?_
          refine z_iload C dd_Q_run_216 rfl ?_
          refine z_iconst (v := 1) C dd_Q_run_218 (by decide) ?_
          refine z_isub C dd_Q_run_219 ?_
          refine z_topi (y := nI fs1.length) (nI_pred fs1.length).symm ?_
          refine z_iload C dd_Q_run_220 rfl ?_
          refine iv_Q_241 (sk := fun _ => []) (zz_f B) C dd_Q_run_222 (cc_Q_push l D dA B _ _ q _ _ _ hP3_.1 fs1.length st1.length (by omega) A2.u.2.2.2.2.1 A2.o.2.2.2.2.1 (nI (st.headD x0))) hP3_.1.1 rfl rfl ⟨by decide, by decide⟩ (Nat.le_of_ble_eq_true rfl) ⟨by decide, by decide⟩ (fun _ => rfl) (fun _ h4_ n4_ p4_ => ?_)
          obtain ⟨rfl, p4_⟩ := p4_
          obtain ⟨F', I', w1, w2⟩ := mq_push_ok A2 (v := st.headD x0) hv8 p4_
          have hP4_ := md_tr hP3_ w1
          have er9 : (mq_push (st.headD x0) fu th m1 x1 y1 a1 st1 fs1 (st.headD x0)).2.2.2.2 = st.headD x0 := mq_push_re
          refine z_goto (tgt := 98) C dd_Q_run_225 (by decide) ?_
          have ih9 := ih (mq_push (st.headD x0) fu th m1 x1 y1 a1 st1 fs1 (st.headD x0)) _ _ _ (some (.int (nI ((m1, x1, y1, a1, st1) :: fs1 : List mq_F).length))) hmu8 (fun w hw => by cases hw; rfl) w2 hP4_ kx
          rw [er9] at ih9
          exact ih9
    · replace q1 : ¬ (mq_no I0 m0) ≤ a := fun z => q1 ((@nI_leI (mq_no I0 m0) a (by omega) (by omega)).mpr z)
      refine z_aload_n C dd_Q_run_142 rfl ?_
      refine iv_Q_234 (sk := fun r => .int r :: []) (zz_f B) C dd_Q_run_143 (cn_Q_spends l D dA B _ _ q _ _ _ hP.1 fu hf2 A.2.2.2.1) hP.1.1 rfl rfl ⟨by decide, by decide⟩ (Nat.le_of_ble_eq_true rfl) ⟨by decide, by decide⟩ (fun _ => rfl) (fun v5_ h5_ n5_ p5_ => ?_)
      have qa : a < mq_no I0 m0 := by omega
      obtain ⟨rfl, p5_⟩ := p5_
      rcases p5_ with ⟨z1, rfl, m5_⟩ | ⟨z1, rfl, m5_⟩
      · skip
        have hP5_ := md_tr hP m5_
        have es9 : mq_step I0 nc nM (fu, th, (m0, x0, y0, a, st) :: fs, 0, re) = (0, th, (m0, x0, y0, a, st) :: fs, -3, re) := by rw [mq_step, if_pos qa, if_pos z1]
        rw [es9] at kx
        refine z_if_eq (tgt := 225) C dd_Q_run_146 (by decide) (fun q3 => ?_) (fun q3 => absurd (by decide) q3)
        refine z_goto (tgt := 98) C dd_Q_run_225 (by decide) ?_
        exact ih (0, th, (m0, x0, y0, a, st) :: fs, -3, re) _ _ _ _ (Or.inl (show ¬ (-3 : Int32) = 0 by decide)) (fun w hw => by cases hw; rfl) (A.s (-3) 0 (by decide)) hP5_ kx
      · skip
        have hP5_ := md_tr hP m5_
        have A1 := A.s 0 (fu - 1) (by omega)
        refine z_if_eq (tgt := 225) C dd_Q_run_146 (by decide) (fun q4 => absurd q4 (by decide)) (fun q4 => ?_)
        refine z_aload_n C dd_Q_run_149 rfl ?_
        refine iv_Q_249 (sk := fun _ => []) (zz_f B) C dd_Q_run_150 (cc_Q_perform l D dA B _ _ q _ _ _ hP5_.1 F0 I0 nc ng nM W GS OW (fu - 1) th m0 x0 y0 a re st fs A1 qa) hP5_.1.1 rfl rfl ⟨by decide, by decide⟩ (Nat.le_of_ble_eq_true rfl) ⟨by decide, by decide⟩ (fun _ => rfl) (fun _ h6_ n6_ p6_ => ?_)
        obtain ⟨rfl, F', I', w1, w2⟩ := p6_
        have hP6_ := md_tr hP5_ w1
        have es9 : mq_step I0 nc nM (fu, th, (m0, x0, y0, a, st) :: fs, 0, re) = (mq_do I0 nc nM (mq_kd I0 m0 a) (I0 10 (8 * m0 + a)) (fu - 1) th m0 x0 y0 (a + 1) st fs re) := by rw [mq_step, if_pos qa, if_neg (by omega)]
        rw [es9] at kx
        have er9 : (mq_do I0 nc nM (mq_kd I0 m0 a) (I0 10 (8 * m0 + a)) (fu - 1) th m0 x0 y0 (a + 1) st fs re).2.2.2.2 = re := mq_do_re
        refine z_goto (tgt := 225) C dd_Q_run_153 (by decide) ?_
        refine z_goto (tgt := 98) C dd_Q_run_225 (by decide) ?_
        have ih9 := ih (mq_do I0 nc nM (mq_kd I0 m0 a) (I0 10 (8 * m0 + a)) (fu - 1) th m0 x0 y0 (a + 1) st fs re) _ _ _ (some (.int (nI fs.length))) (mq_mu_le mq_mu_do (by omega)) (fun w hw => by cases hw; rfl) w2 hP6_ kx
        rw [er9] at ih9
        exact ih9
set_option maxRecDepth 20000 in
theorem lpr_Q_run {D : va_G} {dA : Nat → ClassId} {B : Nat} {p : Program} {l : Launch} {e : Env} {s : State} {m : MethodId} {args : Array Value} {below : List Frame} {meth : Method} {c : Code} {Q : State → Prop} {n : Nat} {nm : String} {ret9 : Option FieldType} {h : zz_H} (C : zz_C D zz_cl (zz_ty dA) B zz_tb (zz_x B) p s m args meth c bb_Q_run RR_Q ret9 nm) {q : Nat} {F0 : Nat → Int32} {I0 : mq_M} {J : Nat → Nat → Int64} {nc ng nM : Nat} (W : pu_W F0 I0 nc ng nM) (GS : pu_gs I0 ng nM) (OW : pu_ow I0 nc ng nM) {g x y f9 : Int32} (k : Nat) (z : mq_S) (F : Nat → Int32) (I : mq_M) {h9 : zz_H} (o7 : Option Value) (re0 : Nat) (er : z.2.2.2.2 = re0) (hmu : mq_mu z k) (hc : ∀ w, o7 = some w → w.category = 1) (A : mq_A F0 I0 nc ng nM F I z) (hP : md_K dA F I J q h h9) (kx : ∀ h' F' I' o7, md_K dA F' I' J q h h' → mq_A F0 I0 nc ng nM F' I' (mq_go I0 nc nM k z) → zz_W D zz_cl B p l e rm_Q_run s m args below meth c Q h' n 0 0 [some (.ref q), some (.int g), some (.int x), some (.int y), some (.int f9), some (.int 1), some (.int (nI (mq_go I0 nc nM k z).2.2.2.2)), o7] 228 []) : zz_W D zz_cl B p l e rm_Q_run s m args below meth c Q h9 n 0 0 [some (.ref q), some (.int g), some (.int x), some (.int y), some (.int f9), some (.int 1), some (.int (nI re0)), o7] 98 [] := by
  subst er
  exact lp_Q_run C W GS OW k z F I h9 o7 hmu hc A hP kx
set_option maxRecDepth 20000 in
/-- run -/
theorem cc_Q_run (l : Launch) (D : va_G) (dA : Nat → ClassId) (B : Nat) (h : zz_H) (n : Nat) (q : Nat) (F : Nat → Int32) (I : Nat → Nat → Int32) (J : Nat → Nat → Int64) (hP0 : md_P dA F I J q h) (nc ng nM : Nat) (W : pu_W F I nc ng nM) (GS : pu_gs I ng nM) (OW : pu_ow I nc ng nM) (KN : pu_kn I nc ng nM) (g x y f9 : Int32) : zz_M l D zz_cl (zz_ty dA) B zz_tb (zz_x B) yy_Q_run (Cond.code yy_Q_run bb_Q_run 8 (some FieldType.int)) rm_Q_run [.ref q, .int g, .int x, .int y, .int f9] h n zz_mi (fun r h' n' => n' = n ∧ ((r = 0 ∧ md_K dA (md_fs F 0 1) I J q h h' ∧ ∀ g0 ar x0 y0 f0, ¬ (pu_row I nc ng g x y g0 ar x0 y0 ∧ f0 ≤ 200 ∧ f9 = nI f0)) ∨ ∃ g0 ar x0 y0 f0, (pu_row I nc ng g x y g0 ar x0 y0 ∧ f0 ≤ 200 ∧ f9 = nI f0) ∧ ∃ F' I', md_K dA F' I' J q h h' ∧ mq_A (md_fs F 0 0) I nc ng nM F' I' (mq_go I nc nM 409 (mq_enter (mq_ch I nc nM g0 x0 y0) x0 y0 f0 0 [] 0)) ∧ r = if (mq_go I nc nM 409 (mq_enter (mq_ch I nc nM g0 x0 y0) x0 y0 f0 0 [] 0)).2.2.2.1 < 0 then (mq_go I nc nM 409 (mq_enter (mq_ch I nc nM g0 x0 y0) x0 y0 f0 0 [] 0)).2.2.2.1 else nI (mq_go I nc nM 409 (mq_enter (mq_ch I nc nM g0 x0 y0) x0 y0 f0 0 [] 0)).2.2.2.2)) := by
  refine zz_ofW (zz_f B) [some (.ref q), some (.int g), some (.int x), some (.int y), some (.int f9), none, none, none] (by decide) rfl rfl (Nat.le_of_ble_eq_true rfl) ?_
  intro p e s m below meth c C
  have hg4 := W.g4
  have h12 := W.m12
  have h8 := W.c8
  have h1 := W.c1
  have hP := md_rf hP0
  refine z_iload_n C dd_Q_run_0 rfl ?_
  refine z_iconst (v := 0) C dd_Q_run_1 (by decide) ?_
  refine z_aload_n C dd_Q_run_2 rfl ?_
  refine gf_Q_135 (v := .int (F 3)) C dd_Q_run_3 hP.1.1 rfl ?_
  refine z_topi (y := nI ng) W.fg.symm ?_
  refine z_iconst (v := 1) C dd_Q_run_6 (by decide) ?_
  refine z_isub C dd_Q_run_7 ?_
  refine is_Q_127 (sk := fun r => .int r :: []) (zz_f B) C dd_Q_run_8 (cn_Q_in l D dA B _ _ _ _ _) rfl rfl ⟨by decide, by decide⟩ (Nat.le_of_ble_eq_true rfl) ⟨by decide, by decide⟩ (fun _ => rfl) (fun v1_ h1_ n1_ p1_ => ?_)
  obtain ⟨e1_, f1_, rfl⟩ := p1_
  have e1z := e1_.symm
  have f1z := f1_.symm
  subst e1z
  subst f1z
  refine z_if_eq (tgt := 30) C dd_Q_run_11 (by decide) (fun q1 => ?_) (fun q1 => ?_)
  · skip
    refine z_iconst (v := 0) C dd_Q_run_30 (by decide) ?_
    refine z_istore C dd_Q_run_31 rfl ?_
    refine z_aload_n C dd_Q_run_33 rfl ?_
    refine z_iload C dd_Q_run_34 rfl ?_
    refine z_if_eq (tgt := 53) C dd_Q_run_36 (by decide) (fun q2 => ?_) (fun q2 => absurd (by decide) q2)
    refine z_iconst (v := 1) C dd_Q_run_53 (by decide) ?_
    refine pf_Q_121 C dd_Q_run_54 hP.1.1 (Nat.le_of_ble_eq_true rfl) rfl rfl ?_
    refine z_cut (md_K dA (md_fs F 0 1) I J q h) (md_wF hP rfl) rfl rfl rfl (fun h2_ hP2_ => ?_)
    refine z_aload_n C dd_Q_run_57 rfl ?_
    refine gf_Q_121 (v := .int 1) C dd_Q_run_58 hP2_.1.1 rfl ?_
    refine z_if_le (tgt := 66) C dd_Q_run_61 (by decide) (fun q3 => absurd q3 (by decide)) (fun q3 => ?_)
    refine z_iconst (v := 0) C dd_Q_run_64 (by decide) ?_
    exact z_iret C dd_Q_run_65 ⟨rfl, Or.inl ⟨rfl, hP2_, fun g0 ar x0 y0 f0 z => absurd ((pu_iv_0 (by omega)).mpr ⟨g0, z.1.1, z.1.2.1⟩) (by rw [((pu_b0 _).mp q1)]; decide)⟩⟩ (by decide) (by decide)
  · skip
    obtain ⟨g0, hg0, rfl⟩ := (pu_iv_0 (by omega)).mp (pu_bn1.mp q1)
    obtain ⟨ar, har2, har⟩ := W.ar g0 hg0
    refine z_iload C dd_Q_run_14 rfl ?_
    refine z_iconst (v := 0) C dd_Q_run_16 (by decide) ?_
    refine z_sipush (v := 200) C dd_Q_run_17 (by decide) ?_
    refine is_Q_127 (sk := fun r => .int r :: []) (zz_f B) C dd_Q_run_20 (cn_Q_in l D dA B _ _ _ _ _) rfl rfl ⟨by decide, by decide⟩ (Nat.le_of_ble_eq_true rfl) ⟨by decide, by decide⟩ (fun _ => rfl) (fun v3_ h3_ n3_ p3_ => ?_)
    obtain ⟨e3_, f3_, rfl⟩ := p3_
    have e3z := e3_.symm
    have f3z := f3_.symm
    subst e3z
    subst f3z
    refine z_if_eq (tgt := 30) C dd_Q_run_23 (by decide) (fun q4 => ?_) (fun q4 => ?_)
    · skip
      refine z_iconst (v := 0) C dd_Q_run_30 (by decide) ?_
      refine z_istore C dd_Q_run_31 rfl ?_
      refine z_aload_n C dd_Q_run_33 rfl ?_
      refine z_iload C dd_Q_run_34 rfl ?_
      refine z_if_eq (tgt := 53) C dd_Q_run_36 (by decide) (fun q5 => ?_) (fun q5 => absurd (by decide) q5)
      refine z_iconst (v := 1) C dd_Q_run_53 (by decide) ?_
      refine pf_Q_121 C dd_Q_run_54 hP.1.1 (Nat.le_of_ble_eq_true rfl) rfl rfl ?_
      refine z_cut (md_K dA (md_fs F 0 1) I J q h) (md_wF hP rfl) rfl rfl rfl (fun h4_ hP4_ => ?_)
      refine z_aload_n C dd_Q_run_57 rfl ?_
      refine gf_Q_121 (v := .int 1) C dd_Q_run_58 hP4_.1.1 rfl ?_
      refine z_if_le (tgt := 66) C dd_Q_run_61 (by decide) (fun q6 => absurd q6 (by decide)) (fun q6 => ?_)
      refine z_iconst (v := 0) C dd_Q_run_64 (by decide) ?_
      exact z_iret C dd_Q_run_65 ⟨rfl, Or.inl ⟨rfl, hP4_, fun g0 ar x0 y0 f0 z => absurd (pu_iv_200.mpr ⟨f0, z.2⟩) (by rw [((pu_b0 _).mp q4)]; decide)⟩⟩ (by decide) (by decide)
    · skip
      refine z_iconst (v := 1) C dd_Q_run_26 (by decide) ?_
      refine z_goto (tgt := 31) C dd_Q_run_27 (by decide) ?_
      refine z_istore C dd_Q_run_31 rfl ?_
      refine z_aload_n C dd_Q_run_33 rfl ?_
      refine z_iload C dd_Q_run_34 rfl ?_
      refine z_if_eq (tgt := 53) C dd_Q_run_36 (by decide) (fun q7 => absurd q7 (by decide)) (fun q7 => ?_)
      refine z_aload_n C dd_Q_run_39 rfl ?_
      refine z_iload_n C dd_Q_run_40 rfl ?_
      refine z_iload_n C dd_Q_run_41 rfl ?_
      refine z_iload_n C dd_Q_run_42 rfl ?_
      refine iv_Q_176 (sk := fun r => .int r :: [.ref q]) (zz_f B) C dd_Q_run_43 (cn_Q_isRow l D dA B _ _ q _ I J hP.1 nc ng nM W g0 ar hg0 har har2 x y) hP.1.1 rfl rfl ⟨by decide, by decide⟩ (Nat.le_of_ble_eq_true rfl) ⟨by decide, by decide⟩ (fun _ => rfl) (fun v5_ h5_ n5_ p5_ => ?_)
      obtain ⟨e5_, f5_, rfl⟩ := p5_
      have e5z := e5_.symm
      have f5z := f5_.symm
      subst e5z
      subst f5z
      refine z_if_eq (tgt := 53) C dd_Q_run_46 (by decide) (fun q8 => ?_) (fun q8 => ?_)
      · skip
        refine z_iconst (v := 1) C dd_Q_run_53 (by decide) ?_
        refine pf_Q_121 C dd_Q_run_54 hP.1.1 (Nat.le_of_ble_eq_true rfl) rfl rfl ?_
        refine z_cut (md_K dA (md_fs F 0 1) I J q h) (md_wF hP rfl) rfl rfl rfl (fun h6_ hP6_ => ?_)
        refine z_aload_n C dd_Q_run_57 rfl ?_
        refine gf_Q_121 (v := .int 1) C dd_Q_run_58 hP6_.1.1 rfl ?_
        refine z_if_le (tgt := 66) C dd_Q_run_61 (by decide) (fun q9 => absurd q9 (by decide)) (fun q9 => ?_)
        refine z_iconst (v := 0) C dd_Q_run_64 (by decide) ?_
        exact z_iret C dd_Q_run_65 ⟨rfl, Or.inl ⟨rfl, hP6_, fun g0 ar x0 y0 f0 z => pu_norow W hg0 har har2 ((pu_b0 _).mp q8) g0 ar x0 y0 z.1⟩⟩ (by decide) (by decide)
      · skip
        refine z_iconst (v := 0) C dd_Q_run_49 (by decide) ?_
        refine z_goto (tgt := 54) C dd_Q_run_50 (by decide) ?_
        refine pf_Q_121 C dd_Q_run_54 hP.1.1 (Nat.le_of_ble_eq_true rfl) rfl rfl ?_
        refine z_cut (md_K dA (md_fs F 0 0) I J q h) (md_wF hP rfl) rfl rfl rfl (fun h7_ hP7_ => ?_)
        refine z_aload_n C dd_Q_run_57 rfl ?_
        refine gf_Q_121 (v := .int 0) C dd_Q_run_58 hP7_.1.1 rfl ?_
        refine z_if_le (tgt := 66) C dd_Q_run_61 (by decide) (fun q10 => ?_) (fun q10 => absurd (by decide) q10)
        obtain ⟨x0, y0, hx0, rfl, hy⟩ := (pu_ir_t h1 h8 har2).mp (pu_bn1.mp q8)
        obtain ⟨f0, hf0, rfl⟩ := (pu_iv_200).mp (pu_bn1.mp q4)
        refine z_aload_n C dd_Q_run_66 rfl ?_
        refine z_iload C dd_Q_run_67 rfl ?_
        refine pf_Q_225 C dd_Q_run_69 hP7_.1.1 (Nat.le_of_ble_eq_true rfl) rfl rfl ?_
        refine z_cut (md_K dA (md_fs (md_fs F 0 0) 43 (nI f0)) I J q h) (md_wF hP7_ rfl) rfl rfl rfl (fun h8_ hP8_ => ?_)
        refine z_aload_n C dd_Q_run_72 rfl ?_
        refine z_iconst (v := 0) C dd_Q_run_73 (by decide) ?_
        refine pf_Q_222 C dd_Q_run_74 hP8_.1.1 (Nat.le_of_ble_eq_true rfl) rfl rfl ?_
        refine z_cut (md_K dA (md_fs (md_fs (md_fs F 0 0) 43 (nI f0)) 44 0) I J q h) (md_wF hP8_ rfl) rfl rfl rfl (fun h9_ hP9_ => ?_)
        refine z_aload_n C dd_Q_run_77 rfl ?_
        refine z_iconst (v := 0) C dd_Q_run_78 (by decide) ?_
        refine pf_Q_228 C dd_Q_run_79 hP9_.1.1 (Nat.le_of_ble_eq_true rfl) rfl rfl ?_
        refine z_cut (md_K dA (md_fs (md_fs (md_fs (md_fs F 0 0) 43 (nI f0)) 44 0) 45 0) I J q h) (md_wF hP9_ rfl) rfl rfl rfl (fun h10_ hP10_ => ?_)
        refine z_aload_n C dd_Q_run_82 rfl ?_
        refine z_iconst (v := 0) C dd_Q_run_83 (by decide) ?_
        refine pf_Q_231 C dd_Q_run_84 hP10_.1.1 (Nat.le_of_ble_eq_true rfl) rfl rfl ?_
        refine z_cut (md_K dA (md_fs (md_fs (md_fs (md_fs (md_fs F 0 0) 43 (nI f0)) 44 0) 45 0) 36 0) I J q h) (md_wF hP10_ rfl) rfl rfl rfl (fun h11_ hP11_ => ?_)
        refine z_iconst (v := 0) C dd_Q_run_87 (by decide) ?_
        refine z_istore C dd_Q_run_88 rfl ?_
        have W9 : pu_W (md_fs F 0 0) I nc ng nM := pu_W_f W (by decide)
        have A0 : mq_A (md_fs F 0 0) I nc ng nM (md_fs (md_fs (md_fs (md_fs (md_fs F 0 0) 43 (nI f0)) 44 0) 45 0) 36 0) I (f0, 0, [], 0, 0) := ⟨fun k h1 h2 h3 h4 => by unfold md_fs; simp [h1, h2, h3, h4], fun k hk => rfl, KN, rfl, rfl, rfl, rfl, trivial, hf0, Nat.zero_le 8, fun f hf => by cases hf⟩
        refine z_aload_n C dd_Q_run_90 rfl ?_
        refine z_iload_n C dd_Q_run_91 rfl ?_
        refine z_iconst (v := (-1)) C dd_Q_run_92 (by decide) ?_
        refine z_iload_n C dd_Q_run_93 rfl ?_
        refine z_iload_n C dd_Q_run_94 rfl ?_
        refine iv_Q_245 (sk := fun _ => []) (zz_f B) C dd_Q_run_95 (cc_Q_callC l D dA B _ _ q _ _ _ hP11_.1 (md_fs F 0 0) I nc ng nM W9 GS g0 ar x0 y0 f0 0 0 y 0 [] hg0 har har2 hx0 hy A0) hP11_.1.1 rfl rfl ⟨by decide, by decide⟩ (Nat.le_of_ble_eq_true rfl) ⟨by decide, by decide⟩ (fun _ => rfl) (fun _ h12_ n12_ p12_ => ?_)
        obtain ⟨rfl, F1, I1, w1, w2⟩ := p12_
        have hP12_ := md_tr hP11_ w1
        have er0 : (mq_enter (mq_ch I nc nM g0 x0 y0) x0 y0 f0 0 [] 0).2.2.2.2 = 0 := mq_enter_re
        refine lpr_Q_run (h := h) (J := J) (g := nI g0) (x := nI x0) (y := y) (f9 := nI f0) C W9 GS OW 409 (mq_enter (mq_ch I nc nM g0 x0 y0) x0 y0 f0 0 [] 0) F1 I1 none 0 er0 (mq_mu_le mq_mu_enter (by simp; omega)) (fun w hw => by cases hw) w2 hP12_ (fun h' F' I' o7 v1 v2 => ?_)
        refine z_aload_n C dd_Q_run_228 rfl ?_
        refine gf_Q_228 (v := .int (F' 45)) C dd_Q_run_229 v1.1.1 rfl ?_
        refine z_topi (y := (mq_go I nc nM 409 (mq_enter (mq_ch I nc nM g0 x0 y0) x0 y0 f0 0 [] 0)).2.2.2.1) v2.2.2.2.2.2.2.1.symm ?_
        refine z_if_ge (tgt := 242) C dd_Q_run_232 (by decide) (fun z => ?_) (fun z => ?_)
        · refine z_iload C dd_Q_run_242 rfl ?_
          exact z_iret C dd_Q_run_244 ⟨rfl, Or.inr ⟨g0, ar, x0, y0, f0, ⟨⟨hg0, rfl, har2, har, hx0, rfl, hy⟩, hf0, rfl⟩, F', I', v1, v2, (if_neg (Int32.not_lt.mpr z)).symm⟩⟩ (by decide) (by decide)
        · refine z_aload_n C dd_Q_run_235 rfl ?_
          refine gf_Q_228 (v := .int (F' 45)) C dd_Q_run_236 v1.1.1 rfl ?_
          refine z_topi (y := (mq_go I nc nM 409 (mq_enter (mq_ch I nc nM g0 x0 y0) x0 y0 f0 0 [] 0)).2.2.2.1) v2.2.2.2.2.2.2.1.symm ?_
          refine z_goto (tgt := 244) C dd_Q_run_239 (by decide) ?_
          exact z_iret C dd_Q_run_244 ⟨rfl, Or.inr ⟨g0, ar, x0, y0, f0, ⟨⟨hg0, rfl, har2, har, hx0, rfl, hy⟩, hf0, rfl⟩, F', I', v1, v2, (if_pos (Int32.not_le.mp z)).symm⟩⟩ (by decide) (by decide)
