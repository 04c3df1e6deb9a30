theorem md_fid {F : Nat → Int32} {k : Nat} {v : Int32} (e : F k = v) : F = md_fs F k v := by
  funext j
  unfold md_fs
  split
  · rename_i z
    rw [z, e]
  · rfl
set_option maxRecDepth 20000 in
/-- choose -/
theorem cc_Q_choose (l : Launch) (D : va_G) (dA : Nat → ClassId) (B : Nat) (h : zz_H) (n : Nat) (q : Nat) (F : Nat → Int32) (I : Nat → Nat → Int32) (J : Nat → Nat → Int64) (hP0 : md_P dA F I J q h) (nc ng nM : Nat) (W : pu_W F I nc ng nM) (g0 ar T x0 y0 c9 : Nat) (y : Int32) (hg : g0 < ng) (har : I 1 g0 = nI ar) (ha : ar = 1 ∨ ar = 2) (hT : T ≤ 48) (hx : x0 < 8 * nc) (hy : pu_y nc ar y y0) (G : List tg_N) (hG : pu_gr I g0 G) (hw : tg_wf G T) (hw1 : pu_w1 I g0 ar T) (e44 : F 44 = nI c9) : zz_M l D zz_cl (zz_ty dA) B zz_tb (zz_x B) yy_Q_choose (Cond.code yy_Q_choose bb_Q_choose 6 (some FieldType.int)) rm_Q_choose [.ref q, .int ((nI g0)), .int ((nI x0)), .int y] h n zz_mi (fun r h' n' => n' = n ∧ ((G.length = 0 ∧ r = pu_best (pu_know I nc nM g0 ar) nM g0 (pu_rw nc ar x0 y0) ∧ md_K dA F (pu_know I nc nM g0 ar) J q h h') ∨ (¬ G.length = 0 ∧ r = (tg_go G (pu_qz I g0 x0 y0) G.length (G.length - 1)).1 ∧ md_K dA (md_fs F 44 (nI (c9 + (tg_go G (pu_qz I g0 x0 y0) G.length (G.length - 1)).2))) I J q h h'))) := by
  refine zz_ofW (zz_f B) [some (.ref q), some (.int ((nI g0))), some (.int ((nI x0))), some (.int y), none, none] (by decide) rfl rfl (Nat.le_of_ble_eq_true rfl) ?_
  intro p e s m below meth c C
  have hg4 := W.g4
  have h12 := W.m12
  have h8 := W.c8
  have h1 := W.c1
  have hl80 := hG.1
  have hP := md_rf hP0
  have hrl := pu_rw_lt (ar := ar) hx hy.1
  have hRl := pu_R_le (nc := nc) (ar := ar) h8
  refine z_aload_n C dd_Q_choose_0 rfl ?_
  refine gf_Q_57 (v := .ref (q + 1 + 14)) C dd_Q_choose_1 hP.1.1 rfl ?_
  refine z_iload_n C dd_Q_choose_4 rfl ?_
  refine z_iald (t0 := 0) (N := 4) (f := (I 14)) C rfl dd_Q_choose_5 (hP.1.2 14 (by decide)) (vp_in_nI (by omega) (by decide)) ?_
  refine z_topi (y := nI G.length) (by rw [nI_clamp (by omega)]; exact hG.2.1.symm) ?_
  refine z_if_ne (tgt := 27) C dd_Q_choose_6 (by decide) (fun q1 => ?_) (fun q1 => ?_)
  · replace q1 : ¬ G.length = 0 := fun z => q1 ((@nI_eq G.length 0 (by omega) (by omega)).mpr z)
    refine z_bipush (v := 80) C dd_Q_choose_27 (by decide) ?_
    refine z_iload_n C dd_Q_choose_29 rfl ?_
    refine z_imul C dd_Q_choose_30 ?_
    refine z_topi (y := nI (80 * g0)) (by first | exact (pk_mul _ _).symm | (rw [← pk_mul]; rfl)) ?_
    refine z_aload_n C dd_Q_choose_31 rfl ?_
    refine gf_Q_57 (v := .ref (q + 1 + 14)) C dd_Q_choose_32 hP.1.1 rfl ?_
    refine z_iload_n C dd_Q_choose_35 rfl ?_
    refine z_iald (t0 := 0) (N := 4) (f := (I 14)) C rfl dd_Q_choose_36 (hP.1.2 14 (by decide)) (vp_in_nI (by omega) (by decide)) ?_
    refine z_topi (y := nI G.length) (by rw [nI_clamp (by omega)]; exact hG.2.1.symm) ?_
    refine z_iadd C dd_Q_choose_37 ?_
    refine z_topi (y := nI ((80 * g0) + G.length)) (by first | exact (nI_add _ _).symm | (rw [← nI_add]; rfl)) ?_
    refine z_iconst (v := 1) C dd_Q_choose_38 (by decide) ?_
    refine z_isub C dd_Q_choose_39 ?_
    refine z_topi (y := nI (((80 * g0) + G.length) - 1)) (by rw [← pk_sub (a := ((80 * g0) + G.length)) (b := 1) (by omega)]; rfl) ?_
    refine z_topi (y := nI (80 * g0 + (G.length - 1))) (by congr 1; omega) ?_
    refine z_istore C dd_Q_choose_40 rfl ?_
    refine lp_Q_choose (h := h) (F := F) (X := I) (J := J) C W hg ha hT hx hy hG hw hw1 G.length (G.length - 1) c9 _ _ (by omega) (by omega) (md_KF hP (md_fid e44)) (fun h' k' o5 w1 w2 w3 => ?_)
    refine z_aload_n C dd_Q_choose_133 rfl ?_
    refine gf_Q_63 (v := .ref (q + 1 + 16)) C dd_Q_choose_134 w1.1.1 rfl ?_
    refine z_iload C dd_Q_choose_137 rfl ?_
    refine z_iald (t0 := 0) (N := 320) (f := (I 16)) C rfl dd_Q_choose_139 (w1.1.2 16 (by decide)) (vp_in_nI (by omega) (by decide)) ?_
    refine z_topi (y := (tg_go G (pu_qz I g0 x0 y0) G.length (G.length - 1)).1) (by rw [nI_clamp (by omega)]; exact w3.symm) ?_
    exact z_iret C dd_Q_choose_140 ⟨rfl, Or.inr ⟨q1, rfl, w1⟩⟩ (by decide) (by decide)
  · replace q1 : G.length = 0 := (@nI_eq G.length 0 (by omega) (by omega)).mp q1
    refine z_aload_n C dd_Q_choose_9 rfl ?_
    refine z_iload_n C dd_Q_choose_10 rfl ?_
    refine iv_Q_173 (sk := fun _ => []) (zz_f B) C dd_Q_choose_11 (cc_Q_know l D dA B _ _ q _ I J hP.1 nc ng nM W g0 ar hg har ha) hP.1.1 rfl rfl ⟨by decide, by decide⟩ (Nat.le_of_ble_eq_true rfl) ⟨by decide, by decide⟩ (fun _ => rfl) (fun _ h1_ n1_ p1_ => ?_)
    obtain ⟨m1_, rfl⟩ := p1_
    have hP1_ := md_tr hP m1_
    have ek1 : pu_know I nc nM g0 ar 1 g0 = nI ar := by rw [pu_know_8 _ _ _ _ _ _ (by decide)]; exact har
    refine z_aload_n C dd_Q_choose_14 rfl ?_
    refine z_iload_n C dd_Q_choose_15 rfl ?_
    refine z_aload_n C dd_Q_choose_16 rfl ?_
    refine z_iload_n C dd_Q_choose_17 rfl ?_
    refine z_iload_n C dd_Q_choose_18 rfl ?_
    refine z_iload_n C dd_Q_choose_19 rfl ?_
    refine iv_Q_179 (sk := fun r => .int r :: [.int ((nI g0)), .ref q]) (zz_f B) C dd_Q_choose_20 (cx_Q_row l D dA B _ _ q _ _ J hP1_.1 nc ng nM (pu_W_k W g0 ar) g0 ar hg ek1 ha x0 y0 y hy) hP1_.1.1 rfl rfl ⟨by decide, by decide⟩ (Nat.le_of_ble_eq_true rfl) ⟨by decide, by decide⟩ (fun _ => rfl) (fun v2_ h2_ n2_ p2_ => ?_)
    obtain ⟨e2_, f2_, rfl⟩ := p2_
    have e2z := e2_.symm
    have f2z := f2_.symm
    subst e2z
    subst f2z
    refine iv_Q_183 (sk := fun r => .int r :: []) (zz_f B) C dd_Q_choose_23 (cc_Q_bestAt l D dA B _ _ q _ _ J hP1_.1 g0 (pu_rw nc ar x0 y0) nM (by omega) (by omega) h12 W.fm) hP1_.1.1 rfl rfl ⟨by decide, by decide⟩ (Nat.le_of_ble_eq_true rfl) ⟨by decide, by decide⟩ (fun _ => rfl) (fun v3_ h3_ n3_ p3_ => ?_)
    obtain ⟨e3_, f3_, rfl⟩ := p3_
    have e3z := e3_.symm
    have f3z := f3_.symm
    subst e3z
    subst f3z
    exact z_iret C dd_Q_choose_26 ⟨rfl, Or.inl ⟨q1, rfl, hP1_⟩⟩ (by decide) (by decide)
