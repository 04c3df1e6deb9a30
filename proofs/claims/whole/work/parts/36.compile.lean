/-- what know made stands right -/
def pu_kr (I : Nat → Nat → Int32) (nc ng nM : Nat) : Prop := ∀ g ar, g < ng → ar ≤ 2 → I 1 g = nI ar → ∀ r, r < pu_R nc ar → pu_know I nc nM g ar 12 (4096 * g + r) = pu_A I nc nM g ar r
theorem pu_gJ_22 {K : Nat → Nat → Int32} {J : Nat → Nat → Int64} {nc nM g ar r : Nat} (hr : r < pu_R nc ar) : pu_gJ K J nc nM g ar 22 r = pu_ls (pu_pz (pu_g3 K g nM) g nc ar r) (pu_gT K g nM) := by
  show pu_fl (J 22) (pu_pa (pu_g3 K g nM) g nc ar (pu_gT K g nM)) (pu_R nc ar) r = _
  unfold pu_fl
  rw [if_pos hr]
  rfl
theorem pu_gT_le {F : Nat → Int32} {K : Nat → Nat → Int32} {nc ng nM g : Nat} (W : pu_W F K nc ng nM) : pu_gT K g nM ≤ 48 ∧ pu_g3 K g nM 18 g = nI (pu_gT K g nM) := by
  have h12 := W.m12
  obtain ⟨e9, T, hT, eT, hs⟩ := pu_g3_inv (g := g) W nM (Nat.le_refl _)
  have eTT : pu_gT K g nM = T := by unfold pu_gT; rw [eT, nI_clamp (by omega)]
  rw [eTT]
  exact ⟨by omega, eT⟩
theorem pu_cmp_hA {F : Nat → Int32} {I : Nat → Nat → Int32} {J : Nat → Nat → Int64} {nc ng nM g ar : Nat} (W : pu_W F I nc ng nM) (hk : pu_kr I nc ng nM) (hg : g < ng) (har : I 1 g = nI ar) (ha2 : ar ≤ 2) (r r' : Nat) (hr : r < pu_R nc ar) (hr' : r' < pu_R nc ar) (hz : ∀ t, t < pu_gT (pu_know I nc nM g ar) g nM → bl (pu_gJ (pu_know I nc nM g ar) J nc nM g ar 22 r) t = bl (pu_gJ (pu_know I nc nM g ar) J nc nM g ar 22 r') t) : pu_best (pu_g3 (pu_know I nc nM g ar) g nM) nM g r = pu_best (pu_g3 (pu_know I nc nM g ar) g nM) nM g r' := by
  have WK := pu_W_k W g ar
  have hT := pu_gT_le (g := g) WK
  have e9 := (pu_g3_inv (g := g) WK nM (Nat.le_refl _)).1
  have hs := pu_A_same (g := g) (ar := ar) (r := r) (r' := r') WK (fun t ht => by
    have z := hz t ht
    rw [pu_gJ_22 hr, pu_gJ_22 hr', l_ls _ _ (by omega) t (by omega), l_ls _ _ (by omega) t (by omega), decide_eq_true ht, Bool.true_and, Bool.true_and] at z
    exact z)
  rw [pu_A_cg (I := I) (I' := pu_know I nc nM g ar) (fun k hk => pu_know_8 I nc nM g ar k (by omega))] at hs
  unfold pu_best
  rw [e9 12 (by omega), e9 13 (by omega), hk g ar hg ha2 har r hr, hk g ar hg ha2 har r' hr', hs]
abbrev rm_Q_compile : Room := { frames := 12, cells := 0, slots := 0, locals := 400 }
set_option maxRecDepth 20000 in
/-- compile -/
theorem cc_Q_compile (l : Launch) (D : va_G) (dA : Nat → ClassId) (B : Nat) (h : zz_H) (n : Nat) (q : Nat) (F : Nat → Int32) (I : Nat → Nat → Int32) (J : Nat → Nat → Int64) (hP0 : md_P dA F I J q h) (nc ng nM : Nat) (W : pu_W F I nc ng nM) (hk : pu_kr I nc ng nM) (g : Int32) : zz_M l D zz_cl (zz_ty dA) B zz_tb (zz_x B) yy_Q_compile (Cond.code yy_Q_compile bb_Q_compile 2 (some FieldType.int)) rm_Q_compile [.ref q, .int g] h n zz_mi (fun r h' n' => n' = n ∧ ((r = 0 ∧ md_K dA (md_fs F 0 1) I J q h h' ∧ ∀ k, k < ng → ¬ g = nI k) ∨ ∃ g9 r9, g9 < ng ∧ g = nI g9 ∧ (r9 = 1 ∨ r9 = 2) ∧ I 1 g9 = nI r9 ∧ ∃ X' J', pu_oth (pu_g3 (pu_know I nc nM g9 r9) g9 nM) X' g9 ∧ J' 22 = pu_gJ (pu_know I nc nM g9 r9) J nc nM g9 r9 22 ∧ (((pu_tre (pu_g3 (pu_know I nc nM g9 r9) g9 nM) (pu_gJ (pu_know I nc nM g9 r9) J nc nM g9 r9 22) nM g9 (pu_gT (pu_know I nc nM g9 r9) g9 nM) (pu_R nc r9)).2 = -1 ∧ r = 0 ∧ X' 14 g9 = 0 ∧ md_K dA (md_fs F 0 2) X' J' q h h') ∨ (¬ (pu_tre (pu_g3 (pu_know I nc nM g9 r9) g9 nM) (pu_gJ (pu_know I nc nM g9 r9) J nc nM g9 r9 22) nM g9 (pu_gT (pu_know I nc nM g9 r9) g9 nM) (pu_R nc r9)).2 = -1 ∧ r = nI (pu_tre (pu_g3 (pu_know I nc nM g9 r9) g9 nM) (pu_gJ (pu_know I nc nM g9 r9) J nc nM g9 r9 22) nM g9 (pu_gT (pu_know I nc nM g9 r9) g9 nM) (pu_R nc r9)).1.length ∧ pu_gr X' g9 (pu_tre (pu_g3 (pu_know I nc nM g9 r9) g9 nM) (pu_gJ (pu_know I nc nM g9 r9) J nc nM g9 r9 22) nM g9 (pu_gT (pu_know I nc nM g9 r9) g9 nM) (pu_R nc r9)).1 ∧ md_K dA (md_fs F 0 0) X' J' q h h')))) := by
  refine zz_ofW (zz_f B) [some (.ref q), some (.int g)] (by decide) rfl rfl (Nat.le_of_ble_eq_true rfl) ?_
  intro p e s m below meth c C
  have hg4 := W.g4
  have h12 := W.m12
  have h8 := W.c8
  have h1 := W.c1
  have hP := md_rf hP0
  refine z_aload_n C dd_Q_compile_0 rfl ?_
  refine z_iload_n C dd_Q_compile_1 rfl ?_
  refine z_iconst (v := 0) C dd_Q_compile_2 (by decide) ?_
  refine z_aload_n C dd_Q_compile_3 rfl ?_
  refine gf_Q_135 (v := .int (F 3)) C dd_Q_compile_4 hP.1.1 rfl ?_
  refine z_topi (y := nI ng) W.fg.symm ?_
  refine z_iconst (v := 1) C dd_Q_compile_7 (by decide) ?_
  refine z_isub C dd_Q_compile_8 ?_
  refine is_Q_127 (sk := fun r => .int r :: [.ref q]) (zz_f B) C dd_Q_compile_9 (cn_Q_in l D dA B _ _ _ _ _) rfl rfl ⟨by decide, by decide⟩ (Nat.le_of_ble_eq_true rfl) ⟨by decide, by decide⟩ (fun _ => rfl) (fun v1_ h1_ n1_ p1_ => ?_)
  obtain ⟨e1_, f1_, rfl⟩ := p1_
  have e1z := e1_.symm
  have f1z := f1_.symm
  subst e1z
  subst f1z
  refine z_if_eq (tgt := 19) C dd_Q_compile_12 (by decide) (fun q1 => ?_) (fun q1 => ?_)
  · skip
    refine z_iconst (v := 1) C dd_Q_compile_19 (by decide) ?_
    refine pf_Q_121 C dd_Q_compile_20 hP.1.1 (Nat.le_of_ble_eq_true rfl) rfl rfl ?_
    refine z_cut (md_K dA (md_fs F 0 1) I J q h) (md_wF hP rfl) rfl rfl rfl (fun h2_ hP2_ => ?_)
    refine z_aload_n C dd_Q_compile_23 rfl ?_
    refine gf_Q_121 (v := .int 1) C dd_Q_compile_24 hP2_.1.1 rfl ?_
    refine z_if_le (tgt := 32) C dd_Q_compile_27 (by decide) (fun q2 => absurd q2 (by decide)) (fun q2 => ?_)
    refine z_iconst (v := 0) C dd_Q_compile_30 (by decide) ?_
    exact z_iret C dd_Q_compile_31 ⟨rfl, Or.inl ⟨rfl, hP2_, fun k hk z => absurd ((pu_iv_0 (by omega)).mpr ⟨k, hk, z⟩) (by rw [((pu_b0 _).mp q1)]; decide)⟩⟩ (by decide) (by decide)
  · skip
    refine z_iconst (v := 0) C dd_Q_compile_15 (by decide) ?_
    refine z_goto (tgt := 20) C dd_Q_compile_16 (by decide) ?_
    refine pf_Q_121 C dd_Q_compile_20 hP.1.1 (Nat.le_of_ble_eq_true rfl) rfl rfl ?_
    refine z_cut (md_K dA (md_fs F 0 0) I J q h) (md_wF hP rfl) rfl rfl rfl (fun h3_ hP3_ => ?_)
    refine z_aload_n C dd_Q_compile_23 rfl ?_
    refine gf_Q_121 (v := .int 0) C dd_Q_compile_24 hP3_.1.1 rfl ?_
    refine z_if_le (tgt := 32) C dd_Q_compile_27 (by decide) (fun q3 => ?_) (fun q3 => absurd (by decide) q3)
    obtain ⟨g0, hg0, rfl⟩ := (pu_iv_0 (by omega)).mp (pu_bn1.mp q1)
    obtain ⟨ar, har2, har⟩ := W.ar g0 hg0
    have W0 : pu_W (md_fs F 0 0) I nc ng nM := pu_W_f W (by decide)
    have WK := pu_W_k W0 g0 ar
    have hT := pu_gT_le (g := g0) WK
    have e9 := (pu_g3_inv (g := g0) WK nM (Nat.le_refl _)).1
    have ek1 : pu_know I nc nM g0 ar 1 g0 = nI ar := by rw [pu_know_8 _ _ _ _ _ _ (by decide)]; exact har
    refine z_aload_n C dd_Q_compile_32 rfl ?_
    refine z_iload_n C dd_Q_compile_33 rfl ?_
    refine iv_Q_173 (sk := fun _ => []) (zz_f B) C dd_Q_compile_34 (cc_Q_know l D dA B _ _ q _ I J hP3_.1 nc ng nM W0 g0 ar hg0 har har2) hP3_.1.1 rfl rfl ⟨by decide, by decide⟩ (Nat.le_of_ble_eq_true rfl) ⟨by decide, by decide⟩ (fun _ => rfl) (fun _ h4_ n4_ p4_ => ?_)
    obtain ⟨m4_, rfl⟩ := p4_
    have hP4_ := md_tr hP3_ m4_
    refine z_aload_n C dd_Q_compile_37 rfl ?_
    refine z_iload_n C dd_Q_compile_38 rfl ?_
    refine iv_Q_212 (sk := fun _ => []) (zz_f B) C dd_Q_compile_39 (cc_Q_gather l D dA B _ _ q _ _ J hP4_.1 nc ng nM WK g0 ar hg0 ek1 har2) hP4_.1.1 rfl rfl ⟨by decide, by decide⟩ (Nat.le_of_ble_eq_true rfl) ⟨by decide, by decide⟩ (fun _ => rfl) (fun _ h5_ n5_ p5_ => ?_)
    obtain ⟨m5_, rfl⟩ := p5_
    have hP5_ := md_tr hP4_ m5_
    refine z_aload_n C dd_Q_compile_42 rfl ?_
    refine z_iload_n C dd_Q_compile_43 rfl ?_
    refine iv_Q_215 (sk := fun r => .int r :: []) (zz_f B) C dd_Q_compile_44 (cc_Q_build l D dA B _ _ q _ _ _ hP5_.1 nc ng nM (pu_W_cg WK (fun k hk => e9 k (by omega))) g0 ar (pu_gT (pu_know I nc nM g0 ar) g0 nM) hg0 (by rw [e9 1 (by omega)]; exact ek1) har2 hT.1 hT.2 (pu_cmp_hA W hk hg0 har (by omega))) hP5_.1.1 rfl rfl ⟨by decide, by decide⟩ (Nat.le_of_ble_eq_true rfl) ⟨by decide, by decide⟩ (fun _ => rfl) (fun v6_ h6_ n6_ p6_ => ?_)
    obtain ⟨rfl, X', J', m6_, o6_, j6_, c6_⟩ := p6_
    have hP6_ := md_tr hP5_ m6_
    rcases c6_ with ⟨z1, rfl⟩ | ⟨z1, rfl, z2⟩
    · skip
      refine z_if_ne (tgt := 63) C dd_Q_compile_47 (by decide) (fun q4 => absurd (by decide) q4) (fun q4 => ?_)
      refine z_aload_n C dd_Q_compile_50 rfl ?_
      refine gf_Q_57 (v := .ref (q + 1 + 14)) C dd_Q_compile_51 hP6_.1.1 rfl ?_
      refine z_iload_n C dd_Q_compile_54 rfl ?_
      refine z_iconst (v := 0) C dd_Q_compile_55 (by decide) ?_
      refine z_iast (t0 := 0) (N := 4) (f := (X' 14)) C rfl dd_Q_compile_56 (hP6_.1.2 14 (by decide)) (vp_in_nI (by omega) (by decide)) ?_
      refine z_cut (md_K dA (md_fs F 0 0) (md_is X' 14 (upd (X' 14) (Int32.toNatClampNeg (nI g0)) 0)) J' q h) (md_wI hP6_ 14 (by decide) rfl) rfl rfl rfl (fun h7_ hP7_ => ?_)
      refine z_aload_n C dd_Q_compile_57 rfl ?_
      refine z_iconst (v := 2) C dd_Q_compile_58 (by decide) ?_
      refine iv_Q_219 (sk := fun r => .int r :: []) (zz_f B) C dd_Q_compile_59 (cc_Q_fail l D dA B _ _ q _ _ _ hP7_.1 2) hP7_.1.1 rfl rfl ⟨by decide, by decide⟩ (Nat.le_of_ble_eq_true rfl) ⟨by decide, by decide⟩ (fun _ => rfl) (fun v8_ h8_ n8_ p8_ => ?_)
      obtain ⟨rfl, rfl, m8_⟩ := p8_
      have hP8_ := md_tr hP7_ m8_
      exact z_iret C dd_Q_compile_62 ⟨rfl, Or.inr ⟨g0, ar, hg0, rfl, har2, har, md_is X' 14 (upd (X' 14) g0 0), J', pu_oth_tr o6_ (pu_oth_14 0), j6_, Or.inl ⟨z1, rfl, pk_us, md_Ke (md_KF hP8_ (by rw [md_ff])) (by rw [nI_clamp (n := g0) (by omega)])⟩⟩⟩ (by decide) (by decide)
    · skip
      refine z_if_ne (tgt := 63) C dd_Q_compile_47 (by decide) (fun q5 => ?_) (fun q5 => absurd q5 (by decide))
      refine z_aload_n C dd_Q_compile_63 rfl ?_
      refine gf_Q_57 (v := .ref (q + 1 + 14)) C dd_Q_compile_64 hP6_.1.1 rfl ?_
      refine z_iload_n C dd_Q_compile_67 rfl ?_
      refine z_iald (t0 := 0) (N := 4) (f := (X' 14)) C rfl dd_Q_compile_68 (hP6_.1.2 14 (by decide)) (vp_in_nI (by omega) (by decide)) ?_
      refine z_topi (y := nI ((pu_tre (pu_g3 (pu_know I nc nM g0 ar) g0 nM) (pu_gJ (pu_know I nc nM g0 ar) J nc nM g0 ar 22) nM g0 (pu_gT (pu_know I nc nM g0 ar) g0 nM) (pu_R nc ar)).1.length)) (by rw [nI_clamp (by omega)]; exact z2.2.1.symm) ?_
      exact z_iret C dd_Q_compile_69 ⟨rfl, Or.inr ⟨g0, ar, hg0, rfl, har2, har, X', J', o6_, j6_, Or.inr ⟨z1, rfl, z2, hP6_⟩⟩⟩ (by decide) (by decide)
