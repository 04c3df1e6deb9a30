theorem md_ff (F : Nat → Int32) (k : Nat) (a b : Int32) : md_fs (md_fs F k a) k b = md_fs F k b := by
  funext j
  unfold md_fs
  split <;> rfl
theorem md_KF {dA : Nat → ClassId} {F F2 : Nat → Int32} {I : Nat → Nat → Int32} {J : Nat → Nat → Int64} {q : Nat} {h0 h : zz_H} (hP : md_K dA F I J q h0 h) (e : F = F2) : md_K dA F2 I J q h0 h := e ▸ hP
theorem pu_iv_k {v lo hi : Int32} : pu_iv v lo hi = true ↔ lo.toInt ≤ v.toInt ∧ v.toInt ≤ hi.toInt := by
  unfold pu_iv
  rw [Bool.and_eq_true, Bool.not_eq_true', Bool.not_eq_true', decide_eq_false_iff_not, decide_eq_false_iff_not, Int32.lt_iff_toInt_lt, Int32.lt_iff_toInt_lt]
  omega
theorem pu_iv_12 {v : Int32} : pu_iv v 1 2 = true ↔ ∃ ar, (ar = 1 ∨ ar = 2) ∧ v = nI ar := by
  rw [pu_iv_k]
  constructor
  · rintro ⟨h1, h2⟩
    have e1 : (1 : Int32).toInt = 1 := by decide
    have e2 : (2 : Int32).toInt = 2 := by decide
    rw [e1] at h1
    rw [e2] at h2
    have h0 : ¬ v < 0 := by
      rw [Int32.lt_iff_toInt_lt]
      have e0 : (0 : Int32).toInt = 0 := by decide
      rw [e0]
      omega
    obtain ⟨j, hj, rfl⟩ := nI_of h0
    rw [nI_toInt hj] at h1 h2
    exact ⟨j, by omega, rfl⟩
  · rintro ⟨ar, rfl | rfl, rfl⟩ <;> decide
/-- forget -/
def pu_fg (I : Nat → Nat → Int32) (g : Nat) : Nat → Nat → Int32 := md_is (md_is I 11 (upd (I 11) g 0)) 14 (upd (I 14) g 0)
/-- the best at a row -/
def pu_best (I : Nat → Nat → Int32) (nM g r : Nat) : Int32 := pu_fm (I 12 (4096 * g + r)) (I 13) nM
abbrev rn_Q_forget : Room := { frames := 1, cells := 0, slots := 0, locals := 0 }
set_option maxRecDepth 20000 in
/-- forget -/
theorem cn_Q_forget (l : Launch) (D : va_G) (dA : Nat → ClassId) (B : Nat) (h : zz_H) (n : Nat) (q : Nat) (F : Nat → Int32) (I : Nat → Nat → Int32) (J : Nat → Nat → Int64) (hP0 : md_P dA F I J q h) (g0 : Nat) (hg : g0 < 4) : zz_M l D zz_cl (zz_ty dA) B zz_tb (zz_x B) yy_Q_forget (Cond.code yy_Q_forget bb_Q_forget 2 none) rn_Q_forget [.ref q, .int ((nI g0))] h n zz_mv (fun _ h' n' => md_K dA (md_fs F 18 0) (pu_fg I g0) J q h h' ∧ n' = n) := by
  refine zz_ofW (zz_f B) [some (.ref q), some (.int ((nI g0)))] (by decide) rfl rfl (Nat.le_of_ble_eq_true rfl) ?_
  intro p e s m below meth c C
  have hP := md_rf hP0
  refine z_aload_n C dd_Q_forget_0 rfl ?_
  refine gf_Q_48 (v := .ref (q + 1 + 11)) C dd_Q_forget_1 hP.1.1 rfl ?_
  refine z_iload_n C dd_Q_forget_4 rfl ?_
  refine z_iconst (v := 0) C dd_Q_forget_5 (by decide) ?_
  refine z_zast (t0 := 2) (N := 4) (f := (I 11)) C rfl dd_Q_forget_6 (hP.1.2 11 (by decide)) (vp_in_nI (by omega) (by decide)) ?_
  refine z_cut (md_K dA F (md_is I 11 (upd (I 11) (Int32.toNatClampNeg (nI g0)) (vp_nar .boolean 0))) J q h) (md_wI hP 11 (by decide) rfl) rfl rfl rfl (fun h1_ hP1_ => ?_)
  refine z_aload_n C dd_Q_forget_7 rfl ?_
  refine gf_Q_57 (v := .ref (q + 1 + 14)) C dd_Q_forget_8 hP1_.1.1 rfl ?_
  refine z_iload_n C dd_Q_forget_11 rfl ?_
  refine z_iconst (v := 0) C dd_Q_forget_12 (by decide) ?_
  refine z_iast (t0 := 0) (N := 4) (f := (I 14)) C rfl dd_Q_forget_13 (hP1_.1.2 14 (by decide)) (vp_in_nI (by omega) (by decide)) ?_
  refine z_cut (md_K dA F (md_is (md_is I 11 (upd (I 11) (Int32.toNatClampNeg (nI g0)) (vp_nar .boolean 0))) 14 (upd (I 14) (Int32.toNatClampNeg (nI g0)) 0)) J q h) (md_wI hP1_ 14 (by decide) rfl) rfl rfl rfl (fun h2_ hP2_ => ?_)
  refine z_aload_n C dd_Q_forget_14 rfl ?_
  refine z_iconst (v := 0) C dd_Q_forget_15 (by decide) ?_
  refine pf_Q_124 C dd_Q_forget_16 hP2_.1.1 (Nat.le_of_ble_eq_true rfl) rfl rfl ?_
  refine z_cut (md_K dA (md_fs F 18 0) (md_is (md_is I 11 (upd (I 11) (Int32.toNatClampNeg (nI g0)) (vp_nar .boolean 0))) 14 (upd (I 14) (Int32.toNatClampNeg (nI g0)) 0)) J q h) (md_wF hP2_ rfl) rfl rfl rfl (fun h3_ hP3_ => ?_)
  exact z_vret C dd_Q_forget_19 ⟨md_Ke hP3_ (by rw [nI_clamp (by omega)]; rfl), rfl⟩ (by decide) (by decide)
abbrev rm_Q_klass : Room := { frames := 4, cells := 0, slots := 0, locals := 90 }
set_option maxRecDepth 20000 in
/-- klass -/
theorem cc_Q_klass (l : Launch) (D : va_G) (dA : Nat → ClassId) (B : Nat) (h : zz_H) (n : Nat) (q : Nat) (F : Nat → Int32) (I : Nat → Nat → Int32) (J : Nat → Nat → Int64) (hP0 : md_P dA F I J q h) (nc ng nM : Nat) (W : pu_W F I nc ng nM) (x : Int32) : zz_M l D zz_cl (zz_ty dA) B zz_tb (zz_x B) yy_Q_klass (Cond.code yy_Q_klass bb_Q_klass 3 (some FieldType.int)) rm_Q_klass [.ref q, .int x] h n zz_mi (fun r h' n' => n' = n ∧ ((r = 0 ∧ md_K dA (md_fs F 0 1) I J q h h' ∧ ∀ k, k < nc → ¬ x = nI k) ∨ (∃ k, k < nc ∧ x = nI k ∧ nc = 8 ∧ r = 0 ∧ md_K dA (md_fs F 0 2) I J q h h') ∨ (∃ k, k < nc ∧ x = nI k ∧ nc < 8 ∧ r = nI nc ∧ md_K dA (md_fs (md_fs (md_fs F 0 0) 1 (nI (nc + 1))) 18 0) (pu_fg (pu_fg (pu_fg (pu_fg (md_is I 0 (upd (I 0) nc (nI k))) 0) 1) 2) 3) J q h h'))) := by
  refine zz_ofW (zz_f B) [some (.ref q), some (.int x), none] (by decide) rfl rfl (Nat.le_of_ble_eq_true rfl) ?_
  intro p e s m below meth c C
  have h8 := W.c8
  have hP := md_rf hP0
  refine z_aload_n C dd_Q_klass_0 rfl ?_
  refine z_iload_n C dd_Q_klass_1 rfl ?_
  refine z_iconst (v := 0) C dd_Q_klass_2 (by decide) ?_
  refine z_aload_n C dd_Q_klass_3 rfl ?_
  refine gf_Q_7 (v := .int (F 1)) C dd_Q_klass_4 hP.1.1 rfl ?_
  refine z_topi (y := nI nc) W.fc.symm ?_
  refine z_iconst (v := 1) C dd_Q_klass_7 (by decide) ?_
  refine z_isub C dd_Q_klass_8 ?_
  refine is_Q_127 (sk := fun r => .int r :: [.ref q]) (zz_f B) C dd_Q_klass_9 (cn_Q_in l D dA B _ _ _ _ _) rfl rfl ⟨by decide, by decide⟩ (Nat.le_of_ble_eq_true rfl) ⟨by decide, by decide⟩ (fun _ => rfl) (fun v1_ h1_ n1_ p1_ => ?_)
  obtain ⟨e1_, f1_, rfl⟩ := p1_
  have e1z := e1_.symm
  have f1z := f1_.symm
  subst e1z
  subst f1z
  refine z_if_ne (tgt := 19) C dd_Q_klass_12 (by decide) (fun q1 => ?_) (fun q1 => ?_)
  · skip
    obtain ⟨k0, hk0, rfl⟩ := (pu_iv_0 (by omega)).mp (pu_bn1.mp q1)
    refine z_aload_n C dd_Q_klass_19 rfl ?_
    refine gf_Q_7 (v := .int (F 1)) C dd_Q_klass_20 hP.1.1 rfl ?_
    refine z_topi (y := nI nc) W.fc.symm ?_
    refine z_bipush (v := 8) C dd_Q_klass_23 (by decide) ?_
    refine z_icmp_ne (tgt := 32) C dd_Q_klass_25 (by decide) (fun q2 => ?_) (fun q2 => ?_)
    · replace q2 : ¬ nc = 8 := fun z => q2 ((@nI_eq nc 8 (by omega) (by omega)).mpr z)
      refine z_iconst (v := 0) C dd_Q_klass_32 (by decide) ?_
      refine pf_Q_121 C dd_Q_klass_33 hP.1.1 (Nat.le_of_ble_eq_true rfl) rfl rfl ?_
      refine z_cut (md_K dA (md_fs F 0 0) I J q h) (md_wF hP rfl) rfl rfl rfl (fun h2_ hP2_ => ?_)
      refine z_aload_n C dd_Q_klass_36 rfl ?_
      refine gf_Q_121 (v := .int 0) C dd_Q_klass_37 hP2_.1.1 rfl ?_
      refine z_if_le (tgt := 45) C dd_Q_klass_40 (by decide) (fun q3 => ?_) (fun q3 => absurd (by decide) q3)
      refine z_aload_n C dd_Q_klass_45 rfl ?_
      refine gf_Q_13 (v := .ref (q + 1 + 0)) C dd_Q_klass_46 hP2_.1.1 rfl ?_
      refine z_aload_n C dd_Q_klass_49 rfl ?_
      refine gf_Q_7 (v := .int (F 1)) C dd_Q_klass_50 hP2_.1.1 rfl ?_
      refine z_topi (y := nI nc) W.fc.symm ?_
      refine z_iload_n C dd_Q_klass_53 rfl ?_
      refine z_iast (t0 := 0) (N := 8) (f := (I 0)) C rfl dd_Q_klass_54 (hP2_.1.2 0 (by decide)) (vp_in_nI (by omega) (by decide)) ?_
      refine z_cut (md_K dA (md_fs F 0 0) (md_is I 0 (upd (I 0) (Int32.toNatClampNeg (nI nc)) (nI k0))) J q h) (md_wI hP2_ 0 (by decide) rfl) rfl rfl rfl (fun h3_ hP3_ => ?_)
      refine z_aload_n C dd_Q_klass_55 rfl ?_
      refine z_dup C dd_Q_klass_56 rfl ?_
      refine gf_Q_7 (v := .int (F 1)) C dd_Q_klass_57 hP3_.1.1 rfl ?_
      refine z_topi (y := nI nc) W.fc.symm ?_
      refine z_iconst (v := 1) C dd_Q_klass_60 (by decide) ?_
      refine z_iadd C dd_Q_klass_61 ?_
      refine z_topi (y := nI (nc + 1)) (by first | exact (nI_add _ _).symm | (rw [← nI_add]; rfl)) ?_
      refine pf_Q_7 C dd_Q_klass_62 hP3_.1.1 (Nat.le_of_ble_eq_true rfl) rfl rfl ?_
      refine z_cut (md_K dA (md_fs (md_fs F 0 0) 1 (nI (nc + 1))) (md_is I 0 (upd (I 0) (Int32.toNatClampNeg (nI nc)) (nI k0))) J q h) (md_wF hP3_ rfl) rfl rfl rfl (fun h4_ hP4_ => ?_)
      refine z_iconst (v := nI 0) C dd_Q_klass_65 (by decide) ?_
      refine z_istore_n C dd_Q_klass_66 rfl ?_
      refine z_iload_n C dd_Q_klass_67 rfl ?_
      refine z_iconst (v := 4) C dd_Q_klass_68 (by decide) ?_
      refine z_icmp_ge (tgt := 83) C dd_Q_klass_69 (by decide) (fun q4 => absurd q4 (by decide)) (fun q4 => ?_)
      refine z_aload_n C dd_Q_klass_72 rfl ?_
      refine z_iload_n C dd_Q_klass_73 rfl ?_
      refine iv_Q_131 (sk := fun _ => []) (zz_f B) C dd_Q_klass_74 (cn_Q_forget l D dA B _ _ q _ _ J hP4_.1 0 (by decide)) hP4_.1.1 rfl rfl ⟨by decide, by decide⟩ (Nat.le_of_ble_eq_true rfl) ⟨by decide, by decide⟩ (fun _ => rfl) (fun _ h5_ n5_ p5_ => ?_)
      obtain ⟨m5_, rfl⟩ := p5_
      have hP5_ := md_tr hP4_ m5_
      refine z_iincN C dd_Q_klass_77 rfl rfl ?_
      refine z_goto (tgt := 67) C dd_Q_klass_80 (by decide) ?_
      refine z_iload_n C dd_Q_klass_67 rfl ?_
      refine z_iconst (v := 4) C dd_Q_klass_68 (by decide) ?_
      refine z_icmp_ge (tgt := 83) C dd_Q_klass_69 (by decide) (fun q5 => absurd q5 (by decide)) (fun q5 => ?_)
      refine z_aload_n C dd_Q_klass_72 rfl ?_
      refine z_iload_n C dd_Q_klass_73 rfl ?_
      refine iv_Q_131 (sk := fun _ => []) (zz_f B) C dd_Q_klass_74 (cn_Q_forget l D dA B _ _ q _ _ J hP5_.1 (0 + 1) (by decide)) hP5_.1.1 rfl rfl ⟨by decide, by decide⟩ (Nat.le_of_ble_eq_true rfl) ⟨by decide, by decide⟩ (fun _ => rfl) (fun _ h6_ n6_ p6_ => ?_)
      obtain ⟨m6_, rfl⟩ := p6_
      have hP6_ := md_tr hP5_ m6_
      refine z_iincN C dd_Q_klass_77 rfl rfl ?_
      refine z_goto (tgt := 67) C dd_Q_klass_80 (by decide) ?_
      refine z_iload_n C dd_Q_klass_67 rfl ?_
      refine z_iconst (v := 4) C dd_Q_klass_68 (by decide) ?_
      refine z_icmp_ge (tgt := 83) C dd_Q_klass_69 (by decide) (fun q6 => absurd q6 (by decide)) (fun q6 => ?_)
      refine z_aload_n C dd_Q_klass_72 rfl ?_
      refine z_iload_n C dd_Q_klass_73 rfl ?_
      refine iv_Q_131 (sk := fun _ => []) (zz_f B) C dd_Q_klass_74 (cn_Q_forget l D dA B _ _ q _ _ J hP6_.1 ((0 + 1) + 1) (by decide)) hP6_.1.1 rfl rfl ⟨by decide, by decide⟩ (Nat.le_of_ble_eq_true rfl) ⟨by decide, by decide⟩ (fun _ => rfl) (fun _ h7_ n7_ p7_ => ?_)
      obtain ⟨m7_, rfl⟩ := p7_
      have hP7_ := md_tr hP6_ m7_
      refine z_iincN C dd_Q_klass_77 rfl rfl ?_
      refine z_goto (tgt := 67) C dd_Q_klass_80 (by decide) ?_
      refine z_iload_n C dd_Q_klass_67 rfl ?_
      refine z_iconst (v := 4) C dd_Q_klass_68 (by decide) ?_
      refine z_icmp_ge (tgt := 83) C dd_Q_klass_69 (by decide) (fun q7 => absurd q7 (by decide)) (fun q7 => ?_)
      refine z_aload_n C dd_Q_klass_72 rfl ?_
      refine z_iload_n C dd_Q_klass_73 rfl ?_
      refine iv_Q_131 (sk := fun _ => []) (zz_f B) C dd_Q_klass_74 (cn_Q_forget l D dA B _ _ q _ _ J hP7_.1 (((0 + 1) + 1) + 1) (by decide)) hP7_.1.1 rfl rfl ⟨by decide, by decide⟩ (Nat.le_of_ble_eq_true rfl) ⟨by decide, by decide⟩ (fun _ => rfl) (fun _ h8_ n8_ p8_ => ?_)
      obtain ⟨m8_, rfl⟩ := p8_
      have hP8_ := md_tr hP7_ m8_
      refine z_iincN C dd_Q_klass_77 rfl rfl ?_
      refine z_goto (tgt := 67) C dd_Q_klass_80 (by decide) ?_
      refine z_iload_n C dd_Q_klass_67 rfl ?_
      refine z_iconst (v := 4) C dd_Q_klass_68 (by decide) ?_
      refine z_icmp_ge (tgt := 83) C dd_Q_klass_69 (by decide) (fun q8 => ?_) (fun q8 => absurd (by decide) q8)
      refine z_aload_n C dd_Q_klass_83 rfl ?_
      refine gf_Q_7 (v := .int (nI (nc + 1))) C dd_Q_klass_84 hP8_.1.1 rfl ?_
      refine z_iconst (v := 1) C dd_Q_klass_87 (by decide) ?_
      refine z_isub C dd_Q_klass_88 ?_
      refine z_topi (y := nI ((nc + 1) - 1)) (by rw [← pk_sub (a := (nc + 1)) (b := 1) (by omega)]; rfl) ?_
      exact z_iret C dd_Q_klass_89 ⟨rfl, Or.inr (Or.inr ⟨k0, hk0, rfl, by omega, rfl, md_Ke (md_KF hP8_ (by rw [md_ff, md_ff, md_ff])) (by rw [nI_clamp (by omega)])⟩)⟩ (by decide) (by decide)
    · replace q2 : nc = 8 := (@nI_eq nc 8 (by omega) (by omega)).mp q2
      refine z_iconst (v := 2) C dd_Q_klass_28 (by decide) ?_
      refine z_goto (tgt := 33) C dd_Q_klass_29 (by decide) ?_
      refine pf_Q_121 C dd_Q_klass_33 hP.1.1 (Nat.le_of_ble_eq_true rfl) rfl rfl ?_
      refine z_cut (md_K dA (md_fs F 0 2) I J q h) (md_wF hP rfl) rfl rfl rfl (fun h9_ hP9_ => ?_)
      refine z_aload_n C dd_Q_klass_36 rfl ?_
      refine gf_Q_121 (v := .int 2) C dd_Q_klass_37 hP9_.1.1 rfl ?_
      refine z_if_le (tgt := 45) C dd_Q_klass_40 (by decide) (fun q9 => absurd q9 (by decide)) (fun q9 => ?_)
      refine z_iconst (v := 0) C dd_Q_klass_43 (by decide) ?_
      exact z_iret C dd_Q_klass_44 ⟨rfl, Or.inr (Or.inl ⟨k0, hk0, rfl, by omega, rfl, hP9_⟩)⟩ (by decide) (by decide)
  · skip
    refine z_iconst (v := 1) C dd_Q_klass_15 (by decide) ?_
    refine z_goto (tgt := 33) C dd_Q_klass_16 (by decide) ?_
    refine pf_Q_121 C dd_Q_klass_33 hP.1.1 (Nat.le_of_ble_eq_true rfl) rfl rfl ?_
    refine z_cut (md_K dA (md_fs F 0 1) I J q h) (md_wF hP rfl) rfl rfl rfl (fun h10_ hP10_ => ?_)
    refine z_aload_n C dd_Q_klass_36 rfl ?_
    refine gf_Q_121 (v := .int 1) C dd_Q_klass_37 hP10_.1.1 rfl ?_
    refine z_if_le (tgt := 45) C dd_Q_klass_40 (by decide) (fun q10 => absurd q10 (by decide)) (fun q10 => ?_)
    refine z_iconst (v := 0) C dd_Q_klass_43 (by decide) ?_
    exact z_iret C dd_Q_klass_44 ⟨rfl, Or.inl ⟨rfl, hP10_, fun k hk z => absurd ((pu_iv_0 (by omega)).mpr ⟨k, hk, z⟩) (by rw [((pu_b0 _).mp q1)]; decide)⟩⟩ (by decide) (by decide)
abbrev rm_Q_generic : Room := { frames := 4, cells := 0, slots := 0, locals := 90 }
set_option maxRecDepth 20000 in
/-- generic -/
theorem cc_Q_generic (l : Launch) (D : va_G) (dA : Nat → ClassId) (B : Nat) (h : zz_H) (n : Nat) (q : Nat) (F : Nat → Int32) (I : Nat → Nat → Int32) (J : Nat → Nat → Int64) (hP0 : md_P dA F I J q h) (nc ng nM : Nat) (W : pu_W F I nc ng nM) (x : Int32) : zz_M l D zz_cl (zz_ty dA) B zz_tb (zz_x B) yy_Q_generic (Cond.code yy_Q_generic bb_Q_generic 2 (some FieldType.int)) rm_Q_generic [.ref q, .int x] h n zz_mi (fun r h' n' => n' = n ∧ ((r = 0 ∧ md_K dA (md_fs F 0 1) I J q h h' ∧ ∀ k, (k = 1 ∨ k = 2) → ¬ x = nI k) ∨ (∃ k, (k = 1 ∨ k = 2) ∧ x = nI k ∧ ng = 4 ∧ r = 0 ∧ md_K dA (md_fs F 0 2) I J q h h') ∨ (∃ k, (k = 1 ∨ k = 2) ∧ x = nI k ∧ ng < 4 ∧ r = nI ng ∧ md_K dA (md_fs (md_fs F 0 0) 3 (nI (ng + 1))) (md_is I 1 (upd (I 1) ng (nI k))) J q h h'))) := by
  refine zz_ofW (zz_f B) [some (.ref q), some (.int x)] (by decide) rfl rfl (Nat.le_of_ble_eq_true rfl) ?_
  intro p e s m below meth c C
  have hg4 := W.g4
  have hP := md_rf hP0
  refine z_aload_n C dd_Q_generic_0 rfl ?_
  refine z_iload_n C dd_Q_generic_1 rfl ?_
  refine z_iconst (v := 1) C dd_Q_generic_2 (by decide) ?_
  refine z_iconst (v := 2) C dd_Q_generic_3 (by decide) ?_
  refine is_Q_127 (sk := fun r => .int r :: [.ref q]) (zz_f B) C dd_Q_generic_4 (cn_Q_in l D dA B _ _ _ _ _) rfl rfl ⟨by decide, by decide⟩ (Nat.le_of_ble_eq_true rfl) ⟨by decide, by decide⟩ (fun _ => rfl) (fun v1_ h1_ n1_ p1_ => ?_)
  obtain ⟨e1_, f1_, rfl⟩ := p1_
  have e1z := e1_.symm
  have f1z := f1_.symm
  subst e1z
  subst f1z
  refine z_if_ne (tgt := 14) C dd_Q_generic_7 (by decide) (fun q1 => ?_) (fun q1 => ?_)
  · skip
    obtain ⟨k0, hk0, rfl⟩ := pu_iv_12.mp (pu_bn1.mp q1)
    refine z_aload_n C dd_Q_generic_14 rfl ?_
    refine gf_Q_135 (v := .int (F 3)) C dd_Q_generic_15 hP.1.1 rfl ?_
    refine z_topi (y := nI ng) W.fg.symm ?_
    refine z_iconst (v := 4) C dd_Q_generic_18 (by decide) ?_
    refine z_icmp_ne (tgt := 26) C dd_Q_generic_19 (by decide) (fun q2 => ?_) (fun q2 => ?_)
    · replace q2 : ¬ ng = 4 := fun z => q2 ((@nI_eq ng 4 (by omega) (by omega)).mpr z)
      refine z_iconst (v := 0) C dd_Q_generic_26 (by decide) ?_
      refine pf_Q_121 C dd_Q_generic_27 hP.1.1 (Nat.le_of_ble_eq_true rfl) rfl rfl ?_
      refine z_cut (md_K dA (md_fs F 0 0) I J q h) (md_wF hP rfl) rfl rfl rfl (fun h2_ hP2_ => ?_)
      refine z_aload_n C dd_Q_generic_30 rfl ?_
      refine gf_Q_121 (v := .int 0) C dd_Q_generic_31 hP2_.1.1 rfl ?_
      refine z_if_le (tgt := 39) C dd_Q_generic_34 (by decide) (fun q3 => ?_) (fun q3 => absurd (by decide) q3)
      refine z_aload_n C dd_Q_generic_39 rfl ?_
      refine gf_Q_17 (v := .ref (q + 1 + 1)) C dd_Q_generic_40 hP2_.1.1 rfl ?_
      refine z_aload_n C dd_Q_generic_43 rfl ?_
      refine gf_Q_135 (v := .int (F 3)) C dd_Q_generic_44 hP2_.1.1 rfl ?_
      refine z_topi (y := nI ng) W.fg.symm ?_
      refine z_iload_n C dd_Q_generic_47 rfl ?_
      refine z_iast (t0 := 0) (N := 4) (f := (I 1)) C rfl dd_Q_generic_48 (hP2_.1.2 1 (by decide)) (vp_in_nI (by omega) (by decide)) ?_
      refine z_cut (md_K dA (md_fs F 0 0) (md_is I 1 (upd (I 1) (Int32.toNatClampNeg (nI ng)) (nI k0))) J q h) (md_wI hP2_ 1 (by decide) rfl) rfl rfl rfl (fun h3_ hP3_ => ?_)
      refine z_aload_n C dd_Q_generic_49 rfl ?_
      refine z_dup C dd_Q_generic_50 rfl ?_
      refine gf_Q_135 (v := .int (F 3)) C dd_Q_generic_51 hP3_.1.1 rfl ?_
      refine z_topi (y := nI ng) W.fg.symm ?_
      refine z_iconst (v := 1) C dd_Q_generic_54 (by decide) ?_
      refine z_iadd C dd_Q_generic_55 ?_
      refine z_topi (y := nI (ng + 1)) (by first | exact (nI_add _ _).symm | (rw [← nI_add]; rfl)) ?_
      refine pf_Q_135 C dd_Q_generic_56 hP3_.1.1 (Nat.le_of_ble_eq_true rfl) rfl rfl ?_
      refine z_cut (md_K dA (md_fs (md_fs F 0 0) 3 (nI (ng + 1))) (md_is I 1 (upd (I 1) (Int32.toNatClampNeg (nI ng)) (nI k0))) J q h) (md_wF hP3_ rfl) rfl rfl rfl (fun h4_ hP4_ => ?_)
      refine z_aload_n C dd_Q_generic_59 rfl ?_
      refine gf_Q_135 (v := .int (nI (ng + 1))) C dd_Q_generic_60 hP4_.1.1 rfl ?_
      refine z_iconst (v := 1) C dd_Q_generic_63 (by decide) ?_
      refine z_isub C dd_Q_generic_64 ?_
      refine z_topi (y := nI ((ng + 1) - 1)) (by rw [← pk_sub (a := (ng + 1)) (b := 1) (by omega)]; rfl) ?_
      exact z_iret C dd_Q_generic_65 ⟨rfl, Or.inr (Or.inr ⟨k0, hk0, rfl, by omega, rfl, md_Ke hP4_ (by rw [nI_clamp (by omega)])⟩)⟩ (by decide) (by decide)
    · replace q2 : ng = 4 := (@nI_eq ng 4 (by omega) (by omega)).mp q2
      refine z_iconst (v := 2) C dd_Q_generic_22 (by decide) ?_
      refine z_goto (tgt := 27) C dd_Q_generic_23 (by decide) ?_
      refine pf_Q_121 C dd_Q_generic_27 hP.1.1 (Nat.le_of_ble_eq_true rfl) rfl rfl ?_
      refine z_cut (md_K dA (md_fs F 0 2) I J q h) (md_wF hP rfl) rfl rfl rfl (fun h5_ hP5_ => ?_)
      refine z_aload_n C dd_Q_generic_30 rfl ?_
      refine gf_Q_121 (v := .int 2) C dd_Q_generic_31 hP5_.1.1 rfl ?_
      refine z_if_le (tgt := 39) C dd_Q_generic_34 (by decide) (fun q4 => absurd q4 (by decide)) (fun q4 => ?_)
      refine z_iconst (v := 0) C dd_Q_generic_37 (by decide) ?_
      exact z_iret C dd_Q_generic_38 ⟨rfl, Or.inr (Or.inl ⟨k0, hk0, rfl, by omega, rfl, hP5_⟩)⟩ (by decide) (by decide)
  · skip
    refine z_iconst (v := 1) C dd_Q_generic_10 (by decide) ?_
    refine z_goto (tgt := 27) C dd_Q_generic_11 (by decide) ?_
    refine pf_Q_121 C dd_Q_generic_27 hP.1.1 (Nat.le_of_ble_eq_true rfl) rfl rfl ?_
    refine z_cut (md_K dA (md_fs F 0 1) I J q h) (md_wF hP rfl) rfl rfl rfl (fun h6_ hP6_ => ?_)
    refine z_aload_n C dd_Q_generic_30 rfl ?_
    refine gf_Q_121 (v := .int 1) C dd_Q_generic_31 hP6_.1.1 rfl ?_
    refine z_if_le (tgt := 39) C dd_Q_generic_34 (by decide) (fun q5 => absurd q5 (by decide)) (fun q5 => ?_)
    refine z_iconst (v := 0) C dd_Q_generic_37 (by decide) ?_
    exact z_iret C dd_Q_generic_38 ⟨rfl, Or.inl ⟨rfl, hP6_, fun k hk z => absurd (pu_iv_12.mpr ⟨k, hk, z⟩) (by rw [((pu_b0 _).mp q1)]; decide)⟩⟩ (by decide) (by decide)
abbrev rm_Q_method : Room := { frames := 4, cells := 0, slots := 0, locals := 90 }
set_option maxRecDepth 20000 in
/-- method -/
theorem cc_Q_method (l : Launch) (D : va_G) (dA : Nat → ClassId) (B : Nat) (h : zz_H) (n : Nat) (q : Nat) (F : Nat → Int32) (I : Nat → Nat → Int32) (J : Nat → Nat → Int64) (hP0 : md_P dA F I J q h) (nc ng nM : Nat) (W : pu_W F I nc ng nM) (x : Int32) : zz_M l D zz_cl (zz_ty dA) B zz_tb (zz_x B) yy_Q_method (Cond.code yy_Q_method bb_Q_method 2 (some FieldType.int)) rm_Q_method [.ref q, .int x] h n zz_mi (fun r h' n' => n' = n ∧ ((r = 0 ∧ md_K dA (md_fs F 0 1) I J q h h' ∧ ∀ k, k < ng → ¬ x = nI k) ∨ (∃ k, k < ng ∧ x = nI k ∧ nM = 12 ∧ r = 0 ∧ md_K dA (md_fs F 0 2) I J q h h') ∨ (∃ k, k < ng ∧ x = nI k ∧ nM < 12 ∧ r = nI nM ∧ md_K dA (md_fs (md_fs (md_fs F 0 0) 18 0) 5 (nI (nM + 1))) (pu_fg (md_is I 2 (upd (I 2) nM (nI k))) k) J q h h'))) := by
  refine zz_ofW (zz_f B) [some (.ref q), some (.int x)] (by decide) rfl rfl (Nat.le_of_ble_eq_true rfl) ?_
  intro p e s m below meth c C
  have hg4 := W.g4
  have h12 := W.m12
  have hP := md_rf hP0
  refine z_aload_n C dd_Q_method_0 rfl ?_
  refine z_iload_n C dd_Q_method_1 rfl ?_
  refine z_iconst (v := 0) C dd_Q_method_2 (by decide) ?_
  refine z_aload_n C dd_Q_method_3 rfl ?_
  refine gf_Q_135 (v := .int (F 3)) C dd_Q_method_4 hP.1.1 rfl ?_
  refine z_topi (y := nI ng) W.fg.symm ?_
  refine z_iconst (v := 1) C dd_Q_method_7 (by decide) ?_
  refine z_isub C dd_Q_method_8 ?_
  refine is_Q_127 (sk := fun r => .int r :: [.ref q]) (zz_f B) C dd_Q_method_9 (cn_Q_in l D dA B _ _ _ _ _) rfl rfl ⟨by decide, by decide⟩ (Nat.le_of_ble_eq_true rfl) ⟨by decide, by decide⟩ (fun _ => rfl) (fun v1_ h1_ n1_ p1_ => ?_)
  obtain ⟨e1_, f1_, rfl⟩ := p1_
  have e1z := e1_.symm
  have f1z := f1_.symm
  subst e1z
  subst f1z
  refine z_if_ne (tgt := 19) C dd_Q_method_12 (by decide) (fun q1 => ?_) (fun q1 => ?_)
  · skip
    obtain ⟨k0, hk0, rfl⟩ := (pu_iv_0 (by omega)).mp (pu_bn1.mp q1)
    refine z_aload_n C dd_Q_method_19 rfl ?_
    refine gf_Q_138 (v := .int (F 5)) C dd_Q_method_20 hP.1.1 rfl ?_
    refine z_topi (y := nI nM) W.fm.symm ?_
    refine z_bipush (v := 12) C dd_Q_method_23 (by decide) ?_
    refine z_icmp_ne (tgt := 32) C dd_Q_method_25 (by decide) (fun q2 => ?_) (fun q2 => ?_)
    · replace q2 : ¬ nM = 12 := fun z => q2 ((@nI_eq nM 12 (by omega) (by omega)).mpr z)
      refine z_iconst (v := 0) C dd_Q_method_32 (by decide) ?_
      refine pf_Q_121 C dd_Q_method_33 hP.1.1 (Nat.le_of_ble_eq_true rfl) rfl rfl ?_
      refine z_cut (md_K dA (md_fs F 0 0) I J q h) (md_wF hP rfl) rfl rfl rfl (fun h2_ hP2_ => ?_)
      refine z_aload_n C dd_Q_method_36 rfl ?_
      refine gf_Q_121 (v := .int 0) C dd_Q_method_37 hP2_.1.1 rfl ?_
      refine z_if_le (tgt := 45) C dd_Q_method_40 (by decide) (fun q3 => ?_) (fun q3 => absurd (by decide) q3)
      refine z_aload_n C dd_Q_method_45 rfl ?_
      refine gf_Q_20 (v := .ref (q + 1 + 2)) C dd_Q_method_46 hP2_.1.1 rfl ?_
      refine z_aload_n C dd_Q_method_49 rfl ?_
      refine gf_Q_138 (v := .int (F 5)) C dd_Q_method_50 hP2_.1.1 rfl ?_
      refine z_topi (y := nI nM) W.fm.symm ?_
      refine z_iload_n C dd_Q_method_53 rfl ?_
      refine z_iast (t0 := 0) (N := 12) (f := (I 2)) C rfl dd_Q_method_54 (hP2_.1.2 2 (by decide)) (vp_in_nI (by omega) (by decide)) ?_
      refine z_cut (md_K dA (md_fs F 0 0) (md_is I 2 (upd (I 2) (Int32.toNatClampNeg (nI nM)) (nI k0))) J q h) (md_wI hP2_ 2 (by decide) rfl) rfl rfl rfl (fun h3_ hP3_ => ?_)
      refine z_aload_n C dd_Q_method_55 rfl ?_
      refine z_iload_n C dd_Q_method_56 rfl ?_
      refine iv_Q_131 (sk := fun _ => []) (zz_f B) C dd_Q_method_57 (cn_Q_forget l D dA B _ _ q _ _ J hP3_.1 k0 (by omega)) hP3_.1.1 rfl rfl ⟨by decide, by decide⟩ (Nat.le_of_ble_eq_true rfl) ⟨by decide, by decide⟩ (fun _ => rfl) (fun _ h4_ n4_ p4_ => ?_)
      obtain ⟨m4_, rfl⟩ := p4_
      have hP4_ := md_tr hP3_ m4_
      refine z_aload_n C dd_Q_method_60 rfl ?_
      refine z_dup C dd_Q_method_61 rfl ?_
      refine gf_Q_138 (v := .int (F 5)) C dd_Q_method_62 hP4_.1.1 rfl ?_
      refine z_topi (y := nI nM) W.fm.symm ?_
      refine z_iconst (v := 1) C dd_Q_method_65 (by decide) ?_
      refine z_iadd C dd_Q_method_66 ?_
      refine z_topi (y := nI (nM + 1)) (by first | exact (nI_add _ _).symm | (rw [← nI_add]; rfl)) ?_
      refine pf_Q_138 C dd_Q_method_67 hP4_.1.1 (Nat.le_of_ble_eq_true rfl) rfl rfl ?_
      refine z_cut (md_K dA (md_fs (md_fs (md_fs F 0 0) 18 0) 5 (nI (nM + 1))) (pu_fg (md_is I 2 (upd (I 2) (Int32.toNatClampNeg (nI nM)) (nI k0))) k0) J q h) (md_wF hP4_ rfl) rfl rfl rfl (fun h5_ hP5_ => ?_)
      refine z_aload_n C dd_Q_method_70 rfl ?_
      refine gf_Q_138 (v := .int (nI (nM + 1))) C dd_Q_method_71 hP5_.1.1 rfl ?_
      refine z_iconst (v := 1) C dd_Q_method_74 (by decide) ?_
      refine z_isub C dd_Q_method_75 ?_
      refine z_topi (y := nI ((nM + 1) - 1)) (by rw [← pk_sub (a := (nM + 1)) (b := 1) (by omega)]; rfl) ?_
      exact z_iret C dd_Q_method_76 ⟨rfl, Or.inr (Or.inr ⟨k0, hk0, rfl, by omega, rfl, md_Ke hP5_ (by rw [nI_clamp (by omega)])⟩)⟩ (by decide) (by decide)
    · replace q2 : nM = 12 := (@nI_eq nM 12 (by omega) (by omega)).mp q2
      refine z_iconst (v := 2) C dd_Q_method_28 (by decide) ?_
      refine z_goto (tgt := 33) C dd_Q_method_29 (by decide) ?_
      refine pf_Q_121 C dd_Q_method_33 hP.1.1 (Nat.le_of_ble_eq_true rfl) rfl rfl ?_
      refine z_cut (md_K dA (md_fs F 0 2) I J q h) (md_wF hP rfl) rfl rfl rfl (fun h6_ hP6_ => ?_)
      refine z_aload_n C dd_Q_method_36 rfl ?_
      refine gf_Q_121 (v := .int 2) C dd_Q_method_37 hP6_.1.1 rfl ?_
      refine z_if_le (tgt := 45) C dd_Q_method_40 (by decide) (fun q4 => absurd q4 (by decide)) (fun q4 => ?_)
      refine z_iconst (v := 0) C dd_Q_method_43 (by decide) ?_
      exact z_iret C dd_Q_method_44 ⟨rfl, Or.inr (Or.inl ⟨k0, hk0, rfl, by omega, rfl, hP6_⟩)⟩ (by decide) (by decide)
  · skip
    refine z_iconst (v := 1) C dd_Q_method_15 (by decide) ?_
    refine z_goto (tgt := 33) C dd_Q_method_16 (by decide) ?_
    refine pf_Q_121 C dd_Q_method_33 hP.1.1 (Nat.le_of_ble_eq_true rfl) rfl rfl ?_
    refine z_cut (md_K dA (md_fs F 0 1) I J q h) (md_wF hP rfl) rfl rfl rfl (fun h7_ hP7_ => ?_)
    refine z_aload_n C dd_Q_method_36 rfl ?_
    refine gf_Q_121 (v := .int 1) C dd_Q_method_37 hP7_.1.1 rfl ?_
    refine z_if_le (tgt := 45) C dd_Q_method_40 (by decide) (fun q5 => absurd q5 (by decide)) (fun q5 => ?_)
    refine z_iconst (v := 0) C dd_Q_method_43 (by decide) ?_
    exact z_iret C dd_Q_method_44 ⟨rfl, Or.inl ⟨rfl, hP7_, fun k hk z => absurd ((pu_iv_0 (by omega)).mpr ⟨k, hk, z⟩) (by rw [((pu_b0 _).mp q1)]; decide)⟩⟩ (by decide) (by decide)
abbrev rm_Q_check : Room := { frames := 10, cells := 0, slots := 0, locals := 300 }
set_option maxRecDepth 20000 in
theorem lp_Q_check {D : va_G} {dA : Nat → ClassId} {B : Nat} {p : Program} {l : Launch} {e : Env} {s : State} {m : MethodId} {args : Array Value} {below : List Frame} {meth : Method} {c : Code} {Q : State → Prop} {n : Nat} {nm : String} {ret9 : Option FieldType} {h : zz_H} (C : zz_C D zz_cl (zz_ty dA) B zz_tb (zz_x B) p s m args meth c bb_Q_check RR_Q ret9 nm) {q : Nat} {F : Nat → Int32} {I : Nat → Nat → Int32} {J : Nat → Nat → Int64} (hP0 : md_P dA F I J q h) {nc ng nM : Nat} (W : pu_W F I nc ng nM) {g0 ar : Nat} (hg : g0 < ng) (har : I 1 g0 = nI ar) (ha : ar = 1 ∨ ar = 2) (kx0 : ∀ o3, (∀ r, r < pu_R nc ar → ¬ pu_best I nM g0 r < 0) → zz_W D zz_cl B p l e rm_Q_check s m args below meth c Q h n 0 0 [some (.ref q), some (.int (nI g0)), some (.int (nI (pu_R nc ar))), o3] 103 []) (kx1 : ∀ r0, r0 < pu_R nc ar → (∀ r, r < r0 → ¬ pu_best I nM g0 r < 0) → pu_best I nM g0 r0 < 0 → zz_W D zz_cl B p l e rm_Q_check s m args below meth c Q h n 0 0 [some (.ref q), some (.int (nI g0)), some (.int (nI r0)), some (.int (pu_best I nM g0 r0))] 64 []) :
    ∀ f r9 o3, r9 + f = pu_R nc ar → (∀ r, r < r9 → ¬ pu_best I nM g0 r < 0) → zz_W D zz_cl B p l e rm_Q_check s m args below meth c Q h n 0 0 [some (.ref q), some (.int (nI g0)), some (.int (nI r9)), o3] 44 [] := by
  intro f
  have hR := pu_R_le (nc := nc) (ar := ar) W.c8
  have h12 := W.m12
  have hg4 := W.g4
  have h1 := W.c1
  have h8 := W.c8
  have hg9 : g0 < 4 := by omega
  induction f with
  | zero =>
    intro r9 o3 hf hv
    have hr9 : r9 = pu_R nc ar := by omega
    subst hr9
    refine z_iload_n C dd_Q_check_44 rfl ?_
    refine z_aload_n C dd_Q_check_45 rfl ?_
    refine z_iload_n C dd_Q_check_46 rfl ?_
    refine iv_Q_153 (sk := fun r => .int r :: [.int (nI (pu_R nc ar))]) (zz_f B) C dd_Q_check_47 (cn_Q_rows l D dA B _ _ q F _ J hP0 nc h1 h8 W.fc g0 ar hg9 har ha) hP0.1 rfl rfl ⟨by decide, by decide⟩ (Nat.le_of_ble_eq_true rfl) ⟨by decide, by decide⟩ (fun _ => rfl) (fun v1_ h1_ n1_ p1_ => ?_)
    obtain ⟨e1_, f1_, rfl⟩ := p1_
    have e1z := e1_.symm
    have f1z := f1_.symm
    subst e1z
    subst f1z
    exact z_icmp_ge (tgt := 103) C dd_Q_check_50 (by decide) (fun _ => kx0 o3 hv) (fun q10 => absurd (nI_le (Nat.le_refl _) (by omega)) q10)
  | succ f ih =>
    intro r9 o3 hf hv
    refine z_iload_n C dd_Q_check_44 rfl ?_
    refine z_aload_n C dd_Q_check_45 rfl ?_
    refine z_iload_n C dd_Q_check_46 rfl ?_
    refine iv_Q_153 (sk := fun r => .int r :: [.int (nI r9)]) (zz_f B) C dd_Q_check_47 (cn_Q_rows l D dA B _ _ q F _ J hP0 nc h1 h8 W.fc g0 ar hg9 har ha) hP0.1 rfl rfl ⟨by decide, by decide⟩ (Nat.le_of_ble_eq_true rfl) ⟨by decide, by decide⟩ (fun _ => rfl) (fun v1_ h1_ n1_ p1_ => ?_)
    obtain ⟨e1_, f1_, rfl⟩ := p1_
    have e1z := e1_.symm
    have f1z := f1_.symm
    subst e1z
    subst f1z
    refine z_icmp_ge (tgt := 103) C dd_Q_check_50 (by decide) (fun q10 => absurd q10 (nI_ge (by omega) (by omega))) (fun _ => ?_)
    refine z_aload_n C dd_Q_check_53 rfl ?_
    refine z_iload_n C dd_Q_check_54 rfl ?_
    refine z_iload_n C dd_Q_check_55 rfl ?_
    refine iv_Q_183 (sk := fun r => .int r :: []) (zz_f B) C dd_Q_check_56 (cc_Q_bestAt l D dA B _ _ q _ _ J hP0 g0 r9 nM hg9 (by omega) h12 W.fm) hP0.1 rfl rfl ⟨by decide, by decide⟩ (Nat.le_of_ble_eq_true rfl) ⟨by decide, by decide⟩ (fun _ => rfl) (fun v2_ h2_ n2_ p2_ => ?_)
    obtain ⟨e2_, f2_, rfl⟩ := p2_
    have e2z := e2_.symm
    have f2z := f2_.symm
    subst e2z
    subst f2z
    refine z_istore_n C dd_Q_check_59 rfl ?_
    refine z_iload_n C dd_Q_check_60 rfl ?_
    refine z_if_ge (tgt := 97) C dd_Q_check_61 (by decide) (fun q61 => ?_) (fun q61 => ?_)
    · refine z_iincN C dd_Q_check_97 rfl rfl ?_
      refine z_goto (tgt := 44) C dd_Q_check_100 (by decide) ?_
      refine ih (r9 + 1) _ (by omega) (fun r hr => ?_)
      rcases Nat.lt_or_ge r r9 with z | z
      · exact hv r z
      · have e9 : r = r9 := by omega
        subst e9
        exact fun z9 => absurd q61 (Int32.not_le.mpr z9)
    · exact kx1 r9 (by omega) hv (Int32.not_le.mp q61)
set_option maxRecDepth 20000 in
/-- check -/
theorem cc_Q_check (l : Launch) (D : va_G) (dA : Nat → ClassId) (B : Nat) (h : zz_H) (n : Nat) (q : Nat) (F : Nat → Int32) (I : Nat → Nat → Int32) (J : Nat → Nat → Int64) (hP0 : md_P dA F I J q h) (nc ng nM : Nat) (W : pu_W F I nc ng nM) (g : Int32) : zz_M l D zz_cl (zz_ty dA) B zz_tb (zz_x B) yy_Q_check (Cond.code yy_Q_check bb_Q_check 4 (some FieldType.int)) rm_Q_check [.ref q, .int g] h n zz_mi (fun r h' n' => n' = n ∧ ((r = 0 ∧ md_K dA (md_fs F 0 1) I J q h h' ∧ ∀ k, k < ng → ¬ g = nI k) ∨ ∃ g0 ar, g0 < ng ∧ g = nI g0 ∧ (ar = 1 ∨ ar = 2) ∧ I 1 g0 = nI ar ∧ ((r = 0 ∧ md_K dA (md_fs (md_fs F 0 0) 18 0) (pu_know I nc nM g0 ar) J q h h' ∧ ∀ r, r < pu_R nc ar → ¬ pu_best (pu_know I nc nM g0 ar) nM g0 r < 0) ∨ (∃ r0, r0 < pu_R nc ar ∧ (∀ r, r < r0 → ¬ pu_best (pu_know I nc nM g0 ar) nM g0 r < 0) ∧ pu_best (pu_know I nc nM g0 ar) nM g0 r0 < 0 ∧ r = - pu_best (pu_know I nc nM g0 ar) nM g0 r0 ∧ md_K dA (md_fs (md_fs (md_fs (md_fs F 0 0) 18 (nI ar)) 19 (nI (pu_r1 nc ar r0))) 20 (nI (pu_r2 nc ar r0))) (pu_know I nc nM g0 ar) J q h h')))) := by
  refine zz_ofW (zz_f B) [some (.ref q), some (.int g), none, none] (by decide) rfl rfl (Nat.le_of_ble_eq_true rfl) ?_
  intro p e s m below meth c C
  have hg4 := W.g4
  have h12 := W.m12
  have h8 := W.c8
  have h1 := W.c1
  have hP := md_rf hP0
  refine z_aload_n C dd_Q_check_0 rfl ?_
  refine z_iload_n C dd_Q_check_1 rfl ?_
  refine z_iconst (v := 0) C dd_Q_check_2 (by decide) ?_
  refine z_aload_n C dd_Q_check_3 rfl ?_
  refine gf_Q_135 (v := .int (F 3)) C dd_Q_check_4 hP.1.1 rfl ?_
  refine z_topi (y := nI ng) W.fg.symm ?_
  refine z_iconst (v := 1) C dd_Q_check_7 (by decide) ?_
  refine z_isub C dd_Q_check_8 ?_
  refine is_Q_127 (sk := fun r => .int r :: [.ref q]) (zz_f B) C dd_Q_check_9 (cn_Q_in l D dA B _ _ _ _ _) rfl rfl ⟨by decide, by decide⟩ (Nat.le_of_ble_eq_true rfl) ⟨by decide, by decide⟩ (fun _ => rfl) (fun v1_ h1_ n1_ p1_ => ?_)
  obtain ⟨e1_, f1_, rfl⟩ := p1_
  have e1z := e1_.symm
  have f1z := f1_.symm
  subst e1z
  subst f1z
  refine z_if_eq (tgt := 19) C dd_Q_check_12 (by decide) (fun q1 => ?_) (fun q1 => ?_)
  · skip
    refine z_iconst (v := 1) C dd_Q_check_19 (by decide) ?_
    refine pf_Q_121 C dd_Q_check_20 hP.1.1 (Nat.le_of_ble_eq_true rfl) rfl rfl ?_
    refine z_cut (md_K dA (md_fs F 0 1) I J q h) (md_wF hP rfl) rfl rfl rfl (fun h2_ hP2_ => ?_)
    refine z_aload_n C dd_Q_check_23 rfl ?_
    refine gf_Q_121 (v := .int 1) C dd_Q_check_24 hP2_.1.1 rfl ?_
    refine z_if_le (tgt := 32) C dd_Q_check_27 (by decide) (fun q2 => absurd q2 (by decide)) (fun q2 => ?_)
    refine z_iconst (v := 0) C dd_Q_check_30 (by decide) ?_
    exact z_iret C dd_Q_check_31 ⟨rfl, Or.inl ⟨rfl, hP2_, fun k hk z => absurd ((pu_iv_0 (by omega)).mpr ⟨k, hk, z⟩) (by rw [((pu_b0 _).mp q1)]; decide)⟩⟩ (by decide) (by decide)
  · skip
    refine z_iconst (v := 0) C dd_Q_check_15 (by decide) ?_
    refine z_goto (tgt := 20) C dd_Q_check_16 (by decide) ?_
    refine pf_Q_121 C dd_Q_check_20 hP.1.1 (Nat.le_of_ble_eq_true rfl) rfl rfl ?_
    refine z_cut (md_K dA (md_fs F 0 0) I J q h) (md_wF hP rfl) rfl rfl rfl (fun h3_ hP3_ => ?_)
    refine z_aload_n C dd_Q_check_23 rfl ?_
    refine gf_Q_121 (v := .int 0) C dd_Q_check_24 hP3_.1.1 rfl ?_
    refine z_if_le (tgt := 32) C dd_Q_check_27 (by decide) (fun q3 => ?_) (fun q3 => absurd (by decide) q3)
    obtain ⟨g0, hg0, rfl⟩ := (pu_iv_0 (by omega)).mp (pu_bn1.mp q1)
    obtain ⟨ar, har2, har⟩ := W.ar g0 hg0
    have hRl := pu_R_le (nc := nc) (ar := ar) h8
    refine z_aload_n C dd_Q_check_32 rfl ?_
    refine z_iload_n C dd_Q_check_33 rfl ?_
    refine iv_Q_173 (sk := fun _ => []) (zz_f B) C dd_Q_check_34 (cc_Q_know l D dA B _ _ q _ I J hP3_.1 nc ng nM (pu_W_f W (by decide)) g0 ar hg0 har har2) hP3_.1.1 rfl rfl ⟨by decide, by decide⟩ (Nat.le_of_ble_eq_true rfl) ⟨by decide, by decide⟩ (fun _ => rfl) (fun _ h4_ n4_ p4_ => ?_)
    obtain ⟨m4_, rfl⟩ := p4_
    have hP4_ := md_tr hP3_ m4_
    have ek1 : pu_know I nc nM g0 ar 1 g0 = nI ar := by rw [pu_know_8 _ _ _ _ _ _ (by decide)]; exact har
    refine z_aload_n C dd_Q_check_37 rfl ?_
    refine z_iconst (v := 0) C dd_Q_check_38 (by decide) ?_
    refine pf_Q_124 C dd_Q_check_39 hP4_.1.1 (Nat.le_of_ble_eq_true rfl) rfl rfl ?_
    refine z_cut (md_K dA (md_fs (md_fs F 0 0) 18 0) (pu_know I nc nM g0 ar) J q h) (md_wF hP4_ rfl) rfl rfl rfl (fun h5_ hP5_ => ?_)
    refine z_iconst (v := nI 0) C dd_Q_check_42 (by decide) ?_
    refine z_istore_n C dd_Q_check_43 rfl ?_
    have W9 : pu_W (md_fs (md_fs F 0 0) 18 0) (pu_know I nc nM g0 ar) nc ng nM := pu_W_k (pu_W_f (pu_W_f W (by decide)) (by decide)) g0 ar
    refine lp_Q_check C hP5_.1 W9 hg0 ek1 har2 (fun o3 hv => ?_) (fun r0 hr0 hv hb => ?_) (pu_R nc ar) 0 none (by omega) (fun r hr => absurd hr (by omega))
    · refine z_iconst (v := 0) C dd_Q_check_103 (by decide) ?_
      exact z_iret C dd_Q_check_104 ⟨rfl, Or.inr ⟨g0, ar, hg0, rfl, har2, har, Or.inl ⟨rfl, hP5_, hv⟩⟩⟩ (by decide) (by decide)
    · skip
      refine z_aload_n C dd_Q_check_64 rfl ?_
      refine z_aload_n C dd_Q_check_65 rfl ?_
      refine gf_Q_17 (v := .ref (q + 1 + 1)) C dd_Q_check_66 hP5_.1.1 rfl ?_
      refine z_iload_n C dd_Q_check_69 rfl ?_
      refine z_iald (t0 := 0) (N := 4) (f := ((pu_know I nc nM g0 ar) 1)) C rfl dd_Q_check_70 (hP5_.1.2 1 (by decide)) (vp_in_nI (by omega) (by decide)) ?_
      refine z_topi (y := nI ar) (by rw [nI_clamp (by omega)]; exact ek1.symm) ?_
      refine pf_Q_124 C dd_Q_check_71 hP5_.1.1 (Nat.le_of_ble_eq_true rfl) rfl rfl ?_
      refine z_cut (md_K dA (md_fs (md_fs (md_fs F 0 0) 18 0) 18 (nI ar)) (pu_know I nc nM g0 ar) J q h) (md_wF hP5_ rfl) rfl rfl rfl (fun h6_ hP6_ => ?_)
      refine z_aload_n C dd_Q_check_74 rfl ?_
      refine z_aload_n C dd_Q_check_75 rfl ?_
      refine z_iload_n C dd_Q_check_76 rfl ?_
      refine z_iload_n C dd_Q_check_77 rfl ?_
      refine iv_Q_157 (sk := fun r => .int r :: [.ref q]) (zz_f B) C dd_Q_check_78 (cn_Q_firstOf l D dA B _ _ q _ _ J hP6_.1 nc h1 h8 W.fc g0 ar (by omega) ek1 har2 r0 (by omega)) hP6_.1.1 rfl rfl ⟨by decide, by decide⟩ (Nat.le_of_ble_eq_true rfl) ⟨by decide, by decide⟩ (fun _ => rfl) (fun v7_ h7_ n7_ p7_ => ?_)
      obtain ⟨e7_, f7_, rfl⟩ := p7_
      have e7z := e7_.symm
      have f7z := f7_.symm
      subst e7z
      subst f7z
      refine pf_Q_186 C dd_Q_check_81 hP6_.1.1 (Nat.le_of_ble_eq_true rfl) rfl rfl ?_
      refine z_cut (md_K dA (md_fs (md_fs (md_fs (md_fs F 0 0) 18 0) 18 (nI ar)) 19 (nI (pu_r1 nc ar r0))) (pu_know I nc nM g0 ar) J q h) (md_wF hP6_ rfl) rfl rfl rfl (fun h8_ hP8_ => ?_)
      refine z_aload_n C dd_Q_check_84 rfl ?_
      refine z_aload_n C dd_Q_check_85 rfl ?_
      refine z_iload_n C dd_Q_check_86 rfl ?_
      refine z_iload_n C dd_Q_check_87 rfl ?_
      refine iv_Q_161 (sk := fun r => .int r :: [.ref q]) (zz_f B) C dd_Q_check_88 (cn_Q_secondOf l D dA B _ _ q _ _ J hP8_.1 nc h1 h8 W.fc g0 ar (by omega) ek1 har2 r0 (by omega)) hP8_.1.1 rfl rfl ⟨by decide, by decide⟩ (Nat.le_of_ble_eq_true rfl) ⟨by decide, by decide⟩ (fun _ => rfl) (fun v9_ h9_ n9_ p9_ => ?_)
      obtain ⟨e9_, f9_, rfl⟩ := p9_
      have e9z := e9_.symm
      have f9z := f9_.symm
      subst e9z
      subst f9z
      refine pf_Q_189 C dd_Q_check_91 hP8_.1.1 (Nat.le_of_ble_eq_true rfl) rfl rfl ?_
      refine z_cut (md_K dA (md_fs (md_fs (md_fs (md_fs (md_fs F 0 0) 18 0) 18 (nI ar)) 19 (nI (pu_r1 nc ar r0))) 20 (nI (pu_r2 nc ar r0))) (pu_know I nc nM g0 ar) J q h) (md_wF hP8_ rfl) rfl rfl rfl (fun h10_ hP10_ => ?_)
      refine z_iload_n C dd_Q_check_94 rfl ?_
      refine z_ineg C dd_Q_check_95 ?_
      exact z_iret C dd_Q_check_96 ⟨rfl, Or.inr ⟨g0, ar, hg0, rfl, har2, har, Or.inr ⟨r0, hr0, hv, hb, rfl, md_KF hP10_ (by rw [md_ff])⟩⟩⟩ (by decide) (by decide)
