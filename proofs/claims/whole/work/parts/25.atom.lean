/-- may an atom of kind kd, argument i, number x stand in a method of a generic of ar arguments -/
def pu_ain (nc ar kd : Nat) (i x : Int32) : Bool := (if 3 < kd then decide (ar = 2) else pu_iv i 0 (nI ar - 1)) && (if 2 < kd then true else pu_iv x (if kd = 0 then 0 else -4) (if kd = 0 then nI nc - 1 else if kd = 1 then 4 else 3))
def pu_addA (I : Nat → Nat → Int32) (m0 a kd : Nat) (i x b : Int32) (g0 : Nat) : Nat → Nat → Int32 := pu_fg (md_is (md_is (md_is (md_is (md_is I 4 (upd (I 4) (4 * m0 + a) (nI kd))) 5 (upd (I 5) (4 * m0 + a) (if 3 < kd then 0 else i))) 6 (upd (I 6) (4 * m0 + a) (if 2 < kd then 0 else x))) 7 (upd (I 7) (4 * m0 + a) b)) 3 (upd (I 3) m0 (nI (a + 1)))) g0
/-- may an operation of kind kd and number n stand there -/
def pu_oin (nc ng ar kd : Nat) (n : Int32) : Bool := if kd = 0 then pu_iv n (-4) 3 else if kd = 1 then pu_iv n 0 (nI ar - 1) else if kd = 4 then pu_iv n 0 (nI nc - 1) else if kd = 5 then pu_iv n 0 (nI ng - 1) else true
def pu_addO (I : Nat → Nat → Int32) (m0 a kd : Nat) (n : Int32) : Nat → Nat → Int32 := md_is (md_is (md_is I 9 (upd (I 9) (8 * m0 + a) (nI kd))) 10 (upd (I 10) (8 * m0 + a) n)) 8 (upd (I 8) m0 (nI (a + 1)))
theorem pu_iv_5 {k : Int32} (K : Nat) (hK : K < 100) (h : pu_iv k 0 (nI K) = true) : ∃ kd, kd < K + 1 ∧ k = nI kd := by
  have e := (pu_iv_0 (v := k) (N := K + 1) (by omega)).mp (by rw [nI_pred]; exact h)
  exact e
abbrev rm_Q_atom : Room := { frames := 5, cells := 0, slots := 0, locals := 120 }
set_option maxRecDepth 20000 in
/-- atom -/
theorem ca_Q_atom_0 (l : Launch) (D : va_G) (dA : Nat → ClassId) (B : Nat) (h : zz_H) (n : Nat) (q : Nat) (F : Nat → Int32) (I : Nat → Nat → Int32) (J : Nat → Nat → Int64) (hP0 : md_P dA F I J q h) (nc ng nM : Nat) (W : pu_W F I nc ng nM) (m0 g0 ar a : Nat) (hm : m0 < nM) (hg : g0 < ng) (eo : I 2 m0 = nI g0) (ha : ar = 1 ∨ ar = 2) (har : I 1 g0 = nI ar) (h4 : a ≤ 4) (hat : I 3 m0 = nI a) (x3 x4 x5 : Int32) (hb : x5 = 0 ∨ x5 = 1) : zz_M l D zz_cl (zz_ty dA) B zz_tb (zz_x B) yy_Q_atom (Cond.code yy_Q_atom bb_Q_atom 9 (some FieldType.int)) rm_Q_atom [.ref q, .int ((nI m0)), .int ((nI 0)), .int x3, .int x4, .int x5] h n zz_mi (fun r h' n' => n' = n ∧ (((pu_iv (nI m0) 0 (nI nM - 1) && pu_iv (nI 0) 0 (nI 5)) = false ∧ r = 0 ∧ md_K dA (md_fs F 0 1) I J q h h') ∨ (∃ m9 k9 g9 r9 a9, m9 < nM ∧ (nI m0) = nI m9 ∧ k9 < 6 ∧ (nI 0) = nI k9 ∧ g9 < ng ∧ I 2 m9 = nI g9 ∧ (r9 = 1 ∨ r9 = 2) ∧ I 1 g9 = nI r9 ∧ a9 ≤ 4 ∧ I 3 m9 = nI a9 ∧ ((pu_ain nc r9 k9 x3 x4 = false ∧ r = 0 ∧ md_K dA (md_fs F 0 1) I J q h h') ∨ (pu_ain nc r9 k9 x3 x4 = true ∧ a9 = 4 ∧ r = 0 ∧ md_K dA (md_fs F 0 2) I J q h h') ∨ (pu_ain nc r9 k9 x3 x4 = true ∧ a9 < 4 ∧ r = nI (a9 + 1) ∧ md_K dA (md_fs (md_fs F 0 0) 18 0) (pu_addA I m9 a9 k9 x3 x4 x5 g9) J q h h'))))) := by
  refine zz_ofW (zz_f B) [some (.ref q), some (.int ((nI m0))), some (.int ((nI 0))), some (.int x3), some (.int x4), some (.int x5), none, none, none] (by decide) rfl rfl (Nat.le_of_ble_eq_true rfl) ?_
  intro p e s m below meth c C
  have hg4 := W.g4
  have h12 := W.m12
  have h8 := W.c8
  have hP := md_rf hP0
  have hvb : vp_nar .boolean x5 = x5 := by rcases hb with rfl | rfl <;> decide
  refine z_iload_n C dd_Q_atom_0 rfl ?_
  refine z_iconst (v := 0) C dd_Q_atom_1 (by decide) ?_
  refine z_aload_n C dd_Q_atom_2 rfl ?_
  refine gf_Q_138 (v := .int (F 5)) C dd_Q_atom_3 hP.1.1 rfl ?_
  refine z_topi (y := nI nM) W.fm.symm ?_
  refine z_iconst (v := 1) C dd_Q_atom_6 (by decide) ?_
  refine z_isub C dd_Q_atom_7 ?_
  refine is_Q_127 (sk := fun r => .int r :: []) (zz_f B) C dd_Q_atom_8 (cn_Q_in l D dA B _ _ _ _ _) rfl rfl ⟨by decide, by decide⟩ (Nat.le_of_ble_eq_true rfl) ⟨by decide, by decide⟩ (fun _ => rfl) (fun v1_ h1_ n1_ p1_ => ?_)
  obtain ⟨e1_, f1_, rfl⟩ := p1_
  have e1z := e1_.symm
  have f1z := f1_.symm
  subst e1z
  subst f1z
  refine z_if_eq (tgt := 27) C dd_Q_atom_11 (by decide) (fun q1 => absurd ((pu_b0 _).mp q1) (by rw [(pu_iv_0 (by omega)).mpr ⟨m0, hm, rfl⟩]; decide)) (fun q1 => ?_)
  refine z_iload_n C dd_Q_atom_14 rfl ?_
  refine z_iconst (v := 0) C dd_Q_atom_15 (by decide) ?_
  refine z_iconst (v := 5) C dd_Q_atom_16 (by decide) ?_
  refine is_Q_127 (sk := fun r => .int r :: []) (zz_f B) C dd_Q_atom_17 (cn_Q_in l D dA B _ _ _ _ _) rfl rfl ⟨by decide, by decide⟩ (Nat.le_of_ble_eq_true rfl) ⟨by decide, by decide⟩ (fun _ => rfl) (fun v2_ h2_ n2_ p2_ => ?_)
  obtain ⟨e2_, f2_, rfl⟩ := p2_
  have e2z := e2_.symm
  have f2z := f2_.symm
  subst e2z
  subst f2z
  refine z_if_eq (tgt := 27) C dd_Q_atom_20 (by decide) (fun q2 => absurd q2 (by decide)) (fun q2 => ?_)
  refine z_iconst (v := 1) C dd_Q_atom_23 (by decide) ?_
  refine z_goto (tgt := 28) C dd_Q_atom_24 (by decide) ?_
  refine z_istore C dd_Q_atom_28 rfl ?_
  refine z_iload C dd_Q_atom_30 rfl ?_
  refine z_if_eq (tgt := 49) C dd_Q_atom_32 (by decide) (fun q3 => absurd q3 (by decide)) (fun q3 => ?_)
  refine z_aload_n C dd_Q_atom_35 rfl ?_
  refine gf_Q_17 (v := .ref (q + 1 + 1)) C dd_Q_atom_36 hP.1.1 rfl ?_
  refine z_aload_n C dd_Q_atom_39 rfl ?_
  refine gf_Q_20 (v := .ref (q + 1 + 2)) C dd_Q_atom_40 hP.1.1 rfl ?_
  refine z_iload_n C dd_Q_atom_43 rfl ?_
  refine z_iald (t0 := 0) (N := 12) (f := (I 2)) C rfl dd_Q_atom_44 (hP.1.2 2 (by decide)) (vp_in_nI (by omega) (by decide)) ?_
  refine z_topi (y := nI g0) (by rw [nI_clamp (by omega)]; exact eo.symm) ?_
  refine z_iald (t0 := 0) (N := 4) (f := (I 1)) C rfl dd_Q_atom_45 (hP.1.2 1 (by decide)) (vp_in_nI (by omega) (by decide)) ?_
  refine z_topi (y := nI ar) (by rw [nI_clamp (by omega)]; exact har.symm) ?_
  refine z_goto (tgt := 50) C dd_Q_atom_46 (by decide) ?_
  refine z_istore C dd_Q_atom_50 rfl ?_
  refine z_iload C dd_Q_atom_52 rfl ?_
  refine z_if_eq (tgt := 87) C dd_Q_atom_54 (by decide) (fun q4 => absurd q4 (by decide)) (fun q4 => ?_)
  refine z_iload_n C dd_Q_atom_57 rfl ?_
  refine z_iconst (v := 3) C dd_Q_atom_58 (by decide) ?_
  refine z_icmp_le (tgt := 71) C dd_Q_atom_59 (by decide) (fun q5 => ?_) (fun q5 => absurd (by decide) q5)
  refine z_iload_n C dd_Q_atom_71 rfl ?_
  refine z_iconst (v := 0) C dd_Q_atom_72 (by decide) ?_
  refine z_iload C dd_Q_atom_73 rfl ?_
  refine z_iconst (v := 1) C dd_Q_atom_75 (by decide) ?_
  refine z_isub C dd_Q_atom_76 ?_
  refine is_Q_127 (sk := fun r => .int r :: []) (zz_f B) C dd_Q_atom_77 (cn_Q_in l D dA B _ _ _ _ _) rfl rfl ⟨by decide, by decide⟩ (Nat.le_of_ble_eq_true rfl) ⟨by decide, by decide⟩ (fun _ => rfl) (fun v3_ h3_ n3_ p3_ => ?_)
  obtain ⟨e3_, f3_, rfl⟩ := p3_
  have e3z := e3_.symm
  have f3z := f3_.symm
  subst e3z
  subst f3z
  refine z_if_eq (tgt := 87) C dd_Q_atom_80 (by decide) (fun q6 => ?_) (fun q6 => ?_)
  · skip
    refine z_iconst (v := 0) C dd_Q_atom_87 (by decide) ?_
    refine z_istore C dd_Q_atom_88 rfl ?_
    refine z_iload C dd_Q_atom_90 rfl ?_
    refine z_if_eq (tgt := 145) C dd_Q_atom_92 (by decide) (fun q7 => ?_) (fun q7 => absurd (by decide) q7)
    refine z_iconst (v := 0) C dd_Q_atom_145 (by decide) ?_
    refine z_istore C dd_Q_atom_146 rfl ?_
    refine z_aload_n C dd_Q_atom_148 rfl ?_
    refine z_iload C dd_Q_atom_149 rfl ?_
    refine z_if_ne (tgt := 158) C dd_Q_atom_151 (by decide) (fun q8 => absurd (by decide) q8) (fun q8 => ?_)
    refine z_iconst (v := 1) C dd_Q_atom_154 (by decide) ?_
    refine z_goto (tgt := 173) C dd_Q_atom_155 (by decide) ?_
    refine pf_Q_121 C dd_Q_atom_173 hP.1.1 (Nat.le_of_ble_eq_true rfl) rfl rfl ?_
    refine z_cut (md_K dA (md_fs F 0 1) I J q h) (md_wF hP rfl) rfl rfl rfl (fun h4_ hP4_ => ?_)
    refine z_aload_n C dd_Q_atom_176 rfl ?_
    refine gf_Q_121 (v := .int 1) C dd_Q_atom_177 hP4_.1.1 rfl ?_
    refine z_if_le (tgt := 185) C dd_Q_atom_180 (by decide) (fun q9 => absurd q9 (by decide)) (fun q9 => ?_)
    refine z_iconst (v := 0) C dd_Q_atom_183 (by decide) ?_
    exact z_iret C dd_Q_atom_184 ⟨rfl, Or.inr ⟨m0, 0, g0, ar, a, hm, rfl, by decide, rfl, hg, eo, ha, har, h4, hat, Or.inl ⟨(by simp [pu_ain, ((pu_b0 _).mp q6)]), rfl, hP4_⟩⟩⟩ (by decide) (by decide)
  · skip
    refine z_iconst (v := 1) C dd_Q_atom_83 (by decide) ?_
    refine z_goto (tgt := 88) C dd_Q_atom_84 (by decide) ?_
    refine z_istore C dd_Q_atom_88 rfl ?_
    refine z_iload C dd_Q_atom_90 rfl ?_
    refine z_if_eq (tgt := 145) C dd_Q_atom_92 (by decide) (fun q10 => absurd q10 (by decide)) (fun q10 => ?_)
    refine z_iload_n C dd_Q_atom_95 rfl ?_
    refine z_iconst (v := 2) C dd_Q_atom_96 (by decide) ?_
    refine z_icmp_gt (tgt := 141) C dd_Q_atom_97 (by decide) (fun q11 => absurd q11 (by decide)) (fun q11 => ?_)
    refine z_iload C dd_Q_atom_100 rfl ?_
    refine z_iload_n C dd_Q_atom_102 rfl ?_
    refine z_if_ne (tgt := 110) C dd_Q_atom_103 (by decide) (fun q12 => absurd (by decide) q12) (fun q12 => ?_)
    refine z_iconst (v := 0) C dd_Q_atom_106 (by decide) ?_
    refine z_goto (tgt := 112) C dd_Q_atom_107 (by decide) ?_
    refine z_iload_n C dd_Q_atom_112 rfl ?_
    refine z_if_ne (tgt := 125) C dd_Q_atom_113 (by decide) (fun q13 => absurd (by decide) q13) (fun q13 => ?_)
    refine z_aload_n C dd_Q_atom_116 rfl ?_
    refine gf_Q_7 (v := .int (F 1)) C dd_Q_atom_117 hP.1.1 rfl ?_
    refine z_topi (y := nI nc) W.fc.symm ?_
    refine z_iconst (v := 1) C dd_Q_atom_120 (by decide) ?_
    refine z_isub C dd_Q_atom_121 ?_
    refine z_goto (tgt := 135) C dd_Q_atom_122 (by decide) ?_
    refine is_Q_127 (sk := fun r => .int r :: []) (zz_f B) C dd_Q_atom_135 (cn_Q_in l D dA B _ _ _ _ _) rfl rfl ⟨by decide, by decide⟩ (Nat.le_of_ble_eq_true rfl) ⟨by decide, by decide⟩ (fun _ => rfl) (fun v5_ h5_ n5_ p5_ => ?_)
    obtain ⟨e5_, f5_, rfl⟩ := p5_
    have e5z := e5_.symm
    have f5z := f5_.symm
    subst e5z
    subst f5z
    refine z_if_eq (tgt := 145) C dd_Q_atom_138 (by decide) (fun q14 => ?_) (fun q14 => ?_)
    · skip
      refine z_iconst (v := 0) C dd_Q_atom_145 (by decide) ?_
      refine z_istore C dd_Q_atom_146 rfl ?_
      refine z_aload_n C dd_Q_atom_148 rfl ?_
      refine z_iload C dd_Q_atom_149 rfl ?_
      refine z_if_ne (tgt := 158) C dd_Q_atom_151 (by decide) (fun q15 => absurd (by decide) q15) (fun q15 => ?_)
      refine z_iconst (v := 1) C dd_Q_atom_154 (by decide) ?_
      refine z_goto (tgt := 173) C dd_Q_atom_155 (by decide) ?_
      refine pf_Q_121 C dd_Q_atom_173 hP.1.1 (Nat.le_of_ble_eq_true rfl) rfl rfl ?_
      refine z_cut (md_K dA (md_fs F 0 1) I J q h) (md_wF hP rfl) rfl rfl rfl (fun h6_ hP6_ => ?_)
      refine z_aload_n C dd_Q_atom_176 rfl ?_
      refine gf_Q_121 (v := .int 1) C dd_Q_atom_177 hP6_.1.1 rfl ?_
      refine z_if_le (tgt := 185) C dd_Q_atom_180 (by decide) (fun q16 => absurd q16 (by decide)) (fun q16 => ?_)
      refine z_iconst (v := 0) C dd_Q_atom_183 (by decide) ?_
      exact z_iret C dd_Q_atom_184 ⟨rfl, Or.inr ⟨m0, 0, g0, ar, a, hm, rfl, by decide, rfl, hg, eo, ha, har, h4, hat, Or.inl ⟨(by simp [pu_ain, (pu_bn1.mp q6), ((pu_b0 _).mp q14)]), rfl, hP6_⟩⟩⟩ (by decide) (by decide)
    · skip
      refine z_iconst (v := 1) C dd_Q_atom_141 (by decide) ?_
      refine z_goto (tgt := 146) C dd_Q_atom_142 (by decide) ?_
      refine z_istore C dd_Q_atom_146 rfl ?_
      refine z_aload_n C dd_Q_atom_148 rfl ?_
      refine z_iload C dd_Q_atom_149 rfl ?_
      refine z_if_ne (tgt := 158) C dd_Q_atom_151 (by decide) (fun q17 => ?_) (fun q17 => absurd q17 (by decide))
      refine z_aload_n C dd_Q_atom_158 rfl ?_
      refine gf_Q_23 (v := .ref (q + 1 + 3)) C dd_Q_atom_159 hP.1.1 rfl ?_
      refine z_iload_n C dd_Q_atom_162 rfl ?_
      refine z_iald (t0 := 0) (N := 12) (f := (I 3)) C rfl dd_Q_atom_163 (hP.1.2 3 (by decide)) (vp_in_nI (by omega) (by decide)) ?_
      refine z_topi (y := nI a) (by rw [nI_clamp (by omega)]; exact hat.symm) ?_
      refine z_iconst (v := 4) C dd_Q_atom_164 (by decide) ?_
      refine z_icmp_ne (tgt := 172) C dd_Q_atom_165 (by decide) (fun q18 => ?_) (fun q18 => ?_)
      · replace q18 : ¬ a = 4 := fun z => q18 ((@nI_eq a 4 (by omega) (by omega)).mpr z)
        refine z_iconst (v := 0) C dd_Q_atom_172 (by decide) ?_
        refine pf_Q_121 C dd_Q_atom_173 hP.1.1 (Nat.le_of_ble_eq_true rfl) rfl rfl ?_
        refine z_cut (md_K dA (md_fs F 0 0) I J q h) (md_wF hP rfl) rfl rfl rfl (fun h7_ hP7_ => ?_)
        refine z_aload_n C dd_Q_atom_176 rfl ?_
        refine gf_Q_121 (v := .int 0) C dd_Q_atom_177 hP7_.1.1 rfl ?_
        refine z_if_le (tgt := 185) C dd_Q_atom_180 (by decide) (fun q19 => ?_) (fun q19 => absurd (by decide) q19)
        refine z_iconst (v := 4) C dd_Q_atom_185 (by decide) ?_
        refine z_iload_n C dd_Q_atom_186 rfl ?_
        refine z_imul C dd_Q_atom_187 ?_
        refine z_topi (y := nI (4 * m0)) (by first | exact (pk_mul _ _).symm | (rw [← pk_mul]; rfl)) ?_
        refine z_aload_n C dd_Q_atom_188 rfl ?_
        refine gf_Q_23 (v := .ref (q + 1 + 3)) C dd_Q_atom_189 hP7_.1.1 rfl ?_
        refine z_iload_n C dd_Q_atom_192 rfl ?_
        refine z_iald (t0 := 0) (N := 12) (f := (I 3)) C rfl dd_Q_atom_193 (hP7_.1.2 3 (by decide)) (vp_in_nI (by omega) (by decide)) ?_
        refine z_topi (y := nI a) (by rw [nI_clamp (by omega)]; exact hat.symm) ?_
        refine z_iadd C dd_Q_atom_194 ?_
        refine z_topi (y := nI ((4 * m0) + a)) (by first | exact (nI_add _ _).symm | (rw [← nI_add]; rfl)) ?_
        refine z_istore C dd_Q_atom_195 rfl ?_
        refine z_aload_n C dd_Q_atom_197 rfl ?_
        refine gf_Q_26 (v := .ref (q + 1 + 4)) C dd_Q_atom_198 hP7_.1.1 rfl ?_
        refine z_iload C dd_Q_atom_201 rfl ?_
        refine z_iload_n C dd_Q_atom_203 rfl ?_
        refine z_iast (t0 := 0) (N := 48) (f := (I 4)) C rfl dd_Q_atom_204 (hP7_.1.2 4 (by decide)) (vp_in_nI (by omega) (by decide)) ?_
        refine z_cut (md_K dA (md_fs F 0 0) (md_is I 4 (upd (I 4) (Int32.toNatClampNeg (nI ((4 * m0) + a))) (nI 0))) J q h) (md_wI hP7_ 4 (by decide) rfl) rfl rfl rfl (fun h8_ hP8_ => ?_)
        refine z_aload_n C dd_Q_atom_205 rfl ?_
        refine gf_Q_29 (v := .ref (q + 1 + 5)) C dd_Q_atom_206 hP8_.1.1 rfl ?_
        refine z_iload C dd_Q_atom_209 rfl ?_
        refine z_iload_n C dd_Q_atom_211 rfl ?_
        refine z_iconst (v := 3) C dd_Q_atom_212 (by decide) ?_
        refine z_icmp_le (tgt := 220) C dd_Q_atom_213 (by decide) (fun q20 => ?_) (fun q20 => absurd (by decide) q20)
        refine z_iload_n C dd_Q_atom_220 rfl ?_
        refine z_iast (t0 := 0) (N := 48) (f := (I 5)) C rfl dd_Q_atom_221 (hP8_.1.2 5 (by decide)) (vp_in_nI (by omega) (by decide)) ?_
        refine z_cut (md_K dA (md_fs F 0 0) (md_is (md_is I 4 (upd (I 4) (Int32.toNatClampNeg (nI ((4 * m0) + a))) (nI 0))) 5 (upd (I 5) (Int32.toNatClampNeg (nI ((4 * m0) + a))) x3)) J q h) (md_wI hP8_ 5 (by decide) rfl) rfl rfl rfl (fun h9_ hP9_ => ?_)
        refine z_aload_n C dd_Q_atom_222 rfl ?_
        refine gf_Q_32 (v := .ref (q + 1 + 6)) C dd_Q_atom_223 hP9_.1.1 rfl ?_
        refine z_iload C dd_Q_atom_226 rfl ?_
        refine z_iload_n C dd_Q_atom_228 rfl ?_
        refine z_iconst (v := 2) C dd_Q_atom_229 (by decide) ?_
        refine z_icmp_le (tgt := 237) C dd_Q_atom_230 (by decide) (fun q21 => ?_) (fun q21 => absurd (by decide) q21)
        refine z_iload C dd_Q_atom_237 rfl ?_
        refine z_iast (t0 := 0) (N := 48) (f := (I 6)) C rfl dd_Q_atom_239 (hP9_.1.2 6 (by decide)) (vp_in_nI (by omega) (by decide)) ?_
        refine z_cut (md_K dA (md_fs F 0 0) (md_is (md_is (md_is I 4 (upd (I 4) (Int32.toNatClampNeg (nI ((4 * m0) + a))) (nI 0))) 5 (upd (I 5) (Int32.toNatClampNeg (nI ((4 * m0) + a))) x3)) 6 (upd (I 6) (Int32.toNatClampNeg (nI ((4 * m0) + a))) x4)) J q h) (md_wI hP9_ 6 (by decide) rfl) rfl rfl rfl (fun h10_ hP10_ => ?_)
        refine z_aload_n C dd_Q_atom_240 rfl ?_
        refine gf_Q_35 (v := .ref (q + 1 + 7)) C dd_Q_atom_241 hP10_.1.1 rfl ?_
        refine z_iload C dd_Q_atom_244 rfl ?_
        refine z_iload C dd_Q_atom_246 rfl ?_
        refine z_zast (t0 := 2) (N := 48) (f := (I 7)) C rfl dd_Q_atom_248 (hP10_.1.2 7 (by decide)) (vp_in_nI (by omega) (by decide)) ?_
        refine z_cut (md_K dA (md_fs F 0 0) (md_is (md_is (md_is (md_is I 4 (upd (I 4) (Int32.toNatClampNeg (nI ((4 * m0) + a))) (nI 0))) 5 (upd (I 5) (Int32.toNatClampNeg (nI ((4 * m0) + a))) x3)) 6 (upd (I 6) (Int32.toNatClampNeg (nI ((4 * m0) + a))) x4)) 7 (upd (I 7) (Int32.toNatClampNeg (nI ((4 * m0) + a))) (vp_nar .boolean x5))) J q h) (md_wI hP10_ 7 (by decide) rfl) rfl rfl rfl (fun h11_ hP11_ => ?_)
        refine z_aload_n C dd_Q_atom_249 rfl ?_
        refine gf_Q_23 (v := .ref (q + 1 + 3)) C dd_Q_atom_250 hP11_.1.1 rfl ?_
        refine z_iload_n C dd_Q_atom_253 rfl ?_
        refine z_dup2_11 C dd_Q_atom_254 rfl rfl ?_
        refine z_iald (t0 := 0) (N := 12) (f := (I 3)) C rfl dd_Q_atom_255 (hP11_.1.2 3 (by decide)) (vp_in_nI (by omega) (by decide)) ?_
        refine z_topi (y := nI a) (by rw [nI_clamp (by omega)]; exact hat.symm) ?_
        refine z_iconst (v := 1) C dd_Q_atom_256 (by decide) ?_
        refine z_iadd C dd_Q_atom_257 ?_
        refine z_topi (y := nI (a + 1)) (by first | exact (nI_add _ _).symm | (rw [← nI_add]; rfl)) ?_
        refine z_iast (t0 := 0) (N := 12) (f := (I 3)) C rfl dd_Q_atom_258 (hP11_.1.2 3 (by decide)) (vp_in_nI (by omega) (by decide)) ?_
        refine z_cut (md_K dA (md_fs F 0 0) (md_is (md_is (md_is (md_is (md_is I 4 (upd (I 4) (Int32.toNatClampNeg (nI ((4 * m0) + a))) (nI 0))) 5 (upd (I 5) (Int32.toNatClampNeg (nI ((4 * m0) + a))) x3)) 6 (upd (I 6) (Int32.toNatClampNeg (nI ((4 * m0) + a))) x4)) 7 (upd (I 7) (Int32.toNatClampNeg (nI ((4 * m0) + a))) (vp_nar .boolean x5))) 3 (upd (I 3) (Int32.toNatClampNeg (nI m0)) (nI (a + 1)))) J q h) (md_wI hP11_ 3 (by decide) rfl) rfl rfl rfl (fun h12_ hP12_ => ?_)
        refine z_aload_n C dd_Q_atom_259 rfl ?_
        refine z_aload_n C dd_Q_atom_260 rfl ?_
        refine gf_Q_20 (v := .ref (q + 1 + 2)) C dd_Q_atom_261 hP12_.1.1 rfl ?_
        refine z_iload_n C dd_Q_atom_264 rfl ?_
        refine z_iald (t0 := 0) (N := 12) (f := (I 2)) C rfl dd_Q_atom_265 (hP12_.1.2 2 (by decide)) (vp_in_nI (by omega) (by decide)) ?_
        refine z_topi (y := nI g0) (by rw [nI_clamp (by omega)]; exact eo.symm) ?_
        refine iv_Q_131 (sk := fun _ => []) (zz_f B) C dd_Q_atom_266 (cn_Q_forget l D dA B _ _ q _ _ J hP12_.1 g0 (by omega)) hP12_.1.1 rfl rfl ⟨by decide, by decide⟩ (Nat.le_of_ble_eq_true rfl) ⟨by decide, by decide⟩ (fun _ => rfl) (fun _ h13_ n13_ p13_ => ?_)
        obtain ⟨m13_, rfl⟩ := p13_
        have hP13_ := md_tr hP12_ m13_
        refine z_aload_n C dd_Q_atom_269 rfl ?_
        refine gf_Q_23 (v := .ref (q + 1 + 3)) C dd_Q_atom_270 hP13_.1.1 rfl ?_
        refine z_iload_n C dd_Q_atom_273 rfl ?_
        refine z_iald (t0 := 0) (N := 12) (f := (upd (I 3) (Int32.toNatClampNeg (nI m0)) (nI (a + 1)))) C rfl dd_Q_atom_274 (hP13_.1.2 3 (by decide)) (vp_in_nI (by omega) (by decide)) ?_
        refine z_topi (y := nI (a + 1)) (by rw [nI_clamp (by omega), pk_us]) ?_
        exact z_iret C dd_Q_atom_275 ⟨rfl, Or.inr ⟨m0, 0, g0, ar, a, hm, rfl, by decide, rfl, hg, eo, ha, har, h4, hat, Or.inr (Or.inr ⟨(by simp [pu_ain, (pu_bn1.mp q6), (pu_bn1.mp q14), q18]), by omega, rfl, md_Ke hP13_ (by rw [nI_clamp (n := 4 * m0 + a) (by omega), nI_clamp (n := m0) (by omega), hvb]; rfl)⟩)⟩⟩ (by decide) (by decide)
      · replace q18 : a = 4 := (@nI_eq a 4 (by omega) (by omega)).mp q18
        refine z_iconst (v := 2) C dd_Q_atom_168 (by decide) ?_
        refine z_goto (tgt := 173) C dd_Q_atom_169 (by decide) ?_
        refine pf_Q_121 C dd_Q_atom_173 hP.1.1 (Nat.le_of_ble_eq_true rfl) rfl rfl ?_
        refine z_cut (md_K dA (md_fs F 0 2) I J q h) (md_wF hP rfl) rfl rfl rfl (fun h14_ hP14_ => ?_)
        refine z_aload_n C dd_Q_atom_176 rfl ?_
        refine gf_Q_121 (v := .int 2) C dd_Q_atom_177 hP14_.1.1 rfl ?_
        refine z_if_le (tgt := 185) C dd_Q_atom_180 (by decide) (fun q22 => absurd q22 (by decide)) (fun q22 => ?_)
        refine z_iconst (v := 0) C dd_Q_atom_183 (by decide) ?_
        exact z_iret C dd_Q_atom_184 ⟨rfl, Or.inr ⟨m0, 0, g0, ar, a, hm, rfl, by decide, rfl, hg, eo, ha, har, h4, hat, Or.inr (Or.inl ⟨(by simp [pu_ain, (pu_bn1.mp q6), (pu_bn1.mp q14), q18]), by omega, rfl, hP14_⟩)⟩⟩ (by decide) (by decide)
set_option maxRecDepth 20000 in
/-- atom -/
theorem ca_Q_atom_1 (l : Launch) (D : va_G) (dA : Nat → ClassId) (B : Nat) (h : zz_H) (n : Nat) (q : Nat) (F : Nat → Int32) (I : Nat → Nat → Int32) (J : Nat → Nat → Int64) (hP0 : md_P dA F I J q h) (nc ng nM : Nat) (W : pu_W F I nc ng nM) (m0 g0 ar a : Nat) (hm : m0 < nM) (hg : g0 < ng) (eo : I 2 m0 = nI g0) (ha : ar = 1 ∨ ar = 2) (har : I 1 g0 = nI ar) (h4 : a ≤ 4) (hat : I 3 m0 = nI a) (x3 x4 x5 : Int32) (hb : x5 = 0 ∨ x5 = 1) : zz_M l D zz_cl (zz_ty dA) B zz_tb (zz_x B) yy_Q_atom (Cond.code yy_Q_atom bb_Q_atom 9 (some FieldType.int)) rm_Q_atom [.ref q, .int ((nI m0)), .int ((nI 1)), .int x3, .int x4, .int x5] h n zz_mi (fun r h' n' => n' = n ∧ (((pu_iv (nI m0) 0 (nI nM - 1) && pu_iv (nI 1) 0 (nI 5)) = false ∧ r = 0 ∧ md_K dA (md_fs F 0 1) I J q h h') ∨ (∃ m9 k9 g9 r9 a9, m9 < nM ∧ (nI m0) = nI m9 ∧ k9 < 6 ∧ (nI 1) = nI k9 ∧ g9 < ng ∧ I 2 m9 = nI g9 ∧ (r9 = 1 ∨ r9 = 2) ∧ I 1 g9 = nI r9 ∧ a9 ≤ 4 ∧ I 3 m9 = nI a9 ∧ ((pu_ain nc r9 k9 x3 x4 = false ∧ r = 0 ∧ md_K dA (md_fs F 0 1) I J q h h') ∨ (pu_ain nc r9 k9 x3 x4 = true ∧ a9 = 4 ∧ r = 0 ∧ md_K dA (md_fs F 0 2) I J q h h') ∨ (pu_ain nc r9 k9 x3 x4 = true ∧ a9 < 4 ∧ r = nI (a9 + 1) ∧ md_K dA (md_fs (md_fs F 0 0) 18 0) (pu_addA I m9 a9 k9 x3 x4 x5 g9) J q h h'))))) := by
  refine zz_ofW (zz_f B) [some (.ref q), some (.int ((nI m0))), some (.int ((nI 1))), some (.int x3), some (.int x4), some (.int x5), none, none, none] (by decide) rfl rfl (Nat.le_of_ble_eq_true rfl) ?_
  intro p e s m below meth c C
  have hg4 := W.g4
  have h12 := W.m12
  have h8 := W.c8
  have hP := md_rf hP0
  have hvb : vp_nar .boolean x5 = x5 := by rcases hb with rfl | rfl <;> decide
  refine z_iload_n C dd_Q_atom_0 rfl ?_
  refine z_iconst (v := 0) C dd_Q_atom_1 (by decide) ?_
  refine z_aload_n C dd_Q_atom_2 rfl ?_
  refine gf_Q_138 (v := .int (F 5)) C dd_Q_atom_3 hP.1.1 rfl ?_
  refine z_topi (y := nI nM) W.fm.symm ?_
  refine z_iconst (v := 1) C dd_Q_atom_6 (by decide) ?_
  refine z_isub C dd_Q_atom_7 ?_
  refine is_Q_127 (sk := fun r => .int r :: []) (zz_f B) C dd_Q_atom_8 (cn_Q_in l D dA B _ _ _ _ _) rfl rfl ⟨by decide, by decide⟩ (Nat.le_of_ble_eq_true rfl) ⟨by decide, by decide⟩ (fun _ => rfl) (fun v1_ h1_ n1_ p1_ => ?_)
  obtain ⟨e1_, f1_, rfl⟩ := p1_
  have e1z := e1_.symm
  have f1z := f1_.symm
  subst e1z
  subst f1z
  refine z_if_eq (tgt := 27) C dd_Q_atom_11 (by decide) (fun q1 => absurd ((pu_b0 _).mp q1) (by rw [(pu_iv_0 (by omega)).mpr ⟨m0, hm, rfl⟩]; decide)) (fun q1 => ?_)
  refine z_iload_n C dd_Q_atom_14 rfl ?_
  refine z_iconst (v := 0) C dd_Q_atom_15 (by decide) ?_
  refine z_iconst (v := 5) C dd_Q_atom_16 (by decide) ?_
  refine is_Q_127 (sk := fun r => .int r :: []) (zz_f B) C dd_Q_atom_17 (cn_Q_in l D dA B _ _ _ _ _) rfl rfl ⟨by decide, by decide⟩ (Nat.le_of_ble_eq_true rfl) ⟨by decide, by decide⟩ (fun _ => rfl) (fun v2_ h2_ n2_ p2_ => ?_)
  obtain ⟨e2_, f2_, rfl⟩ := p2_
  have e2z := e2_.symm
  have f2z := f2_.symm
  subst e2z
  subst f2z
  refine z_if_eq (tgt := 27) C dd_Q_atom_20 (by decide) (fun q2 => absurd q2 (by decide)) (fun q2 => ?_)
  refine z_iconst (v := 1) C dd_Q_atom_23 (by decide) ?_
  refine z_goto (tgt := 28) C dd_Q_atom_24 (by decide) ?_
  refine z_istore C dd_Q_atom_28 rfl ?_
  refine z_iload C dd_Q_atom_30 rfl ?_
  refine z_if_eq (tgt := 49) C dd_Q_atom_32 (by decide) (fun q3 => absurd q3 (by decide)) (fun q3 => ?_)
  refine z_aload_n C dd_Q_atom_35 rfl ?_
  refine gf_Q_17 (v := .ref (q + 1 + 1)) C dd_Q_atom_36 hP.1.1 rfl ?_
  refine z_aload_n C dd_Q_atom_39 rfl ?_
  refine gf_Q_20 (v := .ref (q + 1 + 2)) C dd_Q_atom_40 hP.1.1 rfl ?_
  refine z_iload_n C dd_Q_atom_43 rfl ?_
  refine z_iald (t0 := 0) (N := 12) (f := (I 2)) C rfl dd_Q_atom_44 (hP.1.2 2 (by decide)) (vp_in_nI (by omega) (by decide)) ?_
  refine z_topi (y := nI g0) (by rw [nI_clamp (by omega)]; exact eo.symm) ?_
  refine z_iald (t0 := 0) (N := 4) (f := (I 1)) C rfl dd_Q_atom_45 (hP.1.2 1 (by decide)) (vp_in_nI (by omega) (by decide)) ?_
  refine z_topi (y := nI ar) (by rw [nI_clamp (by omega)]; exact har.symm) ?_
  refine z_goto (tgt := 50) C dd_Q_atom_46 (by decide) ?_
  refine z_istore C dd_Q_atom_50 rfl ?_
  refine z_iload C dd_Q_atom_52 rfl ?_
  refine z_if_eq (tgt := 87) C dd_Q_atom_54 (by decide) (fun q4 => absurd q4 (by decide)) (fun q4 => ?_)
  refine z_iload_n C dd_Q_atom_57 rfl ?_
  refine z_iconst (v := 3) C dd_Q_atom_58 (by decide) ?_
  refine z_icmp_le (tgt := 71) C dd_Q_atom_59 (by decide) (fun q5 => ?_) (fun q5 => absurd (by decide) q5)
  refine z_iload_n C dd_Q_atom_71 rfl ?_
  refine z_iconst (v := 0) C dd_Q_atom_72 (by decide) ?_
  refine z_iload C dd_Q_atom_73 rfl ?_
  refine z_iconst (v := 1) C dd_Q_atom_75 (by decide) ?_
  refine z_isub C dd_Q_atom_76 ?_
  refine is_Q_127 (sk := fun r => .int r :: []) (zz_f B) C dd_Q_atom_77 (cn_Q_in l D dA B _ _ _ _ _) rfl rfl ⟨by decide, by decide⟩ (Nat.le_of_ble_eq_true rfl) ⟨by decide, by decide⟩ (fun _ => rfl) (fun v3_ h3_ n3_ p3_ => ?_)
  obtain ⟨e3_, f3_, rfl⟩ := p3_
  have e3z := e3_.symm
  have f3z := f3_.symm
  subst e3z
  subst f3z
  refine z_if_eq (tgt := 87) C dd_Q_atom_80 (by decide) (fun q6 => ?_) (fun q6 => ?_)
  · skip
    refine z_iconst (v := 0) C dd_Q_atom_87 (by decide) ?_
    refine z_istore C dd_Q_atom_88 rfl ?_
    refine z_iload C dd_Q_atom_90 rfl ?_
    refine z_if_eq (tgt := 145) C dd_Q_atom_92 (by decide) (fun q7 => ?_) (fun q7 => absurd (by decide) q7)
    refine z_iconst (v := 0) C dd_Q_atom_145 (by decide) ?_
    refine z_istore C dd_Q_atom_146 rfl ?_
    refine z_aload_n C dd_Q_atom_148 rfl ?_
    refine z_iload C dd_Q_atom_149 rfl ?_
    refine z_if_ne (tgt := 158) C dd_Q_atom_151 (by decide) (fun q8 => absurd (by decide) q8) (fun q8 => ?_)
    refine z_iconst (v := 1) C dd_Q_atom_154 (by decide) ?_
    refine z_goto (tgt := 173) C dd_Q_atom_155 (by decide) ?_
    refine pf_Q_121 C dd_Q_atom_173 hP.1.1 (Nat.le_of_ble_eq_true rfl) rfl rfl ?_
    refine z_cut (md_K dA (md_fs F 0 1) I J q h) (md_wF hP rfl) rfl rfl rfl (fun h4_ hP4_ => ?_)
    refine z_aload_n C dd_Q_atom_176 rfl ?_
    refine gf_Q_121 (v := .int 1) C dd_Q_atom_177 hP4_.1.1 rfl ?_
    refine z_if_le (tgt := 185) C dd_Q_atom_180 (by decide) (fun q9 => absurd q9 (by decide)) (fun q9 => ?_)
    refine z_iconst (v := 0) C dd_Q_atom_183 (by decide) ?_
    exact z_iret C dd_Q_atom_184 ⟨rfl, Or.inr ⟨m0, 1, g0, ar, a, hm, rfl, by decide, rfl, hg, eo, ha, har, h4, hat, Or.inl ⟨(by simp [pu_ain, ((pu_b0 _).mp q6)]), rfl, hP4_⟩⟩⟩ (by decide) (by decide)
  · skip
    refine z_iconst (v := 1) C dd_Q_atom_83 (by decide) ?_
    refine z_goto (tgt := 88) C dd_Q_atom_84 (by decide) ?_
    refine z_istore C dd_Q_atom_88 rfl ?_
    refine z_iload C dd_Q_atom_90 rfl ?_
    refine z_if_eq (tgt := 145) C dd_Q_atom_92 (by decide) (fun q10 => absurd q10 (by decide)) (fun q10 => ?_)
    refine z_iload_n C dd_Q_atom_95 rfl ?_
    refine z_iconst (v := 2) C dd_Q_atom_96 (by decide) ?_
    refine z_icmp_gt (tgt := 141) C dd_Q_atom_97 (by decide) (fun q11 => absurd q11 (by decide)) (fun q11 => ?_)
    refine z_iload C dd_Q_atom_100 rfl ?_
    refine z_iload_n C dd_Q_atom_102 rfl ?_
    refine z_if_ne (tgt := 110) C dd_Q_atom_103 (by decide) (fun q12 => ?_) (fun q12 => absurd q12 (by decide))
    refine z_bipush (v := (-4)) C dd_Q_atom_110 (by decide) ?_
    refine z_iload_n C dd_Q_atom_112 rfl ?_
    refine z_if_ne (tgt := 125) C dd_Q_atom_113 (by decide) (fun q13 => ?_) (fun q13 => absurd q13 (by decide))
    refine z_iload_n C dd_Q_atom_125 rfl ?_
    refine z_iconst (v := 1) C dd_Q_atom_126 (by decide) ?_
    refine z_icmp_ne (tgt := 134) C dd_Q_atom_127 (by decide) (fun q14 => absurd (by decide) q14) (fun q14 => ?_)
    refine z_iconst (v := 4) C dd_Q_atom_130 (by decide) ?_
    refine z_goto (tgt := 135) C dd_Q_atom_131 (by decide) ?_
    refine is_Q_127 (sk := fun r => .int r :: []) (zz_f B) C dd_Q_atom_135 (cn_Q_in l D dA B _ _ _ _ _) rfl rfl ⟨by decide, by decide⟩ (Nat.le_of_ble_eq_true rfl) ⟨by decide, by decide⟩ (fun _ => rfl) (fun v5_ h5_ n5_ p5_ => ?_)
    obtain ⟨e5_, f5_, rfl⟩ := p5_
    have e5z := e5_.symm
    have f5z := f5_.symm
    subst e5z
    subst f5z
    refine z_if_eq (tgt := 145) C dd_Q_atom_138 (by decide) (fun q15 => ?_) (fun q15 => ?_)
    · skip
      refine z_iconst (v := 0) C dd_Q_atom_145 (by decide) ?_
      refine z_istore C dd_Q_atom_146 rfl ?_
      refine z_aload_n C dd_Q_atom_148 rfl ?_
      refine z_iload C dd_Q_atom_149 rfl ?_
      refine z_if_ne (tgt := 158) C dd_Q_atom_151 (by decide) (fun q16 => absurd (by decide) q16) (fun q16 => ?_)
      refine z_iconst (v := 1) C dd_Q_atom_154 (by decide) ?_
      refine z_goto (tgt := 173) C dd_Q_atom_155 (by decide) ?_
      refine pf_Q_121 C dd_Q_atom_173 hP.1.1 (Nat.le_of_ble_eq_true rfl) rfl rfl ?_
      refine z_cut (md_K dA (md_fs F 0 1) I J q h) (md_wF hP rfl) rfl rfl rfl (fun h6_ hP6_ => ?_)
      refine z_aload_n C dd_Q_atom_176 rfl ?_
      refine gf_Q_121 (v := .int 1) C dd_Q_atom_177 hP6_.1.1 rfl ?_
      refine z_if_le (tgt := 185) C dd_Q_atom_180 (by decide) (fun q17 => absurd q17 (by decide)) (fun q17 => ?_)
      refine z_iconst (v := 0) C dd_Q_atom_183 (by decide) ?_
      exact z_iret C dd_Q_atom_184 ⟨rfl, Or.inr ⟨m0, 1, g0, ar, a, hm, rfl, by decide, rfl, hg, eo, ha, har, h4, hat, Or.inl ⟨(by simp [pu_ain, (pu_bn1.mp q6), ((pu_b0 _).mp q15)]), rfl, hP6_⟩⟩⟩ (by decide) (by decide)
    · skip
      refine z_iconst (v := 1) C dd_Q_atom_141 (by decide) ?_
      refine z_goto (tgt := 146) C dd_Q_atom_142 (by decide) ?_
      refine z_istore C dd_Q_atom_146 rfl ?_
      refine z_aload_n C dd_Q_atom_148 rfl ?_
      refine z_iload C dd_Q_atom_149 rfl ?_
      refine z_if_ne (tgt := 158) C dd_Q_atom_151 (by decide) (fun q18 => ?_) (fun q18 => absurd q18 (by decide))
      refine z_aload_n C dd_Q_atom_158 rfl ?_
      refine gf_Q_23 (v := .ref (q + 1 + 3)) C dd_Q_atom_159 hP.1.1 rfl ?_
      refine z_iload_n C dd_Q_atom_162 rfl ?_
      refine z_iald (t0 := 0) (N := 12) (f := (I 3)) C rfl dd_Q_atom_163 (hP.1.2 3 (by decide)) (vp_in_nI (by omega) (by decide)) ?_
      refine z_topi (y := nI a) (by rw [nI_clamp (by omega)]; exact hat.symm) ?_
      refine z_iconst (v := 4) C dd_Q_atom_164 (by decide) ?_
      refine z_icmp_ne (tgt := 172) C dd_Q_atom_165 (by decide) (fun q19 => ?_) (fun q19 => ?_)
      · replace q19 : ¬ a = 4 := fun z => q19 ((@nI_eq a 4 (by omega) (by omega)).mpr z)
        refine z_iconst (v := 0) C dd_Q_atom_172 (by decide) ?_
        refine pf_Q_121 C dd_Q_atom_173 hP.1.1 (Nat.le_of_ble_eq_true rfl) rfl rfl ?_
        refine z_cut (md_K dA (md_fs F 0 0) I J q h) (md_wF hP rfl) rfl rfl rfl (fun h7_ hP7_ => ?_)
        refine z_aload_n C dd_Q_atom_176 rfl ?_
        refine gf_Q_121 (v := .int 0) C dd_Q_atom_177 hP7_.1.1 rfl ?_
        refine z_if_le (tgt := 185) C dd_Q_atom_180 (by decide) (fun q20 => ?_) (fun q20 => absurd (by decide) q20)
        refine z_iconst (v := 4) C dd_Q_atom_185 (by decide) ?_
        refine z_iload_n C dd_Q_atom_186 rfl ?_
        refine z_imul C dd_Q_atom_187 ?_
        refine z_topi (y := nI (4 * m0)) (by first | exact (pk_mul _ _).symm | (rw [← pk_mul]; rfl)) ?_
        refine z_aload_n C dd_Q_atom_188 rfl ?_
        refine gf_Q_23 (v := .ref (q + 1 + 3)) C dd_Q_atom_189 hP7_.1.1 rfl ?_
        refine z_iload_n C dd_Q_atom_192 rfl ?_
        refine z_iald (t0 := 0) (N := 12) (f := (I 3)) C rfl dd_Q_atom_193 (hP7_.1.2 3 (by decide)) (vp_in_nI (by omega) (by decide)) ?_
        refine z_topi (y := nI a) (by rw [nI_clamp (by omega)]; exact hat.symm) ?_
        refine z_iadd C dd_Q_atom_194 ?_
        refine z_topi (y := nI ((4 * m0) + a)) (by first | exact (nI_add _ _).symm | (rw [← nI_add]; rfl)) ?_
        refine z_istore C dd_Q_atom_195 rfl ?_
        refine z_aload_n C dd_Q_atom_197 rfl ?_
        refine gf_Q_26 (v := .ref (q + 1 + 4)) C dd_Q_atom_198 hP7_.1.1 rfl ?_
        refine z_iload C dd_Q_atom_201 rfl ?_
        refine z_iload_n C dd_Q_atom_203 rfl ?_
        refine z_iast (t0 := 0) (N := 48) (f := (I 4)) C rfl dd_Q_atom_204 (hP7_.1.2 4 (by decide)) (vp_in_nI (by omega) (by decide)) ?_
        refine z_cut (md_K dA (md_fs F 0 0) (md_is I 4 (upd (I 4) (Int32.toNatClampNeg (nI ((4 * m0) + a))) (nI 1))) J q h) (md_wI hP7_ 4 (by decide) rfl) rfl rfl rfl (fun h8_ hP8_ => ?_)
        refine z_aload_n C dd_Q_atom_205 rfl ?_
        refine gf_Q_29 (v := .ref (q + 1 + 5)) C dd_Q_atom_206 hP8_.1.1 rfl ?_
        refine z_iload C dd_Q_atom_209 rfl ?_
        refine z_iload_n C dd_Q_atom_211 rfl ?_
        refine z_iconst (v := 3) C dd_Q_atom_212 (by decide) ?_
        refine z_icmp_le (tgt := 220) C dd_Q_atom_213 (by decide) (fun q21 => ?_) (fun q21 => absurd (by decide) q21)
        refine z_iload_n C dd_Q_atom_220 rfl ?_
        refine z_iast (t0 := 0) (N := 48) (f := (I 5)) C rfl dd_Q_atom_221 (hP8_.1.2 5 (by decide)) (vp_in_nI (by omega) (by decide)) ?_
        refine z_cut (md_K dA (md_fs F 0 0) (md_is (md_is I 4 (upd (I 4) (Int32.toNatClampNeg (nI ((4 * m0) + a))) (nI 1))) 5 (upd (I 5) (Int32.toNatClampNeg (nI ((4 * m0) + a))) x3)) J q h) (md_wI hP8_ 5 (by decide) rfl) rfl rfl rfl (fun h9_ hP9_ => ?_)
        refine z_aload_n C dd_Q_atom_222 rfl ?_
        refine gf_Q_32 (v := .ref (q + 1 + 6)) C dd_Q_atom_223 hP9_.1.1 rfl ?_
        refine z_iload C dd_Q_atom_226 rfl ?_
        refine z_iload_n C dd_Q_atom_228 rfl ?_
        refine z_iconst (v := 2) C dd_Q_atom_229 (by decide) ?_
        refine z_icmp_le (tgt := 237) C dd_Q_atom_230 (by decide) (fun q22 => ?_) (fun q22 => absurd (by decide) q22)
        refine z_iload C dd_Q_atom_237 rfl ?_
        refine z_iast (t0 := 0) (N := 48) (f := (I 6)) C rfl dd_Q_atom_239 (hP9_.1.2 6 (by decide)) (vp_in_nI (by omega) (by decide)) ?_
        refine z_cut (md_K dA (md_fs F 0 0) (md_is (md_is (md_is I 4 (upd (I 4) (Int32.toNatClampNeg (nI ((4 * m0) + a))) (nI 1))) 5 (upd (I 5) (Int32.toNatClampNeg (nI ((4 * m0) + a))) x3)) 6 (upd (I 6) (Int32.toNatClampNeg (nI ((4 * m0) + a))) x4)) J q h) (md_wI hP9_ 6 (by decide) rfl) rfl rfl rfl (fun h10_ hP10_ => ?_)
        refine z_aload_n C dd_Q_atom_240 rfl ?_
        refine gf_Q_35 (v := .ref (q + 1 + 7)) C dd_Q_atom_241 hP10_.1.1 rfl ?_
        refine z_iload C dd_Q_atom_244 rfl ?_
        refine z_iload C dd_Q_atom_246 rfl ?_
        refine z_zast (t0 := 2) (N := 48) (f := (I 7)) C rfl dd_Q_atom_248 (hP10_.1.2 7 (by decide)) (vp_in_nI (by omega) (by decide)) ?_
        refine z_cut (md_K dA (md_fs F 0 0) (md_is (md_is (md_is (md_is I 4 (upd (I 4) (Int32.toNatClampNeg (nI ((4 * m0) + a))) (nI 1))) 5 (upd (I 5) (Int32.toNatClampNeg (nI ((4 * m0) + a))) x3)) 6 (upd (I 6) (Int32.toNatClampNeg (nI ((4 * m0) + a))) x4)) 7 (upd (I 7) (Int32.toNatClampNeg (nI ((4 * m0) + a))) (vp_nar .boolean x5))) J q h) (md_wI hP10_ 7 (by decide) rfl) rfl rfl rfl (fun h11_ hP11_ => ?_)
        refine z_aload_n C dd_Q_atom_249 rfl ?_
        refine gf_Q_23 (v := .ref (q + 1 + 3)) C dd_Q_atom_250 hP11_.1.1 rfl ?_
        refine z_iload_n C dd_Q_atom_253 rfl ?_
        refine z_dup2_11 C dd_Q_atom_254 rfl rfl ?_
        refine z_iald (t0 := 0) (N := 12) (f := (I 3)) C rfl dd_Q_atom_255 (hP11_.1.2 3 (by decide)) (vp_in_nI (by omega) (by decide)) ?_
        refine z_topi (y := nI a) (by rw [nI_clamp (by omega)]; exact hat.symm) ?_
        refine z_iconst (v := 1) C dd_Q_atom_256 (by decide) ?_
        refine z_iadd C dd_Q_atom_257 ?_
        refine z_topi (y := nI (a + 1)) (by first | exact (nI_add _ _).symm | (rw [← nI_add]; rfl)) ?_
        refine z_iast (t0 := 0) (N := 12) (f := (I 3)) C rfl dd_Q_atom_258 (hP11_.1.2 3 (by decide)) (vp_in_nI (by omega) (by decide)) ?_
        refine z_cut (md_K dA (md_fs F 0 0) (md_is (md_is (md_is (md_is (md_is I 4 (upd (I 4) (Int32.toNatClampNeg (nI ((4 * m0) + a))) (nI 1))) 5 (upd (I 5) (Int32.toNatClampNeg (nI ((4 * m0) + a))) x3)) 6 (upd (I 6) (Int32.toNatClampNeg (nI ((4 * m0) + a))) x4)) 7 (upd (I 7) (Int32.toNatClampNeg (nI ((4 * m0) + a))) (vp_nar .boolean x5))) 3 (upd (I 3) (Int32.toNatClampNeg (nI m0)) (nI (a + 1)))) J q h) (md_wI hP11_ 3 (by decide) rfl) rfl rfl rfl (fun h12_ hP12_ => ?_)
        refine z_aload_n C dd_Q_atom_259 rfl ?_
        refine z_aload_n C dd_Q_atom_260 rfl ?_
        refine gf_Q_20 (v := .ref (q + 1 + 2)) C dd_Q_atom_261 hP12_.1.1 rfl ?_
        refine z_iload_n C dd_Q_atom_264 rfl ?_
        refine z_iald (t0 := 0) (N := 12) (f := (I 2)) C rfl dd_Q_atom_265 (hP12_.1.2 2 (by decide)) (vp_in_nI (by omega) (by decide)) ?_
        refine z_topi (y := nI g0) (by rw [nI_clamp (by omega)]; exact eo.symm) ?_
        refine iv_Q_131 (sk := fun _ => []) (zz_f B) C dd_Q_atom_266 (cn_Q_forget l D dA B _ _ q _ _ J hP12_.1 g0 (by omega)) hP12_.1.1 rfl rfl ⟨by decide, by decide⟩ (Nat.le_of_ble_eq_true rfl) ⟨by decide, by decide⟩ (fun _ => rfl) (fun _ h13_ n13_ p13_ => ?_)
        obtain ⟨m13_, rfl⟩ := p13_
        have hP13_ := md_tr hP12_ m13_
        refine z_aload_n C dd_Q_atom_269 rfl ?_
        refine gf_Q_23 (v := .ref (q + 1 + 3)) C dd_Q_atom_270 hP13_.1.1 rfl ?_
        refine z_iload_n C dd_Q_atom_273 rfl ?_
        refine z_iald (t0 := 0) (N := 12) (f := (upd (I 3) (Int32.toNatClampNeg (nI m0)) (nI (a + 1)))) C rfl dd_Q_atom_274 (hP13_.1.2 3 (by decide)) (vp_in_nI (by omega) (by decide)) ?_
        refine z_topi (y := nI (a + 1)) (by rw [nI_clamp (by omega), pk_us]) ?_
        exact z_iret C dd_Q_atom_275 ⟨rfl, Or.inr ⟨m0, 1, g0, ar, a, hm, rfl, by decide, rfl, hg, eo, ha, har, h4, hat, Or.inr (Or.inr ⟨(by simp [pu_ain, (pu_bn1.mp q6), (pu_bn1.mp q15), q19]), by omega, rfl, md_Ke hP13_ (by rw [nI_clamp (n := 4 * m0 + a) (by omega), nI_clamp (n := m0) (by omega), hvb]; rfl)⟩)⟩⟩ (by decide) (by decide)
      · replace q19 : a = 4 := (@nI_eq a 4 (by omega) (by omega)).mp q19
        refine z_iconst (v := 2) C dd_Q_atom_168 (by decide) ?_
        refine z_goto (tgt := 173) C dd_Q_atom_169 (by decide) ?_
        refine pf_Q_121 C dd_Q_atom_173 hP.1.1 (Nat.le_of_ble_eq_true rfl) rfl rfl ?_
        refine z_cut (md_K dA (md_fs F 0 2) I J q h) (md_wF hP rfl) rfl rfl rfl (fun h14_ hP14_ => ?_)
        refine z_aload_n C dd_Q_atom_176 rfl ?_
        refine gf_Q_121 (v := .int 2) C dd_Q_atom_177 hP14_.1.1 rfl ?_
        refine z_if_le (tgt := 185) C dd_Q_atom_180 (by decide) (fun q23 => absurd q23 (by decide)) (fun q23 => ?_)
        refine z_iconst (v := 0) C dd_Q_atom_183 (by decide) ?_
        exact z_iret C dd_Q_atom_184 ⟨rfl, Or.inr ⟨m0, 1, g0, ar, a, hm, rfl, by decide, rfl, hg, eo, ha, har, h4, hat, Or.inr (Or.inl ⟨(by simp [pu_ain, (pu_bn1.mp q6), (pu_bn1.mp q15), q19]), by omega, rfl, hP14_⟩)⟩⟩ (by decide) (by decide)
set_option maxRecDepth 20000 in
/-- atom -/
theorem ca_Q_atom_2 (l : Launch) (D : va_G) (dA : Nat → ClassId) (B : Nat) (h : zz_H) (n : Nat) (q : Nat) (F : Nat → Int32) (I : Nat → Nat → Int32) (J : Nat → Nat → Int64) (hP0 : md_P dA F I J q h) (nc ng nM : Nat) (W : pu_W F I nc ng nM) (m0 g0 ar a : Nat) (hm : m0 < nM) (hg : g0 < ng) (eo : I 2 m0 = nI g0) (ha : ar = 1 ∨ ar = 2) (har : I 1 g0 = nI ar) (h4 : a ≤ 4) (hat : I 3 m0 = nI a) (x3 x4 x5 : Int32) (hb : x5 = 0 ∨ x5 = 1) : zz_M l D zz_cl (zz_ty dA) B zz_tb (zz_x B) yy_Q_atom (Cond.code yy_Q_atom bb_Q_atom 9 (some FieldType.int)) rm_Q_atom [.ref q, .int ((nI m0)), .int ((nI 2)), .int x3, .int x4, .int x5] h n zz_mi (fun r h' n' => n' = n ∧ (((pu_iv (nI m0) 0 (nI nM - 1) && pu_iv (nI 2) 0 (nI 5)) = false ∧ r = 0 ∧ md_K dA (md_fs F 0 1) I J q h h') ∨ (∃ m9 k9 g9 r9 a9, m9 < nM ∧ (nI m0) = nI m9 ∧ k9 < 6 ∧ (nI 2) = nI k9 ∧ g9 < ng ∧ I 2 m9 = nI g9 ∧ (r9 = 1 ∨ r9 = 2) ∧ I 1 g9 = nI r9 ∧ a9 ≤ 4 ∧ I 3 m9 = nI a9 ∧ ((pu_ain nc r9 k9 x3 x4 = false ∧ r = 0 ∧ md_K dA (md_fs F 0 1) I J q h h') ∨ (pu_ain nc r9 k9 x3 x4 = true ∧ a9 = 4 ∧ r = 0 ∧ md_K dA (md_fs F 0 2) I J q h h') ∨ (pu_ain nc r9 k9 x3 x4 = true ∧ a9 < 4 ∧ r = nI (a9 + 1) ∧ md_K dA (md_fs (md_fs F 0 0) 18 0) (pu_addA I m9 a9 k9 x3 x4 x5 g9) J q h h'))))) := by
  refine zz_ofW (zz_f B) [some (.ref q), some (.int ((nI m0))), some (.int ((nI 2))), some (.int x3), some (.int x4), some (.int x5), none, none, none] (by decide) rfl rfl (Nat.le_of_ble_eq_true rfl) ?_
  intro p e s m below meth c C
  have hg4 := W.g4
  have h12 := W.m12
  have h8 := W.c8
  have hP := md_rf hP0
  have hvb : vp_nar .boolean x5 = x5 := by rcases hb with rfl | rfl <;> decide
  refine z_iload_n C dd_Q_atom_0 rfl ?_
  refine z_iconst (v := 0) C dd_Q_atom_1 (by decide) ?_
  refine z_aload_n C dd_Q_atom_2 rfl ?_
  refine gf_Q_138 (v := .int (F 5)) C dd_Q_atom_3 hP.1.1 rfl ?_
  refine z_topi (y := nI nM) W.fm.symm ?_
  refine z_iconst (v := 1) C dd_Q_atom_6 (by decide) ?_
  refine z_isub C dd_Q_atom_7 ?_
  refine is_Q_127 (sk := fun r => .int r :: []) (zz_f B) C dd_Q_atom_8 (cn_Q_in l D dA B _ _ _ _ _) rfl rfl ⟨by decide, by decide⟩ (Nat.le_of_ble_eq_true rfl) ⟨by decide, by decide⟩ (fun _ => rfl) (fun v1_ h1_ n1_ p1_ => ?_)
  obtain ⟨e1_, f1_, rfl⟩ := p1_
  have e1z := e1_.symm
  have f1z := f1_.symm
  subst e1z
  subst f1z
  refine z_if_eq (tgt := 27) C dd_Q_atom_11 (by decide) (fun q1 => absurd ((pu_b0 _).mp q1) (by rw [(pu_iv_0 (by omega)).mpr ⟨m0, hm, rfl⟩]; decide)) (fun q1 => ?_)
  refine z_iload_n C dd_Q_atom_14 rfl ?_
  refine z_iconst (v := 0) C dd_Q_atom_15 (by decide) ?_
  refine z_iconst (v := 5) C dd_Q_atom_16 (by decide) ?_
  refine is_Q_127 (sk := fun r => .int r :: []) (zz_f B) C dd_Q_atom_17 (cn_Q_in l D dA B _ _ _ _ _) rfl rfl ⟨by decide, by decide⟩ (Nat.le_of_ble_eq_true rfl) ⟨by decide, by decide⟩ (fun _ => rfl) (fun v2_ h2_ n2_ p2_ => ?_)
  obtain ⟨e2_, f2_, rfl⟩ := p2_
  have e2z := e2_.symm
  have f2z := f2_.symm
  subst e2z
  subst f2z
  refine z_if_eq (tgt := 27) C dd_Q_atom_20 (by decide) (fun q2 => absurd q2 (by decide)) (fun q2 => ?_)
  refine z_iconst (v := 1) C dd_Q_atom_23 (by decide) ?_
  refine z_goto (tgt := 28) C dd_Q_atom_24 (by decide) ?_
  refine z_istore C dd_Q_atom_28 rfl ?_
  refine z_iload C dd_Q_atom_30 rfl ?_
  refine z_if_eq (tgt := 49) C dd_Q_atom_32 (by decide) (fun q3 => absurd q3 (by decide)) (fun q3 => ?_)
  refine z_aload_n C dd_Q_atom_35 rfl ?_
  refine gf_Q_17 (v := .ref (q + 1 + 1)) C dd_Q_atom_36 hP.1.1 rfl ?_
  refine z_aload_n C dd_Q_atom_39 rfl ?_
  refine gf_Q_20 (v := .ref (q + 1 + 2)) C dd_Q_atom_40 hP.1.1 rfl ?_
  refine z_iload_n C dd_Q_atom_43 rfl ?_
  refine z_iald (t0 := 0) (N := 12) (f := (I 2)) C rfl dd_Q_atom_44 (hP.1.2 2 (by decide)) (vp_in_nI (by omega) (by decide)) ?_
  refine z_topi (y := nI g0) (by rw [nI_clamp (by omega)]; exact eo.symm) ?_
  refine z_iald (t0 := 0) (N := 4) (f := (I 1)) C rfl dd_Q_atom_45 (hP.1.2 1 (by decide)) (vp_in_nI (by omega) (by decide)) ?_
  refine z_topi (y := nI ar) (by rw [nI_clamp (by omega)]; exact har.symm) ?_
  refine z_goto (tgt := 50) C dd_Q_atom_46 (by decide) ?_
  refine z_istore C dd_Q_atom_50 rfl ?_
  refine z_iload C dd_Q_atom_52 rfl ?_
  refine z_if_eq (tgt := 87) C dd_Q_atom_54 (by decide) (fun q4 => absurd q4 (by decide)) (fun q4 => ?_)
  refine z_iload_n C dd_Q_atom_57 rfl ?_
  refine z_iconst (v := 3) C dd_Q_atom_58 (by decide) ?_
  refine z_icmp_le (tgt := 71) C dd_Q_atom_59 (by decide) (fun q5 => ?_) (fun q5 => absurd (by decide) q5)
  refine z_iload_n C dd_Q_atom_71 rfl ?_
  refine z_iconst (v := 0) C dd_Q_atom_72 (by decide) ?_
  refine z_iload C dd_Q_atom_73 rfl ?_
  refine z_iconst (v := 1) C dd_Q_atom_75 (by decide) ?_
  refine z_isub C dd_Q_atom_76 ?_
  refine is_Q_127 (sk := fun r => .int r :: []) (zz_f B) C dd_Q_atom_77 (cn_Q_in l D dA B _ _ _ _ _) rfl rfl ⟨by decide, by decide⟩ (Nat.le_of_ble_eq_true rfl) ⟨by decide, by decide⟩ (fun _ => rfl) (fun v3_ h3_ n3_ p3_ => ?_)
  obtain ⟨e3_, f3_, rfl⟩ := p3_
  have e3z := e3_.symm
  have f3z := f3_.symm
  subst e3z
  subst f3z
  refine z_if_eq (tgt := 87) C dd_Q_atom_80 (by decide) (fun q6 => ?_) (fun q6 => ?_)
  · skip
    refine z_iconst (v := 0) C dd_Q_atom_87 (by decide) ?_
    refine z_istore C dd_Q_atom_88 rfl ?_
    refine z_iload C dd_Q_atom_90 rfl ?_
    refine z_if_eq (tgt := 145) C dd_Q_atom_92 (by decide) (fun q7 => ?_) (fun q7 => absurd (by decide) q7)
    refine z_iconst (v := 0) C dd_Q_atom_145 (by decide) ?_
    refine z_istore C dd_Q_atom_146 rfl ?_
    refine z_aload_n C dd_Q_atom_148 rfl ?_
    refine z_iload C dd_Q_atom_149 rfl ?_
    refine z_if_ne (tgt := 158) C dd_Q_atom_151 (by decide) (fun q8 => absurd (by decide) q8) (fun q8 => ?_)
    refine z_iconst (v := 1) C dd_Q_atom_154 (by decide) ?_
    refine z_goto (tgt := 173) C dd_Q_atom_155 (by decide) ?_
    refine pf_Q_121 C dd_Q_atom_173 hP.1.1 (Nat.le_of_ble_eq_true rfl) rfl rfl ?_
    refine z_cut (md_K dA (md_fs F 0 1) I J q h) (md_wF hP rfl) rfl rfl rfl (fun h4_ hP4_ => ?_)
    refine z_aload_n C dd_Q_atom_176 rfl ?_
    refine gf_Q_121 (v := .int 1) C dd_Q_atom_177 hP4_.1.1 rfl ?_
    refine z_if_le (tgt := 185) C dd_Q_atom_180 (by decide) (fun q9 => absurd q9 (by decide)) (fun q9 => ?_)
    refine z_iconst (v := 0) C dd_Q_atom_183 (by decide) ?_
    exact z_iret C dd_Q_atom_184 ⟨rfl, Or.inr ⟨m0, 2, g0, ar, a, hm, rfl, by decide, rfl, hg, eo, ha, har, h4, hat, Or.inl ⟨(by simp [pu_ain, ((pu_b0 _).mp q6)]), rfl, hP4_⟩⟩⟩ (by decide) (by decide)
  · skip
    refine z_iconst (v := 1) C dd_Q_atom_83 (by decide) ?_
    refine z_goto (tgt := 88) C dd_Q_atom_84 (by decide) ?_
    refine z_istore C dd_Q_atom_88 rfl ?_
    refine z_iload C dd_Q_atom_90 rfl ?_
    refine z_if_eq (tgt := 145) C dd_Q_atom_92 (by decide) (fun q10 => absurd q10 (by decide)) (fun q10 => ?_)
    refine z_iload_n C dd_Q_atom_95 rfl ?_
    refine z_iconst (v := 2) C dd_Q_atom_96 (by decide) ?_
    refine z_icmp_gt (tgt := 141) C dd_Q_atom_97 (by decide) (fun q11 => absurd q11 (by decide)) (fun q11 => ?_)
    refine z_iload C dd_Q_atom_100 rfl ?_
    refine z_iload_n C dd_Q_atom_102 rfl ?_
    refine z_if_ne (tgt := 110) C dd_Q_atom_103 (by decide) (fun q12 => ?_) (fun q12 => absurd q12 (by decide))
    refine z_bipush (v := (-4)) C dd_Q_atom_110 (by decide) ?_
    refine z_iload_n C dd_Q_atom_112 rfl ?_
    refine z_if_ne (tgt := 125) C dd_Q_atom_113 (by decide) (fun q13 => ?_) (fun q13 => absurd q13 (by decide))
    refine z_iload_n C dd_Q_atom_125 rfl ?_
    refine z_iconst (v := 1) C dd_Q_atom_126 (by decide) ?_
    refine z_icmp_ne (tgt := 134) C dd_Q_atom_127 (by decide) (fun q14 => ?_) (fun q14 => absurd q14 (by decide))
    refine z_iconst (v := 3) C dd_Q_atom_134 (by decide) ?_
    refine is_Q_127 (sk := fun r => .int r :: []) (zz_f B) C dd_Q_atom_135 (cn_Q_in l D dA B _ _ _ _ _) rfl rfl ⟨by decide, by decide⟩ (Nat.le_of_ble_eq_true rfl) ⟨by decide, by decide⟩ (fun _ => rfl) (fun v5_ h5_ n5_ p5_ => ?_)
    obtain ⟨e5_, f5_, rfl⟩ := p5_
    have e5z := e5_.symm
    have f5z := f5_.symm
    subst e5z
    subst f5z
    refine z_if_eq (tgt := 145) C dd_Q_atom_138 (by decide) (fun q15 => ?_) (fun q15 => ?_)
    · skip
      refine z_iconst (v := 0) C dd_Q_atom_145 (by decide) ?_
      refine z_istore C dd_Q_atom_146 rfl ?_
      refine z_aload_n C dd_Q_atom_148 rfl ?_
      refine z_iload C dd_Q_atom_149 rfl ?_
      refine z_if_ne (tgt := 158) C dd_Q_atom_151 (by decide) (fun q16 => absurd (by decide) q16) (fun q16 => ?_)
      refine z_iconst (v := 1) C dd_Q_atom_154 (by decide) ?_
      refine z_goto (tgt := 173) C dd_Q_atom_155 (by decide) ?_
      refine pf_Q_121 C dd_Q_atom_173 hP.1.1 (Nat.le_of_ble_eq_true rfl) rfl rfl ?_
      refine z_cut (md_K dA (md_fs F 0 1) I J q h) (md_wF hP rfl) rfl rfl rfl (fun h6_ hP6_ => ?_)
      refine z_aload_n C dd_Q_atom_176 rfl ?_
      refine gf_Q_121 (v := .int 1) C dd_Q_atom_177 hP6_.1.1 rfl ?_
      refine z_if_le (tgt := 185) C dd_Q_atom_180 (by decide) (fun q17 => absurd q17 (by decide)) (fun q17 => ?_)
      refine z_iconst (v := 0) C dd_Q_atom_183 (by decide) ?_
      exact z_iret C dd_Q_atom_184 ⟨rfl, Or.inr ⟨m0, 2, g0, ar, a, hm, rfl, by decide, rfl, hg, eo, ha, har, h4, hat, Or.inl ⟨(by simp [pu_ain, (pu_bn1.mp q6), ((pu_b0 _).mp q15)]), rfl, hP6_⟩⟩⟩ (by decide) (by decide)
    · skip
      refine z_iconst (v := 1) C dd_Q_atom_141 (by decide) ?_
      refine z_goto (tgt := 146) C dd_Q_atom_142 (by decide) ?_
      refine z_istore C dd_Q_atom_146 rfl ?_
      refine z_aload_n C dd_Q_atom_148 rfl ?_
      refine z_iload C dd_Q_atom_149 rfl ?_
      refine z_if_ne (tgt := 158) C dd_Q_atom_151 (by decide) (fun q18 => ?_) (fun q18 => absurd q18 (by decide))
      refine z_aload_n C dd_Q_atom_158 rfl ?_
      refine gf_Q_23 (v := .ref (q + 1 + 3)) C dd_Q_atom_159 hP.1.1 rfl ?_
      refine z_iload_n C dd_Q_atom_162 rfl ?_
      refine z_iald (t0 := 0) (N := 12) (f := (I 3)) C rfl dd_Q_atom_163 (hP.1.2 3 (by decide)) (vp_in_nI (by omega) (by decide)) ?_
      refine z_topi (y := nI a) (by rw [nI_clamp (by omega)]; exact hat.symm) ?_
      refine z_iconst (v := 4) C dd_Q_atom_164 (by decide) ?_
      refine z_icmp_ne (tgt := 172) C dd_Q_atom_165 (by decide) (fun q19 => ?_) (fun q19 => ?_)
      · replace q19 : ¬ a = 4 := fun z => q19 ((@nI_eq a 4 (by omega) (by omega)).mpr z)
        refine z_iconst (v := 0) C dd_Q_atom_172 (by decide) ?_
        refine pf_Q_121 C dd_Q_atom_173 hP.1.1 (Nat.le_of_ble_eq_true rfl) rfl rfl ?_
        refine z_cut (md_K dA (md_fs F 0 0) I J q h) (md_wF hP rfl) rfl rfl rfl (fun h7_ hP7_ => ?_)
        refine z_aload_n C dd_Q_atom_176 rfl ?_
        refine gf_Q_121 (v := .int 0) C dd_Q_atom_177 hP7_.1.1 rfl ?_
        refine z_if_le (tgt := 185) C dd_Q_atom_180 (by decide) (fun q20 => ?_) (fun q20 => absurd (by decide) q20)
        refine z_iconst (v := 4) C dd_Q_atom_185 (by decide) ?_
        refine z_iload_n C dd_Q_atom_186 rfl ?_
        refine z_imul C dd_Q_atom_187 ?_
        refine z_topi (y := nI (4 * m0)) (by first | exact (pk_mul _ _).symm | (rw [← pk_mul]; rfl)) ?_
        refine z_aload_n C dd_Q_atom_188 rfl ?_
        refine gf_Q_23 (v := .ref (q + 1 + 3)) C dd_Q_atom_189 hP7_.1.1 rfl ?_
        refine z_iload_n C dd_Q_atom_192 rfl ?_
        refine z_iald (t0 := 0) (N := 12) (f := (I 3)) C rfl dd_Q_atom_193 (hP7_.1.2 3 (by decide)) (vp_in_nI (by omega) (by decide)) ?_
        refine z_topi (y := nI a) (by rw [nI_clamp (by omega)]; exact hat.symm) ?_
        refine z_iadd C dd_Q_atom_194 ?_
        refine z_topi (y := nI ((4 * m0) + a)) (by first | exact (nI_add _ _).symm | (rw [← nI_add]; rfl)) ?_
        refine z_istore C dd_Q_atom_195 rfl ?_
        refine z_aload_n C dd_Q_atom_197 rfl ?_
        refine gf_Q_26 (v := .ref (q + 1 + 4)) C dd_Q_atom_198 hP7_.1.1 rfl ?_
        refine z_iload C dd_Q_atom_201 rfl ?_
        refine z_iload_n C dd_Q_atom_203 rfl ?_
        refine z_iast (t0 := 0) (N := 48) (f := (I 4)) C rfl dd_Q_atom_204 (hP7_.1.2 4 (by decide)) (vp_in_nI (by omega) (by decide)) ?_
        refine z_cut (md_K dA (md_fs F 0 0) (md_is I 4 (upd (I 4) (Int32.toNatClampNeg (nI ((4 * m0) + a))) (nI 2))) J q h) (md_wI hP7_ 4 (by decide) rfl) rfl rfl rfl (fun h8_ hP8_ => ?_)
        refine z_aload_n C dd_Q_atom_205 rfl ?_
        refine gf_Q_29 (v := .ref (q + 1 + 5)) C dd_Q_atom_206 hP8_.1.1 rfl ?_
        refine z_iload C dd_Q_atom_209 rfl ?_
        refine z_iload_n C dd_Q_atom_211 rfl ?_
        refine z_iconst (v := 3) C dd_Q_atom_212 (by decide) ?_
        refine z_icmp_le (tgt := 220) C dd_Q_atom_213 (by decide) (fun q21 => ?_) (fun q21 => absurd (by decide) q21)
        refine z_iload_n C dd_Q_atom_220 rfl ?_
        refine z_iast (t0 := 0) (N := 48) (f := (I 5)) C rfl dd_Q_atom_221 (hP8_.1.2 5 (by decide)) (vp_in_nI (by omega) (by decide)) ?_
        refine z_cut (md_K dA (md_fs F 0 0) (md_is (md_is I 4 (upd (I 4) (Int32.toNatClampNeg (nI ((4 * m0) + a))) (nI 2))) 5 (upd (I 5) (Int32.toNatClampNeg (nI ((4 * m0) + a))) x3)) J q h) (md_wI hP8_ 5 (by decide) rfl) rfl rfl rfl (fun h9_ hP9_ => ?_)
        refine z_aload_n C dd_Q_atom_222 rfl ?_
        refine gf_Q_32 (v := .ref (q + 1 + 6)) C dd_Q_atom_223 hP9_.1.1 rfl ?_
        refine z_iload C dd_Q_atom_226 rfl ?_
        refine z_iload_n C dd_Q_atom_228 rfl ?_
        refine z_iconst (v := 2) C dd_Q_atom_229 (by decide) ?_
        refine z_icmp_le (tgt := 237) C dd_Q_atom_230 (by decide) (fun q22 => ?_) (fun q22 => absurd (by decide) q22)
        refine z_iload C dd_Q_atom_237 rfl ?_
        refine z_iast (t0 := 0) (N := 48) (f := (I 6)) C rfl dd_Q_atom_239 (hP9_.1.2 6 (by decide)) (vp_in_nI (by omega) (by decide)) ?_
        refine z_cut (md_K dA (md_fs F 0 0) (md_is (md_is (md_is I 4 (upd (I 4) (Int32.toNatClampNeg (nI ((4 * m0) + a))) (nI 2))) 5 (upd (I 5) (Int32.toNatClampNeg (nI ((4 * m0) + a))) x3)) 6 (upd (I 6) (Int32.toNatClampNeg (nI ((4 * m0) + a))) x4)) J q h) (md_wI hP9_ 6 (by decide) rfl) rfl rfl rfl (fun h10_ hP10_ => ?_)
        refine z_aload_n C dd_Q_atom_240 rfl ?_
        refine gf_Q_35 (v := .ref (q + 1 + 7)) C dd_Q_atom_241 hP10_.1.1 rfl ?_
        refine z_iload C dd_Q_atom_244 rfl ?_
        refine z_iload C dd_Q_atom_246 rfl ?_
        refine z_zast (t0 := 2) (N := 48) (f := (I 7)) C rfl dd_Q_atom_248 (hP10_.1.2 7 (by decide)) (vp_in_nI (by omega) (by decide)) ?_
        refine z_cut (md_K dA (md_fs F 0 0) (md_is (md_is (md_is (md_is I 4 (upd (I 4) (Int32.toNatClampNeg (nI ((4 * m0) + a))) (nI 2))) 5 (upd (I 5) (Int32.toNatClampNeg (nI ((4 * m0) + a))) x3)) 6 (upd (I 6) (Int32.toNatClampNeg (nI ((4 * m0) + a))) x4)) 7 (upd (I 7) (Int32.toNatClampNeg (nI ((4 * m0) + a))) (vp_nar .boolean x5))) J q h) (md_wI hP10_ 7 (by decide) rfl) rfl rfl rfl (fun h11_ hP11_ => ?_)
        refine z_aload_n C dd_Q_atom_249 rfl ?_
        refine gf_Q_23 (v := .ref (q + 1 + 3)) C dd_Q_atom_250 hP11_.1.1 rfl ?_
        refine z_iload_n C dd_Q_atom_253 rfl ?_
        refine z_dup2_11 C dd_Q_atom_254 rfl rfl ?_
        refine z_iald (t0 := 0) (N := 12) (f := (I 3)) C rfl dd_Q_atom_255 (hP11_.1.2 3 (by decide)) (vp_in_nI (by omega) (by decide)) ?_
        refine z_topi (y := nI a) (by rw [nI_clamp (by omega)]; exact hat.symm) ?_
        refine z_iconst (v := 1) C dd_Q_atom_256 (by decide) ?_
        refine z_iadd C dd_Q_atom_257 ?_
        refine z_topi (y := nI (a + 1)) (by first | exact (nI_add _ _).symm | (rw [← nI_add]; rfl)) ?_
        refine z_iast (t0 := 0) (N := 12) (f := (I 3)) C rfl dd_Q_atom_258 (hP11_.1.2 3 (by decide)) (vp_in_nI (by omega) (by decide)) ?_
        refine z_cut (md_K dA (md_fs F 0 0) (md_is (md_is (md_is (md_is (md_is I 4 (upd (I 4) (Int32.toNatClampNeg (nI ((4 * m0) + a))) (nI 2))) 5 (upd (I 5) (Int32.toNatClampNeg (nI ((4 * m0) + a))) x3)) 6 (upd (I 6) (Int32.toNatClampNeg (nI ((4 * m0) + a))) x4)) 7 (upd (I 7) (Int32.toNatClampNeg (nI ((4 * m0) + a))) (vp_nar .boolean x5))) 3 (upd (I 3) (Int32.toNatClampNeg (nI m0)) (nI (a + 1)))) J q h) (md_wI hP11_ 3 (by decide) rfl) rfl rfl rfl (fun h12_ hP12_ => ?_)
        refine z_aload_n C dd_Q_atom_259 rfl ?_
        refine z_aload_n C dd_Q_atom_260 rfl ?_
        refine gf_Q_20 (v := .ref (q + 1 + 2)) C dd_Q_atom_261 hP12_.1.1 rfl ?_
        refine z_iload_n C dd_Q_atom_264 rfl ?_
        refine z_iald (t0 := 0) (N := 12) (f := (I 2)) C rfl dd_Q_atom_265 (hP12_.1.2 2 (by decide)) (vp_in_nI (by omega) (by decide)) ?_
        refine z_topi (y := nI g0) (by rw [nI_clamp (by omega)]; exact eo.symm) ?_
        refine iv_Q_131 (sk := fun _ => []) (zz_f B) C dd_Q_atom_266 (cn_Q_forget l D dA B _ _ q _ _ J hP12_.1 g0 (by omega)) hP12_.1.1 rfl rfl ⟨by decide, by decide⟩ (Nat.le_of_ble_eq_true rfl) ⟨by decide, by decide⟩ (fun _ => rfl) (fun _ h13_ n13_ p13_ => ?_)
        obtain ⟨m13_, rfl⟩ := p13_
        have hP13_ := md_tr hP12_ m13_
        refine z_aload_n C dd_Q_atom_269 rfl ?_
        refine gf_Q_23 (v := .ref (q + 1 + 3)) C dd_Q_atom_270 hP13_.1.1 rfl ?_
        refine z_iload_n C dd_Q_atom_273 rfl ?_
        refine z_iald (t0 := 0) (N := 12) (f := (upd (I 3) (Int32.toNatClampNeg (nI m0)) (nI (a + 1)))) C rfl dd_Q_atom_274 (hP13_.1.2 3 (by decide)) (vp_in_nI (by omega) (by decide)) ?_
        refine z_topi (y := nI (a + 1)) (by rw [nI_clamp (by omega), pk_us]) ?_
        exact z_iret C dd_Q_atom_275 ⟨rfl, Or.inr ⟨m0, 2, g0, ar, a, hm, rfl, by decide, rfl, hg, eo, ha, har, h4, hat, Or.inr (Or.inr ⟨(by simp [pu_ain, (pu_bn1.mp q6), (pu_bn1.mp q15), q19]), by omega, rfl, md_Ke hP13_ (by rw [nI_clamp (n := 4 * m0 + a) (by omega), nI_clamp (n := m0) (by omega), hvb]; rfl)⟩)⟩⟩ (by decide) (by decide)
      · replace q19 : a = 4 := (@nI_eq a 4 (by omega) (by omega)).mp q19
        refine z_iconst (v := 2) C dd_Q_atom_168 (by decide) ?_
        refine z_goto (tgt := 173) C dd_Q_atom_169 (by decide) ?_
        refine pf_Q_121 C dd_Q_atom_173 hP.1.1 (Nat.le_of_ble_eq_true rfl) rfl rfl ?_
        refine z_cut (md_K dA (md_fs F 0 2) I J q h) (md_wF hP rfl) rfl rfl rfl (fun h14_ hP14_ => ?_)
        refine z_aload_n C dd_Q_atom_176 rfl ?_
        refine gf_Q_121 (v := .int 2) C dd_Q_atom_177 hP14_.1.1 rfl ?_
        refine z_if_le (tgt := 185) C dd_Q_atom_180 (by decide) (fun q23 => absurd q23 (by decide)) (fun q23 => ?_)
        refine z_iconst (v := 0) C dd_Q_atom_183 (by decide) ?_
        exact z_iret C dd_Q_atom_184 ⟨rfl, Or.inr ⟨m0, 2, g0, ar, a, hm, rfl, by decide, rfl, hg, eo, ha, har, h4, hat, Or.inr (Or.inl ⟨(by simp [pu_ain, (pu_bn1.mp q6), (pu_bn1.mp q15), q19]), by omega, rfl, hP14_⟩)⟩⟩ (by decide) (by decide)
set_option maxRecDepth 20000 in
/-- atom -/
theorem ca_Q_atom_3 (l : Launch) (D : va_G) (dA : Nat → ClassId) (B : Nat) (h : zz_H) (n : Nat) (q : Nat) (F : Nat → Int32) (I : Nat → Nat → Int32) (J : Nat → Nat → Int64) (hP0 : md_P dA F I J q h) (nc ng nM : Nat) (W : pu_W F I nc ng nM) (m0 g0 ar a : Nat) (hm : m0 < nM) (hg : g0 < ng) (eo : I 2 m0 = nI g0) (ha : ar = 1 ∨ ar = 2) (har : I 1 g0 = nI ar) (h4 : a ≤ 4) (hat : I 3 m0 = nI a) (x3 x4 x5 : Int32) (hb : x5 = 0 ∨ x5 = 1) : zz_M l D zz_cl (zz_ty dA) B zz_tb (zz_x B) yy_Q_atom (Cond.code yy_Q_atom bb_Q_atom 9 (some FieldType.int)) rm_Q_atom [.ref q, .int ((nI m0)), .int ((nI 3)), .int x3, .int x4, .int x5] h n zz_mi (fun r h' n' => n' = n ∧ (((pu_iv (nI m0) 0 (nI nM - 1) && pu_iv (nI 3) 0 (nI 5)) = false ∧ r = 0 ∧ md_K dA (md_fs F 0 1) I J q h h') ∨ (∃ m9 k9 g9 r9 a9, m9 < nM ∧ (nI m0) = nI m9 ∧ k9 < 6 ∧ (nI 3) = nI k9 ∧ g9 < ng ∧ I 2 m9 = nI g9 ∧ (r9 = 1 ∨ r9 = 2) ∧ I 1 g9 = nI r9 ∧ a9 ≤ 4 ∧ I 3 m9 = nI a9 ∧ ((pu_ain nc r9 k9 x3 x4 = false ∧ r = 0 ∧ md_K dA (md_fs F 0 1) I J q h h') ∨ (pu_ain nc r9 k9 x3 x4 = true ∧ a9 = 4 ∧ r = 0 ∧ md_K dA (md_fs F 0 2) I J q h h') ∨ (pu_ain nc r9 k9 x3 x4 = true ∧ a9 < 4 ∧ r = nI (a9 + 1) ∧ md_K dA (md_fs (md_fs F 0 0) 18 0) (pu_addA I m9 a9 k9 x3 x4 x5 g9) J q h h'))))) := by
  refine zz_ofW (zz_f B) [some (.ref q), some (.int ((nI m0))), some (.int ((nI 3))), some (.int x3), some (.int x4), some (.int x5), none, none, none] (by decide) rfl rfl (Nat.le_of_ble_eq_true rfl) ?_
  intro p e s m below meth c C
  have hg4 := W.g4
  have h12 := W.m12
  have h8 := W.c8
  have hP := md_rf hP0
  have hvb : vp_nar .boolean x5 = x5 := by rcases hb with rfl | rfl <;> decide
  refine z_iload_n C dd_Q_atom_0 rfl ?_
  refine z_iconst (v := 0) C dd_Q_atom_1 (by decide) ?_
  refine z_aload_n C dd_Q_atom_2 rfl ?_
  refine gf_Q_138 (v := .int (F 5)) C dd_Q_atom_3 hP.1.1 rfl ?_
  refine z_topi (y := nI nM) W.fm.symm ?_
  refine z_iconst (v := 1) C dd_Q_atom_6 (by decide) ?_
  refine z_isub C dd_Q_atom_7 ?_
  refine is_Q_127 (sk := fun r => .int r :: []) (zz_f B) C dd_Q_atom_8 (cn_Q_in l D dA B _ _ _ _ _) rfl rfl ⟨by decide, by decide⟩ (Nat.le_of_ble_eq_true rfl) ⟨by decide, by decide⟩ (fun _ => rfl) (fun v1_ h1_ n1_ p1_ => ?_)
  obtain ⟨e1_, f1_, rfl⟩ := p1_
  have e1z := e1_.symm
  have f1z := f1_.symm
  subst e1z
  subst f1z
  refine z_if_eq (tgt := 27) C dd_Q_atom_11 (by decide) (fun q1 => absurd ((pu_b0 _).mp q1) (by rw [(pu_iv_0 (by omega)).mpr ⟨m0, hm, rfl⟩]; decide)) (fun q1 => ?_)
  refine z_iload_n C dd_Q_atom_14 rfl ?_
  refine z_iconst (v := 0) C dd_Q_atom_15 (by decide) ?_
  refine z_iconst (v := 5) C dd_Q_atom_16 (by decide) ?_
  refine is_Q_127 (sk := fun r => .int r :: []) (zz_f B) C dd_Q_atom_17 (cn_Q_in l D dA B _ _ _ _ _) rfl rfl ⟨by decide, by decide⟩ (Nat.le_of_ble_eq_true rfl) ⟨by decide, by decide⟩ (fun _ => rfl) (fun v2_ h2_ n2_ p2_ => ?_)
  obtain ⟨e2_, f2_, rfl⟩ := p2_
  have e2z := e2_.symm
  have f2z := f2_.symm
  subst e2z
  subst f2z
  refine z_if_eq (tgt := 27) C dd_Q_atom_20 (by decide) (fun q2 => absurd q2 (by decide)) (fun q2 => ?_)
  refine z_iconst (v := 1) C dd_Q_atom_23 (by decide) ?_
  refine z_goto (tgt := 28) C dd_Q_atom_24 (by decide) ?_
  refine z_istore C dd_Q_atom_28 rfl ?_
  refine z_iload C dd_Q_atom_30 rfl ?_
  refine z_if_eq (tgt := 49) C dd_Q_atom_32 (by decide) (fun q3 => absurd q3 (by decide)) (fun q3 => ?_)
  refine z_aload_n C dd_Q_atom_35 rfl ?_
  refine gf_Q_17 (v := .ref (q + 1 + 1)) C dd_Q_atom_36 hP.1.1 rfl ?_
  refine z_aload_n C dd_Q_atom_39 rfl ?_
  refine gf_Q_20 (v := .ref (q + 1 + 2)) C dd_Q_atom_40 hP.1.1 rfl ?_
  refine z_iload_n C dd_Q_atom_43 rfl ?_
  refine z_iald (t0 := 0) (N := 12) (f := (I 2)) C rfl dd_Q_atom_44 (hP.1.2 2 (by decide)) (vp_in_nI (by omega) (by decide)) ?_
  refine z_topi (y := nI g0) (by rw [nI_clamp (by omega)]; exact eo.symm) ?_
  refine z_iald (t0 := 0) (N := 4) (f := (I 1)) C rfl dd_Q_atom_45 (hP.1.2 1 (by decide)) (vp_in_nI (by omega) (by decide)) ?_
  refine z_topi (y := nI ar) (by rw [nI_clamp (by omega)]; exact har.symm) ?_
  refine z_goto (tgt := 50) C dd_Q_atom_46 (by decide) ?_
  refine z_istore C dd_Q_atom_50 rfl ?_
  refine z_iload C dd_Q_atom_52 rfl ?_
  refine z_if_eq (tgt := 87) C dd_Q_atom_54 (by decide) (fun q4 => absurd q4 (by decide)) (fun q4 => ?_)
  refine z_iload_n C dd_Q_atom_57 rfl ?_
  refine z_iconst (v := 3) C dd_Q_atom_58 (by decide) ?_
  refine z_icmp_le (tgt := 71) C dd_Q_atom_59 (by decide) (fun q5 => ?_) (fun q5 => absurd (by decide) q5)
  refine z_iload_n C dd_Q_atom_71 rfl ?_
  refine z_iconst (v := 0) C dd_Q_atom_72 (by decide) ?_
  refine z_iload C dd_Q_atom_73 rfl ?_
  refine z_iconst (v := 1) C dd_Q_atom_75 (by decide) ?_
  refine z_isub C dd_Q_atom_76 ?_
  refine is_Q_127 (sk := fun r => .int r :: []) (zz_f B) C dd_Q_atom_77 (cn_Q_in l D dA B _ _ _ _ _) rfl rfl ⟨by decide, by decide⟩ (Nat.le_of_ble_eq_true rfl) ⟨by decide, by decide⟩ (fun _ => rfl) (fun v3_ h3_ n3_ p3_ => ?_)
  obtain ⟨e3_, f3_, rfl⟩ := p3_
  have e3z := e3_.symm
  have f3z := f3_.symm
  subst e3z
  subst f3z
  refine z_if_eq (tgt := 87) C dd_Q_atom_80 (by decide) (fun q6 => ?_) (fun q6 => ?_)
  · skip
    refine z_iconst (v := 0) C dd_Q_atom_87 (by decide) ?_
    refine z_istore C dd_Q_atom_88 rfl ?_
    refine z_iload C dd_Q_atom_90 rfl ?_
    refine z_if_eq (tgt := 145) C dd_Q_atom_92 (by decide) (fun q7 => ?_) (fun q7 => absurd (by decide) q7)
    refine z_iconst (v := 0) C dd_Q_atom_145 (by decide) ?_
    refine z_istore C dd_Q_atom_146 rfl ?_
    refine z_aload_n C dd_Q_atom_148 rfl ?_
    refine z_iload C dd_Q_atom_149 rfl ?_
    refine z_if_ne (tgt := 158) C dd_Q_atom_151 (by decide) (fun q8 => absurd (by decide) q8) (fun q8 => ?_)
    refine z_iconst (v := 1) C dd_Q_atom_154 (by decide) ?_
    refine z_goto (tgt := 173) C dd_Q_atom_155 (by decide) ?_
    refine pf_Q_121 C dd_Q_atom_173 hP.1.1 (Nat.le_of_ble_eq_true rfl) rfl rfl ?_
    refine z_cut (md_K dA (md_fs F 0 1) I J q h) (md_wF hP rfl) rfl rfl rfl (fun h4_ hP4_ => ?_)
    refine z_aload_n C dd_Q_atom_176 rfl ?_
    refine gf_Q_121 (v := .int 1) C dd_Q_atom_177 hP4_.1.1 rfl ?_
    refine z_if_le (tgt := 185) C dd_Q_atom_180 (by decide) (fun q9 => absurd q9 (by decide)) (fun q9 => ?_)
    refine z_iconst (v := 0) C dd_Q_atom_183 (by decide) ?_
    exact z_iret C dd_Q_atom_184 ⟨rfl, Or.inr ⟨m0, 3, g0, ar, a, hm, rfl, by decide, rfl, hg, eo, ha, har, h4, hat, Or.inl ⟨(by simp [pu_ain, ((pu_b0 _).mp q6)]), rfl, hP4_⟩⟩⟩ (by decide) (by decide)
  · skip
    refine z_iconst (v := 1) C dd_Q_atom_83 (by decide) ?_
    refine z_goto (tgt := 88) C dd_Q_atom_84 (by decide) ?_
    refine z_istore C dd_Q_atom_88 rfl ?_
    refine z_iload C dd_Q_atom_90 rfl ?_
    refine z_if_eq (tgt := 145) C dd_Q_atom_92 (by decide) (fun q10 => absurd q10 (by decide)) (fun q10 => ?_)
    refine z_iload_n C dd_Q_atom_95 rfl ?_
    refine z_iconst (v := 2) C dd_Q_atom_96 (by decide) ?_
    refine z_icmp_gt (tgt := 141) C dd_Q_atom_97 (by decide) (fun q11 => ?_) (fun q11 => absurd (by decide) q11)
    refine z_iconst (v := 1) C dd_Q_atom_141 (by decide) ?_
    refine z_goto (tgt := 146) C dd_Q_atom_142 (by decide) ?_
    refine z_istore C dd_Q_atom_146 rfl ?_
    refine z_aload_n C dd_Q_atom_148 rfl ?_
    refine z_iload C dd_Q_atom_149 rfl ?_
    refine z_if_ne (tgt := 158) C dd_Q_atom_151 (by decide) (fun q12 => ?_) (fun q12 => absurd q12 (by decide))
    refine z_aload_n C dd_Q_atom_158 rfl ?_
    refine gf_Q_23 (v := .ref (q + 1 + 3)) C dd_Q_atom_159 hP.1.1 rfl ?_
    refine z_iload_n C dd_Q_atom_162 rfl ?_
    refine z_iald (t0 := 0) (N := 12) (f := (I 3)) C rfl dd_Q_atom_163 (hP.1.2 3 (by decide)) (vp_in_nI (by omega) (by decide)) ?_
    refine z_topi (y := nI a) (by rw [nI_clamp (by omega)]; exact hat.symm) ?_
    refine z_iconst (v := 4) C dd_Q_atom_164 (by decide) ?_
    refine z_icmp_ne (tgt := 172) C dd_Q_atom_165 (by decide) (fun q13 => ?_) (fun q13 => ?_)
    · replace q13 : ¬ a = 4 := fun z => q13 ((@nI_eq a 4 (by omega) (by omega)).mpr z)
      refine z_iconst (v := 0) C dd_Q_atom_172 (by decide) ?_
      refine pf_Q_121 C dd_Q_atom_173 hP.1.1 (Nat.le_of_ble_eq_true rfl) rfl rfl ?_
      refine z_cut (md_K dA (md_fs F 0 0) I J q h) (md_wF hP rfl) rfl rfl rfl (fun h5_ hP5_ => ?_)
      refine z_aload_n C dd_Q_atom_176 rfl ?_
      refine gf_Q_121 (v := .int 0) C dd_Q_atom_177 hP5_.1.1 rfl ?_
      refine z_if_le (tgt := 185) C dd_Q_atom_180 (by decide) (fun q14 => ?_) (fun q14 => absurd (by decide) q14)
      refine z_iconst (v := 4) C dd_Q_atom_185 (by decide) ?_
      refine z_iload_n C dd_Q_atom_186 rfl ?_
      refine z_imul C dd_Q_atom_187 ?_
      refine z_topi (y := nI (4 * m0)) (by first | exact (pk_mul _ _).symm | (rw [← pk_mul]; rfl)) ?_
      refine z_aload_n C dd_Q_atom_188 rfl ?_
      refine gf_Q_23 (v := .ref (q + 1 + 3)) C dd_Q_atom_189 hP5_.1.1 rfl ?_
      refine z_iload_n C dd_Q_atom_192 rfl ?_
      refine z_iald (t0 := 0) (N := 12) (f := (I 3)) C rfl dd_Q_atom_193 (hP5_.1.2 3 (by decide)) (vp_in_nI (by omega) (by decide)) ?_
      refine z_topi (y := nI a) (by rw [nI_clamp (by omega)]; exact hat.symm) ?_
      refine z_iadd C dd_Q_atom_194 ?_
      refine z_topi (y := nI ((4 * m0) + a)) (by first | exact (nI_add _ _).symm | (rw [← nI_add]; rfl)) ?_
      refine z_istore C dd_Q_atom_195 rfl ?_
      refine z_aload_n C dd_Q_atom_197 rfl ?_
      refine gf_Q_26 (v := .ref (q + 1 + 4)) C dd_Q_atom_198 hP5_.1.1 rfl ?_
      refine z_iload C dd_Q_atom_201 rfl ?_
      refine z_iload_n C dd_Q_atom_203 rfl ?_
      refine z_iast (t0 := 0) (N := 48) (f := (I 4)) C rfl dd_Q_atom_204 (hP5_.1.2 4 (by decide)) (vp_in_nI (by omega) (by decide)) ?_
      refine z_cut (md_K dA (md_fs F 0 0) (md_is I 4 (upd (I 4) (Int32.toNatClampNeg (nI ((4 * m0) + a))) (nI 3))) J q h) (md_wI hP5_ 4 (by decide) rfl) rfl rfl rfl (fun h6_ hP6_ => ?_)
      refine z_aload_n C dd_Q_atom_205 rfl ?_
      refine gf_Q_29 (v := .ref (q + 1 + 5)) C dd_Q_atom_206 hP6_.1.1 rfl ?_
      refine z_iload C dd_Q_atom_209 rfl ?_
      refine z_iload_n C dd_Q_atom_211 rfl ?_
      refine z_iconst (v := 3) C dd_Q_atom_212 (by decide) ?_
      refine z_icmp_le (tgt := 220) C dd_Q_atom_213 (by decide) (fun q15 => ?_) (fun q15 => absurd (by decide) q15)
      refine z_iload_n C dd_Q_atom_220 rfl ?_
      refine z_iast (t0 := 0) (N := 48) (f := (I 5)) C rfl dd_Q_atom_221 (hP6_.1.2 5 (by decide)) (vp_in_nI (by omega) (by decide)) ?_
      refine z_cut (md_K dA (md_fs F 0 0) (md_is (md_is I 4 (upd (I 4) (Int32.toNatClampNeg (nI ((4 * m0) + a))) (nI 3))) 5 (upd (I 5) (Int32.toNatClampNeg (nI ((4 * m0) + a))) x3)) J q h) (md_wI hP6_ 5 (by decide) rfl) rfl rfl rfl (fun h7_ hP7_ => ?_)
      refine z_aload_n C dd_Q_atom_222 rfl ?_
      refine gf_Q_32 (v := .ref (q + 1 + 6)) C dd_Q_atom_223 hP7_.1.1 rfl ?_
      refine z_iload C dd_Q_atom_226 rfl ?_
      refine z_iload_n C dd_Q_atom_228 rfl ?_
      refine z_iconst (v := 2) C dd_Q_atom_229 (by decide) ?_
      refine z_icmp_le (tgt := 237) C dd_Q_atom_230 (by decide) (fun q16 => absurd q16 (by decide)) (fun q16 => ?_)
      refine z_iconst (v := 0) C dd_Q_atom_233 (by decide) ?_
      refine z_goto (tgt := 239) C dd_Q_atom_234 (by decide) ?_
      refine z_iast (t0 := 0) (N := 48) (f := (I 6)) C rfl dd_Q_atom_239 (hP7_.1.2 6 (by decide)) (vp_in_nI (by omega) (by decide)) ?_
      refine z_cut (md_K dA (md_fs F 0 0) (md_is (md_is (md_is I 4 (upd (I 4) (Int32.toNatClampNeg (nI ((4 * m0) + a))) (nI 3))) 5 (upd (I 5) (Int32.toNatClampNeg (nI ((4 * m0) + a))) x3)) 6 (upd (I 6) (Int32.toNatClampNeg (nI ((4 * m0) + a))) 0)) J q h) (md_wI hP7_ 6 (by decide) rfl) rfl rfl rfl (fun h8_ hP8_ => ?_)
      refine z_aload_n C dd_Q_atom_240 rfl ?_
      refine gf_Q_35 (v := .ref (q + 1 + 7)) C dd_Q_atom_241 hP8_.1.1 rfl ?_
      refine z_iload C dd_Q_atom_244 rfl ?_
      refine z_iload C dd_Q_atom_246 rfl ?_
      refine z_zast (t0 := 2) (N := 48) (f := (I 7)) C rfl dd_Q_atom_248 (hP8_.1.2 7 (by decide)) (vp_in_nI (by omega) (by decide)) ?_
      refine z_cut (md_K dA (md_fs F 0 0) (md_is (md_is (md_is (md_is I 4 (upd (I 4) (Int32.toNatClampNeg (nI ((4 * m0) + a))) (nI 3))) 5 (upd (I 5) (Int32.toNatClampNeg (nI ((4 * m0) + a))) x3)) 6 (upd (I 6) (Int32.toNatClampNeg (nI ((4 * m0) + a))) 0)) 7 (upd (I 7) (Int32.toNatClampNeg (nI ((4 * m0) + a))) (vp_nar .boolean x5))) J q h) (md_wI hP8_ 7 (by decide) rfl) rfl rfl rfl (fun h9_ hP9_ => ?_)
      refine z_aload_n C dd_Q_atom_249 rfl ?_
      refine gf_Q_23 (v := .ref (q + 1 + 3)) C dd_Q_atom_250 hP9_.1.1 rfl ?_
      refine z_iload_n C dd_Q_atom_253 rfl ?_
      refine z_dup2_11 C dd_Q_atom_254 rfl rfl ?_
      refine z_iald (t0 := 0) (N := 12) (f := (I 3)) C rfl dd_Q_atom_255 (hP9_.1.2 3 (by decide)) (vp_in_nI (by omega) (by decide)) ?_
      refine z_topi (y := nI a) (by rw [nI_clamp (by omega)]; exact hat.symm) ?_
      refine z_iconst (v := 1) C dd_Q_atom_256 (by decide) ?_
      refine z_iadd C dd_Q_atom_257 ?_
      refine z_topi (y := nI (a + 1)) (by first | exact (nI_add _ _).symm | (rw [← nI_add]; rfl)) ?_
      refine z_iast (t0 := 0) (N := 12) (f := (I 3)) C rfl dd_Q_atom_258 (hP9_.1.2 3 (by decide)) (vp_in_nI (by omega) (by decide)) ?_
      refine z_cut (md_K dA (md_fs F 0 0) (md_is (md_is (md_is (md_is (md_is I 4 (upd (I 4) (Int32.toNatClampNeg (nI ((4 * m0) + a))) (nI 3))) 5 (upd (I 5) (Int32.toNatClampNeg (nI ((4 * m0) + a))) x3)) 6 (upd (I 6) (Int32.toNatClampNeg (nI ((4 * m0) + a))) 0)) 7 (upd (I 7) (Int32.toNatClampNeg (nI ((4 * m0) + a))) (vp_nar .boolean x5))) 3 (upd (I 3) (Int32.toNatClampNeg (nI m0)) (nI (a + 1)))) J q h) (md_wI hP9_ 3 (by decide) rfl) rfl rfl rfl (fun h10_ hP10_ => ?_)
      refine z_aload_n C dd_Q_atom_259 rfl ?_
      refine z_aload_n C dd_Q_atom_260 rfl ?_
      refine gf_Q_20 (v := .ref (q + 1 + 2)) C dd_Q_atom_261 hP10_.1.1 rfl ?_
      refine z_iload_n C dd_Q_atom_264 rfl ?_
      refine z_iald (t0 := 0) (N := 12) (f := (I 2)) C rfl dd_Q_atom_265 (hP10_.1.2 2 (by decide)) (vp_in_nI (by omega) (by decide)) ?_
      refine z_topi (y := nI g0) (by rw [nI_clamp (by omega)]; exact eo.symm) ?_
      refine iv_Q_131 (sk := fun _ => []) (zz_f B) C dd_Q_atom_266 (cn_Q_forget l D dA B _ _ q _ _ J hP10_.1 g0 (by omega)) hP10_.1.1 rfl rfl ⟨by decide, by decide⟩ (Nat.le_of_ble_eq_true rfl) ⟨by decide, by decide⟩ (fun _ => rfl) (fun _ h11_ n11_ p11_ => ?_)
      obtain ⟨m11_, rfl⟩ := p11_
      have hP11_ := md_tr hP10_ m11_
      refine z_aload_n C dd_Q_atom_269 rfl ?_
      refine gf_Q_23 (v := .ref (q + 1 + 3)) C dd_Q_atom_270 hP11_.1.1 rfl ?_
      refine z_iload_n C dd_Q_atom_273 rfl ?_
      refine z_iald (t0 := 0) (N := 12) (f := (upd (I 3) (Int32.toNatClampNeg (nI m0)) (nI (a + 1)))) C rfl dd_Q_atom_274 (hP11_.1.2 3 (by decide)) (vp_in_nI (by omega) (by decide)) ?_
      refine z_topi (y := nI (a + 1)) (by rw [nI_clamp (by omega), pk_us]) ?_
      exact z_iret C dd_Q_atom_275 ⟨rfl, Or.inr ⟨m0, 3, g0, ar, a, hm, rfl, by decide, rfl, hg, eo, ha, har, h4, hat, Or.inr (Or.inr ⟨(by simp [pu_ain, (pu_bn1.mp q6), q13]), by omega, rfl, md_Ke hP11_ (by rw [nI_clamp (n := 4 * m0 + a) (by omega), nI_clamp (n := m0) (by omega), hvb]; rfl)⟩)⟩⟩ (by decide) (by decide)
    · replace q13 : a = 4 := (@nI_eq a 4 (by omega) (by omega)).mp q13
      refine z_iconst (v := 2) C dd_Q_atom_168 (by decide) ?_
      refine z_goto (tgt := 173) C dd_Q_atom_169 (by decide) ?_
      refine pf_Q_121 C dd_Q_atom_173 hP.1.1 (Nat.le_of_ble_eq_true rfl) rfl rfl ?_
      refine z_cut (md_K dA (md_fs F 0 2) I J q h) (md_wF hP rfl) rfl rfl rfl (fun h12_ hP12_ => ?_)
      refine z_aload_n C dd_Q_atom_176 rfl ?_
      refine gf_Q_121 (v := .int 2) C dd_Q_atom_177 hP12_.1.1 rfl ?_
      refine z_if_le (tgt := 185) C dd_Q_atom_180 (by decide) (fun q17 => absurd q17 (by decide)) (fun q17 => ?_)
      refine z_iconst (v := 0) C dd_Q_atom_183 (by decide) ?_
      exact z_iret C dd_Q_atom_184 ⟨rfl, Or.inr ⟨m0, 3, g0, ar, a, hm, rfl, by decide, rfl, hg, eo, ha, har, h4, hat, Or.inr (Or.inl ⟨(by simp [pu_ain, (pu_bn1.mp q6), q13]), by omega, rfl, hP12_⟩)⟩⟩ (by decide) (by decide)
set_option maxRecDepth 20000 in
/-- atom -/
theorem ca_Q_atom_4 (l : Launch) (D : va_G) (dA : Nat → ClassId) (B : Nat) (h : zz_H) (n : Nat) (q : Nat) (F : Nat → Int32) (I : Nat → Nat → Int32) (J : Nat → Nat → Int64) (hP0 : md_P dA F I J q h) (nc ng nM : Nat) (W : pu_W F I nc ng nM) (m0 g0 ar a : Nat) (hm : m0 < nM) (hg : g0 < ng) (eo : I 2 m0 = nI g0) (ha : ar = 1 ∨ ar = 2) (har : I 1 g0 = nI ar) (h4 : a ≤ 4) (hat : I 3 m0 = nI a) (x3 x4 x5 : Int32) (hb : x5 = 0 ∨ x5 = 1) : zz_M l D zz_cl (zz_ty dA) B zz_tb (zz_x B) yy_Q_atom (Cond.code yy_Q_atom bb_Q_atom 9 (some FieldType.int)) rm_Q_atom [.ref q, .int ((nI m0)), .int ((nI 4)), .int x3, .int x4, .int x5] h n zz_mi (fun r h' n' => n' = n ∧ (((pu_iv (nI m0) 0 (nI nM - 1) && pu_iv (nI 4) 0 (nI 5)) = false ∧ r = 0 ∧ md_K dA (md_fs F 0 1) I J q h h') ∨ (∃ m9 k9 g9 r9 a9, m9 < nM ∧ (nI m0) = nI m9 ∧ k9 < 6 ∧ (nI 4) = nI k9 ∧ g9 < ng ∧ I 2 m9 = nI g9 ∧ (r9 = 1 ∨ r9 = 2) ∧ I 1 g9 = nI r9 ∧ a9 ≤ 4 ∧ I 3 m9 = nI a9 ∧ ((pu_ain nc r9 k9 x3 x4 = false ∧ r = 0 ∧ md_K dA (md_fs F 0 1) I J q h h') ∨ (pu_ain nc r9 k9 x3 x4 = true ∧ a9 = 4 ∧ r = 0 ∧ md_K dA (md_fs F 0 2) I J q h h') ∨ (pu_ain nc r9 k9 x3 x4 = true ∧ a9 < 4 ∧ r = nI (a9 + 1) ∧ md_K dA (md_fs (md_fs F 0 0) 18 0) (pu_addA I m9 a9 k9 x3 x4 x5 g9) J q h h'))))) := by
  refine zz_ofW (zz_f B) [some (.ref q), some (.int ((nI m0))), some (.int ((nI 4))), some (.int x3), some (.int x4), some (.int x5), none, none, none] (by decide) rfl rfl (Nat.le_of_ble_eq_true rfl) ?_
  intro p e s m below meth c C
  have hg4 := W.g4
  have h12 := W.m12
  have h8 := W.c8
  have hP := md_rf hP0
  have hvb : vp_nar .boolean x5 = x5 := by rcases hb with rfl | rfl <;> decide
  refine z_iload_n C dd_Q_atom_0 rfl ?_
  refine z_iconst (v := 0) C dd_Q_atom_1 (by decide) ?_
  refine z_aload_n C dd_Q_atom_2 rfl ?_
  refine gf_Q_138 (v := .int (F 5)) C dd_Q_atom_3 hP.1.1 rfl ?_
  refine z_topi (y := nI nM) W.fm.symm ?_
  refine z_iconst (v := 1) C dd_Q_atom_6 (by decide) ?_
  refine z_isub C dd_Q_atom_7 ?_
  refine is_Q_127 (sk := fun r => .int r :: []) (zz_f B) C dd_Q_atom_8 (cn_Q_in l D dA B _ _ _ _ _) rfl rfl ⟨by decide, by decide⟩ (Nat.le_of_ble_eq_true rfl) ⟨by decide, by decide⟩ (fun _ => rfl) (fun v1_ h1_ n1_ p1_ => ?_)
  obtain ⟨e1_, f1_, rfl⟩ := p1_
  have e1z := e1_.symm
  have f1z := f1_.symm
  subst e1z
  subst f1z
  refine z_if_eq (tgt := 27) C dd_Q_atom_11 (by decide) (fun q1 => absurd ((pu_b0 _).mp q1) (by rw [(pu_iv_0 (by omega)).mpr ⟨m0, hm, rfl⟩]; decide)) (fun q1 => ?_)
  refine z_iload_n C dd_Q_atom_14 rfl ?_
  refine z_iconst (v := 0) C dd_Q_atom_15 (by decide) ?_
  refine z_iconst (v := 5) C dd_Q_atom_16 (by decide) ?_
  refine is_Q_127 (sk := fun r => .int r :: []) (zz_f B) C dd_Q_atom_17 (cn_Q_in l D dA B _ _ _ _ _) rfl rfl ⟨by decide, by decide⟩ (Nat.le_of_ble_eq_true rfl) ⟨by decide, by decide⟩ (fun _ => rfl) (fun v2_ h2_ n2_ p2_ => ?_)
  obtain ⟨e2_, f2_, rfl⟩ := p2_
  have e2z := e2_.symm
  have f2z := f2_.symm
  subst e2z
  subst f2z
  refine z_if_eq (tgt := 27) C dd_Q_atom_20 (by decide) (fun q2 => absurd q2 (by decide)) (fun q2 => ?_)
  refine z_iconst (v := 1) C dd_Q_atom_23 (by decide) ?_
  refine z_goto (tgt := 28) C dd_Q_atom_24 (by decide) ?_
  refine z_istore C dd_Q_atom_28 rfl ?_
  refine z_iload C dd_Q_atom_30 rfl ?_
  refine z_if_eq (tgt := 49) C dd_Q_atom_32 (by decide) (fun q3 => absurd q3 (by decide)) (fun q3 => ?_)
  refine z_aload_n C dd_Q_atom_35 rfl ?_
  refine gf_Q_17 (v := .ref (q + 1 + 1)) C dd_Q_atom_36 hP.1.1 rfl ?_
  refine z_aload_n C dd_Q_atom_39 rfl ?_
  refine gf_Q_20 (v := .ref (q + 1 + 2)) C dd_Q_atom_40 hP.1.1 rfl ?_
  refine z_iload_n C dd_Q_atom_43 rfl ?_
  refine z_iald (t0 := 0) (N := 12) (f := (I 2)) C rfl dd_Q_atom_44 (hP.1.2 2 (by decide)) (vp_in_nI (by omega) (by decide)) ?_
  refine z_topi (y := nI g0) (by rw [nI_clamp (by omega)]; exact eo.symm) ?_
  refine z_iald (t0 := 0) (N := 4) (f := (I 1)) C rfl dd_Q_atom_45 (hP.1.2 1 (by decide)) (vp_in_nI (by omega) (by decide)) ?_
  refine z_topi (y := nI ar) (by rw [nI_clamp (by omega)]; exact har.symm) ?_
  refine z_goto (tgt := 50) C dd_Q_atom_46 (by decide) ?_
  refine z_istore C dd_Q_atom_50 rfl ?_
  refine z_iload C dd_Q_atom_52 rfl ?_
  refine z_if_eq (tgt := 87) C dd_Q_atom_54 (by decide) (fun q4 => absurd q4 (by decide)) (fun q4 => ?_)
  refine z_iload_n C dd_Q_atom_57 rfl ?_
  refine z_iconst (v := 3) C dd_Q_atom_58 (by decide) ?_
  refine z_icmp_le (tgt := 71) C dd_Q_atom_59 (by decide) (fun q5 => absurd q5 (by decide)) (fun q5 => ?_)
  refine z_iload C dd_Q_atom_62 rfl ?_
  refine z_iconst (v := 2) C dd_Q_atom_64 (by decide) ?_
  refine z_icmp_ne (tgt := 87) C dd_Q_atom_65 (by decide) (fun q6 => ?_) (fun q6 => ?_)
  · replace q6 : ¬ ar = 2 := fun z => q6 ((@nI_eq ar 2 (by omega) (by omega)).mpr z)
    refine z_iconst (v := 0) C dd_Q_atom_87 (by decide) ?_
    refine z_istore C dd_Q_atom_88 rfl ?_
    refine z_iload C dd_Q_atom_90 rfl ?_
    refine z_if_eq (tgt := 145) C dd_Q_atom_92 (by decide) (fun q7 => ?_) (fun q7 => absurd (by decide) q7)
    refine z_iconst (v := 0) C dd_Q_atom_145 (by decide) ?_
    refine z_istore C dd_Q_atom_146 rfl ?_
    refine z_aload_n C dd_Q_atom_148 rfl ?_
    refine z_iload C dd_Q_atom_149 rfl ?_
    refine z_if_ne (tgt := 158) C dd_Q_atom_151 (by decide) (fun q8 => absurd (by decide) q8) (fun q8 => ?_)
    refine z_iconst (v := 1) C dd_Q_atom_154 (by decide) ?_
    refine z_goto (tgt := 173) C dd_Q_atom_155 (by decide) ?_
    refine pf_Q_121 C dd_Q_atom_173 hP.1.1 (Nat.le_of_ble_eq_true rfl) rfl rfl ?_
    refine z_cut (md_K dA (md_fs F 0 1) I J q h) (md_wF hP rfl) rfl rfl rfl (fun h3_ hP3_ => ?_)
    refine z_aload_n C dd_Q_atom_176 rfl ?_
    refine gf_Q_121 (v := .int 1) C dd_Q_atom_177 hP3_.1.1 rfl ?_
    refine z_if_le (tgt := 185) C dd_Q_atom_180 (by decide) (fun q9 => absurd q9 (by decide)) (fun q9 => ?_)
    refine z_iconst (v := 0) C dd_Q_atom_183 (by decide) ?_
    exact z_iret C dd_Q_atom_184 ⟨rfl, Or.inr ⟨m0, 4, g0, ar, a, hm, rfl, by decide, rfl, hg, eo, ha, har, h4, hat, Or.inl ⟨(by simp [pu_ain, q6]), rfl, hP3_⟩⟩⟩ (by decide) (by decide)
  · replace q6 : ar = 2 := (@nI_eq ar 2 (by omega) (by omega)).mp q6
    refine z_goto (tgt := 83) C dd_Q_atom_68 (by decide) ?_
    refine z_iconst (v := 1) C dd_Q_atom_83 (by decide) ?_
    refine z_goto (tgt := 88) C dd_Q_atom_84 (by decide) ?_
    refine z_istore C dd_Q_atom_88 rfl ?_
    refine z_iload C dd_Q_atom_90 rfl ?_
    refine z_if_eq (tgt := 145) C dd_Q_atom_92 (by decide) (fun q10 => absurd q10 (by decide)) (fun q10 => ?_)
    refine z_iload_n C dd_Q_atom_95 rfl ?_
    refine z_iconst (v := 2) C dd_Q_atom_96 (by decide) ?_
    refine z_icmp_gt (tgt := 141) C dd_Q_atom_97 (by decide) (fun q11 => ?_) (fun q11 => absurd (by decide) q11)
    refine z_iconst (v := 1) C dd_Q_atom_141 (by decide) ?_
    refine z_goto (tgt := 146) C dd_Q_atom_142 (by decide) ?_
    refine z_istore C dd_Q_atom_146 rfl ?_
    refine z_aload_n C dd_Q_atom_148 rfl ?_
    refine z_iload C dd_Q_atom_149 rfl ?_
    refine z_if_ne (tgt := 158) C dd_Q_atom_151 (by decide) (fun q12 => ?_) (fun q12 => absurd q12 (by decide))
    refine z_aload_n C dd_Q_atom_158 rfl ?_
    refine gf_Q_23 (v := .ref (q + 1 + 3)) C dd_Q_atom_159 hP.1.1 rfl ?_
    refine z_iload_n C dd_Q_atom_162 rfl ?_
    refine z_iald (t0 := 0) (N := 12) (f := (I 3)) C rfl dd_Q_atom_163 (hP.1.2 3 (by decide)) (vp_in_nI (by omega) (by decide)) ?_
    refine z_topi (y := nI a) (by rw [nI_clamp (by omega)]; exact hat.symm) ?_
    refine z_iconst (v := 4) C dd_Q_atom_164 (by decide) ?_
    refine z_icmp_ne (tgt := 172) C dd_Q_atom_165 (by decide) (fun q13 => ?_) (fun q13 => ?_)
    · replace q13 : ¬ a = 4 := fun z => q13 ((@nI_eq a 4 (by omega) (by omega)).mpr z)
      refine z_iconst (v := 0) C dd_Q_atom_172 (by decide) ?_
      refine pf_Q_121 C dd_Q_atom_173 hP.1.1 (Nat.le_of_ble_eq_true rfl) rfl rfl ?_
      refine z_cut (md_K dA (md_fs F 0 0) I J q h) (md_wF hP rfl) rfl rfl rfl (fun h4_ hP4_ => ?_)
      refine z_aload_n C dd_Q_atom_176 rfl ?_
      refine gf_Q_121 (v := .int 0) C dd_Q_atom_177 hP4_.1.1 rfl ?_
      refine z_if_le (tgt := 185) C dd_Q_atom_180 (by decide) (fun q14 => ?_) (fun q14 => absurd (by decide) q14)
      refine z_iconst (v := 4) C dd_Q_atom_185 (by decide) ?_
      refine z_iload_n C dd_Q_atom_186 rfl ?_
      refine z_imul C dd_Q_atom_187 ?_
      refine z_topi (y := nI (4 * m0)) (by first | exact (pk_mul _ _).symm | (rw [← pk_mul]; rfl)) ?_
      refine z_aload_n C dd_Q_atom_188 rfl ?_
      refine gf_Q_23 (v := .ref (q + 1 + 3)) C dd_Q_atom_189 hP4_.1.1 rfl ?_
      refine z_iload_n C dd_Q_atom_192 rfl ?_
      refine z_iald (t0 := 0) (N := 12) (f := (I 3)) C rfl dd_Q_atom_193 (hP4_.1.2 3 (by decide)) (vp_in_nI (by omega) (by decide)) ?_
      refine z_topi (y := nI a) (by rw [nI_clamp (by omega)]; exact hat.symm) ?_
      refine z_iadd C dd_Q_atom_194 ?_
      refine z_topi (y := nI ((4 * m0) + a)) (by first | exact (nI_add _ _).symm | (rw [← nI_add]; rfl)) ?_
      refine z_istore C dd_Q_atom_195 rfl ?_
      refine z_aload_n C dd_Q_atom_197 rfl ?_
      refine gf_Q_26 (v := .ref (q + 1 + 4)) C dd_Q_atom_198 hP4_.1.1 rfl ?_
      refine z_iload C dd_Q_atom_201 rfl ?_
      refine z_iload_n C dd_Q_atom_203 rfl ?_
      refine z_iast (t0 := 0) (N := 48) (f := (I 4)) C rfl dd_Q_atom_204 (hP4_.1.2 4 (by decide)) (vp_in_nI (by omega) (by decide)) ?_
      refine z_cut (md_K dA (md_fs F 0 0) (md_is I 4 (upd (I 4) (Int32.toNatClampNeg (nI ((4 * m0) + a))) (nI 4))) J q h) (md_wI hP4_ 4 (by decide) rfl) rfl rfl rfl (fun h5_ hP5_ => ?_)
      refine z_aload_n C dd_Q_atom_205 rfl ?_
      refine gf_Q_29 (v := .ref (q + 1 + 5)) C dd_Q_atom_206 hP5_.1.1 rfl ?_
      refine z_iload C dd_Q_atom_209 rfl ?_
      refine z_iload_n C dd_Q_atom_211 rfl ?_
      refine z_iconst (v := 3) C dd_Q_atom_212 (by decide) ?_
      refine z_icmp_le (tgt := 220) C dd_Q_atom_213 (by decide) (fun q15 => absurd q15 (by decide)) (fun q15 => ?_)
      refine z_iconst (v := 0) C dd_Q_atom_216 (by decide) ?_
      refine z_goto (tgt := 221) C dd_Q_atom_217 (by decide) ?_
      refine z_iast (t0 := 0) (N := 48) (f := (I 5)) C rfl dd_Q_atom_221 (hP5_.1.2 5 (by decide)) (vp_in_nI (by omega) (by decide)) ?_
      refine z_cut (md_K dA (md_fs F 0 0) (md_is (md_is I 4 (upd (I 4) (Int32.toNatClampNeg (nI ((4 * m0) + a))) (nI 4))) 5 (upd (I 5) (Int32.toNatClampNeg (nI ((4 * m0) + a))) 0)) J q h) (md_wI hP5_ 5 (by decide) rfl) rfl rfl rfl (fun h6_ hP6_ => ?_)
      refine z_aload_n C dd_Q_atom_222 rfl ?_
      refine gf_Q_32 (v := .ref (q + 1 + 6)) C dd_Q_atom_223 hP6_.1.1 rfl ?_
      refine z_iload C dd_Q_atom_226 rfl ?_
      refine z_iload_n C dd_Q_atom_228 rfl ?_
      refine z_iconst (v := 2) C dd_Q_atom_229 (by decide) ?_
      refine z_icmp_le (tgt := 237) C dd_Q_atom_230 (by decide) (fun q16 => absurd q16 (by decide)) (fun q16 => ?_)
      refine z_iconst (v := 0) C dd_Q_atom_233 (by decide) ?_
      refine z_goto (tgt := 239) C dd_Q_atom_234 (by decide) ?_
      refine z_iast (t0 := 0) (N := 48) (f := (I 6)) C rfl dd_Q_atom_239 (hP6_.1.2 6 (by decide)) (vp_in_nI (by omega) (by decide)) ?_
      refine z_cut (md_K dA (md_fs F 0 0) (md_is (md_is (md_is I 4 (upd (I 4) (Int32.toNatClampNeg (nI ((4 * m0) + a))) (nI 4))) 5 (upd (I 5) (Int32.toNatClampNeg (nI ((4 * m0) + a))) 0)) 6 (upd (I 6) (Int32.toNatClampNeg (nI ((4 * m0) + a))) 0)) J q h) (md_wI hP6_ 6 (by decide) rfl) rfl rfl rfl (fun h7_ hP7_ => ?_)
      refine z_aload_n C dd_Q_atom_240 rfl ?_
      refine gf_Q_35 (v := .ref (q + 1 + 7)) C dd_Q_atom_241 hP7_.1.1 rfl ?_
      refine z_iload C dd_Q_atom_244 rfl ?_
      refine z_iload C dd_Q_atom_246 rfl ?_
      refine z_zast (t0 := 2) (N := 48) (f := (I 7)) C rfl dd_Q_atom_248 (hP7_.1.2 7 (by decide)) (vp_in_nI (by omega) (by decide)) ?_
      refine z_cut (md_K dA (md_fs F 0 0) (md_is (md_is (md_is (md_is I 4 (upd (I 4) (Int32.toNatClampNeg (nI ((4 * m0) + a))) (nI 4))) 5 (upd (I 5) (Int32.toNatClampNeg (nI ((4 * m0) + a))) 0)) 6 (upd (I 6) (Int32.toNatClampNeg (nI ((4 * m0) + a))) 0)) 7 (upd (I 7) (Int32.toNatClampNeg (nI ((4 * m0) + a))) (vp_nar .boolean x5))) J q h) (md_wI hP7_ 7 (by decide) rfl) rfl rfl rfl (fun h8_ hP8_ => ?_)
      refine z_aload_n C dd_Q_atom_249 rfl ?_
      refine gf_Q_23 (v := .ref (q + 1 + 3)) C dd_Q_atom_250 hP8_.1.1 rfl ?_
      refine z_iload_n C dd_Q_atom_253 rfl ?_
      refine z_dup2_11 C dd_Q_atom_254 rfl rfl ?_
      refine z_iald (t0 := 0) (N := 12) (f := (I 3)) C rfl dd_Q_atom_255 (hP8_.1.2 3 (by decide)) (vp_in_nI (by omega) (by decide)) ?_
      refine z_topi (y := nI a) (by rw [nI_clamp (by omega)]; exact hat.symm) ?_
      refine z_iconst (v := 1) C dd_Q_atom_256 (by decide) ?_
      refine z_iadd C dd_Q_atom_257 ?_
      refine z_topi (y := nI (a + 1)) (by first | exact (nI_add _ _).symm | (rw [← nI_add]; rfl)) ?_
      refine z_iast (t0 := 0) (N := 12) (f := (I 3)) C rfl dd_Q_atom_258 (hP8_.1.2 3 (by decide)) (vp_in_nI (by omega) (by decide)) ?_
      refine z_cut (md_K dA (md_fs F 0 0) (md_is (md_is (md_is (md_is (md_is I 4 (upd (I 4) (Int32.toNatClampNeg (nI ((4 * m0) + a))) (nI 4))) 5 (upd (I 5) (Int32.toNatClampNeg (nI ((4 * m0) + a))) 0)) 6 (upd (I 6) (Int32.toNatClampNeg (nI ((4 * m0) + a))) 0)) 7 (upd (I 7) (Int32.toNatClampNeg (nI ((4 * m0) + a))) (vp_nar .boolean x5))) 3 (upd (I 3) (Int32.toNatClampNeg (nI m0)) (nI (a + 1)))) J q h) (md_wI hP8_ 3 (by decide) rfl) rfl rfl rfl (fun h9_ hP9_ => ?_)
      refine z_aload_n C dd_Q_atom_259 rfl ?_
      refine z_aload_n C dd_Q_atom_260 rfl ?_
      refine gf_Q_20 (v := .ref (q + 1 + 2)) C dd_Q_atom_261 hP9_.1.1 rfl ?_
      refine z_iload_n C dd_Q_atom_264 rfl ?_
      refine z_iald (t0 := 0) (N := 12) (f := (I 2)) C rfl dd_Q_atom_265 (hP9_.1.2 2 (by decide)) (vp_in_nI (by omega) (by decide)) ?_
      refine z_topi (y := nI g0) (by rw [nI_clamp (by omega)]; exact eo.symm) ?_
      refine iv_Q_131 (sk := fun _ => []) (zz_f B) C dd_Q_atom_266 (cn_Q_forget l D dA B _ _ q _ _ J hP9_.1 g0 (by omega)) hP9_.1.1 rfl rfl ⟨by decide, by decide⟩ (Nat.le_of_ble_eq_true rfl) ⟨by decide, by decide⟩ (fun _ => rfl) (fun _ h10_ n10_ p10_ => ?_)
      obtain ⟨m10_, rfl⟩ := p10_
      have hP10_ := md_tr hP9_ m10_
      refine z_aload_n C dd_Q_atom_269 rfl ?_
      refine gf_Q_23 (v := .ref (q + 1 + 3)) C dd_Q_atom_270 hP10_.1.1 rfl ?_
      refine z_iload_n C dd_Q_atom_273 rfl ?_
      refine z_iald (t0 := 0) (N := 12) (f := (upd (I 3) (Int32.toNatClampNeg (nI m0)) (nI (a + 1)))) C rfl dd_Q_atom_274 (hP10_.1.2 3 (by decide)) (vp_in_nI (by omega) (by decide)) ?_
      refine z_topi (y := nI (a + 1)) (by rw [nI_clamp (by omega), pk_us]) ?_
      exact z_iret C dd_Q_atom_275 ⟨rfl, Or.inr ⟨m0, 4, g0, ar, a, hm, rfl, by decide, rfl, hg, eo, ha, har, h4, hat, Or.inr (Or.inr ⟨(by simp [pu_ain, q6, q13]), by omega, rfl, md_Ke hP10_ (by rw [nI_clamp (n := 4 * m0 + a) (by omega), nI_clamp (n := m0) (by omega), hvb]; rfl)⟩)⟩⟩ (by decide) (by decide)
    · replace q13 : a = 4 := (@nI_eq a 4 (by omega) (by omega)).mp q13
      refine z_iconst (v := 2) C dd_Q_atom_168 (by decide) ?_
      refine z_goto (tgt := 173) C dd_Q_atom_169 (by decide) ?_
      refine pf_Q_121 C dd_Q_atom_173 hP.1.1 (Nat.le_of_ble_eq_true rfl) rfl rfl ?_
      refine z_cut (md_K dA (md_fs F 0 2) I J q h) (md_wF hP rfl) rfl rfl rfl (fun h11_ hP11_ => ?_)
      refine z_aload_n C dd_Q_atom_176 rfl ?_
      refine gf_Q_121 (v := .int 2) C dd_Q_atom_177 hP11_.1.1 rfl ?_
      refine z_if_le (tgt := 185) C dd_Q_atom_180 (by decide) (fun q17 => absurd q17 (by decide)) (fun q17 => ?_)
      refine z_iconst (v := 0) C dd_Q_atom_183 (by decide) ?_
      exact z_iret C dd_Q_atom_184 ⟨rfl, Or.inr ⟨m0, 4, g0, ar, a, hm, rfl, by decide, rfl, hg, eo, ha, har, h4, hat, Or.inr (Or.inl ⟨(by simp [pu_ain, q6, q13]), by omega, rfl, hP11_⟩)⟩⟩ (by decide) (by decide)
set_option maxRecDepth 20000 in
/-- atom -/
theorem ca_Q_atom_5 (l : Launch) (D : va_G) (dA : Nat → ClassId) (B : Nat) (h : zz_H) (n : Nat) (q : Nat) (F : Nat → Int32) (I : Nat → Nat → Int32) (J : Nat → Nat → Int64) (hP0 : md_P dA F I J q h) (nc ng nM : Nat) (W : pu_W F I nc ng nM) (m0 g0 ar a : Nat) (hm : m0 < nM) (hg : g0 < ng) (eo : I 2 m0 = nI g0) (ha : ar = 1 ∨ ar = 2) (har : I 1 g0 = nI ar) (h4 : a ≤ 4) (hat : I 3 m0 = nI a) (x3 x4 x5 : Int32) (hb : x5 = 0 ∨ x5 = 1) : zz_M l D zz_cl (zz_ty dA) B zz_tb (zz_x B) yy_Q_atom (Cond.code yy_Q_atom bb_Q_atom 9 (some FieldType.int)) rm_Q_atom [.ref q, .int ((nI m0)), .int ((nI 5)), .int x3, .int x4, .int x5] h n zz_mi (fun r h' n' => n' = n ∧ (((pu_iv (nI m0) 0 (nI nM - 1) && pu_iv (nI 5) 0 (nI 5)) = false ∧ r = 0 ∧ md_K dA (md_fs F 0 1) I J q h h') ∨ (∃ m9 k9 g9 r9 a9, m9 < nM ∧ (nI m0) = nI m9 ∧ k9 < 6 ∧ (nI 5) = nI k9 ∧ g9 < ng ∧ I 2 m9 = nI g9 ∧ (r9 = 1 ∨ r9 = 2) ∧ I 1 g9 = nI r9 ∧ a9 ≤ 4 ∧ I 3 m9 = nI a9 ∧ ((pu_ain nc r9 k9 x3 x4 = false ∧ r = 0 ∧ md_K dA (md_fs F 0 1) I J q h h') ∨ (pu_ain nc r9 k9 x3 x4 = true ∧ a9 = 4 ∧ r = 0 ∧ md_K dA (md_fs F 0 2) I J q h h') ∨ (pu_ain nc r9 k9 x3 x4 = true ∧ a9 < 4 ∧ r = nI (a9 + 1) ∧ md_K dA (md_fs (md_fs F 0 0) 18 0) (pu_addA I m9 a9 k9 x3 x4 x5 g9) J q h h'))))) := by
  refine zz_ofW (zz_f B) [some (.ref q), some (.int ((nI m0))), some (.int ((nI 5))), some (.int x3), some (.int x4), some (.int x5), none, none, none] (by decide) rfl rfl (Nat.le_of_ble_eq_true rfl) ?_
  intro p e s m below meth c C
  have hg4 := W.g4
  have h12 := W.m12
  have h8 := W.c8
  have hP := md_rf hP0
  have hvb : vp_nar .boolean x5 = x5 := by rcases hb with rfl | rfl <;> decide
  refine z_iload_n C dd_Q_atom_0 rfl ?_
  refine z_iconst (v := 0) C dd_Q_atom_1 (by decide) ?_
  refine z_aload_n C dd_Q_atom_2 rfl ?_
  refine gf_Q_138 (v := .int (F 5)) C dd_Q_atom_3 hP.1.1 rfl ?_
  refine z_topi (y := nI nM) W.fm.symm ?_
  refine z_iconst (v := 1) C dd_Q_atom_6 (by decide) ?_
  refine z_isub C dd_Q_atom_7 ?_
  refine is_Q_127 (sk := fun r => .int r :: []) (zz_f B) C dd_Q_atom_8 (cn_Q_in l D dA B _ _ _ _ _) rfl rfl ⟨by decide, by decide⟩ (Nat.le_of_ble_eq_true rfl) ⟨by decide, by decide⟩ (fun _ => rfl) (fun v1_ h1_ n1_ p1_ => ?_)
  obtain ⟨e1_, f1_, rfl⟩ := p1_
  have e1z := e1_.symm
  have f1z := f1_.symm
  subst e1z
  subst f1z
  refine z_if_eq (tgt := 27) C dd_Q_atom_11 (by decide) (fun q1 => absurd ((pu_b0 _).mp q1) (by rw [(pu_iv_0 (by omega)).mpr ⟨m0, hm, rfl⟩]; decide)) (fun q1 => ?_)
  refine z_iload_n C dd_Q_atom_14 rfl ?_
  refine z_iconst (v := 0) C dd_Q_atom_15 (by decide) ?_
  refine z_iconst (v := 5) C dd_Q_atom_16 (by decide) ?_
  refine is_Q_127 (sk := fun r => .int r :: []) (zz_f B) C dd_Q_atom_17 (cn_Q_in l D dA B _ _ _ _ _) rfl rfl ⟨by decide, by decide⟩ (Nat.le_of_ble_eq_true rfl) ⟨by decide, by decide⟩ (fun _ => rfl) (fun v2_ h2_ n2_ p2_ => ?_)
  obtain ⟨e2_, f2_, rfl⟩ := p2_
  have e2z := e2_.symm
  have f2z := f2_.symm
  subst e2z
  subst f2z
  refine z_if_eq (tgt := 27) C dd_Q_atom_20 (by decide) (fun q2 => absurd q2 (by decide)) (fun q2 => ?_)
  refine z_iconst (v := 1) C dd_Q_atom_23 (by decide) ?_
  refine z_goto (tgt := 28) C dd_Q_atom_24 (by decide) ?_
  refine z_istore C dd_Q_atom_28 rfl ?_
  refine z_iload C dd_Q_atom_30 rfl ?_
  refine z_if_eq (tgt := 49) C dd_Q_atom_32 (by decide) (fun q3 => absurd q3 (by decide)) (fun q3 => ?_)
  refine z_aload_n C dd_Q_atom_35 rfl ?_
  refine gf_Q_17 (v := .ref (q + 1 + 1)) C dd_Q_atom_36 hP.1.1 rfl ?_
  refine z_aload_n C dd_Q_atom_39 rfl ?_
  refine gf_Q_20 (v := .ref (q + 1 + 2)) C dd_Q_atom_40 hP.1.1 rfl ?_
  refine z_iload_n C dd_Q_atom_43 rfl ?_
  refine z_iald (t0 := 0) (N := 12) (f := (I 2)) C rfl dd_Q_atom_44 (hP.1.2 2 (by decide)) (vp_in_nI (by omega) (by decide)) ?_
  refine z_topi (y := nI g0) (by rw [nI_clamp (by omega)]; exact eo.symm) ?_
  refine z_iald (t0 := 0) (N := 4) (f := (I 1)) C rfl dd_Q_atom_45 (hP.1.2 1 (by decide)) (vp_in_nI (by omega) (by decide)) ?_
  refine z_topi (y := nI ar) (by rw [nI_clamp (by omega)]; exact har.symm) ?_
  refine z_goto (tgt := 50) C dd_Q_atom_46 (by decide) ?_
  refine z_istore C dd_Q_atom_50 rfl ?_
  refine z_iload C dd_Q_atom_52 rfl ?_
  refine z_if_eq (tgt := 87) C dd_Q_atom_54 (by decide) (fun q4 => absurd q4 (by decide)) (fun q4 => ?_)
  refine z_iload_n C dd_Q_atom_57 rfl ?_
  refine z_iconst (v := 3) C dd_Q_atom_58 (by decide) ?_
  refine z_icmp_le (tgt := 71) C dd_Q_atom_59 (by decide) (fun q5 => absurd q5 (by decide)) (fun q5 => ?_)
  refine z_iload C dd_Q_atom_62 rfl ?_
  refine z_iconst (v := 2) C dd_Q_atom_64 (by decide) ?_
  refine z_icmp_ne (tgt := 87) C dd_Q_atom_65 (by decide) (fun q6 => ?_) (fun q6 => ?_)
  · replace q6 : ¬ ar = 2 := fun z => q6 ((@nI_eq ar 2 (by omega) (by omega)).mpr z)
    refine z_iconst (v := 0) C dd_Q_atom_87 (by decide) ?_
    refine z_istore C dd_Q_atom_88 rfl ?_
    refine z_iload C dd_Q_atom_90 rfl ?_
    refine z_if_eq (tgt := 145) C dd_Q_atom_92 (by decide) (fun q7 => ?_) (fun q7 => absurd (by decide) q7)
    refine z_iconst (v := 0) C dd_Q_atom_145 (by decide) ?_
    refine z_istore C dd_Q_atom_146 rfl ?_
    refine z_aload_n C dd_Q_atom_148 rfl ?_
    refine z_iload C dd_Q_atom_149 rfl ?_
    refine z_if_ne (tgt := 158) C dd_Q_atom_151 (by decide) (fun q8 => absurd (by decide) q8) (fun q8 => ?_)
    refine z_iconst (v := 1) C dd_Q_atom_154 (by decide) ?_
    refine z_goto (tgt := 173) C dd_Q_atom_155 (by decide) ?_
    refine pf_Q_121 C dd_Q_atom_173 hP.1.1 (Nat.le_of_ble_eq_true rfl) rfl rfl ?_
    refine z_cut (md_K dA (md_fs F 0 1) I J q h) (md_wF hP rfl) rfl rfl rfl (fun h3_ hP3_ => ?_)
    refine z_aload_n C dd_Q_atom_176 rfl ?_
    refine gf_Q_121 (v := .int 1) C dd_Q_atom_177 hP3_.1.1 rfl ?_
    refine z_if_le (tgt := 185) C dd_Q_atom_180 (by decide) (fun q9 => absurd q9 (by decide)) (fun q9 => ?_)
    refine z_iconst (v := 0) C dd_Q_atom_183 (by decide) ?_
    exact z_iret C dd_Q_atom_184 ⟨rfl, Or.inr ⟨m0, 5, g0, ar, a, hm, rfl, by decide, rfl, hg, eo, ha, har, h4, hat, Or.inl ⟨(by simp [pu_ain, q6]), rfl, hP3_⟩⟩⟩ (by decide) (by decide)
  · replace q6 : ar = 2 := (@nI_eq ar 2 (by omega) (by omega)).mp q6
    refine z_goto (tgt := 83) C dd_Q_atom_68 (by decide) ?_
    refine z_iconst (v := 1) C dd_Q_atom_83 (by decide) ?_
    refine z_goto (tgt := 88) C dd_Q_atom_84 (by decide) ?_
    refine z_istore C dd_Q_atom_88 rfl ?_
    refine z_iload C dd_Q_atom_90 rfl ?_
    refine z_if_eq (tgt := 145) C dd_Q_atom_92 (by decide) (fun q10 => absurd q10 (by decide)) (fun q10 => ?_)
    refine z_iload_n C dd_Q_atom_95 rfl ?_
    refine z_iconst (v := 2) C dd_Q_atom_96 (by decide) ?_
    refine z_icmp_gt (tgt := 141) C dd_Q_atom_97 (by decide) (fun q11 => ?_) (fun q11 => absurd (by decide) q11)
    refine z_iconst (v := 1) C dd_Q_atom_141 (by decide) ?_
    refine z_goto (tgt := 146) C dd_Q_atom_142 (by decide) ?_
    refine z_istore C dd_Q_atom_146 rfl ?_
    refine z_aload_n C dd_Q_atom_148 rfl ?_
    refine z_iload C dd_Q_atom_149 rfl ?_
    refine z_if_ne (tgt := 158) C dd_Q_atom_151 (by decide) (fun q12 => ?_) (fun q12 => absurd q12 (by decide))
    refine z_aload_n C dd_Q_atom_158 rfl ?_
    refine gf_Q_23 (v := .ref (q + 1 + 3)) C dd_Q_atom_159 hP.1.1 rfl ?_
    refine z_iload_n C dd_Q_atom_162 rfl ?_
    refine z_iald (t0 := 0) (N := 12) (f := (I 3)) C rfl dd_Q_atom_163 (hP.1.2 3 (by decide)) (vp_in_nI (by omega) (by decide)) ?_
    refine z_topi (y := nI a) (by rw [nI_clamp (by omega)]; exact hat.symm) ?_
    refine z_iconst (v := 4) C dd_Q_atom_164 (by decide) ?_
    refine z_icmp_ne (tgt := 172) C dd_Q_atom_165 (by decide) (fun q13 => ?_) (fun q13 => ?_)
    · replace q13 : ¬ a = 4 := fun z => q13 ((@nI_eq a 4 (by omega) (by omega)).mpr z)
      refine z_iconst (v := 0) C dd_Q_atom_172 (by decide) ?_
      refine pf_Q_121 C dd_Q_atom_173 hP.1.1 (Nat.le_of_ble_eq_true rfl) rfl rfl ?_
      refine z_cut (md_K dA (md_fs F 0 0) I J q h) (md_wF hP rfl) rfl rfl rfl (fun h4_ hP4_ => ?_)
      refine z_aload_n C dd_Q_atom_176 rfl ?_
      refine gf_Q_121 (v := .int 0) C dd_Q_atom_177 hP4_.1.1 rfl ?_
      refine z_if_le (tgt := 185) C dd_Q_atom_180 (by decide) (fun q14 => ?_) (fun q14 => absurd (by decide) q14)
      refine z_iconst (v := 4) C dd_Q_atom_185 (by decide) ?_
      refine z_iload_n C dd_Q_atom_186 rfl ?_
      refine z_imul C dd_Q_atom_187 ?_
      refine z_topi (y := nI (4 * m0)) (by first | exact (pk_mul _ _).symm | (rw [← pk_mul]; rfl)) ?_
      refine z_aload_n C dd_Q_atom_188 rfl ?_
      refine gf_Q_23 (v := .ref (q + 1 + 3)) C dd_Q_atom_189 hP4_.1.1 rfl ?_
      refine z_iload_n C dd_Q_atom_192 rfl ?_
      refine z_iald (t0 := 0) (N := 12) (f := (I 3)) C rfl dd_Q_atom_193 (hP4_.1.2 3 (by decide)) (vp_in_nI (by omega) (by decide)) ?_
      refine z_topi (y := nI a) (by rw [nI_clamp (by omega)]; exact hat.symm) ?_
      refine z_iadd C dd_Q_atom_194 ?_
      refine z_topi (y := nI ((4 * m0) + a)) (by first | exact (nI_add _ _).symm | (rw [← nI_add]; rfl)) ?_
      refine z_istore C dd_Q_atom_195 rfl ?_
      refine z_aload_n C dd_Q_atom_197 rfl ?_
      refine gf_Q_26 (v := .ref (q + 1 + 4)) C dd_Q_atom_198 hP4_.1.1 rfl ?_
      refine z_iload C dd_Q_atom_201 rfl ?_
      refine z_iload_n C dd_Q_atom_203 rfl ?_
      refine z_iast (t0 := 0) (N := 48) (f := (I 4)) C rfl dd_Q_atom_204 (hP4_.1.2 4 (by decide)) (vp_in_nI (by omega) (by decide)) ?_
      refine z_cut (md_K dA (md_fs F 0 0) (md_is I 4 (upd (I 4) (Int32.toNatClampNeg (nI ((4 * m0) + a))) (nI 5))) J q h) (md_wI hP4_ 4 (by decide) rfl) rfl rfl rfl (fun h5_ hP5_ => ?_)
      refine z_aload_n C dd_Q_atom_205 rfl ?_
      refine gf_Q_29 (v := .ref (q + 1 + 5)) C dd_Q_atom_206 hP5_.1.1 rfl ?_
      refine z_iload C dd_Q_atom_209 rfl ?_
      refine z_iload_n C dd_Q_atom_211 rfl ?_
      refine z_iconst (v := 3) C dd_Q_atom_212 (by decide) ?_
      refine z_icmp_le (tgt := 220) C dd_Q_atom_213 (by decide) (fun q15 => absurd q15 (by decide)) (fun q15 => ?_)
      refine z_iconst (v := 0) C dd_Q_atom_216 (by decide) ?_
      refine z_goto (tgt := 221) C dd_Q_atom_217 (by decide) ?_
      refine z_iast (t0 := 0) (N := 48) (f := (I 5)) C rfl dd_Q_atom_221 (hP5_.1.2 5 (by decide)) (vp_in_nI (by omega) (by decide)) ?_
      refine z_cut (md_K dA (md_fs F 0 0) (md_is (md_is I 4 (upd (I 4) (Int32.toNatClampNeg (nI ((4 * m0) + a))) (nI 5))) 5 (upd (I 5) (Int32.toNatClampNeg (nI ((4 * m0) + a))) 0)) J q h) (md_wI hP5_ 5 (by decide) rfl) rfl rfl rfl (fun h6_ hP6_ => ?_)
      refine z_aload_n C dd_Q_atom_222 rfl ?_
      refine gf_Q_32 (v := .ref (q + 1 + 6)) C dd_Q_atom_223 hP6_.1.1 rfl ?_
      refine z_iload C dd_Q_atom_226 rfl ?_
      refine z_iload_n C dd_Q_atom_228 rfl ?_
      refine z_iconst (v := 2) C dd_Q_atom_229 (by decide) ?_
      refine z_icmp_le (tgt := 237) C dd_Q_atom_230 (by decide) (fun q16 => absurd q16 (by decide)) (fun q16 => ?_)
      refine z_iconst (v := 0) C dd_Q_atom_233 (by decide) ?_
      refine z_goto (tgt := 239) C dd_Q_atom_234 (by decide) ?_
      refine z_iast (t0 := 0) (N := 48) (f := (I 6)) C rfl dd_Q_atom_239 (hP6_.1.2 6 (by decide)) (vp_in_nI (by omega) (by decide)) ?_
      refine z_cut (md_K dA (md_fs F 0 0) (md_is (md_is (md_is I 4 (upd (I 4) (Int32.toNatClampNeg (nI ((4 * m0) + a))) (nI 5))) 5 (upd (I 5) (Int32.toNatClampNeg (nI ((4 * m0) + a))) 0)) 6 (upd (I 6) (Int32.toNatClampNeg (nI ((4 * m0) + a))) 0)) J q h) (md_wI hP6_ 6 (by decide) rfl) rfl rfl rfl (fun h7_ hP7_ => ?_)
      refine z_aload_n C dd_Q_atom_240 rfl ?_
      refine gf_Q_35 (v := .ref (q + 1 + 7)) C dd_Q_atom_241 hP7_.1.1 rfl ?_
      refine z_iload C dd_Q_atom_244 rfl ?_
      refine z_iload C dd_Q_atom_246 rfl ?_
      refine z_zast (t0 := 2) (N := 48) (f := (I 7)) C rfl dd_Q_atom_248 (hP7_.1.2 7 (by decide)) (vp_in_nI (by omega) (by decide)) ?_
      refine z_cut (md_K dA (md_fs F 0 0) (md_is (md_is (md_is (md_is I 4 (upd (I 4) (Int32.toNatClampNeg (nI ((4 * m0) + a))) (nI 5))) 5 (upd (I 5) (Int32.toNatClampNeg (nI ((4 * m0) + a))) 0)) 6 (upd (I 6) (Int32.toNatClampNeg (nI ((4 * m0) + a))) 0)) 7 (upd (I 7) (Int32.toNatClampNeg (nI ((4 * m0) + a))) (vp_nar .boolean x5))) J q h) (md_wI hP7_ 7 (by decide) rfl) rfl rfl rfl (fun h8_ hP8_ => ?_)
      refine z_aload_n C dd_Q_atom_249 rfl ?_
      refine gf_Q_23 (v := .ref (q + 1 + 3)) C dd_Q_atom_250 hP8_.1.1 rfl ?_
      refine z_iload_n C dd_Q_atom_253 rfl ?_
      refine z_dup2_11 C dd_Q_atom_254 rfl rfl ?_
      refine z_iald (t0 := 0) (N := 12) (f := (I 3)) C rfl dd_Q_atom_255 (hP8_.1.2 3 (by decide)) (vp_in_nI (by omega) (by decide)) ?_
      refine z_topi (y := nI a) (by rw [nI_clamp (by omega)]; exact hat.symm) ?_
      refine z_iconst (v := 1) C dd_Q_atom_256 (by decide) ?_
      refine z_iadd C dd_Q_atom_257 ?_
      refine z_topi (y := nI (a + 1)) (by first | exact (nI_add _ _).symm | (rw [← nI_add]; rfl)) ?_
      refine z_iast (t0 := 0) (N := 12) (f := (I 3)) C rfl dd_Q_atom_258 (hP8_.1.2 3 (by decide)) (vp_in_nI (by omega) (by decide)) ?_
      refine z_cut (md_K dA (md_fs F 0 0) (md_is (md_is (md_is (md_is (md_is I 4 (upd (I 4) (Int32.toNatClampNeg (nI ((4 * m0) + a))) (nI 5))) 5 (upd (I 5) (Int32.toNatClampNeg (nI ((4 * m0) + a))) 0)) 6 (upd (I 6) (Int32.toNatClampNeg (nI ((4 * m0) + a))) 0)) 7 (upd (I 7) (Int32.toNatClampNeg (nI ((4 * m0) + a))) (vp_nar .boolean x5))) 3 (upd (I 3) (Int32.toNatClampNeg (nI m0)) (nI (a + 1)))) J q h) (md_wI hP8_ 3 (by decide) rfl) rfl rfl rfl (fun h9_ hP9_ => ?_)
      refine z_aload_n C dd_Q_atom_259 rfl ?_
      refine z_aload_n C dd_Q_atom_260 rfl ?_
      refine gf_Q_20 (v := .ref (q + 1 + 2)) C dd_Q_atom_261 hP9_.1.1 rfl ?_
      refine z_iload_n C dd_Q_atom_264 rfl ?_
      refine z_iald (t0 := 0) (N := 12) (f := (I 2)) C rfl dd_Q_atom_265 (hP9_.1.2 2 (by decide)) (vp_in_nI (by omega) (by decide)) ?_
      refine z_topi (y := nI g0) (by rw [nI_clamp (by omega)]; exact eo.symm) ?_
      refine iv_Q_131 (sk := fun _ => []) (zz_f B) C dd_Q_atom_266 (cn_Q_forget l D dA B _ _ q _ _ J hP9_.1 g0 (by omega)) hP9_.1.1 rfl rfl ⟨by decide, by decide⟩ (Nat.le_of_ble_eq_true rfl) ⟨by decide, by decide⟩ (fun _ => rfl) (fun _ h10_ n10_ p10_ => ?_)
      obtain ⟨m10_, rfl⟩ := p10_
      have hP10_ := md_tr hP9_ m10_
      refine z_aload_n C dd_Q_atom_269 rfl ?_
      refine gf_Q_23 (v := .ref (q + 1 + 3)) C dd_Q_atom_270 hP10_.1.1 rfl ?_
      refine z_iload_n C dd_Q_atom_273 rfl ?_
      refine z_iald (t0 := 0) (N := 12) (f := (upd (I 3) (Int32.toNatClampNeg (nI m0)) (nI (a + 1)))) C rfl dd_Q_atom_274 (hP10_.1.2 3 (by decide)) (vp_in_nI (by omega) (by decide)) ?_
      refine z_topi (y := nI (a + 1)) (by rw [nI_clamp (by omega), pk_us]) ?_
      exact z_iret C dd_Q_atom_275 ⟨rfl, Or.inr ⟨m0, 5, g0, ar, a, hm, rfl, by decide, rfl, hg, eo, ha, har, h4, hat, Or.inr (Or.inr ⟨(by simp [pu_ain, q6, q13]), by omega, rfl, md_Ke hP10_ (by rw [nI_clamp (n := 4 * m0 + a) (by omega), nI_clamp (n := m0) (by omega), hvb]; rfl)⟩)⟩⟩ (by decide) (by decide)
    · replace q13 : a = 4 := (@nI_eq a 4 (by omega) (by omega)).mp q13
      refine z_iconst (v := 2) C dd_Q_atom_168 (by decide) ?_
      refine z_goto (tgt := 173) C dd_Q_atom_169 (by decide) ?_
      refine pf_Q_121 C dd_Q_atom_173 hP.1.1 (Nat.le_of_ble_eq_true rfl) rfl rfl ?_
      refine z_cut (md_K dA (md_fs F 0 2) I J q h) (md_wF hP rfl) rfl rfl rfl (fun h11_ hP11_ => ?_)
      refine z_aload_n C dd_Q_atom_176 rfl ?_
      refine gf_Q_121 (v := .int 2) C dd_Q_atom_177 hP11_.1.1 rfl ?_
      refine z_if_le (tgt := 185) C dd_Q_atom_180 (by decide) (fun q17 => absurd q17 (by decide)) (fun q17 => ?_)
      refine z_iconst (v := 0) C dd_Q_atom_183 (by decide) ?_
      exact z_iret C dd_Q_atom_184 ⟨rfl, Or.inr ⟨m0, 5, g0, ar, a, hm, rfl, by decide, rfl, hg, eo, ha, har, h4, hat, Or.inr (Or.inl ⟨(by simp [pu_ain, q6, q13]), by omega, rfl, hP11_⟩)⟩⟩ (by decide) (by decide)
set_option maxRecDepth 20000 in
/-- out of bounds -/
theorem ca_Q_atom_bad (l : Launch) (D : va_G) (dA : Nat → ClassId) (B : Nat) (h : zz_H) (n : Nat) (q : Nat) (F : Nat → Int32) (I : Nat → Nat → Int32) (J : Nat → Nat → Int64) (hP0 : md_P dA F I J q h) (nc ng nM : Nat) (W : pu_W F I nc ng nM) (x1 x2 x3 x4 x5 : Int32) (hbad : (pu_iv x1 0 (nI nM - 1) && pu_iv x2 0 (nI 5)) = false) : zz_M l D zz_cl (zz_ty dA) B zz_tb (zz_x B) yy_Q_atom (Cond.code yy_Q_atom bb_Q_atom 9 (some FieldType.int)) rm_Q_atom [.ref q, .int x1, .int x2, .int x3, .int x4, .int x5] h n zz_mi (fun r h' n' => n' = n ∧ (((pu_iv x1 0 (nI nM - 1) && pu_iv x2 0 (nI 5)) = false ∧ r = 0 ∧ md_K dA (md_fs F 0 1) I J q h h') ∨ (∃ m9 k9 g9 r9 a9, m9 < nM ∧ x1 = nI m9 ∧ k9 < 6 ∧ x2 = nI k9 ∧ g9 < ng ∧ I 2 m9 = nI g9 ∧ (r9 = 1 ∨ r9 = 2) ∧ I 1 g9 = nI r9 ∧ a9 ≤ 4 ∧ I 3 m9 = nI a9 ∧ ((pu_ain nc r9 k9 x3 x4 = false ∧ r = 0 ∧ md_K dA (md_fs F 0 1) I J q h h') ∨ (pu_ain nc r9 k9 x3 x4 = true ∧ a9 = 4 ∧ r = 0 ∧ md_K dA (md_fs F 0 2) I J q h h') ∨ (pu_ain nc r9 k9 x3 x4 = true ∧ a9 < 4 ∧ r = nI (a9 + 1) ∧ md_K dA (md_fs (md_fs F 0 0) 18 0) (pu_addA I m9 a9 k9 x3 x4 x5 g9) J q h h'))))) := by
  refine zz_ofW (zz_f B) [some (.ref q), some (.int x1), some (.int x2), some (.int x3), some (.int x4), some (.int x5), none, none, none] (by decide) rfl rfl (Nat.le_of_ble_eq_true rfl) ?_
  intro p e s m below meth c C
  have hP := md_rf hP0
  refine z_iload_n C dd_Q_atom_0 rfl ?_
  refine z_iconst (v := 0) C dd_Q_atom_1 (by decide) ?_
  refine z_aload_n C dd_Q_atom_2 rfl ?_
  refine gf_Q_138 (v := .int (F 5)) C dd_Q_atom_3 hP.1.1 rfl ?_
  refine z_topi (y := nI nM) W.fm.symm ?_
  refine z_iconst (v := 1) C dd_Q_atom_6 (by decide) ?_
  refine z_isub C dd_Q_atom_7 ?_
  refine is_Q_127 (sk := fun r => .int r :: []) (zz_f B) C dd_Q_atom_8 (cn_Q_in l D dA B _ _ _ _ _) rfl rfl ⟨by decide, by decide⟩ (Nat.le_of_ble_eq_true rfl) ⟨by decide, by decide⟩ (fun _ => rfl) (fun v1_ h1_ n1_ p1_ => ?_)
  obtain ⟨e1_, f1_, rfl⟩ := p1_
  have e1z := e1_.symm
  have f1z := f1_.symm
  subst e1z
  subst f1z
  refine z_if_eq (tgt := 27) C dd_Q_atom_11 (by decide) (fun q1 => ?_) (fun q1 => ?_)
  · skip
    refine z_iconst (v := 0) C dd_Q_atom_27 (by decide) ?_
    refine z_istore C dd_Q_atom_28 rfl ?_
    refine z_iload C dd_Q_atom_30 rfl ?_
    refine z_if_eq (tgt := 49) C dd_Q_atom_32 (by decide) (fun q2 => ?_) (fun q2 => absurd (by decide) q2)
    refine z_iconst (v := 0) C dd_Q_atom_49 (by decide) ?_
    refine z_istore C dd_Q_atom_50 rfl ?_
    refine z_iload C dd_Q_atom_52 rfl ?_
    refine z_if_eq (tgt := 87) C dd_Q_atom_54 (by decide) (fun q3 => ?_) (fun q3 => absurd (by decide) q3)
    refine z_iconst (v := 0) C dd_Q_atom_87 (by decide) ?_
    refine z_istore C dd_Q_atom_88 rfl ?_
    refine z_iload C dd_Q_atom_90 rfl ?_
    refine z_if_eq (tgt := 145) C dd_Q_atom_92 (by decide) (fun q4 => ?_) (fun q4 => absurd (by decide) q4)
    refine z_iconst (v := 0) C dd_Q_atom_145 (by decide) ?_
    refine z_istore C dd_Q_atom_146 rfl ?_
    refine z_aload_n C dd_Q_atom_148 rfl ?_
    refine z_iload C dd_Q_atom_149 rfl ?_
    refine z_if_ne (tgt := 158) C dd_Q_atom_151 (by decide) (fun q5 => absurd (by decide) q5) (fun q5 => ?_)
    refine z_iconst (v := 1) C dd_Q_atom_154 (by decide) ?_
    refine z_goto (tgt := 173) C dd_Q_atom_155 (by decide) ?_
    refine pf_Q_121 C dd_Q_atom_173 hP.1.1 (Nat.le_of_ble_eq_true rfl) rfl rfl ?_
    refine z_cut (md_K dA (md_fs F 0 1) I J q h) (md_wF hP rfl) rfl rfl rfl (fun h2_ hP2_ => ?_)
    refine z_aload_n C dd_Q_atom_176 rfl ?_
    refine gf_Q_121 (v := .int 1) C dd_Q_atom_177 hP2_.1.1 rfl ?_
    refine z_if_le (tgt := 185) C dd_Q_atom_180 (by decide) (fun q6 => absurd q6 (by decide)) (fun q6 => ?_)
    refine z_iconst (v := 0) C dd_Q_atom_183 (by decide) ?_
    exact z_iret C dd_Q_atom_184 ⟨rfl, Or.inl ⟨hbad, rfl, hP2_⟩⟩ (by decide) (by decide)
  · skip
    refine z_iload_n C dd_Q_atom_14 rfl ?_
    refine z_iconst (v := 0) C dd_Q_atom_15 (by decide) ?_
    refine z_iconst (v := 5) C dd_Q_atom_16 (by decide) ?_
    refine is_Q_127 (sk := fun r => .int r :: []) (zz_f B) C dd_Q_atom_17 (cn_Q_in l D dA B _ _ _ _ _) rfl rfl ⟨by decide, by decide⟩ (Nat.le_of_ble_eq_true rfl) ⟨by decide, by decide⟩ (fun _ => rfl) (fun v3_ h3_ n3_ p3_ => ?_)
    obtain ⟨e3_, f3_, rfl⟩ := p3_
    have e3z := e3_.symm
    have f3z := f3_.symm
    subst e3z
    subst f3z
    refine z_if_eq (tgt := 27) C dd_Q_atom_20 (by decide) (fun q7 => ?_) (fun q7 => ?_)
    · skip
      refine z_iconst (v := 0) C dd_Q_atom_27 (by decide) ?_
      refine z_istore C dd_Q_atom_28 rfl ?_
      refine z_iload C dd_Q_atom_30 rfl ?_
      refine z_if_eq (tgt := 49) C dd_Q_atom_32 (by decide) (fun q8 => ?_) (fun q8 => absurd (by decide) q8)
      refine z_iconst (v := 0) C dd_Q_atom_49 (by decide) ?_
      refine z_istore C dd_Q_atom_50 rfl ?_
      refine z_iload C dd_Q_atom_52 rfl ?_
      refine z_if_eq (tgt := 87) C dd_Q_atom_54 (by decide) (fun q9 => ?_) (fun q9 => absurd (by decide) q9)
      refine z_iconst (v := 0) C dd_Q_atom_87 (by decide) ?_
      refine z_istore C dd_Q_atom_88 rfl ?_
      refine z_iload C dd_Q_atom_90 rfl ?_
      refine z_if_eq (tgt := 145) C dd_Q_atom_92 (by decide) (fun q10 => ?_) (fun q10 => absurd (by decide) q10)
      refine z_iconst (v := 0) C dd_Q_atom_145 (by decide) ?_
      refine z_istore C dd_Q_atom_146 rfl ?_
      refine z_aload_n C dd_Q_atom_148 rfl ?_
      refine z_iload C dd_Q_atom_149 rfl ?_
      refine z_if_ne (tgt := 158) C dd_Q_atom_151 (by decide) (fun q11 => absurd (by decide) q11) (fun q11 => ?_)
      refine z_iconst (v := 1) C dd_Q_atom_154 (by decide) ?_
      refine z_goto (tgt := 173) C dd_Q_atom_155 (by decide) ?_
      refine pf_Q_121 C dd_Q_atom_173 hP.1.1 (Nat.le_of_ble_eq_true rfl) rfl rfl ?_
      refine z_cut (md_K dA (md_fs F 0 1) I J q h) (md_wF hP rfl) rfl rfl rfl (fun h4_ hP4_ => ?_)
      refine z_aload_n C dd_Q_atom_176 rfl ?_
      refine gf_Q_121 (v := .int 1) C dd_Q_atom_177 hP4_.1.1 rfl ?_
      refine z_if_le (tgt := 185) C dd_Q_atom_180 (by decide) (fun q12 => absurd q12 (by decide)) (fun q12 => ?_)
      refine z_iconst (v := 0) C dd_Q_atom_183 (by decide) ?_
      exact z_iret C dd_Q_atom_184 ⟨rfl, Or.inl ⟨hbad, rfl, hP4_⟩⟩ (by decide) (by decide)
    · skip
      exact absurd hbad (by rw [(pu_bn1.mp q1)]; intro z; have z2 : pu_iv x2 0 (nI 5) = true := (pu_bn1.mp q7); rw [z2] at z; cases z)
set_option maxRecDepth 20000 in
/-- atom -/
theorem cc_Q_atom (l : Launch) (D : va_G) (dA : Nat → ClassId) (B : Nat) (h : zz_H) (n : Nat) (q : Nat) (F : Nat → Int32) (I : Nat → Nat → Int32) (J : Nat → Nat → Int64) (hP0 : md_P dA F I J q h) (nc ng nM : Nat) (W : pu_W F I nc ng nM) (x1 x2 x3 x4 x5 : Int32) (hb : x5 = 0 ∨ x5 = 1) : zz_M l D zz_cl (zz_ty dA) B zz_tb (zz_x B) yy_Q_atom (Cond.code yy_Q_atom bb_Q_atom 9 (some FieldType.int)) rm_Q_atom [.ref q, .int x1, .int x2, .int x3, .int x4, .int x5] h n zz_mi (fun r h' n' => n' = n ∧ (((pu_iv x1 0 (nI nM - 1) && pu_iv x2 0 (nI 5)) = false ∧ r = 0 ∧ md_K dA (md_fs F 0 1) I J q h h') ∨ (∃ m9 k9 g9 r9 a9, m9 < nM ∧ x1 = nI m9 ∧ k9 < 6 ∧ x2 = nI k9 ∧ g9 < ng ∧ I 2 m9 = nI g9 ∧ (r9 = 1 ∨ r9 = 2) ∧ I 1 g9 = nI r9 ∧ a9 ≤ 4 ∧ I 3 m9 = nI a9 ∧ ((pu_ain nc r9 k9 x3 x4 = false ∧ r = 0 ∧ md_K dA (md_fs F 0 1) I J q h h') ∨ (pu_ain nc r9 k9 x3 x4 = true ∧ a9 = 4 ∧ r = 0 ∧ md_K dA (md_fs F 0 2) I J q h h') ∨ (pu_ain nc r9 k9 x3 x4 = true ∧ a9 < 4 ∧ r = nI (a9 + 1) ∧ md_K dA (md_fs (md_fs F 0 0) 18 0) (pu_addA I m9 a9 k9 x3 x4 x5 g9) J q h h'))))) := by
  rcases Bool.eq_false_or_eq_true (pu_iv x1 0 (nI nM - 1) && pu_iv x2 0 (nI 5)) with hh | hh
  · have h12 := W.m12
    obtain ⟨z1, z2⟩ := Bool.and_eq_true_iff.mp hh
    obtain ⟨m0, hm, rfl⟩ := (pu_iv_0 (by omega)).mp z1
    obtain ⟨kd, hk, rfl⟩ := pu_iv_5 5 (by decide) z2
    obtain ⟨g0, hg, eo⟩ := W.own m0 hm
    obtain ⟨ar, ha, har⟩ := W.ar g0 hg
    obtain ⟨a, h4, hat, _⟩ := W.ats m0 hm
    have hk6 : kd = 0 ∨ kd = 1 ∨ kd = 2 ∨ kd = 3 ∨ kd = 4 ∨ kd = 5 := by omega
    rcases hk6 with rfl | rfl | rfl | rfl | rfl | rfl
    · exact ca_Q_atom_0 l D dA B h n q F I J hP0 nc ng nM W m0 g0 ar a hm hg eo ha har h4 hat x3 x4 x5 hb
    · exact ca_Q_atom_1 l D dA B h n q F I J hP0 nc ng nM W m0 g0 ar a hm hg eo ha har h4 hat x3 x4 x5 hb
    · exact ca_Q_atom_2 l D dA B h n q F I J hP0 nc ng nM W m0 g0 ar a hm hg eo ha har h4 hat x3 x4 x5 hb
    · exact ca_Q_atom_3 l D dA B h n q F I J hP0 nc ng nM W m0 g0 ar a hm hg eo ha har h4 hat x3 x4 x5 hb
    · exact ca_Q_atom_4 l D dA B h n q F I J hP0 nc ng nM W m0 g0 ar a hm hg eo ha har h4 hat x3 x4 x5 hb
    · exact ca_Q_atom_5 l D dA B h n q F I J hP0 nc ng nM W m0 g0 ar a hm hg eo ha har h4 hat x3 x4 x5 hb
  · exact ca_Q_atom_bad l D dA B h n q F I J hP0 nc ng nM W x1 x2 x3 x4 x5 hh
abbrev rm_Q_operation : Room := { frames := 5, cells := 0, slots := 0, locals := 120 }
set_option maxRecDepth 20000 in
/-- operation -/
theorem ca_Q_operation_0 (l : Launch) (D : va_G) (dA : Nat → ClassId) (B : Nat) (h : zz_H) (n : Nat) (q : Nat) (F : Nat → Int32) (I : Nat → Nat → Int32) (J : Nat → Nat → Int64) (hP0 : md_P dA F I J q h) (nc ng nM : Nat) (W : pu_W F I nc ng nM) (m0 g0 ar a : Nat) (hm : m0 < nM) (hg : g0 < ng) (eo : I 2 m0 = nI g0) (ha : ar = 1 ∨ ar = 2) (har : I 1 g0 = nI ar) (h9 : a ≤ 8) (hat : I 8 m0 = nI a) (x3 : Int32) : zz_M l D zz_cl (zz_ty dA) B zz_tb (zz_x B) yy_Q_operation (Cond.code yy_Q_operation bb_Q_operation 5 (some FieldType.int)) rm_Q_operation [.ref q, .int ((nI m0)), .int ((nI 0)), .int x3] h n zz_mi (fun r h' n' => n' = n ∧ (((pu_iv (nI m0) 0 (nI nM - 1) && pu_iv (nI 0) 0 (nI 6)) = false ∧ r = 0 ∧ md_K dA (md_fs F 0 1) I J q h h') ∨ (∃ m9 k9 g9 r9 a9, m9 < nM ∧ (nI m0) = nI m9 ∧ k9 < 7 ∧ (nI 0) = nI k9 ∧ g9 < ng ∧ I 2 m9 = nI g9 ∧ (r9 = 1 ∨ r9 = 2) ∧ I 1 g9 = nI r9 ∧ a9 ≤ 8 ∧ I 8 m9 = nI a9 ∧ ((pu_oin nc ng r9 k9 x3 = false ∧ r = 0 ∧ md_K dA (md_fs F 0 1) I J q h h') ∨ (pu_oin nc ng r9 k9 x3 = true ∧ a9 = 8 ∧ r = 0 ∧ md_K dA (md_fs F 0 2) I J q h h') ∨ (pu_oin nc ng r9 k9 x3 = true ∧ a9 < 8 ∧ r = nI (a9 + 1) ∧ md_K dA (md_fs F 0 0) (pu_addO I m9 a9 k9 x3) J q h h'))))) := by
  refine zz_ofW (zz_f B) [some (.ref q), some (.int ((nI m0))), some (.int ((nI 0))), some (.int x3), none] (by decide) rfl rfl (Nat.le_of_ble_eq_true rfl) ?_
  intro p e s m below meth c C
  have hg4 := W.g4
  have h12 := W.m12
  have h8 := W.c8
  have hP := md_rf hP0
  refine z_iload_n C dd_Q_operation_0 rfl ?_
  refine z_iconst (v := 0) C dd_Q_operation_1 (by decide) ?_
  refine z_aload_n C dd_Q_operation_2 rfl ?_
  refine gf_Q_138 (v := .int (F 5)) C dd_Q_operation_3 hP.1.1 rfl ?_
  refine z_topi (y := nI nM) W.fm.symm ?_
  refine z_iconst (v := 1) C dd_Q_operation_6 (by decide) ?_
  refine z_isub C dd_Q_operation_7 ?_
  refine is_Q_127 (sk := fun r => .int r :: []) (zz_f B) C dd_Q_operation_8 (cn_Q_in l D dA B _ _ _ _ _) rfl rfl ⟨by decide, by decide⟩ (Nat.le_of_ble_eq_true rfl) ⟨by decide, by decide⟩ (fun _ => rfl) (fun v1_ h1_ n1_ p1_ => ?_)
  obtain ⟨e1_, f1_, rfl⟩ := p1_
  have e1z := e1_.symm
  have f1z := f1_.symm
  subst e1z
  subst f1z
  refine z_if_eq (tgt := 28) C dd_Q_operation_11 (by decide) (fun q1 => absurd ((pu_b0 _).mp q1) (by rw [(pu_iv_0 (by omega)).mpr ⟨m0, hm, rfl⟩]; decide)) (fun q1 => ?_)
  refine z_iload_n C dd_Q_operation_14 rfl ?_
  refine z_iconst (v := 0) C dd_Q_operation_15 (by decide) ?_
  refine z_bipush (v := 6) C dd_Q_operation_16 (by decide) ?_
  refine is_Q_127 (sk := fun r => .int r :: []) (zz_f B) C dd_Q_operation_18 (cn_Q_in l D dA B _ _ _ _ _) rfl rfl ⟨by decide, by decide⟩ (Nat.le_of_ble_eq_true rfl) ⟨by decide, by decide⟩ (fun _ => rfl) (fun v2_ h2_ n2_ p2_ => ?_)
  obtain ⟨e2_, f2_, rfl⟩ := p2_
  have e2z := e2_.symm
  have f2z := f2_.symm
  subst e2z
  subst f2z
  refine z_if_eq (tgt := 28) C dd_Q_operation_21 (by decide) (fun q2 => absurd q2 (by decide)) (fun q2 => ?_)
  refine z_iconst (v := 1) C dd_Q_operation_24 (by decide) ?_
  refine z_goto (tgt := 29) C dd_Q_operation_25 (by decide) ?_
  refine z_istore C dd_Q_operation_29 rfl ?_
  refine z_iload C dd_Q_operation_31 rfl ?_
  refine z_if_eq (tgt := 49) C dd_Q_operation_33 (by decide) (fun q3 => absurd q3 (by decide)) (fun q3 => ?_)
  refine z_iload_n C dd_Q_operation_36 rfl ?_
  refine z_if_ne (tgt := 49) C dd_Q_operation_37 (by decide) (fun q4 => absurd (by decide) q4) (fun q4 => ?_)
  refine z_iload_n C dd_Q_operation_40 rfl ?_
  refine z_bipush (v := (-4)) C dd_Q_operation_41 (by decide) ?_
  refine z_iconst (v := 3) C dd_Q_operation_43 (by decide) ?_
  refine is_Q_127 (sk := fun r => .int r :: []) (zz_f B) C dd_Q_operation_44 (cn_Q_in l D dA B _ _ _ _ _) rfl rfl ⟨by decide, by decide⟩ (Nat.le_of_ble_eq_true rfl) ⟨by decide, by decide⟩ (fun _ => rfl) (fun v3_ h3_ n3_ p3_ => ?_)
  obtain ⟨e3_, f3_, rfl⟩ := p3_
  have e3z := e3_.symm
  have f3z := f3_.symm
  subst e3z
  subst f3z
  rcases Bool.eq_false_or_eq_true (pu_iv x3 (-4) 3) with hb4 | hb4
  · skip
    refine z_topi (y := 1) (by rw [hb4]; rfl) ?_
    refine z_istore C dd_Q_operation_47 rfl ?_
    refine z_iload C dd_Q_operation_49 rfl ?_
    refine z_if_eq (tgt := 79) C dd_Q_operation_51 (by decide) (fun q5 => absurd q5 (by decide)) (fun q5 => ?_)
    refine z_iload_n C dd_Q_operation_54 rfl ?_
    refine z_iconst (v := 1) C dd_Q_operation_55 (by decide) ?_
    refine z_icmp_ne (tgt := 79) C dd_Q_operation_56 (by decide) (fun q6 => ?_) (fun q6 => absurd q6 (by decide))
    refine z_iload C dd_Q_operation_79 rfl ?_
    refine z_if_eq (tgt := 102) C dd_Q_operation_81 (by decide) (fun q7 => absurd q7 (by decide)) (fun q7 => ?_)
    refine z_iload_n C dd_Q_operation_84 rfl ?_
    refine z_iconst (v := 4) C dd_Q_operation_85 (by decide) ?_
    refine z_icmp_ne (tgt := 102) C dd_Q_operation_86 (by decide) (fun q8 => ?_) (fun q8 => absurd q8 (by decide))
    refine z_iload C dd_Q_operation_102 rfl ?_
    refine z_if_eq (tgt := 125) C dd_Q_operation_104 (by decide) (fun q9 => absurd q9 (by decide)) (fun q9 => ?_)
    refine z_iload_n C dd_Q_operation_107 rfl ?_
    refine z_iconst (v := 5) C dd_Q_operation_108 (by decide) ?_
    refine z_icmp_ne (tgt := 125) C dd_Q_operation_109 (by decide) (fun q10 => ?_) (fun q10 => absurd q10 (by decide))
    refine z_aload_n C dd_Q_operation_125 rfl ?_
    refine z_iload C dd_Q_operation_126 rfl ?_
    refine z_if_ne (tgt := 135) C dd_Q_operation_128 (by decide) (fun q11 => ?_) (fun q11 => absurd q11 (by decide))
    refine z_aload_n C dd_Q_operation_135 rfl ?_
    refine gf_Q_39 (v := .ref (q + 1 + 8)) C dd_Q_operation_136 hP.1.1 rfl ?_
    refine z_iload_n C dd_Q_operation_139 rfl ?_
    refine z_iald (t0 := 0) (N := 12) (f := (I 8)) C rfl dd_Q_operation_140 (hP.1.2 8 (by decide)) (vp_in_nI (by omega) (by decide)) ?_
    refine z_topi (y := nI a) (by rw [nI_clamp (by omega)]; exact hat.symm) ?_
    refine z_bipush (v := 8) C dd_Q_operation_141 (by decide) ?_
    refine z_icmp_ne (tgt := 150) C dd_Q_operation_143 (by decide) (fun q12 => ?_) (fun q12 => ?_)
    · replace q12 : ¬ a = 8 := fun z => q12 ((@nI_eq a 8 (by omega) (by omega)).mpr z)
      refine z_iconst (v := 0) C dd_Q_operation_150 (by decide) ?_
      refine pf_Q_121 C dd_Q_operation_151 hP.1.1 (Nat.le_of_ble_eq_true rfl) rfl rfl ?_
      refine z_cut (md_K dA (md_fs F 0 0) I J q h) (md_wF hP rfl) rfl rfl rfl (fun h5_ hP5_ => ?_)
      refine z_aload_n C dd_Q_operation_154 rfl ?_
      refine gf_Q_121 (v := .int 0) C dd_Q_operation_155 hP5_.1.1 rfl ?_
      refine z_if_le (tgt := 163) C dd_Q_operation_158 (by decide) (fun q13 => ?_) (fun q13 => absurd (by decide) q13)
      refine z_aload_n C dd_Q_operation_163 rfl ?_
      refine gf_Q_42 (v := .ref (q + 1 + 9)) C dd_Q_operation_164 hP5_.1.1 rfl ?_
      refine z_bipush (v := 8) C dd_Q_operation_167 (by decide) ?_
      refine z_iload_n C dd_Q_operation_169 rfl ?_
      refine z_imul C dd_Q_operation_170 ?_
      refine z_topi (y := nI (8 * m0)) (by first | exact (pk_mul _ _).symm | (rw [← pk_mul]; rfl)) ?_
      refine z_aload_n C dd_Q_operation_171 rfl ?_
      refine gf_Q_39 (v := .ref (q + 1 + 8)) C dd_Q_operation_172 hP5_.1.1 rfl ?_
      refine z_iload_n C dd_Q_operation_175 rfl ?_
      refine z_iald (t0 := 0) (N := 12) (f := (I 8)) C rfl dd_Q_operation_176 (hP5_.1.2 8 (by decide)) (vp_in_nI (by omega) (by decide)) ?_
      refine z_topi (y := nI a) (by rw [nI_clamp (by omega)]; exact hat.symm) ?_
      refine z_iadd C dd_Q_operation_177 ?_
      refine z_topi (y := nI ((8 * m0) + a)) (by first | exact (nI_add _ _).symm | (rw [← nI_add]; rfl)) ?_
      refine z_iload_n C dd_Q_operation_178 rfl ?_
      refine z_iast (t0 := 0) (N := 96) (f := (I 9)) C rfl dd_Q_operation_179 (hP5_.1.2 9 (by decide)) (vp_in_nI (by omega) (by decide)) ?_
      refine z_cut (md_K dA (md_fs F 0 0) (md_is I 9 (upd (I 9) (Int32.toNatClampNeg (nI ((8 * m0) + a))) (nI 0))) J q h) (md_wI hP5_ 9 (by decide) rfl) rfl rfl rfl (fun h6_ hP6_ => ?_)
      refine z_aload_n C dd_Q_operation_180 rfl ?_
      refine gf_Q_45 (v := .ref (q + 1 + 10)) C dd_Q_operation_181 hP6_.1.1 rfl ?_
      refine z_bipush (v := 8) C dd_Q_operation_184 (by decide) ?_
      refine z_iload_n C dd_Q_operation_186 rfl ?_
      refine z_imul C dd_Q_operation_187 ?_
      refine z_topi (y := nI (8 * m0)) (by first | exact (pk_mul _ _).symm | (rw [← pk_mul]; rfl)) ?_
      refine z_aload_n C dd_Q_operation_188 rfl ?_
      refine gf_Q_39 (v := .ref (q + 1 + 8)) C dd_Q_operation_189 hP6_.1.1 rfl ?_
      refine z_iload_n C dd_Q_operation_192 rfl ?_
      refine z_iald (t0 := 0) (N := 12) (f := (I 8)) C rfl dd_Q_operation_193 (hP6_.1.2 8 (by decide)) (vp_in_nI (by omega) (by decide)) ?_
      refine z_topi (y := nI a) (by rw [nI_clamp (by omega)]; exact hat.symm) ?_
      refine z_iadd C dd_Q_operation_194 ?_
      refine z_topi (y := nI ((8 * m0) + a)) (by first | exact (nI_add _ _).symm | (rw [← nI_add]; rfl)) ?_
      refine z_iload_n C dd_Q_operation_195 rfl ?_
      refine z_iast (t0 := 0) (N := 96) (f := (I 10)) C rfl dd_Q_operation_196 (hP6_.1.2 10 (by decide)) (vp_in_nI (by omega) (by decide)) ?_
      refine z_cut (md_K dA (md_fs F 0 0) (md_is (md_is I 9 (upd (I 9) (Int32.toNatClampNeg (nI ((8 * m0) + a))) (nI 0))) 10 (upd (I 10) (Int32.toNatClampNeg (nI ((8 * m0) + a))) x3)) J q h) (md_wI hP6_ 10 (by decide) rfl) rfl rfl rfl (fun h7_ hP7_ => ?_)
      refine z_aload_n C dd_Q_operation_197 rfl ?_
      refine gf_Q_39 (v := .ref (q + 1 + 8)) C dd_Q_operation_198 hP7_.1.1 rfl ?_
      refine z_iload_n C dd_Q_operation_201 rfl ?_
      refine z_dup2_11 C dd_Q_operation_202 rfl rfl ?_
      refine z_iald (t0 := 0) (N := 12) (f := (I 8)) C rfl dd_Q_operation_203 (hP7_.1.2 8 (by decide)) (vp_in_nI (by omega) (by decide)) ?_
      refine z_topi (y := nI a) (by rw [nI_clamp (by omega)]; exact hat.symm) ?_
      refine z_iconst (v := 1) C dd_Q_operation_204 (by decide) ?_
      refine z_iadd C dd_Q_operation_205 ?_
      refine z_topi (y := nI (a + 1)) (by first | exact (nI_add _ _).symm | (rw [← nI_add]; rfl)) ?_
      refine z_iast (t0 := 0) (N := 12) (f := (I 8)) C rfl dd_Q_operation_206 (hP7_.1.2 8 (by decide)) (vp_in_nI (by omega) (by decide)) ?_
      refine z_cut (md_K dA (md_fs F 0 0) (md_is (md_is (md_is I 9 (upd (I 9) (Int32.toNatClampNeg (nI ((8 * m0) + a))) (nI 0))) 10 (upd (I 10) (Int32.toNatClampNeg (nI ((8 * m0) + a))) x3)) 8 (upd (I 8) (Int32.toNatClampNeg (nI m0)) (nI (a + 1)))) J q h) (md_wI hP7_ 8 (by decide) rfl) rfl rfl rfl (fun h8_ hP8_ => ?_)
      refine z_aload_n C dd_Q_operation_207 rfl ?_
      refine gf_Q_39 (v := .ref (q + 1 + 8)) C dd_Q_operation_208 hP8_.1.1 rfl ?_
      refine z_iload_n C dd_Q_operation_211 rfl ?_
      refine z_iald (t0 := 0) (N := 12) (f := (upd (I 8) (Int32.toNatClampNeg (nI m0)) (nI (a + 1)))) C rfl dd_Q_operation_212 (hP8_.1.2 8 (by decide)) (vp_in_nI (by omega) (by decide)) ?_
      refine z_topi (y := nI (a + 1)) (by rw [nI_clamp (by omega), pk_us]) ?_
      exact z_iret C dd_Q_operation_213 ⟨rfl, Or.inr ⟨m0, 0, g0, ar, a, hm, rfl, by decide, rfl, hg, eo, ha, har, h9, hat, Or.inr (Or.inr ⟨(by simp [pu_oin, hb4, q12]), by omega, rfl, md_Ke hP8_ (by rw [nI_clamp (n := 8 * m0 + a) (by omega), nI_clamp (n := m0) (by omega)]; rfl)⟩)⟩⟩ (by decide) (by decide)
    · replace q12 : a = 8 := (@nI_eq a 8 (by omega) (by omega)).mp q12
      refine z_iconst (v := 2) C dd_Q_operation_146 (by decide) ?_
      refine z_goto (tgt := 151) C dd_Q_operation_147 (by decide) ?_
      refine pf_Q_121 C dd_Q_operation_151 hP.1.1 (Nat.le_of_ble_eq_true rfl) rfl rfl ?_
      refine z_cut (md_K dA (md_fs F 0 2) I J q h) (md_wF hP rfl) rfl rfl rfl (fun h9_ hP9_ => ?_)
      refine z_aload_n C dd_Q_operation_154 rfl ?_
      refine gf_Q_121 (v := .int 2) C dd_Q_operation_155 hP9_.1.1 rfl ?_
      refine z_if_le (tgt := 163) C dd_Q_operation_158 (by decide) (fun q14 => absurd q14 (by decide)) (fun q14 => ?_)
      refine z_iconst (v := 0) C dd_Q_operation_161 (by decide) ?_
      exact z_iret C dd_Q_operation_162 ⟨rfl, Or.inr ⟨m0, 0, g0, ar, a, hm, rfl, by decide, rfl, hg, eo, ha, har, h9, hat, Or.inr (Or.inl ⟨(by simp [pu_oin, hb4, q12]), by omega, rfl, hP9_⟩)⟩⟩ (by decide) (by decide)
  · skip
    refine z_topi (y := 0) (by rw [hb4]; rfl) ?_
    refine z_istore C dd_Q_operation_47 rfl ?_
    refine z_iload C dd_Q_operation_49 rfl ?_
    refine z_if_eq (tgt := 79) C dd_Q_operation_51 (by decide) (fun q15 => ?_) (fun q15 => absurd (by decide) q15)
    refine z_iload C dd_Q_operation_79 rfl ?_
    refine z_if_eq (tgt := 102) C dd_Q_operation_81 (by decide) (fun q16 => ?_) (fun q16 => absurd (by decide) q16)
    refine z_iload C dd_Q_operation_102 rfl ?_
    refine z_if_eq (tgt := 125) C dd_Q_operation_104 (by decide) (fun q17 => ?_) (fun q17 => absurd (by decide) q17)
    refine z_aload_n C dd_Q_operation_125 rfl ?_
    refine z_iload C dd_Q_operation_126 rfl ?_
    refine z_if_ne (tgt := 135) C dd_Q_operation_128 (by decide) (fun q18 => absurd (by decide) q18) (fun q18 => ?_)
    refine z_iconst (v := 1) C dd_Q_operation_131 (by decide) ?_
    refine z_goto (tgt := 151) C dd_Q_operation_132 (by decide) ?_
    refine pf_Q_121 C dd_Q_operation_151 hP.1.1 (Nat.le_of_ble_eq_true rfl) rfl rfl ?_
    refine z_cut (md_K dA (md_fs F 0 1) I J q h) (md_wF hP rfl) rfl rfl rfl (fun h10_ hP10_ => ?_)
    refine z_aload_n C dd_Q_operation_154 rfl ?_
    refine gf_Q_121 (v := .int 1) C dd_Q_operation_155 hP10_.1.1 rfl ?_
    refine z_if_le (tgt := 163) C dd_Q_operation_158 (by decide) (fun q19 => absurd q19 (by decide)) (fun q19 => ?_)
    refine z_iconst (v := 0) C dd_Q_operation_161 (by decide) ?_
    exact z_iret C dd_Q_operation_162 ⟨rfl, Or.inr ⟨m0, 0, g0, ar, a, hm, rfl, by decide, rfl, hg, eo, ha, har, h9, hat, Or.inl ⟨(by simp [pu_oin, hb4]), rfl, hP10_⟩⟩⟩ (by decide) (by decide)
set_option maxRecDepth 20000 in
/-- operation -/
theorem ca_Q_operation_1 (l : Launch) (D : va_G) (dA : Nat → ClassId) (B : Nat) (h : zz_H) (n : Nat) (q : Nat) (F : Nat → Int32) (I : Nat → Nat → Int32) (J : Nat → Nat → Int64) (hP0 : md_P dA F I J q h) (nc ng nM : Nat) (W : pu_W F I nc ng nM) (m0 g0 ar a : Nat) (hm : m0 < nM) (hg : g0 < ng) (eo : I 2 m0 = nI g0) (ha : ar = 1 ∨ ar = 2) (har : I 1 g0 = nI ar) (h9 : a ≤ 8) (hat : I 8 m0 = nI a) (x3 : Int32) : zz_M l D zz_cl (zz_ty dA) B zz_tb (zz_x B) yy_Q_operation (Cond.code yy_Q_operation bb_Q_operation 5 (some FieldType.int)) rm_Q_operation [.ref q, .int ((nI m0)), .int ((nI 1)), .int x3] h n zz_mi (fun r h' n' => n' = n ∧ (((pu_iv (nI m0) 0 (nI nM - 1) && pu_iv (nI 1) 0 (nI 6)) = false ∧ r = 0 ∧ md_K dA (md_fs F 0 1) I J q h h') ∨ (∃ m9 k9 g9 r9 a9, m9 < nM ∧ (nI m0) = nI m9 ∧ k9 < 7 ∧ (nI 1) = nI k9 ∧ g9 < ng ∧ I 2 m9 = nI g9 ∧ (r9 = 1 ∨ r9 = 2) ∧ I 1 g9 = nI r9 ∧ a9 ≤ 8 ∧ I 8 m9 = nI a9 ∧ ((pu_oin nc ng r9 k9 x3 = false ∧ r = 0 ∧ md_K dA (md_fs F 0 1) I J q h h') ∨ (pu_oin nc ng r9 k9 x3 = true ∧ a9 = 8 ∧ r = 0 ∧ md_K dA (md_fs F 0 2) I J q h h') ∨ (pu_oin nc ng r9 k9 x3 = true ∧ a9 < 8 ∧ r = nI (a9 + 1) ∧ md_K dA (md_fs F 0 0) (pu_addO I m9 a9 k9 x3) J q h h'))))) := by
  refine zz_ofW (zz_f B) [some (.ref q), some (.int ((nI m0))), some (.int ((nI 1))), some (.int x3), none] (by decide) rfl rfl (Nat.le_of_ble_eq_true rfl) ?_
  intro p e s m below meth c C
  have hg4 := W.g4
  have h12 := W.m12
  have h8 := W.c8
  have hP := md_rf hP0
  refine z_iload_n C dd_Q_operation_0 rfl ?_
  refine z_iconst (v := 0) C dd_Q_operation_1 (by decide) ?_
  refine z_aload_n C dd_Q_operation_2 rfl ?_
  refine gf_Q_138 (v := .int (F 5)) C dd_Q_operation_3 hP.1.1 rfl ?_
  refine z_topi (y := nI nM) W.fm.symm ?_
  refine z_iconst (v := 1) C dd_Q_operation_6 (by decide) ?_
  refine z_isub C dd_Q_operation_7 ?_
  refine is_Q_127 (sk := fun r => .int r :: []) (zz_f B) C dd_Q_operation_8 (cn_Q_in l D dA B _ _ _ _ _) rfl rfl ⟨by decide, by decide⟩ (Nat.le_of_ble_eq_true rfl) ⟨by decide, by decide⟩ (fun _ => rfl) (fun v1_ h1_ n1_ p1_ => ?_)
  obtain ⟨e1_, f1_, rfl⟩ := p1_
  have e1z := e1_.symm
  have f1z := f1_.symm
  subst e1z
  subst f1z
  refine z_if_eq (tgt := 28) C dd_Q_operation_11 (by decide) (fun q1 => absurd ((pu_b0 _).mp q1) (by rw [(pu_iv_0 (by omega)).mpr ⟨m0, hm, rfl⟩]; decide)) (fun q1 => ?_)
  refine z_iload_n C dd_Q_operation_14 rfl ?_
  refine z_iconst (v := 0) C dd_Q_operation_15 (by decide) ?_
  refine z_bipush (v := 6) C dd_Q_operation_16 (by decide) ?_
  refine is_Q_127 (sk := fun r => .int r :: []) (zz_f B) C dd_Q_operation_18 (cn_Q_in l D dA B _ _ _ _ _) rfl rfl ⟨by decide, by decide⟩ (Nat.le_of_ble_eq_true rfl) ⟨by decide, by decide⟩ (fun _ => rfl) (fun v2_ h2_ n2_ p2_ => ?_)
  obtain ⟨e2_, f2_, rfl⟩ := p2_
  have e2z := e2_.symm
  have f2z := f2_.symm
  subst e2z
  subst f2z
  refine z_if_eq (tgt := 28) C dd_Q_operation_21 (by decide) (fun q2 => absurd q2 (by decide)) (fun q2 => ?_)
  refine z_iconst (v := 1) C dd_Q_operation_24 (by decide) ?_
  refine z_goto (tgt := 29) C dd_Q_operation_25 (by decide) ?_
  refine z_istore C dd_Q_operation_29 rfl ?_
  refine z_iload C dd_Q_operation_31 rfl ?_
  refine z_if_eq (tgt := 49) C dd_Q_operation_33 (by decide) (fun q3 => absurd q3 (by decide)) (fun q3 => ?_)
  refine z_iload_n C dd_Q_operation_36 rfl ?_
  refine z_if_ne (tgt := 49) C dd_Q_operation_37 (by decide) (fun q4 => ?_) (fun q4 => absurd q4 (by decide))
  refine z_iload C dd_Q_operation_49 rfl ?_
  refine z_if_eq (tgt := 79) C dd_Q_operation_51 (by decide) (fun q5 => absurd q5 (by decide)) (fun q5 => ?_)
  refine z_iload_n C dd_Q_operation_54 rfl ?_
  refine z_iconst (v := 1) C dd_Q_operation_55 (by decide) ?_
  refine z_icmp_ne (tgt := 79) C dd_Q_operation_56 (by decide) (fun q6 => absurd (by decide) q6) (fun q6 => ?_)
  refine z_iload_n C dd_Q_operation_59 rfl ?_
  refine z_iconst (v := 0) C dd_Q_operation_60 (by decide) ?_
  refine z_aload_n C dd_Q_operation_61 rfl ?_
  refine gf_Q_17 (v := .ref (q + 1 + 1)) C dd_Q_operation_62 hP.1.1 rfl ?_
  refine z_aload_n C dd_Q_operation_65 rfl ?_
  refine gf_Q_20 (v := .ref (q + 1 + 2)) C dd_Q_operation_66 hP.1.1 rfl ?_
  refine z_iload_n C dd_Q_operation_69 rfl ?_
  refine z_iald (t0 := 0) (N := 12) (f := (I 2)) C rfl dd_Q_operation_70 (hP.1.2 2 (by decide)) (vp_in_nI (by omega) (by decide)) ?_
  refine z_topi (y := nI g0) (by rw [nI_clamp (by omega)]; exact eo.symm) ?_
  refine z_iald (t0 := 0) (N := 4) (f := (I 1)) C rfl dd_Q_operation_71 (hP.1.2 1 (by decide)) (vp_in_nI (by omega) (by decide)) ?_
  refine z_topi (y := nI ar) (by rw [nI_clamp (by omega)]; exact har.symm) ?_
  refine z_iconst (v := 1) C dd_Q_operation_72 (by decide) ?_
  refine z_isub C dd_Q_operation_73 ?_
  refine is_Q_127 (sk := fun r => .int r :: []) (zz_f B) C dd_Q_operation_74 (cn_Q_in l D dA B _ _ _ _ _) rfl rfl ⟨by decide, by decide⟩ (Nat.le_of_ble_eq_true rfl) ⟨by decide, by decide⟩ (fun _ => rfl) (fun v3_ h3_ n3_ p3_ => ?_)
  obtain ⟨e3_, f3_, rfl⟩ := p3_
  have e3z := e3_.symm
  have f3z := f3_.symm
  subst e3z
  subst f3z
  rcases Bool.eq_false_or_eq_true (pu_iv x3 0 ((nI ar) - 1)) with hb4 | hb4
  · skip
    refine z_topi (y := 1) (by rw [hb4]; rfl) ?_
    refine z_istore C dd_Q_operation_77 rfl ?_
    refine z_iload C dd_Q_operation_79 rfl ?_
    refine z_if_eq (tgt := 102) C dd_Q_operation_81 (by decide) (fun q7 => absurd q7 (by decide)) (fun q7 => ?_)
    refine z_iload_n C dd_Q_operation_84 rfl ?_
    refine z_iconst (v := 4) C dd_Q_operation_85 (by decide) ?_
    refine z_icmp_ne (tgt := 102) C dd_Q_operation_86 (by decide) (fun q8 => ?_) (fun q8 => absurd q8 (by decide))
    refine z_iload C dd_Q_operation_102 rfl ?_
    refine z_if_eq (tgt := 125) C dd_Q_operation_104 (by decide) (fun q9 => absurd q9 (by decide)) (fun q9 => ?_)
    refine z_iload_n C dd_Q_operation_107 rfl ?_
    refine z_iconst (v := 5) C dd_Q_operation_108 (by decide) ?_
    refine z_icmp_ne (tgt := 125) C dd_Q_operation_109 (by decide) (fun q10 => ?_) (fun q10 => absurd q10 (by decide))
    refine z_aload_n C dd_Q_operation_125 rfl ?_
    refine z_iload C dd_Q_operation_126 rfl ?_
    refine z_if_ne (tgt := 135) C dd_Q_operation_128 (by decide) (fun q11 => ?_) (fun q11 => absurd q11 (by decide))
    refine z_aload_n C dd_Q_operation_135 rfl ?_
    refine gf_Q_39 (v := .ref (q + 1 + 8)) C dd_Q_operation_136 hP.1.1 rfl ?_
    refine z_iload_n C dd_Q_operation_139 rfl ?_
    refine z_iald (t0 := 0) (N := 12) (f := (I 8)) C rfl dd_Q_operation_140 (hP.1.2 8 (by decide)) (vp_in_nI (by omega) (by decide)) ?_
    refine z_topi (y := nI a) (by rw [nI_clamp (by omega)]; exact hat.symm) ?_
    refine z_bipush (v := 8) C dd_Q_operation_141 (by decide) ?_
    refine z_icmp_ne (tgt := 150) C dd_Q_operation_143 (by decide) (fun q12 => ?_) (fun q12 => ?_)
    · replace q12 : ¬ a = 8 := fun z => q12 ((@nI_eq a 8 (by omega) (by omega)).mpr z)
      refine z_iconst (v := 0) C dd_Q_operation_150 (by decide) ?_
      refine pf_Q_121 C dd_Q_operation_151 hP.1.1 (Nat.le_of_ble_eq_true rfl) rfl rfl ?_
      refine z_cut (md_K dA (md_fs F 0 0) I J q h) (md_wF hP rfl) rfl rfl rfl (fun h5_ hP5_ => ?_)
      refine z_aload_n C dd_Q_operation_154 rfl ?_
      refine gf_Q_121 (v := .int 0) C dd_Q_operation_155 hP5_.1.1 rfl ?_
      refine z_if_le (tgt := 163) C dd_Q_operation_158 (by decide) (fun q13 => ?_) (fun q13 => absurd (by decide) q13)
      refine z_aload_n C dd_Q_operation_163 rfl ?_
      refine gf_Q_42 (v := .ref (q + 1 + 9)) C dd_Q_operation_164 hP5_.1.1 rfl ?_
      refine z_bipush (v := 8) C dd_Q_operation_167 (by decide) ?_
      refine z_iload_n C dd_Q_operation_169 rfl ?_
      refine z_imul C dd_Q_operation_170 ?_
      refine z_topi (y := nI (8 * m0)) (by first | exact (pk_mul _ _).symm | (rw [← pk_mul]; rfl)) ?_
      refine z_aload_n C dd_Q_operation_171 rfl ?_
      refine gf_Q_39 (v := .ref (q + 1 + 8)) C dd_Q_operation_172 hP5_.1.1 rfl ?_
      refine z_iload_n C dd_Q_operation_175 rfl ?_
      refine z_iald (t0 := 0) (N := 12) (f := (I 8)) C rfl dd_Q_operation_176 (hP5_.1.2 8 (by decide)) (vp_in_nI (by omega) (by decide)) ?_
      refine z_topi (y := nI a) (by rw [nI_clamp (by omega)]; exact hat.symm) ?_
      refine z_iadd C dd_Q_operation_177 ?_
      refine z_topi (y := nI ((8 * m0) + a)) (by first | exact (nI_add _ _).symm | (rw [← nI_add]; rfl)) ?_
      refine z_iload_n C dd_Q_operation_178 rfl ?_
      refine z_iast (t0 := 0) (N := 96) (f := (I 9)) C rfl dd_Q_operation_179 (hP5_.1.2 9 (by decide)) (vp_in_nI (by omega) (by decide)) ?_
      refine z_cut (md_K dA (md_fs F 0 0) (md_is I 9 (upd (I 9) (Int32.toNatClampNeg (nI ((8 * m0) + a))) (nI 1))) J q h) (md_wI hP5_ 9 (by decide) rfl) rfl rfl rfl (fun h6_ hP6_ => ?_)
      refine z_aload_n C dd_Q_operation_180 rfl ?_
      refine gf_Q_45 (v := .ref (q + 1 + 10)) C dd_Q_operation_181 hP6_.1.1 rfl ?_
      refine z_bipush (v := 8) C dd_Q_operation_184 (by decide) ?_
      refine z_iload_n C dd_Q_operation_186 rfl ?_
      refine z_imul C dd_Q_operation_187 ?_
      refine z_topi (y := nI (8 * m0)) (by first | exact (pk_mul _ _).symm | (rw [← pk_mul]; rfl)) ?_
      refine z_aload_n C dd_Q_operation_188 rfl ?_
      refine gf_Q_39 (v := .ref (q + 1 + 8)) C dd_Q_operation_189 hP6_.1.1 rfl ?_
      refine z_iload_n C dd_Q_operation_192 rfl ?_
      refine z_iald (t0 := 0) (N := 12) (f := (I 8)) C rfl dd_Q_operation_193 (hP6_.1.2 8 (by decide)) (vp_in_nI (by omega) (by decide)) ?_
      refine z_topi (y := nI a) (by rw [nI_clamp (by omega)]; exact hat.symm) ?_
      refine z_iadd C dd_Q_operation_194 ?_
      refine z_topi (y := nI ((8 * m0) + a)) (by first | exact (nI_add _ _).symm | (rw [← nI_add]; rfl)) ?_
      refine z_iload_n C dd_Q_operation_195 rfl ?_
      refine z_iast (t0 := 0) (N := 96) (f := (I 10)) C rfl dd_Q_operation_196 (hP6_.1.2 10 (by decide)) (vp_in_nI (by omega) (by decide)) ?_
      refine z_cut (md_K dA (md_fs F 0 0) (md_is (md_is I 9 (upd (I 9) (Int32.toNatClampNeg (nI ((8 * m0) + a))) (nI 1))) 10 (upd (I 10) (Int32.toNatClampNeg (nI ((8 * m0) + a))) x3)) J q h) (md_wI hP6_ 10 (by decide) rfl) rfl rfl rfl (fun h7_ hP7_ => ?_)
      refine z_aload_n C dd_Q_operation_197 rfl ?_
      refine gf_Q_39 (v := .ref (q + 1 + 8)) C dd_Q_operation_198 hP7_.1.1 rfl ?_
      refine z_iload_n C dd_Q_operation_201 rfl ?_
      refine z_dup2_11 C dd_Q_operation_202 rfl rfl ?_
      refine z_iald (t0 := 0) (N := 12) (f := (I 8)) C rfl dd_Q_operation_203 (hP7_.1.2 8 (by decide)) (vp_in_nI (by omega) (by decide)) ?_
      refine z_topi (y := nI a) (by rw [nI_clamp (by omega)]; exact hat.symm) ?_
      refine z_iconst (v := 1) C dd_Q_operation_204 (by decide) ?_
      refine z_iadd C dd_Q_operation_205 ?_
      refine z_topi (y := nI (a + 1)) (by first | exact (nI_add _ _).symm | (rw [← nI_add]; rfl)) ?_
      refine z_iast (t0 := 0) (N := 12) (f := (I 8)) C rfl dd_Q_operation_206 (hP7_.1.2 8 (by decide)) (vp_in_nI (by omega) (by decide)) ?_
      refine z_cut (md_K dA (md_fs F 0 0) (md_is (md_is (md_is I 9 (upd (I 9) (Int32.toNatClampNeg (nI ((8 * m0) + a))) (nI 1))) 10 (upd (I 10) (Int32.toNatClampNeg (nI ((8 * m0) + a))) x3)) 8 (upd (I 8) (Int32.toNatClampNeg (nI m0)) (nI (a + 1)))) J q h) (md_wI hP7_ 8 (by decide) rfl) rfl rfl rfl (fun h8_ hP8_ => ?_)
      refine z_aload_n C dd_Q_operation_207 rfl ?_
      refine gf_Q_39 (v := .ref (q + 1 + 8)) C dd_Q_operation_208 hP8_.1.1 rfl ?_
      refine z_iload_n C dd_Q_operation_211 rfl ?_
      refine z_iald (t0 := 0) (N := 12) (f := (upd (I 8) (Int32.toNatClampNeg (nI m0)) (nI (a + 1)))) C rfl dd_Q_operation_212 (hP8_.1.2 8 (by decide)) (vp_in_nI (by omega) (by decide)) ?_
      refine z_topi (y := nI (a + 1)) (by rw [nI_clamp (by omega), pk_us]) ?_
      exact z_iret C dd_Q_operation_213 ⟨rfl, Or.inr ⟨m0, 1, g0, ar, a, hm, rfl, by decide, rfl, hg, eo, ha, har, h9, hat, Or.inr (Or.inr ⟨(by simp [pu_oin, hb4, q12]), by omega, rfl, md_Ke hP8_ (by rw [nI_clamp (n := 8 * m0 + a) (by omega), nI_clamp (n := m0) (by omega)]; rfl)⟩)⟩⟩ (by decide) (by decide)
    · replace q12 : a = 8 := (@nI_eq a 8 (by omega) (by omega)).mp q12
      refine z_iconst (v := 2) C dd_Q_operation_146 (by decide) ?_
      refine z_goto (tgt := 151) C dd_Q_operation_147 (by decide) ?_
      refine pf_Q_121 C dd_Q_operation_151 hP.1.1 (Nat.le_of_ble_eq_true rfl) rfl rfl ?_
      refine z_cut (md_K dA (md_fs F 0 2) I J q h) (md_wF hP rfl) rfl rfl rfl (fun h9_ hP9_ => ?_)
      refine z_aload_n C dd_Q_operation_154 rfl ?_
      refine gf_Q_121 (v := .int 2) C dd_Q_operation_155 hP9_.1.1 rfl ?_
      refine z_if_le (tgt := 163) C dd_Q_operation_158 (by decide) (fun q14 => absurd q14 (by decide)) (fun q14 => ?_)
      refine z_iconst (v := 0) C dd_Q_operation_161 (by decide) ?_
      exact z_iret C dd_Q_operation_162 ⟨rfl, Or.inr ⟨m0, 1, g0, ar, a, hm, rfl, by decide, rfl, hg, eo, ha, har, h9, hat, Or.inr (Or.inl ⟨(by simp [pu_oin, hb4, q12]), by omega, rfl, hP9_⟩)⟩⟩ (by decide) (by decide)
  · skip
    refine z_topi (y := 0) (by rw [hb4]; rfl) ?_
    refine z_istore C dd_Q_operation_77 rfl ?_
    refine z_iload C dd_Q_operation_79 rfl ?_
    refine z_if_eq (tgt := 102) C dd_Q_operation_81 (by decide) (fun q15 => ?_) (fun q15 => absurd (by decide) q15)
    refine z_iload C dd_Q_operation_102 rfl ?_
    refine z_if_eq (tgt := 125) C dd_Q_operation_104 (by decide) (fun q16 => ?_) (fun q16 => absurd (by decide) q16)
    refine z_aload_n C dd_Q_operation_125 rfl ?_
    refine z_iload C dd_Q_operation_126 rfl ?_
    refine z_if_ne (tgt := 135) C dd_Q_operation_128 (by decide) (fun q17 => absurd (by decide) q17) (fun q17 => ?_)
    refine z_iconst (v := 1) C dd_Q_operation_131 (by decide) ?_
    refine z_goto (tgt := 151) C dd_Q_operation_132 (by decide) ?_
    refine pf_Q_121 C dd_Q_operation_151 hP.1.1 (Nat.le_of_ble_eq_true rfl) rfl rfl ?_
    refine z_cut (md_K dA (md_fs F 0 1) I J q h) (md_wF hP rfl) rfl rfl rfl (fun h10_ hP10_ => ?_)
    refine z_aload_n C dd_Q_operation_154 rfl ?_
    refine gf_Q_121 (v := .int 1) C dd_Q_operation_155 hP10_.1.1 rfl ?_
    refine z_if_le (tgt := 163) C dd_Q_operation_158 (by decide) (fun q18 => absurd q18 (by decide)) (fun q18 => ?_)
    refine z_iconst (v := 0) C dd_Q_operation_161 (by decide) ?_
    exact z_iret C dd_Q_operation_162 ⟨rfl, Or.inr ⟨m0, 1, g0, ar, a, hm, rfl, by decide, rfl, hg, eo, ha, har, h9, hat, Or.inl ⟨(by simp [pu_oin, hb4]), rfl, hP10_⟩⟩⟩ (by decide) (by decide)
set_option maxRecDepth 20000 in
/-- operation -/
theorem ca_Q_operation_2 (l : Launch) (D : va_G) (dA : Nat → ClassId) (B : Nat) (h : zz_H) (n : Nat) (q : Nat) (F : Nat → Int32) (I : Nat → Nat → Int32) (J : Nat → Nat → Int64) (hP0 : md_P dA F I J q h) (nc ng nM : Nat) (W : pu_W F I nc ng nM) (m0 g0 ar a : Nat) (hm : m0 < nM) (hg : g0 < ng) (eo : I 2 m0 = nI g0) (ha : ar = 1 ∨ ar = 2) (har : I 1 g0 = nI ar) (h9 : a ≤ 8) (hat : I 8 m0 = nI a) (x3 : Int32) : zz_M l D zz_cl (zz_ty dA) B zz_tb (zz_x B) yy_Q_operation (Cond.code yy_Q_operation bb_Q_operation 5 (some FieldType.int)) rm_Q_operation [.ref q, .int ((nI m0)), .int ((nI 2)), .int x3] h n zz_mi (fun r h' n' => n' = n ∧ (((pu_iv (nI m0) 0 (nI nM - 1) && pu_iv (nI 2) 0 (nI 6)) = false ∧ r = 0 ∧ md_K dA (md_fs F 0 1) I J q h h') ∨ (∃ m9 k9 g9 r9 a9, m9 < nM ∧ (nI m0) = nI m9 ∧ k9 < 7 ∧ (nI 2) = nI k9 ∧ g9 < ng ∧ I 2 m9 = nI g9 ∧ (r9 = 1 ∨ r9 = 2) ∧ I 1 g9 = nI r9 ∧ a9 ≤ 8 ∧ I 8 m9 = nI a9 ∧ ((pu_oin nc ng r9 k9 x3 = false ∧ r = 0 ∧ md_K dA (md_fs F 0 1) I J q h h') ∨ (pu_oin nc ng r9 k9 x3 = true ∧ a9 = 8 ∧ r = 0 ∧ md_K dA (md_fs F 0 2) I J q h h') ∨ (pu_oin nc ng r9 k9 x3 = true ∧ a9 < 8 ∧ r = nI (a9 + 1) ∧ md_K dA (md_fs F 0 0) (pu_addO I m9 a9 k9 x3) J q h h'))))) := by
  refine zz_ofW (zz_f B) [some (.ref q), some (.int ((nI m0))), some (.int ((nI 2))), some (.int x3), none] (by decide) rfl rfl (Nat.le_of_ble_eq_true rfl) ?_
  intro p e s m below meth c C
  have hg4 := W.g4
  have h12 := W.m12
  have h8 := W.c8
  have hP := md_rf hP0
  refine z_iload_n C dd_Q_operation_0 rfl ?_
  refine z_iconst (v := 0) C dd_Q_operation_1 (by decide) ?_
  refine z_aload_n C dd_Q_operation_2 rfl ?_
  refine gf_Q_138 (v := .int (F 5)) C dd_Q_operation_3 hP.1.1 rfl ?_
  refine z_topi (y := nI nM) W.fm.symm ?_
  refine z_iconst (v := 1) C dd_Q_operation_6 (by decide) ?_
  refine z_isub C dd_Q_operation_7 ?_
  refine is_Q_127 (sk := fun r => .int r :: []) (zz_f B) C dd_Q_operation_8 (cn_Q_in l D dA B _ _ _ _ _) rfl rfl ⟨by decide, by decide⟩ (Nat.le_of_ble_eq_true rfl) ⟨by decide, by decide⟩ (fun _ => rfl) (fun v1_ h1_ n1_ p1_ => ?_)
  obtain ⟨e1_, f1_, rfl⟩ := p1_
  have e1z := e1_.symm
  have f1z := f1_.symm
  subst e1z
  subst f1z
  refine z_if_eq (tgt := 28) C dd_Q_operation_11 (by decide) (fun q1 => absurd ((pu_b0 _).mp q1) (by rw [(pu_iv_0 (by omega)).mpr ⟨m0, hm, rfl⟩]; decide)) (fun q1 => ?_)
  refine z_iload_n C dd_Q_operation_14 rfl ?_
  refine z_iconst (v := 0) C dd_Q_operation_15 (by decide) ?_
  refine z_bipush (v := 6) C dd_Q_operation_16 (by decide) ?_
  refine is_Q_127 (sk := fun r => .int r :: []) (zz_f B) C dd_Q_operation_18 (cn_Q_in l D dA B _ _ _ _ _) rfl rfl ⟨by decide, by decide⟩ (Nat.le_of_ble_eq_true rfl) ⟨by decide, by decide⟩ (fun _ => rfl) (fun v2_ h2_ n2_ p2_ => ?_)
  obtain ⟨e2_, f2_, rfl⟩ := p2_
  have e2z := e2_.symm
  have f2z := f2_.symm
  subst e2z
  subst f2z
  refine z_if_eq (tgt := 28) C dd_Q_operation_21 (by decide) (fun q2 => absurd q2 (by decide)) (fun q2 => ?_)
  refine z_iconst (v := 1) C dd_Q_operation_24 (by decide) ?_
  refine z_goto (tgt := 29) C dd_Q_operation_25 (by decide) ?_
  refine z_istore C dd_Q_operation_29 rfl ?_
  refine z_iload C dd_Q_operation_31 rfl ?_
  refine z_if_eq (tgt := 49) C dd_Q_operation_33 (by decide) (fun q3 => absurd q3 (by decide)) (fun q3 => ?_)
  refine z_iload_n C dd_Q_operation_36 rfl ?_
  refine z_if_ne (tgt := 49) C dd_Q_operation_37 (by decide) (fun q4 => ?_) (fun q4 => absurd q4 (by decide))
  refine z_iload C dd_Q_operation_49 rfl ?_
  refine z_if_eq (tgt := 79) C dd_Q_operation_51 (by decide) (fun q5 => absurd q5 (by decide)) (fun q5 => ?_)
  refine z_iload_n C dd_Q_operation_54 rfl ?_
  refine z_iconst (v := 1) C dd_Q_operation_55 (by decide) ?_
  refine z_icmp_ne (tgt := 79) C dd_Q_operation_56 (by decide) (fun q6 => ?_) (fun q6 => absurd q6 (by decide))
  refine z_iload C dd_Q_operation_79 rfl ?_
  refine z_if_eq (tgt := 102) C dd_Q_operation_81 (by decide) (fun q7 => absurd q7 (by decide)) (fun q7 => ?_)
  refine z_iload_n C dd_Q_operation_84 rfl ?_
  refine z_iconst (v := 4) C dd_Q_operation_85 (by decide) ?_
  refine z_icmp_ne (tgt := 102) C dd_Q_operation_86 (by decide) (fun q8 => ?_) (fun q8 => absurd q8 (by decide))
  refine z_iload C dd_Q_operation_102 rfl ?_
  refine z_if_eq (tgt := 125) C dd_Q_operation_104 (by decide) (fun q9 => absurd q9 (by decide)) (fun q9 => ?_)
  refine z_iload_n C dd_Q_operation_107 rfl ?_
  refine z_iconst (v := 5) C dd_Q_operation_108 (by decide) ?_
  refine z_icmp_ne (tgt := 125) C dd_Q_operation_109 (by decide) (fun q10 => ?_) (fun q10 => absurd q10 (by decide))
  refine z_aload_n C dd_Q_operation_125 rfl ?_
  refine z_iload C dd_Q_operation_126 rfl ?_
  refine z_if_ne (tgt := 135) C dd_Q_operation_128 (by decide) (fun q11 => ?_) (fun q11 => absurd q11 (by decide))
  refine z_aload_n C dd_Q_operation_135 rfl ?_
  refine gf_Q_39 (v := .ref (q + 1 + 8)) C dd_Q_operation_136 hP.1.1 rfl ?_
  refine z_iload_n C dd_Q_operation_139 rfl ?_
  refine z_iald (t0 := 0) (N := 12) (f := (I 8)) C rfl dd_Q_operation_140 (hP.1.2 8 (by decide)) (vp_in_nI (by omega) (by decide)) ?_
  refine z_topi (y := nI a) (by rw [nI_clamp (by omega)]; exact hat.symm) ?_
  refine z_bipush (v := 8) C dd_Q_operation_141 (by decide) ?_
  refine z_icmp_ne (tgt := 150) C dd_Q_operation_143 (by decide) (fun q12 => ?_) (fun q12 => ?_)
  · replace q12 : ¬ a = 8 := fun z => q12 ((@nI_eq a 8 (by omega) (by omega)).mpr z)
    refine z_iconst (v := 0) C dd_Q_operation_150 (by decide) ?_
    refine pf_Q_121 C dd_Q_operation_151 hP.1.1 (Nat.le_of_ble_eq_true rfl) rfl rfl ?_
    refine z_cut (md_K dA (md_fs F 0 0) I J q h) (md_wF hP rfl) rfl rfl rfl (fun h3_ hP3_ => ?_)
    refine z_aload_n C dd_Q_operation_154 rfl ?_
    refine gf_Q_121 (v := .int 0) C dd_Q_operation_155 hP3_.1.1 rfl ?_
    refine z_if_le (tgt := 163) C dd_Q_operation_158 (by decide) (fun q13 => ?_) (fun q13 => absurd (by decide) q13)
    refine z_aload_n C dd_Q_operation_163 rfl ?_
    refine gf_Q_42 (v := .ref (q + 1 + 9)) C dd_Q_operation_164 hP3_.1.1 rfl ?_
    refine z_bipush (v := 8) C dd_Q_operation_167 (by decide) ?_
    refine z_iload_n C dd_Q_operation_169 rfl ?_
    refine z_imul C dd_Q_operation_170 ?_
    refine z_topi (y := nI (8 * m0)) (by first | exact (pk_mul _ _).symm | (rw [← pk_mul]; rfl)) ?_
    refine z_aload_n C dd_Q_operation_171 rfl ?_
    refine gf_Q_39 (v := .ref (q + 1 + 8)) C dd_Q_operation_172 hP3_.1.1 rfl ?_
    refine z_iload_n C dd_Q_operation_175 rfl ?_
    refine z_iald (t0 := 0) (N := 12) (f := (I 8)) C rfl dd_Q_operation_176 (hP3_.1.2 8 (by decide)) (vp_in_nI (by omega) (by decide)) ?_
    refine z_topi (y := nI a) (by rw [nI_clamp (by omega)]; exact hat.symm) ?_
    refine z_iadd C dd_Q_operation_177 ?_
    refine z_topi (y := nI ((8 * m0) + a)) (by first | exact (nI_add _ _).symm | (rw [← nI_add]; rfl)) ?_
    refine z_iload_n C dd_Q_operation_178 rfl ?_
    refine z_iast (t0 := 0) (N := 96) (f := (I 9)) C rfl dd_Q_operation_179 (hP3_.1.2 9 (by decide)) (vp_in_nI (by omega) (by decide)) ?_
    refine z_cut (md_K dA (md_fs F 0 0) (md_is I 9 (upd (I 9) (Int32.toNatClampNeg (nI ((8 * m0) + a))) (nI 2))) J q h) (md_wI hP3_ 9 (by decide) rfl) rfl rfl rfl (fun h4_ hP4_ => ?_)
    refine z_aload_n C dd_Q_operation_180 rfl ?_
    refine gf_Q_45 (v := .ref (q + 1 + 10)) C dd_Q_operation_181 hP4_.1.1 rfl ?_
    refine z_bipush (v := 8) C dd_Q_operation_184 (by decide) ?_
    refine z_iload_n C dd_Q_operation_186 rfl ?_
    refine z_imul C dd_Q_operation_187 ?_
    refine z_topi (y := nI (8 * m0)) (by first | exact (pk_mul _ _).symm | (rw [← pk_mul]; rfl)) ?_
    refine z_aload_n C dd_Q_operation_188 rfl ?_
    refine gf_Q_39 (v := .ref (q + 1 + 8)) C dd_Q_operation_189 hP4_.1.1 rfl ?_
    refine z_iload_n C dd_Q_operation_192 rfl ?_
    refine z_iald (t0 := 0) (N := 12) (f := (I 8)) C rfl dd_Q_operation_193 (hP4_.1.2 8 (by decide)) (vp_in_nI (by omega) (by decide)) ?_
    refine z_topi (y := nI a) (by rw [nI_clamp (by omega)]; exact hat.symm) ?_
    refine z_iadd C dd_Q_operation_194 ?_
    refine z_topi (y := nI ((8 * m0) + a)) (by first | exact (nI_add _ _).symm | (rw [← nI_add]; rfl)) ?_
    refine z_iload_n C dd_Q_operation_195 rfl ?_
    refine z_iast (t0 := 0) (N := 96) (f := (I 10)) C rfl dd_Q_operation_196 (hP4_.1.2 10 (by decide)) (vp_in_nI (by omega) (by decide)) ?_
    refine z_cut (md_K dA (md_fs F 0 0) (md_is (md_is I 9 (upd (I 9) (Int32.toNatClampNeg (nI ((8 * m0) + a))) (nI 2))) 10 (upd (I 10) (Int32.toNatClampNeg (nI ((8 * m0) + a))) x3)) J q h) (md_wI hP4_ 10 (by decide) rfl) rfl rfl rfl (fun h5_ hP5_ => ?_)
    refine z_aload_n C dd_Q_operation_197 rfl ?_
    refine gf_Q_39 (v := .ref (q + 1 + 8)) C dd_Q_operation_198 hP5_.1.1 rfl ?_
    refine z_iload_n C dd_Q_operation_201 rfl ?_
    refine z_dup2_11 C dd_Q_operation_202 rfl rfl ?_
    refine z_iald (t0 := 0) (N := 12) (f := (I 8)) C rfl dd_Q_operation_203 (hP5_.1.2 8 (by decide)) (vp_in_nI (by omega) (by decide)) ?_
    refine z_topi (y := nI a) (by rw [nI_clamp (by omega)]; exact hat.symm) ?_
    refine z_iconst (v := 1) C dd_Q_operation_204 (by decide) ?_
    refine z_iadd C dd_Q_operation_205 ?_
    refine z_topi (y := nI (a + 1)) (by first | exact (nI_add _ _).symm | (rw [← nI_add]; rfl)) ?_
    refine z_iast (t0 := 0) (N := 12) (f := (I 8)) C rfl dd_Q_operation_206 (hP5_.1.2 8 (by decide)) (vp_in_nI (by omega) (by decide)) ?_
    refine z_cut (md_K dA (md_fs F 0 0) (md_is (md_is (md_is I 9 (upd (I 9) (Int32.toNatClampNeg (nI ((8 * m0) + a))) (nI 2))) 10 (upd (I 10) (Int32.toNatClampNeg (nI ((8 * m0) + a))) x3)) 8 (upd (I 8) (Int32.toNatClampNeg (nI m0)) (nI (a + 1)))) J q h) (md_wI hP5_ 8 (by decide) rfl) rfl rfl rfl (fun h6_ hP6_ => ?_)
    refine z_aload_n C dd_Q_operation_207 rfl ?_
    refine gf_Q_39 (v := .ref (q + 1 + 8)) C dd_Q_operation_208 hP6_.1.1 rfl ?_
    refine z_iload_n C dd_Q_operation_211 rfl ?_
    refine z_iald (t0 := 0) (N := 12) (f := (upd (I 8) (Int32.toNatClampNeg (nI m0)) (nI (a + 1)))) C rfl dd_Q_operation_212 (hP6_.1.2 8 (by decide)) (vp_in_nI (by omega) (by decide)) ?_
    refine z_topi (y := nI (a + 1)) (by rw [nI_clamp (by omega), pk_us]) ?_
    exact z_iret C dd_Q_operation_213 ⟨rfl, Or.inr ⟨m0, 2, g0, ar, a, hm, rfl, by decide, rfl, hg, eo, ha, har, h9, hat, Or.inr (Or.inr ⟨(by simp [pu_oin, q12]), by omega, rfl, md_Ke hP6_ (by rw [nI_clamp (n := 8 * m0 + a) (by omega), nI_clamp (n := m0) (by omega)]; rfl)⟩)⟩⟩ (by decide) (by decide)
  · replace q12 : a = 8 := (@nI_eq a 8 (by omega) (by omega)).mp q12
    refine z_iconst (v := 2) C dd_Q_operation_146 (by decide) ?_
    refine z_goto (tgt := 151) C dd_Q_operation_147 (by decide) ?_
    refine pf_Q_121 C dd_Q_operation_151 hP.1.1 (Nat.le_of_ble_eq_true rfl) rfl rfl ?_
    refine z_cut (md_K dA (md_fs F 0 2) I J q h) (md_wF hP rfl) rfl rfl rfl (fun h7_ hP7_ => ?_)
    refine z_aload_n C dd_Q_operation_154 rfl ?_
    refine gf_Q_121 (v := .int 2) C dd_Q_operation_155 hP7_.1.1 rfl ?_
    refine z_if_le (tgt := 163) C dd_Q_operation_158 (by decide) (fun q14 => absurd q14 (by decide)) (fun q14 => ?_)
    refine z_iconst (v := 0) C dd_Q_operation_161 (by decide) ?_
    exact z_iret C dd_Q_operation_162 ⟨rfl, Or.inr ⟨m0, 2, g0, ar, a, hm, rfl, by decide, rfl, hg, eo, ha, har, h9, hat, Or.inr (Or.inl ⟨(by simp [pu_oin, q12]), by omega, rfl, hP7_⟩)⟩⟩ (by decide) (by decide)
set_option maxRecDepth 20000 in
/-- operation -/
theorem ca_Q_operation_3 (l : Launch) (D : va_G) (dA : Nat → ClassId) (B : Nat) (h : zz_H) (n : Nat) (q : Nat) (F : Nat → Int32) (I : Nat → Nat → Int32) (J : Nat → Nat → Int64) (hP0 : md_P dA F I J q h) (nc ng nM : Nat) (W : pu_W F I nc ng nM) (m0 g0 ar a : Nat) (hm : m0 < nM) (hg : g0 < ng) (eo : I 2 m0 = nI g0) (ha : ar = 1 ∨ ar = 2) (har : I 1 g0 = nI ar) (h9 : a ≤ 8) (hat : I 8 m0 = nI a) (x3 : Int32) : zz_M l D zz_cl (zz_ty dA) B zz_tb (zz_x B) yy_Q_operation (Cond.code yy_Q_operation bb_Q_operation 5 (some FieldType.int)) rm_Q_operation [.ref q, .int ((nI m0)), .int ((nI 3)), .int x3] h n zz_mi (fun r h' n' => n' = n ∧ (((pu_iv (nI m0) 0 (nI nM - 1) && pu_iv (nI 3) 0 (nI 6)) = false ∧ r = 0 ∧ md_K dA (md_fs F 0 1) I J q h h') ∨ (∃ m9 k9 g9 r9 a9, m9 < nM ∧ (nI m0) = nI m9 ∧ k9 < 7 ∧ (nI 3) = nI k9 ∧ g9 < ng ∧ I 2 m9 = nI g9 ∧ (r9 = 1 ∨ r9 = 2) ∧ I 1 g9 = nI r9 ∧ a9 ≤ 8 ∧ I 8 m9 = nI a9 ∧ ((pu_oin nc ng r9 k9 x3 = false ∧ r = 0 ∧ md_K dA (md_fs F 0 1) I J q h h') ∨ (pu_oin nc ng r9 k9 x3 = true ∧ a9 = 8 ∧ r = 0 ∧ md_K dA (md_fs F 0 2) I J q h h') ∨ (pu_oin nc ng r9 k9 x3 = true ∧ a9 < 8 ∧ r = nI (a9 + 1) ∧ md_K dA (md_fs F 0 0) (pu_addO I m9 a9 k9 x3) J q h h'))))) := by
  refine zz_ofW (zz_f B) [some (.ref q), some (.int ((nI m0))), some (.int ((nI 3))), some (.int x3), none] (by decide) rfl rfl (Nat.le_of_ble_eq_true rfl) ?_
  intro p e s m below meth c C
  have hg4 := W.g4
  have h12 := W.m12
  have h8 := W.c8
  have hP := md_rf hP0
  refine z_iload_n C dd_Q_operation_0 rfl ?_
  refine z_iconst (v := 0) C dd_Q_operation_1 (by decide) ?_
  refine z_aload_n C dd_Q_operation_2 rfl ?_
  refine gf_Q_138 (v := .int (F 5)) C dd_Q_operation_3 hP.1.1 rfl ?_
  refine z_topi (y := nI nM) W.fm.symm ?_
  refine z_iconst (v := 1) C dd_Q_operation_6 (by decide) ?_
  refine z_isub C dd_Q_operation_7 ?_
  refine is_Q_127 (sk := fun r => .int r :: []) (zz_f B) C dd_Q_operation_8 (cn_Q_in l D dA B _ _ _ _ _) rfl rfl ⟨by decide, by decide⟩ (Nat.le_of_ble_eq_true rfl) ⟨by decide, by decide⟩ (fun _ => rfl) (fun v1_ h1_ n1_ p1_ => ?_)
  obtain ⟨e1_, f1_, rfl⟩ := p1_
  have e1z := e1_.symm
  have f1z := f1_.symm
  subst e1z
  subst f1z
  refine z_if_eq (tgt := 28) C dd_Q_operation_11 (by decide) (fun q1 => absurd ((pu_b0 _).mp q1) (by rw [(pu_iv_0 (by omega)).mpr ⟨m0, hm, rfl⟩]; decide)) (fun q1 => ?_)
  refine z_iload_n C dd_Q_operation_14 rfl ?_
  refine z_iconst (v := 0) C dd_Q_operation_15 (by decide) ?_
  refine z_bipush (v := 6) C dd_Q_operation_16 (by decide) ?_
  refine is_Q_127 (sk := fun r => .int r :: []) (zz_f B) C dd_Q_operation_18 (cn_Q_in l D dA B _ _ _ _ _) rfl rfl ⟨by decide, by decide⟩ (Nat.le_of_ble_eq_true rfl) ⟨by decide, by decide⟩ (fun _ => rfl) (fun v2_ h2_ n2_ p2_ => ?_)
  obtain ⟨e2_, f2_, rfl⟩ := p2_
  have e2z := e2_.symm
  have f2z := f2_.symm
  subst e2z
  subst f2z
  refine z_if_eq (tgt := 28) C dd_Q_operation_21 (by decide) (fun q2 => absurd q2 (by decide)) (fun q2 => ?_)
  refine z_iconst (v := 1) C dd_Q_operation_24 (by decide) ?_
  refine z_goto (tgt := 29) C dd_Q_operation_25 (by decide) ?_
  refine z_istore C dd_Q_operation_29 rfl ?_
  refine z_iload C dd_Q_operation_31 rfl ?_
  refine z_if_eq (tgt := 49) C dd_Q_operation_33 (by decide) (fun q3 => absurd q3 (by decide)) (fun q3 => ?_)
  refine z_iload_n C dd_Q_operation_36 rfl ?_
  refine z_if_ne (tgt := 49) C dd_Q_operation_37 (by decide) (fun q4 => ?_) (fun q4 => absurd q4 (by decide))
  refine z_iload C dd_Q_operation_49 rfl ?_
  refine z_if_eq (tgt := 79) C dd_Q_operation_51 (by decide) (fun q5 => absurd q5 (by decide)) (fun q5 => ?_)
  refine z_iload_n C dd_Q_operation_54 rfl ?_
  refine z_iconst (v := 1) C dd_Q_operation_55 (by decide) ?_
  refine z_icmp_ne (tgt := 79) C dd_Q_operation_56 (by decide) (fun q6 => ?_) (fun q6 => absurd q6 (by decide))
  refine z_iload C dd_Q_operation_79 rfl ?_
  refine z_if_eq (tgt := 102) C dd_Q_operation_81 (by decide) (fun q7 => absurd q7 (by decide)) (fun q7 => ?_)
  refine z_iload_n C dd_Q_operation_84 rfl ?_
  refine z_iconst (v := 4) C dd_Q_operation_85 (by decide) ?_
  refine z_icmp_ne (tgt := 102) C dd_Q_operation_86 (by decide) (fun q8 => ?_) (fun q8 => absurd q8 (by decide))
  refine z_iload C dd_Q_operation_102 rfl ?_
  refine z_if_eq (tgt := 125) C dd_Q_operation_104 (by decide) (fun q9 => absurd q9 (by decide)) (fun q9 => ?_)
  refine z_iload_n C dd_Q_operation_107 rfl ?_
  refine z_iconst (v := 5) C dd_Q_operation_108 (by decide) ?_
  refine z_icmp_ne (tgt := 125) C dd_Q_operation_109 (by decide) (fun q10 => ?_) (fun q10 => absurd q10 (by decide))
  refine z_aload_n C dd_Q_operation_125 rfl ?_
  refine z_iload C dd_Q_operation_126 rfl ?_
  refine z_if_ne (tgt := 135) C dd_Q_operation_128 (by decide) (fun q11 => ?_) (fun q11 => absurd q11 (by decide))
  refine z_aload_n C dd_Q_operation_135 rfl ?_
  refine gf_Q_39 (v := .ref (q + 1 + 8)) C dd_Q_operation_136 hP.1.1 rfl ?_
  refine z_iload_n C dd_Q_operation_139 rfl ?_
  refine z_iald (t0 := 0) (N := 12) (f := (I 8)) C rfl dd_Q_operation_140 (hP.1.2 8 (by decide)) (vp_in_nI (by omega) (by decide)) ?_
  refine z_topi (y := nI a) (by rw [nI_clamp (by omega)]; exact hat.symm) ?_
  refine z_bipush (v := 8) C dd_Q_operation_141 (by decide) ?_
  refine z_icmp_ne (tgt := 150) C dd_Q_operation_143 (by decide) (fun q12 => ?_) (fun q12 => ?_)
  · replace q12 : ¬ a = 8 := fun z => q12 ((@nI_eq a 8 (by omega) (by omega)).mpr z)
    refine z_iconst (v := 0) C dd_Q_operation_150 (by decide) ?_
    refine pf_Q_121 C dd_Q_operation_151 hP.1.1 (Nat.le_of_ble_eq_true rfl) rfl rfl ?_
    refine z_cut (md_K dA (md_fs F 0 0) I J q h) (md_wF hP rfl) rfl rfl rfl (fun h3_ hP3_ => ?_)
    refine z_aload_n C dd_Q_operation_154 rfl ?_
    refine gf_Q_121 (v := .int 0) C dd_Q_operation_155 hP3_.1.1 rfl ?_
    refine z_if_le (tgt := 163) C dd_Q_operation_158 (by decide) (fun q13 => ?_) (fun q13 => absurd (by decide) q13)
    refine z_aload_n C dd_Q_operation_163 rfl ?_
    refine gf_Q_42 (v := .ref (q + 1 + 9)) C dd_Q_operation_164 hP3_.1.1 rfl ?_
    refine z_bipush (v := 8) C dd_Q_operation_167 (by decide) ?_
    refine z_iload_n C dd_Q_operation_169 rfl ?_
    refine z_imul C dd_Q_operation_170 ?_
    refine z_topi (y := nI (8 * m0)) (by first | exact (pk_mul _ _).symm | (rw [← pk_mul]; rfl)) ?_
    refine z_aload_n C dd_Q_operation_171 rfl ?_
    refine gf_Q_39 (v := .ref (q + 1 + 8)) C dd_Q_operation_172 hP3_.1.1 rfl ?_
    refine z_iload_n C dd_Q_operation_175 rfl ?_
    refine z_iald (t0 := 0) (N := 12) (f := (I 8)) C rfl dd_Q_operation_176 (hP3_.1.2 8 (by decide)) (vp_in_nI (by omega) (by decide)) ?_
    refine z_topi (y := nI a) (by rw [nI_clamp (by omega)]; exact hat.symm) ?_
    refine z_iadd C dd_Q_operation_177 ?_
    refine z_topi (y := nI ((8 * m0) + a)) (by first | exact (nI_add _ _).symm | (rw [← nI_add]; rfl)) ?_
    refine z_iload_n C dd_Q_operation_178 rfl ?_
    refine z_iast (t0 := 0) (N := 96) (f := (I 9)) C rfl dd_Q_operation_179 (hP3_.1.2 9 (by decide)) (vp_in_nI (by omega) (by decide)) ?_
    refine z_cut (md_K dA (md_fs F 0 0) (md_is I 9 (upd (I 9) (Int32.toNatClampNeg (nI ((8 * m0) + a))) (nI 3))) J q h) (md_wI hP3_ 9 (by decide) rfl) rfl rfl rfl (fun h4_ hP4_ => ?_)
    refine z_aload_n C dd_Q_operation_180 rfl ?_
    refine gf_Q_45 (v := .ref (q + 1 + 10)) C dd_Q_operation_181 hP4_.1.1 rfl ?_
    refine z_bipush (v := 8) C dd_Q_operation_184 (by decide) ?_
    refine z_iload_n C dd_Q_operation_186 rfl ?_
    refine z_imul C dd_Q_operation_187 ?_
    refine z_topi (y := nI (8 * m0)) (by first | exact (pk_mul _ _).symm | (rw [← pk_mul]; rfl)) ?_
    refine z_aload_n C dd_Q_operation_188 rfl ?_
    refine gf_Q_39 (v := .ref (q + 1 + 8)) C dd_Q_operation_189 hP4_.1.1 rfl ?_
    refine z_iload_n C dd_Q_operation_192 rfl ?_
    refine z_iald (t0 := 0) (N := 12) (f := (I 8)) C rfl dd_Q_operation_193 (hP4_.1.2 8 (by decide)) (vp_in_nI (by omega) (by decide)) ?_
    refine z_topi (y := nI a) (by rw [nI_clamp (by omega)]; exact hat.symm) ?_
    refine z_iadd C dd_Q_operation_194 ?_
    refine z_topi (y := nI ((8 * m0) + a)) (by first | exact (nI_add _ _).symm | (rw [← nI_add]; rfl)) ?_
    refine z_iload_n C dd_Q_operation_195 rfl ?_
    refine z_iast (t0 := 0) (N := 96) (f := (I 10)) C rfl dd_Q_operation_196 (hP4_.1.2 10 (by decide)) (vp_in_nI (by omega) (by decide)) ?_
    refine z_cut (md_K dA (md_fs F 0 0) (md_is (md_is I 9 (upd (I 9) (Int32.toNatClampNeg (nI ((8 * m0) + a))) (nI 3))) 10 (upd (I 10) (Int32.toNatClampNeg (nI ((8 * m0) + a))) x3)) J q h) (md_wI hP4_ 10 (by decide) rfl) rfl rfl rfl (fun h5_ hP5_ => ?_)
    refine z_aload_n C dd_Q_operation_197 rfl ?_
    refine gf_Q_39 (v := .ref (q + 1 + 8)) C dd_Q_operation_198 hP5_.1.1 rfl ?_
    refine z_iload_n C dd_Q_operation_201 rfl ?_
    refine z_dup2_11 C dd_Q_operation_202 rfl rfl ?_
    refine z_iald (t0 := 0) (N := 12) (f := (I 8)) C rfl dd_Q_operation_203 (hP5_.1.2 8 (by decide)) (vp_in_nI (by omega) (by decide)) ?_
    refine z_topi (y := nI a) (by rw [nI_clamp (by omega)]; exact hat.symm) ?_
    refine z_iconst (v := 1) C dd_Q_operation_204 (by decide) ?_
    refine z_iadd C dd_Q_operation_205 ?_
    refine z_topi (y := nI (a + 1)) (by first | exact (nI_add _ _).symm | (rw [← nI_add]; rfl)) ?_
    refine z_iast (t0 := 0) (N := 12) (f := (I 8)) C rfl dd_Q_operation_206 (hP5_.1.2 8 (by decide)) (vp_in_nI (by omega) (by decide)) ?_
    refine z_cut (md_K dA (md_fs F 0 0) (md_is (md_is (md_is I 9 (upd (I 9) (Int32.toNatClampNeg (nI ((8 * m0) + a))) (nI 3))) 10 (upd (I 10) (Int32.toNatClampNeg (nI ((8 * m0) + a))) x3)) 8 (upd (I 8) (Int32.toNatClampNeg (nI m0)) (nI (a + 1)))) J q h) (md_wI hP5_ 8 (by decide) rfl) rfl rfl rfl (fun h6_ hP6_ => ?_)
    refine z_aload_n C dd_Q_operation_207 rfl ?_
    refine gf_Q_39 (v := .ref (q + 1 + 8)) C dd_Q_operation_208 hP6_.1.1 rfl ?_
    refine z_iload_n C dd_Q_operation_211 rfl ?_
    refine z_iald (t0 := 0) (N := 12) (f := (upd (I 8) (Int32.toNatClampNeg (nI m0)) (nI (a + 1)))) C rfl dd_Q_operation_212 (hP6_.1.2 8 (by decide)) (vp_in_nI (by omega) (by decide)) ?_
    refine z_topi (y := nI (a + 1)) (by rw [nI_clamp (by omega), pk_us]) ?_
    exact z_iret C dd_Q_operation_213 ⟨rfl, Or.inr ⟨m0, 3, g0, ar, a, hm, rfl, by decide, rfl, hg, eo, ha, har, h9, hat, Or.inr (Or.inr ⟨(by simp [pu_oin, q12]), by omega, rfl, md_Ke hP6_ (by rw [nI_clamp (n := 8 * m0 + a) (by omega), nI_clamp (n := m0) (by omega)]; rfl)⟩)⟩⟩ (by decide) (by decide)
  · replace q12 : a = 8 := (@nI_eq a 8 (by omega) (by omega)).mp q12
    refine z_iconst (v := 2) C dd_Q_operation_146 (by decide) ?_
    refine z_goto (tgt := 151) C dd_Q_operation_147 (by decide) ?_
    refine pf_Q_121 C dd_Q_operation_151 hP.1.1 (Nat.le_of_ble_eq_true rfl) rfl rfl ?_
    refine z_cut (md_K dA (md_fs F 0 2) I J q h) (md_wF hP rfl) rfl rfl rfl (fun h7_ hP7_ => ?_)
    refine z_aload_n C dd_Q_operation_154 rfl ?_
    refine gf_Q_121 (v := .int 2) C dd_Q_operation_155 hP7_.1.1 rfl ?_
    refine z_if_le (tgt := 163) C dd_Q_operation_158 (by decide) (fun q14 => absurd q14 (by decide)) (fun q14 => ?_)
    refine z_iconst (v := 0) C dd_Q_operation_161 (by decide) ?_
    exact z_iret C dd_Q_operation_162 ⟨rfl, Or.inr ⟨m0, 3, g0, ar, a, hm, rfl, by decide, rfl, hg, eo, ha, har, h9, hat, Or.inr (Or.inl ⟨(by simp [pu_oin, q12]), by omega, rfl, hP7_⟩)⟩⟩ (by decide) (by decide)
set_option maxRecDepth 20000 in
/-- operation -/
theorem ca_Q_operation_4 (l : Launch) (D : va_G) (dA : Nat → ClassId) (B : Nat) (h : zz_H) (n : Nat) (q : Nat) (F : Nat → Int32) (I : Nat → Nat → Int32) (J : Nat → Nat → Int64) (hP0 : md_P dA F I J q h) (nc ng nM : Nat) (W : pu_W F I nc ng nM) (m0 g0 ar a : Nat) (hm : m0 < nM) (hg : g0 < ng) (eo : I 2 m0 = nI g0) (ha : ar = 1 ∨ ar = 2) (har : I 1 g0 = nI ar) (h9 : a ≤ 8) (hat : I 8 m0 = nI a) (x3 : Int32) : zz_M l D zz_cl (zz_ty dA) B zz_tb (zz_x B) yy_Q_operation (Cond.code yy_Q_operation bb_Q_operation 5 (some FieldType.int)) rm_Q_operation [.ref q, .int ((nI m0)), .int ((nI 4)), .int x3] h n zz_mi (fun r h' n' => n' = n ∧ (((pu_iv (nI m0) 0 (nI nM - 1) && pu_iv (nI 4) 0 (nI 6)) = false ∧ r = 0 ∧ md_K dA (md_fs F 0 1) I J q h h') ∨ (∃ m9 k9 g9 r9 a9, m9 < nM ∧ (nI m0) = nI m9 ∧ k9 < 7 ∧ (nI 4) = nI k9 ∧ g9 < ng ∧ I 2 m9 = nI g9 ∧ (r9 = 1 ∨ r9 = 2) ∧ I 1 g9 = nI r9 ∧ a9 ≤ 8 ∧ I 8 m9 = nI a9 ∧ ((pu_oin nc ng r9 k9 x3 = false ∧ r = 0 ∧ md_K dA (md_fs F 0 1) I J q h h') ∨ (pu_oin nc ng r9 k9 x3 = true ∧ a9 = 8 ∧ r = 0 ∧ md_K dA (md_fs F 0 2) I J q h h') ∨ (pu_oin nc ng r9 k9 x3 = true ∧ a9 < 8 ∧ r = nI (a9 + 1) ∧ md_K dA (md_fs F 0 0) (pu_addO I m9 a9 k9 x3) J q h h'))))) := by
  refine zz_ofW (zz_f B) [some (.ref q), some (.int ((nI m0))), some (.int ((nI 4))), some (.int x3), none] (by decide) rfl rfl (Nat.le_of_ble_eq_true rfl) ?_
  intro p e s m below meth c C
  have hg4 := W.g4
  have h12 := W.m12
  have h8 := W.c8
  have hP := md_rf hP0
  refine z_iload_n C dd_Q_operation_0 rfl ?_
  refine z_iconst (v := 0) C dd_Q_operation_1 (by decide) ?_
  refine z_aload_n C dd_Q_operation_2 rfl ?_
  refine gf_Q_138 (v := .int (F 5)) C dd_Q_operation_3 hP.1.1 rfl ?_
  refine z_topi (y := nI nM) W.fm.symm ?_
  refine z_iconst (v := 1) C dd_Q_operation_6 (by decide) ?_
  refine z_isub C dd_Q_operation_7 ?_
  refine is_Q_127 (sk := fun r => .int r :: []) (zz_f B) C dd_Q_operation_8 (cn_Q_in l D dA B _ _ _ _ _) rfl rfl ⟨by decide, by decide⟩ (Nat.le_of_ble_eq_true rfl) ⟨by decide, by decide⟩ (fun _ => rfl) (fun v1_ h1_ n1_ p1_ => ?_)
  obtain ⟨e1_, f1_, rfl⟩ := p1_
  have e1z := e1_.symm
  have f1z := f1_.symm
  subst e1z
  subst f1z
  refine z_if_eq (tgt := 28) C dd_Q_operation_11 (by decide) (fun q1 => absurd ((pu_b0 _).mp q1) (by rw [(pu_iv_0 (by omega)).mpr ⟨m0, hm, rfl⟩]; decide)) (fun q1 => ?_)
  refine z_iload_n C dd_Q_operation_14 rfl ?_
  refine z_iconst (v := 0) C dd_Q_operation_15 (by decide) ?_
  refine z_bipush (v := 6) C dd_Q_operation_16 (by decide) ?_
  refine is_Q_127 (sk := fun r => .int r :: []) (zz_f B) C dd_Q_operation_18 (cn_Q_in l D dA B _ _ _ _ _) rfl rfl ⟨by decide, by decide⟩ (Nat.le_of_ble_eq_true rfl) ⟨by decide, by decide⟩ (fun _ => rfl) (fun v2_ h2_ n2_ p2_ => ?_)
  obtain ⟨e2_, f2_, rfl⟩ := p2_
  have e2z := e2_.symm
  have f2z := f2_.symm
  subst e2z
  subst f2z
  refine z_if_eq (tgt := 28) C dd_Q_operation_21 (by decide) (fun q2 => absurd q2 (by decide)) (fun q2 => ?_)
  refine z_iconst (v := 1) C dd_Q_operation_24 (by decide) ?_
  refine z_goto (tgt := 29) C dd_Q_operation_25 (by decide) ?_
  refine z_istore C dd_Q_operation_29 rfl ?_
  refine z_iload C dd_Q_operation_31 rfl ?_
  refine z_if_eq (tgt := 49) C dd_Q_operation_33 (by decide) (fun q3 => absurd q3 (by decide)) (fun q3 => ?_)
  refine z_iload_n C dd_Q_operation_36 rfl ?_
  refine z_if_ne (tgt := 49) C dd_Q_operation_37 (by decide) (fun q4 => ?_) (fun q4 => absurd q4 (by decide))
  refine z_iload C dd_Q_operation_49 rfl ?_
  refine z_if_eq (tgt := 79) C dd_Q_operation_51 (by decide) (fun q5 => absurd q5 (by decide)) (fun q5 => ?_)
  refine z_iload_n C dd_Q_operation_54 rfl ?_
  refine z_iconst (v := 1) C dd_Q_operation_55 (by decide) ?_
  refine z_icmp_ne (tgt := 79) C dd_Q_operation_56 (by decide) (fun q6 => ?_) (fun q6 => absurd q6 (by decide))
  refine z_iload C dd_Q_operation_79 rfl ?_
  refine z_if_eq (tgt := 102) C dd_Q_operation_81 (by decide) (fun q7 => absurd q7 (by decide)) (fun q7 => ?_)
  refine z_iload_n C dd_Q_operation_84 rfl ?_
  refine z_iconst (v := 4) C dd_Q_operation_85 (by decide) ?_
  refine z_icmp_ne (tgt := 102) C dd_Q_operation_86 (by decide) (fun q8 => absurd (by decide) q8) (fun q8 => ?_)
  refine z_iload_n C dd_Q_operation_89 rfl ?_
  refine z_iconst (v := 0) C dd_Q_operation_90 (by decide) ?_
  refine z_aload_n C dd_Q_operation_91 rfl ?_
  refine gf_Q_7 (v := .int (F 1)) C dd_Q_operation_92 hP.1.1 rfl ?_
  refine z_topi (y := nI nc) W.fc.symm ?_
  refine z_iconst (v := 1) C dd_Q_operation_95 (by decide) ?_
  refine z_isub C dd_Q_operation_96 ?_
  refine is_Q_127 (sk := fun r => .int r :: []) (zz_f B) C dd_Q_operation_97 (cn_Q_in l D dA B _ _ _ _ _) rfl rfl ⟨by decide, by decide⟩ (Nat.le_of_ble_eq_true rfl) ⟨by decide, by decide⟩ (fun _ => rfl) (fun v3_ h3_ n3_ p3_ => ?_)
  obtain ⟨e3_, f3_, rfl⟩ := p3_
  have e3z := e3_.symm
  have f3z := f3_.symm
  subst e3z
  subst f3z
  rcases Bool.eq_false_or_eq_true (pu_iv x3 0 ((nI nc) - 1)) with hb4 | hb4
  · skip
    refine z_topi (y := 1) (by rw [hb4]; rfl) ?_
    refine z_istore C dd_Q_operation_100 rfl ?_
    refine z_iload C dd_Q_operation_102 rfl ?_
    refine z_if_eq (tgt := 125) C dd_Q_operation_104 (by decide) (fun q9 => absurd q9 (by decide)) (fun q9 => ?_)
    refine z_iload_n C dd_Q_operation_107 rfl ?_
    refine z_iconst (v := 5) C dd_Q_operation_108 (by decide) ?_
    refine z_icmp_ne (tgt := 125) C dd_Q_operation_109 (by decide) (fun q10 => ?_) (fun q10 => absurd q10 (by decide))
    refine z_aload_n C dd_Q_operation_125 rfl ?_
    refine z_iload C dd_Q_operation_126 rfl ?_
    refine z_if_ne (tgt := 135) C dd_Q_operation_128 (by decide) (fun q11 => ?_) (fun q11 => absurd q11 (by decide))
    refine z_aload_n C dd_Q_operation_135 rfl ?_
    refine gf_Q_39 (v := .ref (q + 1 + 8)) C dd_Q_operation_136 hP.1.1 rfl ?_
    refine z_iload_n C dd_Q_operation_139 rfl ?_
    refine z_iald (t0 := 0) (N := 12) (f := (I 8)) C rfl dd_Q_operation_140 (hP.1.2 8 (by decide)) (vp_in_nI (by omega) (by decide)) ?_
    refine z_topi (y := nI a) (by rw [nI_clamp (by omega)]; exact hat.symm) ?_
    refine z_bipush (v := 8) C dd_Q_operation_141 (by decide) ?_
    refine z_icmp_ne (tgt := 150) C dd_Q_operation_143 (by decide) (fun q12 => ?_) (fun q12 => ?_)
    · replace q12 : ¬ a = 8 := fun z => q12 ((@nI_eq a 8 (by omega) (by omega)).mpr z)
      refine z_iconst (v := 0) C dd_Q_operation_150 (by decide) ?_
      refine pf_Q_121 C dd_Q_operation_151 hP.1.1 (Nat.le_of_ble_eq_true rfl) rfl rfl ?_
      refine z_cut (md_K dA (md_fs F 0 0) I J q h) (md_wF hP rfl) rfl rfl rfl (fun h5_ hP5_ => ?_)
      refine z_aload_n C dd_Q_operation_154 rfl ?_
      refine gf_Q_121 (v := .int 0) C dd_Q_operation_155 hP5_.1.1 rfl ?_
      refine z_if_le (tgt := 163) C dd_Q_operation_158 (by decide) (fun q13 => ?_) (fun q13 => absurd (by decide) q13)
      refine z_aload_n C dd_Q_operation_163 rfl ?_
      refine gf_Q_42 (v := .ref (q + 1 + 9)) C dd_Q_operation_164 hP5_.1.1 rfl ?_
      refine z_bipush (v := 8) C dd_Q_operation_167 (by decide) ?_
      refine z_iload_n C dd_Q_operation_169 rfl ?_
      refine z_imul C dd_Q_operation_170 ?_
      refine z_topi (y := nI (8 * m0)) (by first | exact (pk_mul _ _).symm | (rw [← pk_mul]; rfl)) ?_
      refine z_aload_n C dd_Q_operation_171 rfl ?_
      refine gf_Q_39 (v := .ref (q + 1 + 8)) C dd_Q_operation_172 hP5_.1.1 rfl ?_
      refine z_iload_n C dd_Q_operation_175 rfl ?_
      refine z_iald (t0 := 0) (N := 12) (f := (I 8)) C rfl dd_Q_operation_176 (hP5_.1.2 8 (by decide)) (vp_in_nI (by omega) (by decide)) ?_
      refine z_topi (y := nI a) (by rw [nI_clamp (by omega)]; exact hat.symm) ?_
      refine z_iadd C dd_Q_operation_177 ?_
      refine z_topi (y := nI ((8 * m0) + a)) (by first | exact (nI_add _ _).symm | (rw [← nI_add]; rfl)) ?_
      refine z_iload_n C dd_Q_operation_178 rfl ?_
      refine z_iast (t0 := 0) (N := 96) (f := (I 9)) C rfl dd_Q_operation_179 (hP5_.1.2 9 (by decide)) (vp_in_nI (by omega) (by decide)) ?_
      refine z_cut (md_K dA (md_fs F 0 0) (md_is I 9 (upd (I 9) (Int32.toNatClampNeg (nI ((8 * m0) + a))) (nI 4))) J q h) (md_wI hP5_ 9 (by decide) rfl) rfl rfl rfl (fun h6_ hP6_ => ?_)
      refine z_aload_n C dd_Q_operation_180 rfl ?_
      refine gf_Q_45 (v := .ref (q + 1 + 10)) C dd_Q_operation_181 hP6_.1.1 rfl ?_
      refine z_bipush (v := 8) C dd_Q_operation_184 (by decide) ?_
      refine z_iload_n C dd_Q_operation_186 rfl ?_
      refine z_imul C dd_Q_operation_187 ?_
      refine z_topi (y := nI (8 * m0)) (by first | exact (pk_mul _ _).symm | (rw [← pk_mul]; rfl)) ?_
      refine z_aload_n C dd_Q_operation_188 rfl ?_
      refine gf_Q_39 (v := .ref (q + 1 + 8)) C dd_Q_operation_189 hP6_.1.1 rfl ?_
      refine z_iload_n C dd_Q_operation_192 rfl ?_
      refine z_iald (t0 := 0) (N := 12) (f := (I 8)) C rfl dd_Q_operation_193 (hP6_.1.2 8 (by decide)) (vp_in_nI (by omega) (by decide)) ?_
      refine z_topi (y := nI a) (by rw [nI_clamp (by omega)]; exact hat.symm) ?_
      refine z_iadd C dd_Q_operation_194 ?_
      refine z_topi (y := nI ((8 * m0) + a)) (by first | exact (nI_add _ _).symm | (rw [← nI_add]; rfl)) ?_
      refine z_iload_n C dd_Q_operation_195 rfl ?_
      refine z_iast (t0 := 0) (N := 96) (f := (I 10)) C rfl dd_Q_operation_196 (hP6_.1.2 10 (by decide)) (vp_in_nI (by omega) (by decide)) ?_
      refine z_cut (md_K dA (md_fs F 0 0) (md_is (md_is I 9 (upd (I 9) (Int32.toNatClampNeg (nI ((8 * m0) + a))) (nI 4))) 10 (upd (I 10) (Int32.toNatClampNeg (nI ((8 * m0) + a))) x3)) J q h) (md_wI hP6_ 10 (by decide) rfl) rfl rfl rfl (fun h7_ hP7_ => ?_)
      refine z_aload_n C dd_Q_operation_197 rfl ?_
      refine gf_Q_39 (v := .ref (q + 1 + 8)) C dd_Q_operation_198 hP7_.1.1 rfl ?_
      refine z_iload_n C dd_Q_operation_201 rfl ?_
      refine z_dup2_11 C dd_Q_operation_202 rfl rfl ?_
      refine z_iald (t0 := 0) (N := 12) (f := (I 8)) C rfl dd_Q_operation_203 (hP7_.1.2 8 (by decide)) (vp_in_nI (by omega) (by decide)) ?_
      refine z_topi (y := nI a) (by rw [nI_clamp (by omega)]; exact hat.symm) ?_
      refine z_iconst (v := 1) C dd_Q_operation_204 (by decide) ?_
      refine z_iadd C dd_Q_operation_205 ?_
      refine z_topi (y := nI (a + 1)) (by first | exact (nI_add _ _).symm | (rw [← nI_add]; rfl)) ?_
      refine z_iast (t0 := 0) (N := 12) (f := (I 8)) C rfl dd_Q_operation_206 (hP7_.1.2 8 (by decide)) (vp_in_nI (by omega) (by decide)) ?_
      refine z_cut (md_K dA (md_fs F 0 0) (md_is (md_is (md_is I 9 (upd (I 9) (Int32.toNatClampNeg (nI ((8 * m0) + a))) (nI 4))) 10 (upd (I 10) (Int32.toNatClampNeg (nI ((8 * m0) + a))) x3)) 8 (upd (I 8) (Int32.toNatClampNeg (nI m0)) (nI (a + 1)))) J q h) (md_wI hP7_ 8 (by decide) rfl) rfl rfl rfl (fun h8_ hP8_ => ?_)
      refine z_aload_n C dd_Q_operation_207 rfl ?_
      refine gf_Q_39 (v := .ref (q + 1 + 8)) C dd_Q_operation_208 hP8_.1.1 rfl ?_
      refine z_iload_n C dd_Q_operation_211 rfl ?_
      refine z_iald (t0 := 0) (N := 12) (f := (upd (I 8) (Int32.toNatClampNeg (nI m0)) (nI (a + 1)))) C rfl dd_Q_operation_212 (hP8_.1.2 8 (by decide)) (vp_in_nI (by omega) (by decide)) ?_
      refine z_topi (y := nI (a + 1)) (by rw [nI_clamp (by omega), pk_us]) ?_
      exact z_iret C dd_Q_operation_213 ⟨rfl, Or.inr ⟨m0, 4, g0, ar, a, hm, rfl, by decide, rfl, hg, eo, ha, har, h9, hat, Or.inr (Or.inr ⟨(by simp [pu_oin, hb4, q12]), by omega, rfl, md_Ke hP8_ (by rw [nI_clamp (n := 8 * m0 + a) (by omega), nI_clamp (n := m0) (by omega)]; rfl)⟩)⟩⟩ (by decide) (by decide)
    · replace q12 : a = 8 := (@nI_eq a 8 (by omega) (by omega)).mp q12
      refine z_iconst (v := 2) C dd_Q_operation_146 (by decide) ?_
      refine z_goto (tgt := 151) C dd_Q_operation_147 (by decide) ?_
      refine pf_Q_121 C dd_Q_operation_151 hP.1.1 (Nat.le_of_ble_eq_true rfl) rfl rfl ?_
      refine z_cut (md_K dA (md_fs F 0 2) I J q h) (md_wF hP rfl) rfl rfl rfl (fun h9_ hP9_ => ?_)
      refine z_aload_n C dd_Q_operation_154 rfl ?_
      refine gf_Q_121 (v := .int 2) C dd_Q_operation_155 hP9_.1.1 rfl ?_
      refine z_if_le (tgt := 163) C dd_Q_operation_158 (by decide) (fun q14 => absurd q14 (by decide)) (fun q14 => ?_)
      refine z_iconst (v := 0) C dd_Q_operation_161 (by decide) ?_
      exact z_iret C dd_Q_operation_162 ⟨rfl, Or.inr ⟨m0, 4, g0, ar, a, hm, rfl, by decide, rfl, hg, eo, ha, har, h9, hat, Or.inr (Or.inl ⟨(by simp [pu_oin, hb4, q12]), by omega, rfl, hP9_⟩)⟩⟩ (by decide) (by decide)
  · skip
    refine z_topi (y := 0) (by rw [hb4]; rfl) ?_
    refine z_istore C dd_Q_operation_100 rfl ?_
    refine z_iload C dd_Q_operation_102 rfl ?_
    refine z_if_eq (tgt := 125) C dd_Q_operation_104 (by decide) (fun q15 => ?_) (fun q15 => absurd (by decide) q15)
    refine z_aload_n C dd_Q_operation_125 rfl ?_
    refine z_iload C dd_Q_operation_126 rfl ?_
    refine z_if_ne (tgt := 135) C dd_Q_operation_128 (by decide) (fun q16 => absurd (by decide) q16) (fun q16 => ?_)
    refine z_iconst (v := 1) C dd_Q_operation_131 (by decide) ?_
    refine z_goto (tgt := 151) C dd_Q_operation_132 (by decide) ?_
    refine pf_Q_121 C dd_Q_operation_151 hP.1.1 (Nat.le_of_ble_eq_true rfl) rfl rfl ?_
    refine z_cut (md_K dA (md_fs F 0 1) I J q h) (md_wF hP rfl) rfl rfl rfl (fun h10_ hP10_ => ?_)
    refine z_aload_n C dd_Q_operation_154 rfl ?_
    refine gf_Q_121 (v := .int 1) C dd_Q_operation_155 hP10_.1.1 rfl ?_
    refine z_if_le (tgt := 163) C dd_Q_operation_158 (by decide) (fun q17 => absurd q17 (by decide)) (fun q17 => ?_)
    refine z_iconst (v := 0) C dd_Q_operation_161 (by decide) ?_
    exact z_iret C dd_Q_operation_162 ⟨rfl, Or.inr ⟨m0, 4, g0, ar, a, hm, rfl, by decide, rfl, hg, eo, ha, har, h9, hat, Or.inl ⟨(by simp [pu_oin, hb4]), rfl, hP10_⟩⟩⟩ (by decide) (by decide)
set_option maxRecDepth 20000 in
/-- operation -/
theorem ca_Q_operation_5 (l : Launch) (D : va_G) (dA : Nat → ClassId) (B : Nat) (h : zz_H) (n : Nat) (q : Nat) (F : Nat → Int32) (I : Nat → Nat → Int32) (J : Nat → Nat → Int64) (hP0 : md_P dA F I J q h) (nc ng nM : Nat) (W : pu_W F I nc ng nM) (m0 g0 ar a : Nat) (hm : m0 < nM) (hg : g0 < ng) (eo : I 2 m0 = nI g0) (ha : ar = 1 ∨ ar = 2) (har : I 1 g0 = nI ar) (h9 : a ≤ 8) (hat : I 8 m0 = nI a) (x3 : Int32) : zz_M l D zz_cl (zz_ty dA) B zz_tb (zz_x B) yy_Q_operation (Cond.code yy_Q_operation bb_Q_operation 5 (some FieldType.int)) rm_Q_operation [.ref q, .int ((nI m0)), .int ((nI 5)), .int x3] h n zz_mi (fun r h' n' => n' = n ∧ (((pu_iv (nI m0) 0 (nI nM - 1) && pu_iv (nI 5) 0 (nI 6)) = false ∧ r = 0 ∧ md_K dA (md_fs F 0 1) I J q h h') ∨ (∃ m9 k9 g9 r9 a9, m9 < nM ∧ (nI m0) = nI m9 ∧ k9 < 7 ∧ (nI 5) = nI k9 ∧ g9 < ng ∧ I 2 m9 = nI g9 ∧ (r9 = 1 ∨ r9 = 2) ∧ I 1 g9 = nI r9 ∧ a9 ≤ 8 ∧ I 8 m9 = nI a9 ∧ ((pu_oin nc ng r9 k9 x3 = false ∧ r = 0 ∧ md_K dA (md_fs F 0 1) I J q h h') ∨ (pu_oin nc ng r9 k9 x3 = true ∧ a9 = 8 ∧ r = 0 ∧ md_K dA (md_fs F 0 2) I J q h h') ∨ (pu_oin nc ng r9 k9 x3 = true ∧ a9 < 8 ∧ r = nI (a9 + 1) ∧ md_K dA (md_fs F 0 0) (pu_addO I m9 a9 k9 x3) J q h h'))))) := by
  refine zz_ofW (zz_f B) [some (.ref q), some (.int ((nI m0))), some (.int ((nI 5))), some (.int x3), none] (by decide) rfl rfl (Nat.le_of_ble_eq_true rfl) ?_
  intro p e s m below meth c C
  have hg4 := W.g4
  have h12 := W.m12
  have h8 := W.c8
  have hP := md_rf hP0
  refine z_iload_n C dd_Q_operation_0 rfl ?_
  refine z_iconst (v := 0) C dd_Q_operation_1 (by decide) ?_
  refine z_aload_n C dd_Q_operation_2 rfl ?_
  refine gf_Q_138 (v := .int (F 5)) C dd_Q_operation_3 hP.1.1 rfl ?_
  refine z_topi (y := nI nM) W.fm.symm ?_
  refine z_iconst (v := 1) C dd_Q_operation_6 (by decide) ?_
  refine z_isub C dd_Q_operation_7 ?_
  refine is_Q_127 (sk := fun r => .int r :: []) (zz_f B) C dd_Q_operation_8 (cn_Q_in l D dA B _ _ _ _ _) rfl rfl ⟨by decide, by decide⟩ (Nat.le_of_ble_eq_true rfl) ⟨by decide, by decide⟩ (fun _ => rfl) (fun v1_ h1_ n1_ p1_ => ?_)
  obtain ⟨e1_, f1_, rfl⟩ := p1_
  have e1z := e1_.symm
  have f1z := f1_.symm
  subst e1z
  subst f1z
  refine z_if_eq (tgt := 28) C dd_Q_operation_11 (by decide) (fun q1 => absurd ((pu_b0 _).mp q1) (by rw [(pu_iv_0 (by omega)).mpr ⟨m0, hm, rfl⟩]; decide)) (fun q1 => ?_)
  refine z_iload_n C dd_Q_operation_14 rfl ?_
  refine z_iconst (v := 0) C dd_Q_operation_15 (by decide) ?_
  refine z_bipush (v := 6) C dd_Q_operation_16 (by decide) ?_
  refine is_Q_127 (sk := fun r => .int r :: []) (zz_f B) C dd_Q_operation_18 (cn_Q_in l D dA B _ _ _ _ _) rfl rfl ⟨by decide, by decide⟩ (Nat.le_of_ble_eq_true rfl) ⟨by decide, by decide⟩ (fun _ => rfl) (fun v2_ h2_ n2_ p2_ => ?_)
  obtain ⟨e2_, f2_, rfl⟩ := p2_
  have e2z := e2_.symm
  have f2z := f2_.symm
  subst e2z
  subst f2z
  refine z_if_eq (tgt := 28) C dd_Q_operation_21 (by decide) (fun q2 => absurd q2 (by decide)) (fun q2 => ?_)
  refine z_iconst (v := 1) C dd_Q_operation_24 (by decide) ?_
  refine z_goto (tgt := 29) C dd_Q_operation_25 (by decide) ?_
  refine z_istore C dd_Q_operation_29 rfl ?_
  refine z_iload C dd_Q_operation_31 rfl ?_
  refine z_if_eq (tgt := 49) C dd_Q_operation_33 (by decide) (fun q3 => absurd q3 (by decide)) (fun q3 => ?_)
  refine z_iload_n C dd_Q_operation_36 rfl ?_
  refine z_if_ne (tgt := 49) C dd_Q_operation_37 (by decide) (fun q4 => ?_) (fun q4 => absurd q4 (by decide))
  refine z_iload C dd_Q_operation_49 rfl ?_
  refine z_if_eq (tgt := 79) C dd_Q_operation_51 (by decide) (fun q5 => absurd q5 (by decide)) (fun q5 => ?_)
  refine z_iload_n C dd_Q_operation_54 rfl ?_
  refine z_iconst (v := 1) C dd_Q_operation_55 (by decide) ?_
  refine z_icmp_ne (tgt := 79) C dd_Q_operation_56 (by decide) (fun q6 => ?_) (fun q6 => absurd q6 (by decide))
  refine z_iload C dd_Q_operation_79 rfl ?_
  refine z_if_eq (tgt := 102) C dd_Q_operation_81 (by decide) (fun q7 => absurd q7 (by decide)) (fun q7 => ?_)
  refine z_iload_n C dd_Q_operation_84 rfl ?_
  refine z_iconst (v := 4) C dd_Q_operation_85 (by decide) ?_
  refine z_icmp_ne (tgt := 102) C dd_Q_operation_86 (by decide) (fun q8 => ?_) (fun q8 => absurd q8 (by decide))
  refine z_iload C dd_Q_operation_102 rfl ?_
  refine z_if_eq (tgt := 125) C dd_Q_operation_104 (by decide) (fun q9 => absurd q9 (by decide)) (fun q9 => ?_)
  refine z_iload_n C dd_Q_operation_107 rfl ?_
  refine z_iconst (v := 5) C dd_Q_operation_108 (by decide) ?_
  refine z_icmp_ne (tgt := 125) C dd_Q_operation_109 (by decide) (fun q10 => absurd (by decide) q10) (fun q10 => ?_)
  refine z_iload_n C dd_Q_operation_112 rfl ?_
  refine z_iconst (v := 0) C dd_Q_operation_113 (by decide) ?_
  refine z_aload_n C dd_Q_operation_114 rfl ?_
  refine gf_Q_135 (v := .int (F 3)) C dd_Q_operation_115 hP.1.1 rfl ?_
  refine z_topi (y := nI ng) W.fg.symm ?_
  refine z_iconst (v := 1) C dd_Q_operation_118 (by decide) ?_
  refine z_isub C dd_Q_operation_119 ?_
  refine is_Q_127 (sk := fun r => .int r :: []) (zz_f B) C dd_Q_operation_120 (cn_Q_in l D dA B _ _ _ _ _) rfl rfl ⟨by decide, by decide⟩ (Nat.le_of_ble_eq_true rfl) ⟨by decide, by decide⟩ (fun _ => rfl) (fun v3_ h3_ n3_ p3_ => ?_)
  obtain ⟨e3_, f3_, rfl⟩ := p3_
  have e3z := e3_.symm
  have f3z := f3_.symm
  subst e3z
  subst f3z
  rcases Bool.eq_false_or_eq_true (pu_iv x3 0 ((nI ng) - 1)) with hb4 | hb4
  · skip
    refine z_topi (y := 1) (by rw [hb4]; rfl) ?_
    refine z_istore C dd_Q_operation_123 rfl ?_
    refine z_aload_n C dd_Q_operation_125 rfl ?_
    refine z_iload C dd_Q_operation_126 rfl ?_
    refine z_if_ne (tgt := 135) C dd_Q_operation_128 (by decide) (fun q11 => ?_) (fun q11 => absurd q11 (by decide))
    refine z_aload_n C dd_Q_operation_135 rfl ?_
    refine gf_Q_39 (v := .ref (q + 1 + 8)) C dd_Q_operation_136 hP.1.1 rfl ?_
    refine z_iload_n C dd_Q_operation_139 rfl ?_
    refine z_iald (t0 := 0) (N := 12) (f := (I 8)) C rfl dd_Q_operation_140 (hP.1.2 8 (by decide)) (vp_in_nI (by omega) (by decide)) ?_
    refine z_topi (y := nI a) (by rw [nI_clamp (by omega)]; exact hat.symm) ?_
    refine z_bipush (v := 8) C dd_Q_operation_141 (by decide) ?_
    refine z_icmp_ne (tgt := 150) C dd_Q_operation_143 (by decide) (fun q12 => ?_) (fun q12 => ?_)
    · replace q12 : ¬ a = 8 := fun z => q12 ((@nI_eq a 8 (by omega) (by omega)).mpr z)
      refine z_iconst (v := 0) C dd_Q_operation_150 (by decide) ?_
      refine pf_Q_121 C dd_Q_operation_151 hP.1.1 (Nat.le_of_ble_eq_true rfl) rfl rfl ?_
      refine z_cut (md_K dA (md_fs F 0 0) I J q h) (md_wF hP rfl) rfl rfl rfl (fun h5_ hP5_ => ?_)
      refine z_aload_n C dd_Q_operation_154 rfl ?_
      refine gf_Q_121 (v := .int 0) C dd_Q_operation_155 hP5_.1.1 rfl ?_
      refine z_if_le (tgt := 163) C dd_Q_operation_158 (by decide) (fun q13 => ?_) (fun q13 => absurd (by decide) q13)
      refine z_aload_n C dd_Q_operation_163 rfl ?_
      refine gf_Q_42 (v := .ref (q + 1 + 9)) C dd_Q_operation_164 hP5_.1.1 rfl ?_
      refine z_bipush (v := 8) C dd_Q_operation_167 (by decide) ?_
      refine z_iload_n C dd_Q_operation_169 rfl ?_
      refine z_imul C dd_Q_operation_170 ?_
      refine z_topi (y := nI (8 * m0)) (by first | exact (pk_mul _ _).symm | (rw [← pk_mul]; rfl)) ?_
      refine z_aload_n C dd_Q_operation_171 rfl ?_
      refine gf_Q_39 (v := .ref (q + 1 + 8)) C dd_Q_operation_172 hP5_.1.1 rfl ?_
      refine z_iload_n C dd_Q_operation_175 rfl ?_
      refine z_iald (t0 := 0) (N := 12) (f := (I 8)) C rfl dd_Q_operation_176 (hP5_.1.2 8 (by decide)) (vp_in_nI (by omega) (by decide)) ?_
      refine z_topi (y := nI a) (by rw [nI_clamp (by omega)]; exact hat.symm) ?_
      refine z_iadd C dd_Q_operation_177 ?_
      refine z_topi (y := nI ((8 * m0) + a)) (by first | exact (nI_add _ _).symm | (rw [← nI_add]; rfl)) ?_
      refine z_iload_n C dd_Q_operation_178 rfl ?_
      refine z_iast (t0 := 0) (N := 96) (f := (I 9)) C rfl dd_Q_operation_179 (hP5_.1.2 9 (by decide)) (vp_in_nI (by omega) (by decide)) ?_
      refine z_cut (md_K dA (md_fs F 0 0) (md_is I 9 (upd (I 9) (Int32.toNatClampNeg (nI ((8 * m0) + a))) (nI 5))) J q h) (md_wI hP5_ 9 (by decide) rfl) rfl rfl rfl (fun h6_ hP6_ => ?_)
      refine z_aload_n C dd_Q_operation_180 rfl ?_
      refine gf_Q_45 (v := .ref (q + 1 + 10)) C dd_Q_operation_181 hP6_.1.1 rfl ?_
      refine z_bipush (v := 8) C dd_Q_operation_184 (by decide) ?_
      refine z_iload_n C dd_Q_operation_186 rfl ?_
      refine z_imul C dd_Q_operation_187 ?_
      refine z_topi (y := nI (8 * m0)) (by first | exact (pk_mul _ _).symm | (rw [← pk_mul]; rfl)) ?_
      refine z_aload_n C dd_Q_operation_188 rfl ?_
      refine gf_Q_39 (v := .ref (q + 1 + 8)) C dd_Q_operation_189 hP6_.1.1 rfl ?_
      refine z_iload_n C dd_Q_operation_192 rfl ?_
      refine z_iald (t0 := 0) (N := 12) (f := (I 8)) C rfl dd_Q_operation_193 (hP6_.1.2 8 (by decide)) (vp_in_nI (by omega) (by decide)) ?_
      refine z_topi (y := nI a) (by rw [nI_clamp (by omega)]; exact hat.symm) ?_
      refine z_iadd C dd_Q_operation_194 ?_
      refine z_topi (y := nI ((8 * m0) + a)) (by first | exact (nI_add _ _).symm | (rw [← nI_add]; rfl)) ?_
      refine z_iload_n C dd_Q_operation_195 rfl ?_
      refine z_iast (t0 := 0) (N := 96) (f := (I 10)) C rfl dd_Q_operation_196 (hP6_.1.2 10 (by decide)) (vp_in_nI (by omega) (by decide)) ?_
      refine z_cut (md_K dA (md_fs F 0 0) (md_is (md_is I 9 (upd (I 9) (Int32.toNatClampNeg (nI ((8 * m0) + a))) (nI 5))) 10 (upd (I 10) (Int32.toNatClampNeg (nI ((8 * m0) + a))) x3)) J q h) (md_wI hP6_ 10 (by decide) rfl) rfl rfl rfl (fun h7_ hP7_ => ?_)
      refine z_aload_n C dd_Q_operation_197 rfl ?_
      refine gf_Q_39 (v := .ref (q + 1 + 8)) C dd_Q_operation_198 hP7_.1.1 rfl ?_
      refine z_iload_n C dd_Q_operation_201 rfl ?_
      refine z_dup2_11 C dd_Q_operation_202 rfl rfl ?_
      refine z_iald (t0 := 0) (N := 12) (f := (I 8)) C rfl dd_Q_operation_203 (hP7_.1.2 8 (by decide)) (vp_in_nI (by omega) (by decide)) ?_
      refine z_topi (y := nI a) (by rw [nI_clamp (by omega)]; exact hat.symm) ?_
      refine z_iconst (v := 1) C dd_Q_operation_204 (by decide) ?_
      refine z_iadd C dd_Q_operation_205 ?_
      refine z_topi (y := nI (a + 1)) (by first | exact (nI_add _ _).symm | (rw [← nI_add]; rfl)) ?_
      refine z_iast (t0 := 0) (N := 12) (f := (I 8)) C rfl dd_Q_operation_206 (hP7_.1.2 8 (by decide)) (vp_in_nI (by omega) (by decide)) ?_
      refine z_cut (md_K dA (md_fs F 0 0) (md_is (md_is (md_is I 9 (upd (I 9) (Int32.toNatClampNeg (nI ((8 * m0) + a))) (nI 5))) 10 (upd (I 10) (Int32.toNatClampNeg (nI ((8 * m0) + a))) x3)) 8 (upd (I 8) (Int32.toNatClampNeg (nI m0)) (nI (a + 1)))) J q h) (md_wI hP7_ 8 (by decide) rfl) rfl rfl rfl (fun h8_ hP8_ => ?_)
      refine z_aload_n C dd_Q_operation_207 rfl ?_
      refine gf_Q_39 (v := .ref (q + 1 + 8)) C dd_Q_operation_208 hP8_.1.1 rfl ?_
      refine z_iload_n C dd_Q_operation_211 rfl ?_
      refine z_iald (t0 := 0) (N := 12) (f := (upd (I 8) (Int32.toNatClampNeg (nI m0)) (nI (a + 1)))) C rfl dd_Q_operation_212 (hP8_.1.2 8 (by decide)) (vp_in_nI (by omega) (by decide)) ?_
      refine z_topi (y := nI (a + 1)) (by rw [nI_clamp (by omega), pk_us]) ?_
      exact z_iret C dd_Q_operation_213 ⟨rfl, Or.inr ⟨m0, 5, g0, ar, a, hm, rfl, by decide, rfl, hg, eo, ha, har, h9, hat, Or.inr (Or.inr ⟨(by simp [pu_oin, hb4, q12]), by omega, rfl, md_Ke hP8_ (by rw [nI_clamp (n := 8 * m0 + a) (by omega), nI_clamp (n := m0) (by omega)]; rfl)⟩)⟩⟩ (by decide) (by decide)
    · replace q12 : a = 8 := (@nI_eq a 8 (by omega) (by omega)).mp q12
      refine z_iconst (v := 2) C dd_Q_operation_146 (by decide) ?_
      refine z_goto (tgt := 151) C dd_Q_operation_147 (by decide) ?_
      refine pf_Q_121 C dd_Q_operation_151 hP.1.1 (Nat.le_of_ble_eq_true rfl) rfl rfl ?_
      refine z_cut (md_K dA (md_fs F 0 2) I J q h) (md_wF hP rfl) rfl rfl rfl (fun h9_ hP9_ => ?_)
      refine z_aload_n C dd_Q_operation_154 rfl ?_
      refine gf_Q_121 (v := .int 2) C dd_Q_operation_155 hP9_.1.1 rfl ?_
      refine z_if_le (tgt := 163) C dd_Q_operation_158 (by decide) (fun q14 => absurd q14 (by decide)) (fun q14 => ?_)
      refine z_iconst (v := 0) C dd_Q_operation_161 (by decide) ?_
      exact z_iret C dd_Q_operation_162 ⟨rfl, Or.inr ⟨m0, 5, g0, ar, a, hm, rfl, by decide, rfl, hg, eo, ha, har, h9, hat, Or.inr (Or.inl ⟨(by simp [pu_oin, hb4, q12]), by omega, rfl, hP9_⟩)⟩⟩ (by decide) (by decide)
  · skip
    refine z_topi (y := 0) (by rw [hb4]; rfl) ?_
    refine z_istore C dd_Q_operation_123 rfl ?_
    refine z_aload_n C dd_Q_operation_125 rfl ?_
    refine z_iload C dd_Q_operation_126 rfl ?_
    refine z_if_ne (tgt := 135) C dd_Q_operation_128 (by decide) (fun q15 => absurd (by decide) q15) (fun q15 => ?_)
    refine z_iconst (v := 1) C dd_Q_operation_131 (by decide) ?_
    refine z_goto (tgt := 151) C dd_Q_operation_132 (by decide) ?_
    refine pf_Q_121 C dd_Q_operation_151 hP.1.1 (Nat.le_of_ble_eq_true rfl) rfl rfl ?_
    refine z_cut (md_K dA (md_fs F 0 1) I J q h) (md_wF hP rfl) rfl rfl rfl (fun h10_ hP10_ => ?_)
    refine z_aload_n C dd_Q_operation_154 rfl ?_
    refine gf_Q_121 (v := .int 1) C dd_Q_operation_155 hP10_.1.1 rfl ?_
    refine z_if_le (tgt := 163) C dd_Q_operation_158 (by decide) (fun q16 => absurd q16 (by decide)) (fun q16 => ?_)
    refine z_iconst (v := 0) C dd_Q_operation_161 (by decide) ?_
    exact z_iret C dd_Q_operation_162 ⟨rfl, Or.inr ⟨m0, 5, g0, ar, a, hm, rfl, by decide, rfl, hg, eo, ha, har, h9, hat, Or.inl ⟨(by simp [pu_oin, hb4]), rfl, hP10_⟩⟩⟩ (by decide) (by decide)
set_option maxRecDepth 20000 in
/-- operation -/
theorem ca_Q_operation_6 (l : Launch) (D : va_G) (dA : Nat → ClassId) (B : Nat) (h : zz_H) (n : Nat) (q : Nat) (F : Nat → Int32) (I : Nat → Nat → Int32) (J : Nat → Nat → Int64) (hP0 : md_P dA F I J q h) (nc ng nM : Nat) (W : pu_W F I nc ng nM) (m0 g0 ar a : Nat) (hm : m0 < nM) (hg : g0 < ng) (eo : I 2 m0 = nI g0) (ha : ar = 1 ∨ ar = 2) (har : I 1 g0 = nI ar) (h9 : a ≤ 8) (hat : I 8 m0 = nI a) (x3 : Int32) : zz_M l D zz_cl (zz_ty dA) B zz_tb (zz_x B) yy_Q_operation (Cond.code yy_Q_operation bb_Q_operation 5 (some FieldType.int)) rm_Q_operation [.ref q, .int ((nI m0)), .int ((nI 6)), .int x3] h n zz_mi (fun r h' n' => n' = n ∧ (((pu_iv (nI m0) 0 (nI nM - 1) && pu_iv (nI 6) 0 (nI 6)) = false ∧ r = 0 ∧ md_K dA (md_fs F 0 1) I J q h h') ∨ (∃ m9 k9 g9 r9 a9, m9 < nM ∧ (nI m0) = nI m9 ∧ k9 < 7 ∧ (nI 6) = nI k9 ∧ g9 < ng ∧ I 2 m9 = nI g9 ∧ (r9 = 1 ∨ r9 = 2) ∧ I 1 g9 = nI r9 ∧ a9 ≤ 8 ∧ I 8 m9 = nI a9 ∧ ((pu_oin nc ng r9 k9 x3 = false ∧ r = 0 ∧ md_K dA (md_fs F 0 1) I J q h h') ∨ (pu_oin nc ng r9 k9 x3 = true ∧ a9 = 8 ∧ r = 0 ∧ md_K dA (md_fs F 0 2) I J q h h') ∨ (pu_oin nc ng r9 k9 x3 = true ∧ a9 < 8 ∧ r = nI (a9 + 1) ∧ md_K dA (md_fs F 0 0) (pu_addO I m9 a9 k9 x3) J q h h'))))) := by
  refine zz_ofW (zz_f B) [some (.ref q), some (.int ((nI m0))), some (.int ((nI 6))), some (.int x3), none] (by decide) rfl rfl (Nat.le_of_ble_eq_true rfl) ?_
  intro p e s m below meth c C
  have hg4 := W.g4
  have h12 := W.m12
  have h8 := W.c8
  have hP := md_rf hP0
  refine z_iload_n C dd_Q_operation_0 rfl ?_
  refine z_iconst (v := 0) C dd_Q_operation_1 (by decide) ?_
  refine z_aload_n C dd_Q_operation_2 rfl ?_
  refine gf_Q_138 (v := .int (F 5)) C dd_Q_operation_3 hP.1.1 rfl ?_
  refine z_topi (y := nI nM) W.fm.symm ?_
  refine z_iconst (v := 1) C dd_Q_operation_6 (by decide) ?_
  refine z_isub C dd_Q_operation_7 ?_
  refine is_Q_127 (sk := fun r => .int r :: []) (zz_f B) C dd_Q_operation_8 (cn_Q_in l D dA B _ _ _ _ _) rfl rfl ⟨by decide, by decide⟩ (Nat.le_of_ble_eq_true rfl) ⟨by decide, by decide⟩ (fun _ => rfl) (fun v1_ h1_ n1_ p1_ => ?_)
  obtain ⟨e1_, f1_, rfl⟩ := p1_
  have e1z := e1_.symm
  have f1z := f1_.symm
  subst e1z
  subst f1z
  refine z_if_eq (tgt := 28) C dd_Q_operation_11 (by decide) (fun q1 => absurd ((pu_b0 _).mp q1) (by rw [(pu_iv_0 (by omega)).mpr ⟨m0, hm, rfl⟩]; decide)) (fun q1 => ?_)
  refine z_iload_n C dd_Q_operation_14 rfl ?_
  refine z_iconst (v := 0) C dd_Q_operation_15 (by decide) ?_
  refine z_bipush (v := 6) C dd_Q_operation_16 (by decide) ?_
  refine is_Q_127 (sk := fun r => .int r :: []) (zz_f B) C dd_Q_operation_18 (cn_Q_in l D dA B _ _ _ _ _) rfl rfl ⟨by decide, by decide⟩ (Nat.le_of_ble_eq_true rfl) ⟨by decide, by decide⟩ (fun _ => rfl) (fun v2_ h2_ n2_ p2_ => ?_)
  obtain ⟨e2_, f2_, rfl⟩ := p2_
  have e2z := e2_.symm
  have f2z := f2_.symm
  subst e2z
  subst f2z
  refine z_if_eq (tgt := 28) C dd_Q_operation_21 (by decide) (fun q2 => absurd q2 (by decide)) (fun q2 => ?_)
  refine z_iconst (v := 1) C dd_Q_operation_24 (by decide) ?_
  refine z_goto (tgt := 29) C dd_Q_operation_25 (by decide) ?_
  refine z_istore C dd_Q_operation_29 rfl ?_
  refine z_iload C dd_Q_operation_31 rfl ?_
  refine z_if_eq (tgt := 49) C dd_Q_operation_33 (by decide) (fun q3 => absurd q3 (by decide)) (fun q3 => ?_)
  refine z_iload_n C dd_Q_operation_36 rfl ?_
  refine z_if_ne (tgt := 49) C dd_Q_operation_37 (by decide) (fun q4 => ?_) (fun q4 => absurd q4 (by decide))
  refine z_iload C dd_Q_operation_49 rfl ?_
  refine z_if_eq (tgt := 79) C dd_Q_operation_51 (by decide) (fun q5 => absurd q5 (by decide)) (fun q5 => ?_)
  refine z_iload_n C dd_Q_operation_54 rfl ?_
  refine z_iconst (v := 1) C dd_Q_operation_55 (by decide) ?_
  refine z_icmp_ne (tgt := 79) C dd_Q_operation_56 (by decide) (fun q6 => ?_) (fun q6 => absurd q6 (by decide))
  refine z_iload C dd_Q_operation_79 rfl ?_
  refine z_if_eq (tgt := 102) C dd_Q_operation_81 (by decide) (fun q7 => absurd q7 (by decide)) (fun q7 => ?_)
  refine z_iload_n C dd_Q_operation_84 rfl ?_
  refine z_iconst (v := 4) C dd_Q_operation_85 (by decide) ?_
  refine z_icmp_ne (tgt := 102) C dd_Q_operation_86 (by decide) (fun q8 => ?_) (fun q8 => absurd q8 (by decide))
  refine z_iload C dd_Q_operation_102 rfl ?_
  refine z_if_eq (tgt := 125) C dd_Q_operation_104 (by decide) (fun q9 => absurd q9 (by decide)) (fun q9 => ?_)
  refine z_iload_n C dd_Q_operation_107 rfl ?_
  refine z_iconst (v := 5) C dd_Q_operation_108 (by decide) ?_
  refine z_icmp_ne (tgt := 125) C dd_Q_operation_109 (by decide) (fun q10 => ?_) (fun q10 => absurd q10 (by decide))
  refine z_aload_n C dd_Q_operation_125 rfl ?_
  refine z_iload C dd_Q_operation_126 rfl ?_
  refine z_if_ne (tgt := 135) C dd_Q_operation_128 (by decide) (fun q11 => ?_) (fun q11 => absurd q11 (by decide))
  refine z_aload_n C dd_Q_operation_135 rfl ?_
  refine gf_Q_39 (v := .ref (q + 1 + 8)) C dd_Q_operation_136 hP.1.1 rfl ?_
  refine z_iload_n C dd_Q_operation_139 rfl ?_
  refine z_iald (t0 := 0) (N := 12) (f := (I 8)) C rfl dd_Q_operation_140 (hP.1.2 8 (by decide)) (vp_in_nI (by omega) (by decide)) ?_
  refine z_topi (y := nI a) (by rw [nI_clamp (by omega)]; exact hat.symm) ?_
  refine z_bipush (v := 8) C dd_Q_operation_141 (by decide) ?_
  refine z_icmp_ne (tgt := 150) C dd_Q_operation_143 (by decide) (fun q12 => ?_) (fun q12 => ?_)
  · replace q12 : ¬ a = 8 := fun z => q12 ((@nI_eq a 8 (by omega) (by omega)).mpr z)
    refine z_iconst (v := 0) C dd_Q_operation_150 (by decide) ?_
    refine pf_Q_121 C dd_Q_operation_151 hP.1.1 (Nat.le_of_ble_eq_true rfl) rfl rfl ?_
    refine z_cut (md_K dA (md_fs F 0 0) I J q h) (md_wF hP rfl) rfl rfl rfl (fun h3_ hP3_ => ?_)
    refine z_aload_n C dd_Q_operation_154 rfl ?_
    refine gf_Q_121 (v := .int 0) C dd_Q_operation_155 hP3_.1.1 rfl ?_
    refine z_if_le (tgt := 163) C dd_Q_operation_158 (by decide) (fun q13 => ?_) (fun q13 => absurd (by decide) q13)
    refine z_aload_n C dd_Q_operation_163 rfl ?_
    refine gf_Q_42 (v := .ref (q + 1 + 9)) C dd_Q_operation_164 hP3_.1.1 rfl ?_
    refine z_bipush (v := 8) C dd_Q_operation_167 (by decide) ?_
    refine z_iload_n C dd_Q_operation_169 rfl ?_
    refine z_imul C dd_Q_operation_170 ?_
    refine z_topi (y := nI (8 * m0)) (by first | exact (pk_mul _ _).symm | (rw [← pk_mul]; rfl)) ?_
    refine z_aload_n C dd_Q_operation_171 rfl ?_
    refine gf_Q_39 (v := .ref (q + 1 + 8)) C dd_Q_operation_172 hP3_.1.1 rfl ?_
    refine z_iload_n C dd_Q_operation_175 rfl ?_
    refine z_iald (t0 := 0) (N := 12) (f := (I 8)) C rfl dd_Q_operation_176 (hP3_.1.2 8 (by decide)) (vp_in_nI (by omega) (by decide)) ?_
    refine z_topi (y := nI a) (by rw [nI_clamp (by omega)]; exact hat.symm) ?_
    refine z_iadd C dd_Q_operation_177 ?_
    refine z_topi (y := nI ((8 * m0) + a)) (by first | exact (nI_add _ _).symm | (rw [← nI_add]; rfl)) ?_
    refine z_iload_n C dd_Q_operation_178 rfl ?_
    refine z_iast (t0 := 0) (N := 96) (f := (I 9)) C rfl dd_Q_operation_179 (hP3_.1.2 9 (by decide)) (vp_in_nI (by omega) (by decide)) ?_
    refine z_cut (md_K dA (md_fs F 0 0) (md_is I 9 (upd (I 9) (Int32.toNatClampNeg (nI ((8 * m0) + a))) (nI 6))) J q h) (md_wI hP3_ 9 (by decide) rfl) rfl rfl rfl (fun h4_ hP4_ => ?_)
    refine z_aload_n C dd_Q_operation_180 rfl ?_
    refine gf_Q_45 (v := .ref (q + 1 + 10)) C dd_Q_operation_181 hP4_.1.1 rfl ?_
    refine z_bipush (v := 8) C dd_Q_operation_184 (by decide) ?_
    refine z_iload_n C dd_Q_operation_186 rfl ?_
    refine z_imul C dd_Q_operation_187 ?_
    refine z_topi (y := nI (8 * m0)) (by first | exact (pk_mul _ _).symm | (rw [← pk_mul]; rfl)) ?_
    refine z_aload_n C dd_Q_operation_188 rfl ?_
    refine gf_Q_39 (v := .ref (q + 1 + 8)) C dd_Q_operation_189 hP4_.1.1 rfl ?_
    refine z_iload_n C dd_Q_operation_192 rfl ?_
    refine z_iald (t0 := 0) (N := 12) (f := (I 8)) C rfl dd_Q_operation_193 (hP4_.1.2 8 (by decide)) (vp_in_nI (by omega) (by decide)) ?_
    refine z_topi (y := nI a) (by rw [nI_clamp (by omega)]; exact hat.symm) ?_
    refine z_iadd C dd_Q_operation_194 ?_
    refine z_topi (y := nI ((8 * m0) + a)) (by first | exact (nI_add _ _).symm | (rw [← nI_add]; rfl)) ?_
    refine z_iload_n C dd_Q_operation_195 rfl ?_
    refine z_iast (t0 := 0) (N := 96) (f := (I 10)) C rfl dd_Q_operation_196 (hP4_.1.2 10 (by decide)) (vp_in_nI (by omega) (by decide)) ?_
    refine z_cut (md_K dA (md_fs F 0 0) (md_is (md_is I 9 (upd (I 9) (Int32.toNatClampNeg (nI ((8 * m0) + a))) (nI 6))) 10 (upd (I 10) (Int32.toNatClampNeg (nI ((8 * m0) + a))) x3)) J q h) (md_wI hP4_ 10 (by decide) rfl) rfl rfl rfl (fun h5_ hP5_ => ?_)
    refine z_aload_n C dd_Q_operation_197 rfl ?_
    refine gf_Q_39 (v := .ref (q + 1 + 8)) C dd_Q_operation_198 hP5_.1.1 rfl ?_
    refine z_iload_n C dd_Q_operation_201 rfl ?_
    refine z_dup2_11 C dd_Q_operation_202 rfl rfl ?_
    refine z_iald (t0 := 0) (N := 12) (f := (I 8)) C rfl dd_Q_operation_203 (hP5_.1.2 8 (by decide)) (vp_in_nI (by omega) (by decide)) ?_
    refine z_topi (y := nI a) (by rw [nI_clamp (by omega)]; exact hat.symm) ?_
    refine z_iconst (v := 1) C dd_Q_operation_204 (by decide) ?_
    refine z_iadd C dd_Q_operation_205 ?_
    refine z_topi (y := nI (a + 1)) (by first | exact (nI_add _ _).symm | (rw [← nI_add]; rfl)) ?_
    refine z_iast (t0 := 0) (N := 12) (f := (I 8)) C rfl dd_Q_operation_206 (hP5_.1.2 8 (by decide)) (vp_in_nI (by omega) (by decide)) ?_
    refine z_cut (md_K dA (md_fs F 0 0) (md_is (md_is (md_is I 9 (upd (I 9) (Int32.toNatClampNeg (nI ((8 * m0) + a))) (nI 6))) 10 (upd (I 10) (Int32.toNatClampNeg (nI ((8 * m0) + a))) x3)) 8 (upd (I 8) (Int32.toNatClampNeg (nI m0)) (nI (a + 1)))) J q h) (md_wI hP5_ 8 (by decide) rfl) rfl rfl rfl (fun h6_ hP6_ => ?_)
    refine z_aload_n C dd_Q_operation_207 rfl ?_
    refine gf_Q_39 (v := .ref (q + 1 + 8)) C dd_Q_operation_208 hP6_.1.1 rfl ?_
    refine z_iload_n C dd_Q_operation_211 rfl ?_
    refine z_iald (t0 := 0) (N := 12) (f := (upd (I 8) (Int32.toNatClampNeg (nI m0)) (nI (a + 1)))) C rfl dd_Q_operation_212 (hP6_.1.2 8 (by decide)) (vp_in_nI (by omega) (by decide)) ?_
    refine z_topi (y := nI (a + 1)) (by rw [nI_clamp (by omega), pk_us]) ?_
    exact z_iret C dd_Q_operation_213 ⟨rfl, Or.inr ⟨m0, 6, g0, ar, a, hm, rfl, by decide, rfl, hg, eo, ha, har, h9, hat, Or.inr (Or.inr ⟨(by simp [pu_oin, q12]), by omega, rfl, md_Ke hP6_ (by rw [nI_clamp (n := 8 * m0 + a) (by omega), nI_clamp (n := m0) (by omega)]; rfl)⟩)⟩⟩ (by decide) (by decide)
  · replace q12 : a = 8 := (@nI_eq a 8 (by omega) (by omega)).mp q12
    refine z_iconst (v := 2) C dd_Q_operation_146 (by decide) ?_
    refine z_goto (tgt := 151) C dd_Q_operation_147 (by decide) ?_
    refine pf_Q_121 C dd_Q_operation_151 hP.1.1 (Nat.le_of_ble_eq_true rfl) rfl rfl ?_
    refine z_cut (md_K dA (md_fs F 0 2) I J q h) (md_wF hP rfl) rfl rfl rfl (fun h7_ hP7_ => ?_)
    refine z_aload_n C dd_Q_operation_154 rfl ?_
    refine gf_Q_121 (v := .int 2) C dd_Q_operation_155 hP7_.1.1 rfl ?_
    refine z_if_le (tgt := 163) C dd_Q_operation_158 (by decide) (fun q14 => absurd q14 (by decide)) (fun q14 => ?_)
    refine z_iconst (v := 0) C dd_Q_operation_161 (by decide) ?_
    exact z_iret C dd_Q_operation_162 ⟨rfl, Or.inr ⟨m0, 6, g0, ar, a, hm, rfl, by decide, rfl, hg, eo, ha, har, h9, hat, Or.inr (Or.inl ⟨(by simp [pu_oin, q12]), by omega, rfl, hP7_⟩)⟩⟩ (by decide) (by decide)
set_option maxRecDepth 20000 in
/-- out of bounds -/
theorem ca_Q_operation_bad (l : Launch) (D : va_G) (dA : Nat → ClassId) (B : Nat) (h : zz_H) (n : Nat) (q : Nat) (F : Nat → Int32) (I : Nat → Nat → Int32) (J : Nat → Nat → Int64) (hP0 : md_P dA F I J q h) (nc ng nM : Nat) (W : pu_W F I nc ng nM) (x1 x2 x3 : Int32) (hbad : (pu_iv x1 0 (nI nM - 1) && pu_iv x2 0 (nI 6)) = false) : zz_M l D zz_cl (zz_ty dA) B zz_tb (zz_x B) yy_Q_operation (Cond.code yy_Q_operation bb_Q_operation 5 (some FieldType.int)) rm_Q_operation [.ref q, .int x1, .int x2, .int x3] h n zz_mi (fun r h' n' => n' = n ∧ (((pu_iv x1 0 (nI nM - 1) && pu_iv x2 0 (nI 6)) = false ∧ r = 0 ∧ md_K dA (md_fs F 0 1) I J q h h') ∨ (∃ m9 k9 g9 r9 a9, m9 < nM ∧ x1 = nI m9 ∧ k9 < 7 ∧ x2 = nI k9 ∧ g9 < ng ∧ I 2 m9 = nI g9 ∧ (r9 = 1 ∨ r9 = 2) ∧ I 1 g9 = nI r9 ∧ a9 ≤ 8 ∧ I 8 m9 = nI a9 ∧ ((pu_oin nc ng r9 k9 x3 = false ∧ r = 0 ∧ md_K dA (md_fs F 0 1) I J q h h') ∨ (pu_oin nc ng r9 k9 x3 = true ∧ a9 = 8 ∧ r = 0 ∧ md_K dA (md_fs F 0 2) I J q h h') ∨ (pu_oin nc ng r9 k9 x3 = true ∧ a9 < 8 ∧ r = nI (a9 + 1) ∧ md_K dA (md_fs F 0 0) (pu_addO I m9 a9 k9 x3) J q h h'))))) := by
  refine zz_ofW (zz_f B) [some (.ref q), some (.int x1), some (.int x2), some (.int x3), none] (by decide) rfl rfl (Nat.le_of_ble_eq_true rfl) ?_
  intro p e s m below meth c C
  have hP := md_rf hP0
  refine z_iload_n C dd_Q_operation_0 rfl ?_
  refine z_iconst (v := 0) C dd_Q_operation_1 (by decide) ?_
  refine z_aload_n C dd_Q_operation_2 rfl ?_
  refine gf_Q_138 (v := .int (F 5)) C dd_Q_operation_3 hP.1.1 rfl ?_
  refine z_topi (y := nI nM) W.fm.symm ?_
  refine z_iconst (v := 1) C dd_Q_operation_6 (by decide) ?_
  refine z_isub C dd_Q_operation_7 ?_
  refine is_Q_127 (sk := fun r => .int r :: []) (zz_f B) C dd_Q_operation_8 (cn_Q_in l D dA B _ _ _ _ _) rfl rfl ⟨by decide, by decide⟩ (Nat.le_of_ble_eq_true rfl) ⟨by decide, by decide⟩ (fun _ => rfl) (fun v1_ h1_ n1_ p1_ => ?_)
  obtain ⟨e1_, f1_, rfl⟩ := p1_
  have e1z := e1_.symm
  have f1z := f1_.symm
  subst e1z
  subst f1z
  refine z_if_eq (tgt := 28) C dd_Q_operation_11 (by decide) (fun q1 => ?_) (fun q1 => ?_)
  · skip
    refine z_iconst (v := 0) C dd_Q_operation_28 (by decide) ?_
    refine z_istore C dd_Q_operation_29 rfl ?_
    refine z_iload C dd_Q_operation_31 rfl ?_
    refine z_if_eq (tgt := 49) C dd_Q_operation_33 (by decide) (fun q2 => ?_) (fun q2 => absurd (by decide) q2)
    refine z_iload C dd_Q_operation_49 rfl ?_
    refine z_if_eq (tgt := 79) C dd_Q_operation_51 (by decide) (fun q3 => ?_) (fun q3 => absurd (by decide) q3)
    refine z_iload C dd_Q_operation_79 rfl ?_
    refine z_if_eq (tgt := 102) C dd_Q_operation_81 (by decide) (fun q4 => ?_) (fun q4 => absurd (by decide) q4)
    refine z_iload C dd_Q_operation_102 rfl ?_
    refine z_if_eq (tgt := 125) C dd_Q_operation_104 (by decide) (fun q5 => ?_) (fun q5 => absurd (by decide) q5)
    refine z_aload_n C dd_Q_operation_125 rfl ?_
    refine z_iload C dd_Q_operation_126 rfl ?_
    refine z_if_ne (tgt := 135) C dd_Q_operation_128 (by decide) (fun q6 => absurd (by decide) q6) (fun q6 => ?_)
    refine z_iconst (v := 1) C dd_Q_operation_131 (by decide) ?_
    refine z_goto (tgt := 151) C dd_Q_operation_132 (by decide) ?_
    refine pf_Q_121 C dd_Q_operation_151 hP.1.1 (Nat.le_of_ble_eq_true rfl) rfl rfl ?_
    refine z_cut (md_K dA (md_fs F 0 1) I J q h) (md_wF hP rfl) rfl rfl rfl (fun h2_ hP2_ => ?_)
    refine z_aload_n C dd_Q_operation_154 rfl ?_
    refine gf_Q_121 (v := .int 1) C dd_Q_operation_155 hP2_.1.1 rfl ?_
    refine z_if_le (tgt := 163) C dd_Q_operation_158 (by decide) (fun q7 => absurd q7 (by decide)) (fun q7 => ?_)
    refine z_iconst (v := 0) C dd_Q_operation_161 (by decide) ?_
    exact z_iret C dd_Q_operation_162 ⟨rfl, Or.inl ⟨hbad, rfl, hP2_⟩⟩ (by decide) (by decide)
  · skip
    refine z_iload_n C dd_Q_operation_14 rfl ?_
    refine z_iconst (v := 0) C dd_Q_operation_15 (by decide) ?_
    refine z_bipush (v := 6) C dd_Q_operation_16 (by decide) ?_
    refine is_Q_127 (sk := fun r => .int r :: []) (zz_f B) C dd_Q_operation_18 (cn_Q_in l D dA B _ _ _ _ _) rfl rfl ⟨by decide, by decide⟩ (Nat.le_of_ble_eq_true rfl) ⟨by decide, by decide⟩ (fun _ => rfl) (fun v3_ h3_ n3_ p3_ => ?_)
    obtain ⟨e3_, f3_, rfl⟩ := p3_
    have e3z := e3_.symm
    have f3z := f3_.symm
    subst e3z
    subst f3z
    refine z_if_eq (tgt := 28) C dd_Q_operation_21 (by decide) (fun q8 => ?_) (fun q8 => ?_)
    · skip
      refine z_iconst (v := 0) C dd_Q_operation_28 (by decide) ?_
      refine z_istore C dd_Q_operation_29 rfl ?_
      refine z_iload C dd_Q_operation_31 rfl ?_
      refine z_if_eq (tgt := 49) C dd_Q_operation_33 (by decide) (fun q9 => ?_) (fun q9 => absurd (by decide) q9)
      refine z_iload C dd_Q_operation_49 rfl ?_
      refine z_if_eq (tgt := 79) C dd_Q_operation_51 (by decide) (fun q10 => ?_) (fun q10 => absurd (by decide) q10)
      refine z_iload C dd_Q_operation_79 rfl ?_
      refine z_if_eq (tgt := 102) C dd_Q_operation_81 (by decide) (fun q11 => ?_) (fun q11 => absurd (by decide) q11)
      refine z_iload C dd_Q_operation_102 rfl ?_
      refine z_if_eq (tgt := 125) C dd_Q_operation_104 (by decide) (fun q12 => ?_) (fun q12 => absurd (by decide) q12)
      refine z_aload_n C dd_Q_operation_125 rfl ?_
      refine z_iload C dd_Q_operation_126 rfl ?_
      refine z_if_ne (tgt := 135) C dd_Q_operation_128 (by decide) (fun q13 => absurd (by decide) q13) (fun q13 => ?_)
      refine z_iconst (v := 1) C dd_Q_operation_131 (by decide) ?_
      refine z_goto (tgt := 151) C dd_Q_operation_132 (by decide) ?_
      refine pf_Q_121 C dd_Q_operation_151 hP.1.1 (Nat.le_of_ble_eq_true rfl) rfl rfl ?_
      refine z_cut (md_K dA (md_fs F 0 1) I J q h) (md_wF hP rfl) rfl rfl rfl (fun h4_ hP4_ => ?_)
      refine z_aload_n C dd_Q_operation_154 rfl ?_
      refine gf_Q_121 (v := .int 1) C dd_Q_operation_155 hP4_.1.1 rfl ?_
      refine z_if_le (tgt := 163) C dd_Q_operation_158 (by decide) (fun q14 => absurd q14 (by decide)) (fun q14 => ?_)
      refine z_iconst (v := 0) C dd_Q_operation_161 (by decide) ?_
      exact z_iret C dd_Q_operation_162 ⟨rfl, Or.inl ⟨hbad, rfl, hP4_⟩⟩ (by decide) (by decide)
    · skip
      exact absurd hbad (by rw [(pu_bn1.mp q1)]; intro z; have z2 : pu_iv x2 0 (nI 6) = true := (pu_bn1.mp q8); rw [z2] at z; cases z)
set_option maxRecDepth 20000 in
/-- operation -/
theorem cc_Q_operation (l : Launch) (D : va_G) (dA : Nat → ClassId) (B : Nat) (h : zz_H) (n : Nat) (q : Nat) (F : Nat → Int32) (I : Nat → Nat → Int32) (J : Nat → Nat → Int64) (hP0 : md_P dA F I J q h) (nc ng nM : Nat) (W : pu_W F I nc ng nM) (hO : ∀ m, m < nM → ∃ a, a ≤ 8 ∧ I 8 m = nI a) (x1 x2 x3 : Int32) : zz_M l D zz_cl (zz_ty dA) B zz_tb (zz_x B) yy_Q_operation (Cond.code yy_Q_operation bb_Q_operation 5 (some FieldType.int)) rm_Q_operation [.ref q, .int x1, .int x2, .int x3] h n zz_mi (fun r h' n' => n' = n ∧ (((pu_iv x1 0 (nI nM - 1) && pu_iv x2 0 (nI 6)) = false ∧ r = 0 ∧ md_K dA (md_fs F 0 1) I J q h h') ∨ (∃ m9 k9 g9 r9 a9, m9 < nM ∧ x1 = nI m9 ∧ k9 < 7 ∧ x2 = nI k9 ∧ g9 < ng ∧ I 2 m9 = nI g9 ∧ (r9 = 1 ∨ r9 = 2) ∧ I 1 g9 = nI r9 ∧ a9 ≤ 8 ∧ I 8 m9 = nI a9 ∧ ((pu_oin nc ng r9 k9 x3 = false ∧ r = 0 ∧ md_K dA (md_fs F 0 1) I J q h h') ∨ (pu_oin nc ng r9 k9 x3 = true ∧ a9 = 8 ∧ r = 0 ∧ md_K dA (md_fs F 0 2) I J q h h') ∨ (pu_oin nc ng r9 k9 x3 = true ∧ a9 < 8 ∧ r = nI (a9 + 1) ∧ md_K dA (md_fs F 0 0) (pu_addO I m9 a9 k9 x3) J q h h'))))) := by
  rcases Bool.eq_false_or_eq_true (pu_iv x1 0 (nI nM - 1) && pu_iv x2 0 (nI 6)) with hh | hh
  · have h12 := W.m12
    obtain ⟨z1, z2⟩ := Bool.and_eq_true_iff.mp hh
    obtain ⟨m0, hm, rfl⟩ := (pu_iv_0 (by omega)).mp z1
    obtain ⟨kd, hk, rfl⟩ := pu_iv_5 6 (by decide) z2
    obtain ⟨g0, hg, eo⟩ := W.own m0 hm
    obtain ⟨ar, ha, har⟩ := W.ar g0 hg
    obtain ⟨a, h9, hat⟩ := hO m0 hm
    have hk6 : kd = 0 ∨ kd = 1 ∨ kd = 2 ∨ kd = 3 ∨ kd = 4 ∨ kd = 5 ∨ kd = 6 := by omega
    rcases hk6 with rfl | rfl | rfl | rfl | rfl | rfl | rfl
    · exact ca_Q_operation_0 l D dA B h n q F I J hP0 nc ng nM W m0 g0 ar a hm hg eo ha har h9 hat x3
    · exact ca_Q_operation_1 l D dA B h n q F I J hP0 nc ng nM W m0 g0 ar a hm hg eo ha har h9 hat x3
    · exact ca_Q_operation_2 l D dA B h n q F I J hP0 nc ng nM W m0 g0 ar a hm hg eo ha har h9 hat x3
    · exact ca_Q_operation_3 l D dA B h n q F I J hP0 nc ng nM W m0 g0 ar a hm hg eo ha har h9 hat x3
    · exact ca_Q_operation_4 l D dA B h n q F I J hP0 nc ng nM W m0 g0 ar a hm hg eo ha har h9 hat x3
    · exact ca_Q_operation_5 l D dA B h n q F I J hP0 nc ng nM W m0 g0 ar a hm hg eo ha har h9 hat x3
    · exact ca_Q_operation_6 l D dA B h n q F I J hP0 nc ng nM W m0 g0 ar a hm hg eo ha har h9 hat x3
  · exact ca_Q_operation_bad l D dA B h n q F I J hP0 nc ng nM W x1 x2 x3 hh
