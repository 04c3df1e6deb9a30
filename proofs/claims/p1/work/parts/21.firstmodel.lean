theorem i32_no (x : Int32) (h1 : ¬ x < 0) (h2 : ¬ ((0 : Int32) - 1) < x) : False := by
  rw [Int32.lt_iff_toInt_lt] at h1 h2
  have z0 : (0 : Int32).toInt = 0 := rfl
  have z1 : ((0 : Int32) - 1).toInt = -1 := by decide
  omega
abbrev rm_Q_thrown : Room := { frames := 0, cells := 0, slots := 0, locals := 0 }
set_option maxRecDepth 20000 in
/-- thrown -/
theorem cc_Q_thrown (l : Launch) (D : va_G) (dA : Nat → ClassId) (B : Nat) (h : zz_H) (n : Nat) (q : Nat) (t : Int32) (fs : List Value) (hq : h q = some (.inr (11, fs))) (hv : fs[0]? = some (.int t)) : zz_M l D zz_cl (zz_ty dA) B zz_tb (zz_x B) yy_Q_thrown (Cond.code yy_Q_thrown bb_Q_thrown 1 (some FieldType.int)) rm_Q_thrown [.ref q] h n zz_mi (fun r h' n' => h' = h ∧ n' = n ∧ r = t) := by
  refine zz_ofW (zz_f B) [some (.ref q)] (by decide) rfl rfl (Nat.le_of_ble_eq_true rfl) ?_
  intro p e s m below meth c C
  refine z_aload_n C dd_Q_thrown_0 rfl ?_
  refine gf_Q_121 C dd_Q_thrown_1 hq hv ?_
  exact z_iret C dd_Q_thrown_4 ⟨rfl, rfl, rfl⟩ (by decide) (by decide)
abbrev rm_Q_forget : Room := { frames := 0, cells := 0, slots := 0, locals := 0 }
set_option maxRecDepth 20000 in
/-- forget -/
theorem cc_Q_forget (l : Launch) (D : va_G) (dA : Nat → ClassId) (B : Nat) (h : zz_H) (n : Nat) (q ak an : Nat) (x : Int32) (fs : List Value) (kf nf : Nat → Int32) (hq : h q = some (.inr (11, fs))) (hf : fs.length = 46) (h1 : fs[15]? = some (.ref ak)) (h2 : fs[21]? = some (.ref an)) (hk : h ak = some (.inl (dA 2, 4, .inl kf))) (hn : h an = some (.inl (dA 0, 4, .inl nf))) (hx : vp_in x 4) (e1 : q ≠ ak) (e2 : q ≠ an) (e3 : ak ≠ an) : zz_M l D zz_cl (zz_ty dA) B zz_tb (zz_x B) yy_Q_forget (Cond.code yy_Q_forget bb_Q_forget 2 none) rm_Q_forget [.ref q, .int x] h n zz_mv (fun _ h' n' => n' = n ∧ h' q = some (.inr (11, fs.set 18 (.int 0))) ∧ h' ak = some (.inl (dA 2, 4, .inl (upd kf x.toNatClampNeg (vp_nar .boolean 0)))) ∧ h' an = some (.inl (dA 0, 4, .inl (upd nf x.toNatClampNeg 0))) ∧ ∀ y, y ≠ q → y ≠ ak → y ≠ an → h' y = h y) := by
  refine zz_ofW (zz_f B) [some (.ref q), some (.int x)] (by decide) rfl rfl (Nat.le_of_ble_eq_true rfl) ?_
  intro p e s m below meth c C
  refine z_aload_n C dd_Q_forget_0 rfl ?_
  refine gf_Q_48 C dd_Q_forget_1 hq h1 ?_
  refine z_iload_n C dd_Q_forget_4 rfl ?_
  refine z_iconst (v := 0) C dd_Q_forget_5 (by decide) ?_
  refine z_zast (t0 := 2) C rfl dd_Q_forget_6 hk hx ?_
  refine z_aload_n C dd_Q_forget_7 rfl ?_
  refine gf_Q_57 C dd_Q_forget_8 ((zz_un e1).trans hq) h2 ?_
  refine z_iload_n C dd_Q_forget_11 rfl ?_
  refine z_iconst (v := 0) C dd_Q_forget_12 (by decide) ?_
  refine z_iast (t0 := 0) C rfl dd_Q_forget_13 ((zz_un (Ne.symm e3)).trans hn) hx ?_
  refine z_aload_n C dd_Q_forget_14 rfl ?_
  refine z_iconst (v := 0) C dd_Q_forget_15 (by decide) ?_
  refine pf_Q_124 C dd_Q_forget_16 ((zz_un e2).trans ((zz_un e1).trans hq)) (by rw [hf]; decide) rfl rfl ?_
  exact z_vret C dd_Q_forget_19 ⟨rfl, zz_us _ _ _, (zz_un (Ne.symm e1)).trans ((zz_un e3).trans (zz_us _ _ _)), (zz_un (Ne.symm e2)).trans (zz_us _ _ _), fun y y1 y2 y3 => (zz_un y1).trans ((zz_un y3).trans (zz_un y2))⟩ (by decide) (by decide)
abbrev rm_Q_method : Room := { frames := 3, cells := 0, slots := 0, locals := 60 }
set_option maxRecDepth 20000 in
/-- method on a fresh reference: refused -/
theorem cc_Q_method (l : Launch) (D : va_G) (dA : Nat → ClassId) (B : Nat) (h : zz_H) (n : Nat) (q n0 : Nat) (x : Int32) (hq : h q = some (.inr (11, md_o n0))) : zz_M l D zz_cl (zz_ty dA) B zz_tb (zz_x B) yy_Q_method (Cond.code yy_Q_method bb_Q_method 2 (some FieldType.int)) rm_Q_method [.ref q, .int x] h n zz_mi (fun _ h' n' => n' = n ∧ (∃ fs', h' q = some (.inr (11, fs')) ∧ fs'[0]? = some (.int 1)) ∧ ∀ y, y ≠ q → h' y = h y) := by
  refine zz_ofW (zz_f B) [some (.ref q), some (.int x)] (by decide) rfl rfl (Nat.le_of_ble_eq_true rfl) ?_
  intro p e s m below meth c C
  refine z_aload_n C dd_Q_method_0 rfl ?_
  refine z_iload_n C dd_Q_method_1 rfl ?_
  refine z_iconst (v := 0) C dd_Q_method_2 (by decide) ?_
  refine z_aload_n C dd_Q_method_3 rfl ?_
  refine gf_Q_135 C dd_Q_method_4 hq rfl ?_
  refine z_iconst (v := 1) C dd_Q_method_7 (by decide) ?_
  refine z_isub C dd_Q_method_8 ?_
  refine is_Q_127 (sk := fun r => .int r :: [.ref q]) (zz_f B) C dd_Q_method_9 (cc_Q_in l D dA B _ _ _ _ _) rfl rfl ⟨by decide, by decide⟩ (Nat.le_of_ble_eq_true rfl) ⟨by decide, by decide⟩ (fun _ => rfl) (fun r0 h0 n0 p0 => ?_)
  obtain ⟨rfl, rfl, hr0⟩ := p0
  obtain rfl : r0 = 0 := (hr0.resolve_left (fun z => i32_no _ z.2.1 z.2.2)).1
  refine z_if_ne (tgt := 19) C dd_Q_method_12 (by decide) (fun q12 => absurd (by decide) q12) (fun q12 => ?_)
  refine z_iconst (v := 1) C dd_Q_method_15 (by decide) ?_
  refine z_goto (tgt := 33) C dd_Q_method_16 (by decide) ?_
  refine pf_Q_121 C dd_Q_method_33 hq (Nat.le_of_ble_eq_true rfl) rfl rfl ?_
  refine z_aload_n C dd_Q_method_36 rfl ?_
  refine gf_Q_121 C dd_Q_method_37 (zz_us _ _ _) rfl ?_
  refine z_if_le (tgt := 45) C dd_Q_method_40 (by decide) (fun q40 => absurd q40 (by decide)) (fun q40 => ?_)
  refine z_iconst (v := 0) C dd_Q_method_43 (by decide) ?_
  exact z_iret C dd_Q_method_44 ⟨rfl, ⟨_, (zz_us _ _ _), rfl⟩, fun y hy => (zz_un hy).trans (rfl)⟩ (by decide) (by decide)
abbrev rm_Q_atom : Room := { frames := 3, cells := 0, slots := 0, locals := 60 }
set_option maxRecDepth 20000 in
/-- atom on a fresh reference: refused -/
theorem cc_Q_atom (l : Launch) (D : va_G) (dA : Nat → ClassId) (B : Nat) (h : zz_H) (n : Nat) (q n0 : Nat) (x : Int32) (x1 : Int32) (x2 : Int32) (x3 : Int32) (x4 : Int32) (hq : h q = some (.inr (11, md_o n0))) : zz_M l D zz_cl (zz_ty dA) B zz_tb (zz_x B) yy_Q_atom (Cond.code yy_Q_atom bb_Q_atom 9 (some FieldType.int)) rm_Q_atom [.ref q, .int x, .int x1, .int x2, .int x3, .int x4] h n zz_mi (fun _ h' n' => n' = n ∧ (∃ fs', h' q = some (.inr (11, fs')) ∧ fs'[0]? = some (.int 1)) ∧ ∀ y, y ≠ q → h' y = h y) := by
  refine zz_ofW (zz_f B) [some (.ref q), some (.int x), some (.int x1), some (.int x2), some (.int x3), some (.int x4), none, none, none] (by decide) rfl rfl (Nat.le_of_ble_eq_true rfl) ?_
  intro p e s m below meth c C
  refine z_iload_n C dd_Q_atom_0 rfl ?_
  refine z_iconst (v := 0) C dd_Q_atom_1 (by decide) ?_
  refine z_aload_n C dd_Q_atom_2 rfl ?_
  refine gf_Q_138 C dd_Q_atom_3 hq rfl ?_
  refine z_iconst (v := 1) C dd_Q_atom_6 (by decide) ?_
  refine z_isub C dd_Q_atom_7 ?_
  refine is_Q_127 (sk := fun r => .int r :: []) (zz_f B) C dd_Q_atom_8 (cc_Q_in l D dA B _ _ _ _ _) rfl rfl ⟨by decide, by decide⟩ (Nat.le_of_ble_eq_true rfl) ⟨by decide, by decide⟩ (fun _ => rfl) (fun r0 h0 n0 p0 => ?_)
  obtain ⟨rfl, rfl, hr0⟩ := p0
  obtain rfl : r0 = 0 := (hr0.resolve_left (fun z => i32_no _ z.2.1 z.2.2)).1
  refine z_if_eq (tgt := 27) C dd_Q_atom_11 (by decide) (fun q11 => ?_) (fun q11 => absurd (by decide) q11)
  refine z_iconst (v := 0) C dd_Q_atom_27 (by decide) ?_
  refine z_istore C dd_Q_atom_28 rfl ?_
  refine z_iload C dd_Q_atom_30 rfl ?_
  refine z_if_eq (tgt := 49) C dd_Q_atom_32 (by decide) (fun q32 => ?_) (fun q32 => absurd (by decide) q32)
  refine z_iconst (v := 0) C dd_Q_atom_49 (by decide) ?_
  refine z_istore C dd_Q_atom_50 rfl ?_
  refine z_iload C dd_Q_atom_52 rfl ?_
  refine z_if_eq (tgt := 87) C dd_Q_atom_54 (by decide) (fun q54 => ?_) (fun q54 => absurd (by decide) q54)
  refine z_iconst (v := 0) C dd_Q_atom_87 (by decide) ?_
  refine z_istore C dd_Q_atom_88 rfl ?_
  refine z_iload C dd_Q_atom_90 rfl ?_
  refine z_if_eq (tgt := 145) C dd_Q_atom_92 (by decide) (fun q92 => ?_) (fun q92 => absurd (by decide) q92)
  refine z_iconst (v := 0) C dd_Q_atom_145 (by decide) ?_
  refine z_istore C dd_Q_atom_146 rfl ?_
  refine z_aload_n C dd_Q_atom_148 rfl ?_
  refine z_iload C dd_Q_atom_149 rfl ?_
  refine z_if_ne (tgt := 158) C dd_Q_atom_151 (by decide) (fun q151 => absurd (by decide) q151) (fun q151 => ?_)
  refine z_iconst (v := 1) C dd_Q_atom_154 (by decide) ?_
  refine z_goto (tgt := 173) C dd_Q_atom_155 (by decide) ?_
  refine pf_Q_121 C dd_Q_atom_173 hq (Nat.le_of_ble_eq_true rfl) rfl rfl ?_
  refine z_aload_n C dd_Q_atom_176 rfl ?_
  refine gf_Q_121 C dd_Q_atom_177 (zz_us _ _ _) rfl ?_
  refine z_if_le (tgt := 185) C dd_Q_atom_180 (by decide) (fun q180 => absurd q180 (by decide)) (fun q180 => ?_)
  refine z_iconst (v := 0) C dd_Q_atom_183 (by decide) ?_
  exact z_iret C dd_Q_atom_184 ⟨rfl, ⟨_, (zz_us _ _ _), rfl⟩, fun y hy => (zz_un hy).trans (rfl)⟩ (by decide) (by decide)
abbrev rm_Q_operation : Room := { frames := 3, cells := 0, slots := 0, locals := 60 }
set_option maxRecDepth 20000 in
/-- operation on a fresh reference: refused -/
theorem cc_Q_operation (l : Launch) (D : va_G) (dA : Nat → ClassId) (B : Nat) (h : zz_H) (n : Nat) (q n0 : Nat) (x : Int32) (x1 : Int32) (x2 : Int32) (hq : h q = some (.inr (11, md_o n0))) : zz_M l D zz_cl (zz_ty dA) B zz_tb (zz_x B) yy_Q_operation (Cond.code yy_Q_operation bb_Q_operation 5 (some FieldType.int)) rm_Q_operation [.ref q, .int x, .int x1, .int x2] h n zz_mi (fun _ h' n' => n' = n ∧ (∃ fs', h' q = some (.inr (11, fs')) ∧ fs'[0]? = some (.int 1)) ∧ ∀ y, y ≠ q → h' y = h y) := by
  refine zz_ofW (zz_f B) [some (.ref q), some (.int x), some (.int x1), some (.int x2), none] (by decide) rfl rfl (Nat.le_of_ble_eq_true rfl) ?_
  intro p e s m below meth c C
  refine z_iload_n C dd_Q_operation_0 rfl ?_
  refine z_iconst (v := 0) C dd_Q_operation_1 (by decide) ?_
  refine z_aload_n C dd_Q_operation_2 rfl ?_
  refine gf_Q_138 C dd_Q_operation_3 hq rfl ?_
  refine z_iconst (v := 1) C dd_Q_operation_6 (by decide) ?_
  refine z_isub C dd_Q_operation_7 ?_
  refine is_Q_127 (sk := fun r => .int r :: []) (zz_f B) C dd_Q_operation_8 (cc_Q_in l D dA B _ _ _ _ _) rfl rfl ⟨by decide, by decide⟩ (Nat.le_of_ble_eq_true rfl) ⟨by decide, by decide⟩ (fun _ => rfl) (fun r0 h0 n0 p0 => ?_)
  obtain ⟨rfl, rfl, hr0⟩ := p0
  obtain rfl : r0 = 0 := (hr0.resolve_left (fun z => i32_no _ z.2.1 z.2.2)).1
  refine z_if_eq (tgt := 28) C dd_Q_operation_11 (by decide) (fun q11 => ?_) (fun q11 => absurd (by decide) q11)
  refine z_iconst (v := 0) C dd_Q_operation_28 (by decide) ?_
  refine z_istore C dd_Q_operation_29 rfl ?_
  refine z_iload C dd_Q_operation_31 rfl ?_
  refine z_if_eq (tgt := 49) C dd_Q_operation_33 (by decide) (fun q33 => ?_) (fun q33 => absurd (by decide) q33)
  refine z_iload C dd_Q_operation_49 rfl ?_
  refine z_if_eq (tgt := 79) C dd_Q_operation_51 (by decide) (fun q51 => ?_) (fun q51 => absurd (by decide) q51)
  refine z_iload C dd_Q_operation_79 rfl ?_
  refine z_if_eq (tgt := 102) C dd_Q_operation_81 (by decide) (fun q81 => ?_) (fun q81 => absurd (by decide) q81)
  refine z_iload C dd_Q_operation_102 rfl ?_
  refine z_if_eq (tgt := 125) C dd_Q_operation_104 (by decide) (fun q104 => ?_) (fun q104 => absurd (by decide) q104)
  refine z_aload_n C dd_Q_operation_125 rfl ?_
  refine z_iload C dd_Q_operation_126 rfl ?_
  refine z_if_ne (tgt := 135) C dd_Q_operation_128 (by decide) (fun q128 => absurd (by decide) q128) (fun q128 => ?_)
  refine z_iconst (v := 1) C dd_Q_operation_131 (by decide) ?_
  refine z_goto (tgt := 151) C dd_Q_operation_132 (by decide) ?_
  refine pf_Q_121 C dd_Q_operation_151 hq (Nat.le_of_ble_eq_true rfl) rfl rfl ?_
  refine z_aload_n C dd_Q_operation_154 rfl ?_
  refine gf_Q_121 C dd_Q_operation_155 (zz_us _ _ _) rfl ?_
  refine z_if_le (tgt := 163) C dd_Q_operation_158 (by decide) (fun q158 => absurd q158 (by decide)) (fun q158 => ?_)
  refine z_iconst (v := 0) C dd_Q_operation_161 (by decide) ?_
  exact z_iret C dd_Q_operation_162 ⟨rfl, ⟨_, (zz_us _ _ _), rfl⟩, fun y hy => (zz_un hy).trans (rfl)⟩ (by decide) (by decide)
abbrev rm_Q_beyond : Room := { frames := 3, cells := 0, slots := 0, locals := 60 }
set_option maxRecDepth 20000 in
/-- beyond on a fresh reference: refused -/
theorem cc_Q_beyond (l : Launch) (D : va_G) (dA : Nat → ClassId) (B : Nat) (h : zz_H) (n : Nat) (q n0 : Nat) (x : Int32) (x1 : Int32) (hq : h q = some (.inr (11, md_o n0))) : zz_M l D zz_cl (zz_ty dA) B zz_tb (zz_x B) yy_Q_beyond (Cond.code yy_Q_beyond bb_Q_beyond 4 (some FieldType.boolean)) rm_Q_beyond [.ref q, .int x, .int x1] h n zz_mi (fun _ h' n' => n' = n ∧ (∃ fs', h' q = some (.inr (11, fs')) ∧ fs'[0]? = some (.int 1)) ∧ ∀ y, y ≠ q → h' y = h y) := by
  refine zz_ofW (zz_f B) [some (.ref q), some (.int x), some (.int x1), none] (by decide) rfl rfl (Nat.le_of_ble_eq_true rfl) ?_
  intro p e s m below meth c C
  refine z_iload_n C dd_Q_beyond_0 rfl ?_
  refine z_iconst (v := 0) C dd_Q_beyond_1 (by decide) ?_
  refine z_aload_n C dd_Q_beyond_2 rfl ?_
  refine gf_Q_138 C dd_Q_beyond_3 hq rfl ?_
  refine z_iconst (v := 1) C dd_Q_beyond_6 (by decide) ?_
  refine z_isub C dd_Q_beyond_7 ?_
  refine is_Q_127 (sk := fun r => .int r :: []) (zz_f B) C dd_Q_beyond_8 (cc_Q_in l D dA B _ _ _ _ _) rfl rfl ⟨by decide, by decide⟩ (Nat.le_of_ble_eq_true rfl) ⟨by decide, by decide⟩ (fun _ => rfl) (fun r0 h0 n0 p0 => ?_)
  obtain ⟨rfl, rfl, hr0⟩ := p0
  obtain rfl : r0 = 0 := (hr0.resolve_left (fun z => i32_no _ z.2.1 z.2.2)).1
  refine z_if_eq (tgt := 32) C dd_Q_beyond_11 (by decide) (fun q11 => ?_) (fun q11 => absurd (by decide) q11)
  refine z_iconst (v := 0) C dd_Q_beyond_32 (by decide) ?_
  refine z_istore_n C dd_Q_beyond_33 rfl ?_
  refine z_aload_n C dd_Q_beyond_34 rfl ?_
  refine z_iload_n C dd_Q_beyond_35 rfl ?_
  refine z_if_eq (tgt := 58) C dd_Q_beyond_36 (by decide) (fun q36 => ?_) (fun q36 => absurd (by decide) q36)
  refine z_iconst (v := 1) C dd_Q_beyond_58 (by decide) ?_
  refine pf_Q_121 C dd_Q_beyond_59 hq (Nat.le_of_ble_eq_true rfl) rfl rfl ?_
  refine z_aload_n C dd_Q_beyond_62 rfl ?_
  refine gf_Q_121 C dd_Q_beyond_63 (zz_us _ _ _) rfl ?_
  refine z_if_le (tgt := 71) C dd_Q_beyond_66 (by decide) (fun q66 => absurd q66 (by decide)) (fun q66 => ?_)
  refine z_iconst (v := 0) C dd_Q_beyond_69 (by decide) ?_
  exact z_zret C dd_Q_beyond_70 rfl ⟨rfl, ⟨_, (zz_us _ _ _), rfl⟩, fun y hy => (zz_un hy).trans (rfl)⟩ (by decide) (by decide)
abbrev rm_Q_best : Room := { frames := 3, cells := 0, slots := 0, locals := 60 }
set_option maxRecDepth 20000 in
/-- best on a fresh reference: refused -/
theorem cc_Q_best (l : Launch) (D : va_G) (dA : Nat → ClassId) (B : Nat) (h : zz_H) (n : Nat) (q n0 : Nat) (x : Int32) (x1 : Int32) (x2 : Int32) (hq : h q = some (.inr (11, md_o n0))) : zz_M l D zz_cl (zz_ty dA) B zz_tb (zz_x B) yy_Q_best (Cond.code yy_Q_best bb_Q_best 4 (some FieldType.int)) rm_Q_best [.ref q, .int x, .int x1, .int x2] h n zz_mi (fun _ h' n' => n' = n ∧ (∃ fs', h' q = some (.inr (11, fs')) ∧ fs'[0]? = some (.int 1)) ∧ ∀ y, y ≠ q → h' y = h y) := by
  refine zz_ofW (zz_f B) [some (.ref q), some (.int x), some (.int x1), some (.int x2)] (by decide) rfl rfl (Nat.le_of_ble_eq_true rfl) ?_
  intro p e s m below meth c C
  refine z_aload_n C dd_Q_best_0 rfl ?_
  refine z_iload_n C dd_Q_best_1 rfl ?_
  refine z_iconst (v := 0) C dd_Q_best_2 (by decide) ?_
  refine z_aload_n C dd_Q_best_3 rfl ?_
  refine gf_Q_135 C dd_Q_best_4 hq rfl ?_
  refine z_iconst (v := 1) C dd_Q_best_7 (by decide) ?_
  refine z_isub C dd_Q_best_8 ?_
  refine is_Q_127 (sk := fun r => .int r :: [.ref q]) (zz_f B) C dd_Q_best_9 (cc_Q_in l D dA B _ _ _ _ _) rfl rfl ⟨by decide, by decide⟩ (Nat.le_of_ble_eq_true rfl) ⟨by decide, by decide⟩ (fun _ => rfl) (fun r0 h0 n0 p0 => ?_)
  obtain ⟨rfl, rfl, hr0⟩ := p0
  obtain rfl : r0 = 0 := (hr0.resolve_left (fun z => i32_no _ z.2.1 z.2.2)).1
  refine z_if_eq (tgt := 29) C dd_Q_best_12 (by decide) (fun q12 => ?_) (fun q12 => absurd (by decide) q12)
  refine z_iconst (v := 1) C dd_Q_best_29 (by decide) ?_
  refine pf_Q_121 C dd_Q_best_30 hq (Nat.le_of_ble_eq_true rfl) rfl rfl ?_
  refine z_aload_n C dd_Q_best_33 rfl ?_
  refine gf_Q_121 C dd_Q_best_34 (zz_us _ _ _) rfl ?_
  refine z_if_le (tgt := 42) C dd_Q_best_37 (by decide) (fun q37 => absurd q37 (by decide)) (fun q37 => ?_)
  refine z_iconst (v := 0) C dd_Q_best_40 (by decide) ?_
  exact z_iret C dd_Q_best_41 ⟨rfl, ⟨_, (zz_us _ _ _), rfl⟩, fun y hy => (zz_un hy).trans (rfl)⟩ (by decide) (by decide)
abbrev rm_Q_check : Room := { frames := 3, cells := 0, slots := 0, locals := 60 }
set_option maxRecDepth 20000 in
/-- check on a fresh reference: refused -/
theorem cc_Q_check (l : Launch) (D : va_G) (dA : Nat → ClassId) (B : Nat) (h : zz_H) (n : Nat) (q n0 : Nat) (x : Int32) (hq : h q = some (.inr (11, md_o n0))) : zz_M l D zz_cl (zz_ty dA) B zz_tb (zz_x B) yy_Q_check (Cond.code yy_Q_check bb_Q_check 4 (some FieldType.int)) rm_Q_check [.ref q, .int x] h n zz_mi (fun _ h' n' => n' = n ∧ (∃ fs', h' q = some (.inr (11, fs')) ∧ fs'[0]? = some (.int 1)) ∧ ∀ y, y ≠ q → h' y = h y) := by
  refine zz_ofW (zz_f B) [some (.ref q), some (.int x), none, none] (by decide) rfl rfl (Nat.le_of_ble_eq_true rfl) ?_
  intro p e s m below meth c C
  refine z_aload_n C dd_Q_check_0 rfl ?_
  refine z_iload_n C dd_Q_check_1 rfl ?_
  refine z_iconst (v := 0) C dd_Q_check_2 (by decide) ?_
  refine z_aload_n C dd_Q_check_3 rfl ?_
  refine gf_Q_135 C dd_Q_check_4 hq rfl ?_
  refine z_iconst (v := 1) C dd_Q_check_7 (by decide) ?_
  refine z_isub C dd_Q_check_8 ?_
  refine is_Q_127 (sk := fun r => .int r :: [.ref q]) (zz_f B) C dd_Q_check_9 (cc_Q_in l D dA B _ _ _ _ _) rfl rfl ⟨by decide, by decide⟩ (Nat.le_of_ble_eq_true rfl) ⟨by decide, by decide⟩ (fun _ => rfl) (fun r0 h0 n0 p0 => ?_)
  obtain ⟨rfl, rfl, hr0⟩ := p0
  obtain rfl : r0 = 0 := (hr0.resolve_left (fun z => i32_no _ z.2.1 z.2.2)).1
  refine z_if_eq (tgt := 19) C dd_Q_check_12 (by decide) (fun q12 => ?_) (fun q12 => absurd (by decide) q12)
  refine z_iconst (v := 1) C dd_Q_check_19 (by decide) ?_
  refine pf_Q_121 C dd_Q_check_20 hq (Nat.le_of_ble_eq_true rfl) rfl rfl ?_
  refine z_aload_n C dd_Q_check_23 rfl ?_
  refine gf_Q_121 C dd_Q_check_24 (zz_us _ _ _) rfl ?_
  refine z_if_le (tgt := 32) C dd_Q_check_27 (by decide) (fun q27 => absurd q27 (by decide)) (fun q27 => ?_)
  refine z_iconst (v := 0) C dd_Q_check_30 (by decide) ?_
  exact z_iret C dd_Q_check_31 ⟨rfl, ⟨_, (zz_us _ _ _), rfl⟩, fun y hy => (zz_un hy).trans (rfl)⟩ (by decide) (by decide)
abbrev rm_Q_witness : Room := { frames := 3, cells := 0, slots := 0, locals := 60 }
set_option maxRecDepth 20000 in
/-- witness on a fresh reference: refused -/
theorem cc_Q_witness (l : Launch) (D : va_G) (dA : Nat → ClassId) (B : Nat) (h : zz_H) (n : Nat) (q n0 : Nat) (x : Int32) (hq : h q = some (.inr (11, md_o n0))) : zz_M l D zz_cl (zz_ty dA) B zz_tb (zz_x B) yy_Q_witness (Cond.code yy_Q_witness bb_Q_witness 2 (some FieldType.int)) rm_Q_witness [.ref q, .int x] h n zz_mi (fun _ h' n' => n' = n ∧ (∃ fs', h' q = some (.inr (11, fs')) ∧ fs'[0]? = some (.int 1)) ∧ ∀ y, y ≠ q → h' y = h y) := by
  refine zz_ofW (zz_f B) [some (.ref q), some (.int x)] (by decide) rfl rfl (Nat.le_of_ble_eq_true rfl) ?_
  intro p e s m below meth c C
  refine z_aload_n C dd_Q_witness_0 rfl ?_
  refine z_iload_n C dd_Q_witness_1 rfl ?_
  refine z_iconst (v := 0) C dd_Q_witness_2 (by decide) ?_
  refine z_aload_n C dd_Q_witness_3 rfl ?_
  refine gf_Q_124 C dd_Q_witness_4 hq rfl ?_
  refine z_iconst (v := 1) C dd_Q_witness_7 (by decide) ?_
  refine z_isub C dd_Q_witness_8 ?_
  refine is_Q_127 (sk := fun r => .int r :: [.ref q]) (zz_f B) C dd_Q_witness_9 (cc_Q_in l D dA B _ _ _ _ _) rfl rfl ⟨by decide, by decide⟩ (Nat.le_of_ble_eq_true rfl) ⟨by decide, by decide⟩ (fun _ => rfl) (fun r0 h0 n0 p0 => ?_)
  obtain ⟨rfl, rfl, hr0⟩ := p0
  obtain rfl : r0 = 0 := (hr0.resolve_left (fun z => i32_no _ z.2.1 z.2.2)).1
  refine z_if_eq (tgt := 19) C dd_Q_witness_12 (by decide) (fun q12 => ?_) (fun q12 => absurd (by decide) q12)
  refine z_iconst (v := 1) C dd_Q_witness_19 (by decide) ?_
  refine pf_Q_121 C dd_Q_witness_20 hq (Nat.le_of_ble_eq_true rfl) rfl rfl ?_
  refine z_aload_n C dd_Q_witness_23 rfl ?_
  refine gf_Q_121 C dd_Q_witness_24 (zz_us _ _ _) rfl ?_
  refine z_if_le (tgt := 34) C dd_Q_witness_27 (by decide) (fun q27 => absurd q27 (by decide)) (fun q27 => ?_)
  refine z_iconst (v := 0) C dd_Q_witness_30 (by decide) ?_
  refine z_goto (tgt := 49) C dd_Q_witness_31 (by decide) ?_
  exact z_iret C dd_Q_witness_49 ⟨rfl, ⟨_, (zz_us _ _ _), rfl⟩, fun y hy => (zz_un hy).trans (rfl)⟩ (by decide) (by decide)
abbrev rm_Q_compile : Room := { frames := 3, cells := 0, slots := 0, locals := 60 }
set_option maxRecDepth 20000 in
/-- compile on a fresh reference: refused -/
theorem cc_Q_compile (l : Launch) (D : va_G) (dA : Nat → ClassId) (B : Nat) (h : zz_H) (n : Nat) (q n0 : Nat) (x : Int32) (hq : h q = some (.inr (11, md_o n0))) : zz_M l D zz_cl (zz_ty dA) B zz_tb (zz_x B) yy_Q_compile (Cond.code yy_Q_compile bb_Q_compile 2 (some FieldType.int)) rm_Q_compile [.ref q, .int x] h n zz_mi (fun _ h' n' => n' = n ∧ (∃ fs', h' q = some (.inr (11, fs')) ∧ fs'[0]? = some (.int 1)) ∧ ∀ y, y ≠ q → h' y = h y) := by
  refine zz_ofW (zz_f B) [some (.ref q), some (.int x)] (by decide) rfl rfl (Nat.le_of_ble_eq_true rfl) ?_
  intro p e s m below meth c C
  refine z_aload_n C dd_Q_compile_0 rfl ?_
  refine z_iload_n C dd_Q_compile_1 rfl ?_
  refine z_iconst (v := 0) C dd_Q_compile_2 (by decide) ?_
  refine z_aload_n C dd_Q_compile_3 rfl ?_
  refine gf_Q_135 C dd_Q_compile_4 hq rfl ?_
  refine z_iconst (v := 1) C dd_Q_compile_7 (by decide) ?_
  refine z_isub C dd_Q_compile_8 ?_
  refine is_Q_127 (sk := fun r => .int r :: [.ref q]) (zz_f B) C dd_Q_compile_9 (cc_Q_in l D dA B _ _ _ _ _) rfl rfl ⟨by decide, by decide⟩ (Nat.le_of_ble_eq_true rfl) ⟨by decide, by decide⟩ (fun _ => rfl) (fun r0 h0 n0 p0 => ?_)
  obtain ⟨rfl, rfl, hr0⟩ := p0
  obtain rfl : r0 = 0 := (hr0.resolve_left (fun z => i32_no _ z.2.1 z.2.2)).1
  refine z_if_eq (tgt := 19) C dd_Q_compile_12 (by decide) (fun q12 => ?_) (fun q12 => absurd (by decide) q12)
  refine z_iconst (v := 1) C dd_Q_compile_19 (by decide) ?_
  refine pf_Q_121 C dd_Q_compile_20 hq (Nat.le_of_ble_eq_true rfl) rfl rfl ?_
  refine z_aload_n C dd_Q_compile_23 rfl ?_
  refine gf_Q_121 C dd_Q_compile_24 (zz_us _ _ _) rfl ?_
  refine z_if_le (tgt := 32) C dd_Q_compile_27 (by decide) (fun q27 => absurd q27 (by decide)) (fun q27 => ?_)
  refine z_iconst (v := 0) C dd_Q_compile_30 (by decide) ?_
  exact z_iret C dd_Q_compile_31 ⟨rfl, ⟨_, (zz_us _ _ _), rfl⟩, fun y hy => (zz_un hy).trans (rfl)⟩ (by decide) (by decide)
abbrev rm_Q_node : Room := { frames := 3, cells := 0, slots := 0, locals := 60 }
set_option maxRecDepth 20000 in
/-- node on a fresh reference: refused -/
theorem cc_Q_node (l : Launch) (D : va_G) (dA : Nat → ClassId) (B : Nat) (h : zz_H) (n : Nat) (q n0 : Nat) (x : Int32) (x1 : Int32) (x2 : Int32) (hq : h q = some (.inr (11, md_o n0))) : zz_M l D zz_cl (zz_ty dA) B zz_tb (zz_x B) yy_Q_node (Cond.code yy_Q_node bb_Q_node 6 (some FieldType.int)) rm_Q_node [.ref q, .int x, .int x1, .int x2] h n zz_mi (fun _ h' n' => n' = n ∧ (∃ fs', h' q = some (.inr (11, fs')) ∧ fs'[0]? = some (.int 1)) ∧ ∀ y, y ≠ q → h' y = h y) := by
  refine zz_ofW (zz_f B) [some (.ref q), some (.int x), some (.int x1), some (.int x2), none, none] (by decide) rfl rfl (Nat.le_of_ble_eq_true rfl) ?_
  intro p e s m below meth c C
  refine z_iload_n C dd_Q_node_0 rfl ?_
  refine z_iconst (v := 0) C dd_Q_node_1 (by decide) ?_
  refine z_aload_n C dd_Q_node_2 rfl ?_
  refine gf_Q_135 C dd_Q_node_3 hq rfl ?_
  refine z_iconst (v := 1) C dd_Q_node_6 (by decide) ?_
  refine z_isub C dd_Q_node_7 ?_
  refine is_Q_127 (sk := fun r => .int r :: []) (zz_f B) C dd_Q_node_8 (cc_Q_in l D dA B _ _ _ _ _) rfl rfl ⟨by decide, by decide⟩ (Nat.le_of_ble_eq_true rfl) ⟨by decide, by decide⟩ (fun _ => rfl) (fun r0 h0 n0 p0 => ?_)
  obtain ⟨rfl, rfl, hr0⟩ := p0
  obtain rfl : r0 = 0 := (hr0.resolve_left (fun z => i32_no _ z.2.1 z.2.2)).1
  refine z_if_eq (tgt := 27) C dd_Q_node_11 (by decide) (fun q11 => ?_) (fun q11 => absurd (by decide) q11)
  refine z_iconst (v := 0) C dd_Q_node_27 (by decide) ?_
  refine z_istore C dd_Q_node_28 rfl ?_
  refine z_aload_n C dd_Q_node_30 rfl ?_
  refine z_iload C dd_Q_node_31 rfl ?_
  refine z_if_ne (tgt := 40) C dd_Q_node_33 (by decide) (fun q33 => absurd (by decide) q33) (fun q33 => ?_)
  refine z_iconst (v := 1) C dd_Q_node_36 (by decide) ?_
  refine z_goto (tgt := 74) C dd_Q_node_37 (by decide) ?_
  refine pf_Q_121 C dd_Q_node_74 hq (Nat.le_of_ble_eq_true rfl) rfl rfl ?_
  refine z_aload_n C dd_Q_node_77 rfl ?_
  refine gf_Q_121 C dd_Q_node_78 (zz_us _ _ _) rfl ?_
  refine z_if_le (tgt := 86) C dd_Q_node_81 (by decide) (fun q81 => absurd q81 (by decide)) (fun q81 => ?_)
  refine z_iconst (v := 0) C dd_Q_node_84 (by decide) ?_
  exact z_iret C dd_Q_node_85 ⟨rfl, ⟨_, (zz_us _ _ _), rfl⟩, fun y hy => (zz_un hy).trans (rfl)⟩ (by decide) (by decide)
abbrev rm_Q_test : Room := { frames := 3, cells := 0, slots := 0, locals := 60 }
set_option maxRecDepth 20000 in
/-- test on a fresh reference: refused -/
theorem cc_Q_test (l : Launch) (D : va_G) (dA : Nat → ClassId) (B : Nat) (h : zz_H) (n : Nat) (q n0 : Nat) (x : Int32) (x1 : Int32) (x2 : Int32) (hq : h q = some (.inr (11, md_o n0))) : zz_M l D zz_cl (zz_ty dA) B zz_tb (zz_x B) yy_Q_test (Cond.code yy_Q_test bb_Q_test 6 (some FieldType.int)) rm_Q_test [.ref q, .int x, .int x1, .int x2] h n zz_mi (fun _ h' n' => n' = n ∧ (∃ fs', h' q = some (.inr (11, fs')) ∧ fs'[0]? = some (.int 1)) ∧ ∀ y, y ≠ q → h' y = h y) := by
  refine zz_ofW (zz_f B) [some (.ref q), some (.int x), some (.int x1), some (.int x2), none, none] (by decide) rfl rfl (Nat.le_of_ble_eq_true rfl) ?_
  intro p e s m below meth c C
  refine z_iload_n C dd_Q_test_0 rfl ?_
  refine z_iconst (v := 0) C dd_Q_test_1 (by decide) ?_
  refine z_aload_n C dd_Q_test_2 rfl ?_
  refine gf_Q_135 C dd_Q_test_3 hq rfl ?_
  refine z_iconst (v := 1) C dd_Q_test_6 (by decide) ?_
  refine z_isub C dd_Q_test_7 ?_
  refine is_Q_127 (sk := fun r => .int r :: []) (zz_f B) C dd_Q_test_8 (cc_Q_in l D dA B _ _ _ _ _) rfl rfl ⟨by decide, by decide⟩ (Nat.le_of_ble_eq_true rfl) ⟨by decide, by decide⟩ (fun _ => rfl) (fun r0 h0 n0 p0 => ?_)
  obtain ⟨rfl, rfl, hr0⟩ := p0
  obtain rfl : r0 = 0 := (hr0.resolve_left (fun z => i32_no _ z.2.1 z.2.2)).1
  refine z_if_eq (tgt := 27) C dd_Q_test_11 (by decide) (fun q11 => ?_) (fun q11 => absurd (by decide) q11)
  refine z_iconst (v := 0) C dd_Q_test_27 (by decide) ?_
  refine z_istore C dd_Q_test_28 rfl ?_
  refine z_aload_n C dd_Q_test_30 rfl ?_
  refine z_iload C dd_Q_test_31 rfl ?_
  refine z_if_ne (tgt := 40) C dd_Q_test_33 (by decide) (fun q33 => absurd (by decide) q33) (fun q33 => ?_)
  refine z_iconst (v := 1) C dd_Q_test_36 (by decide) ?_
  refine z_goto (tgt := 74) C dd_Q_test_37 (by decide) ?_
  refine pf_Q_121 C dd_Q_test_74 hq (Nat.le_of_ble_eq_true rfl) rfl rfl ?_
  refine z_aload_n C dd_Q_test_77 rfl ?_
  refine gf_Q_121 C dd_Q_test_78 (zz_us _ _ _) rfl ?_
  refine z_if_le (tgt := 86) C dd_Q_test_81 (by decide) (fun q81 => absurd q81 (by decide)) (fun q81 => ?_)
  refine z_iconst (v := 0) C dd_Q_test_84 (by decide) ?_
  exact z_iret C dd_Q_test_85 ⟨rfl, ⟨_, (zz_us _ _ _), rfl⟩, fun y hy => (zz_un hy).trans (rfl)⟩ (by decide) (by decide)
abbrev rm_Q_run : Room := { frames := 3, cells := 0, slots := 0, locals := 60 }
set_option maxRecDepth 20000 in
/-- run on a fresh reference: refused -/
theorem cc_Q_run (l : Launch) (D : va_G) (dA : Nat → ClassId) (B : Nat) (h : zz_H) (n : Nat) (q n0 : Nat) (x : Int32) (x1 : Int32) (x2 : Int32) (x3 : Int32) (hq : h q = some (.inr (11, md_o n0))) : zz_M l D zz_cl (zz_ty dA) B zz_tb (zz_x B) yy_Q_run (Cond.code yy_Q_run bb_Q_run 8 (some FieldType.int)) rm_Q_run [.ref q, .int x, .int x1, .int x2, .int x3] h n zz_mi (fun _ h' n' => n' = n ∧ (∃ fs', h' q = some (.inr (11, fs')) ∧ fs'[0]? = some (.int 1)) ∧ ∀ y, y ≠ q → h' y = h y) := by
  refine zz_ofW (zz_f B) [some (.ref q), some (.int x), some (.int x1), some (.int x2), some (.int x3), none, none, none] (by decide) rfl rfl (Nat.le_of_ble_eq_true rfl) ?_
  intro p e s m below meth c C
  refine z_iload_n C dd_Q_run_0 rfl ?_
  refine z_iconst (v := 0) C dd_Q_run_1 (by decide) ?_
  refine z_aload_n C dd_Q_run_2 rfl ?_
  refine gf_Q_135 C dd_Q_run_3 hq rfl ?_
  refine z_iconst (v := 1) C dd_Q_run_6 (by decide) ?_
  refine z_isub C dd_Q_run_7 ?_
  refine is_Q_127 (sk := fun r => .int r :: []) (zz_f B) C dd_Q_run_8 (cc_Q_in l D dA B _ _ _ _ _) rfl rfl ⟨by decide, by decide⟩ (Nat.le_of_ble_eq_true rfl) ⟨by decide, by decide⟩ (fun _ => rfl) (fun r0 h0 n0 p0 => ?_)
  obtain ⟨rfl, rfl, hr0⟩ := p0
  obtain rfl : r0 = 0 := (hr0.resolve_left (fun z => i32_no _ z.2.1 z.2.2)).1
  refine z_if_eq (tgt := 30) C dd_Q_run_11 (by decide) (fun q11 => ?_) (fun q11 => absurd (by decide) q11)
  refine z_iconst (v := 0) C dd_Q_run_30 (by decide) ?_
  refine z_istore C dd_Q_run_31 rfl ?_
  refine z_aload_n C dd_Q_run_33 rfl ?_
  refine z_iload C dd_Q_run_34 rfl ?_
  refine z_if_eq (tgt := 53) C dd_Q_run_36 (by decide) (fun q36 => ?_) (fun q36 => absurd (by decide) q36)
  refine z_iconst (v := 1) C dd_Q_run_53 (by decide) ?_
  refine pf_Q_121 C dd_Q_run_54 hq (Nat.le_of_ble_eq_true rfl) rfl rfl ?_
  refine z_aload_n C dd_Q_run_57 rfl ?_
  refine gf_Q_121 C dd_Q_run_58 (zz_us _ _ _) rfl ?_
  refine z_if_le (tgt := 66) C dd_Q_run_61 (by decide) (fun q61 => absurd q61 (by decide)) (fun q61 => ?_)
  refine z_iconst (v := 0) C dd_Q_run_64 (by decide) ?_
  exact z_iret C dd_Q_run_65 ⟨rfl, ⟨_, (zz_us _ _ _), rfl⟩, fun y hy => (zz_un hy).trans (rfl)⟩ (by decide) (by decide)
abbrev rm_Q_klass : Room := { frames := 3, cells := 0, slots := 0, locals := 60 }
set_option maxRecDepth 20000 in
/-- klass on a fresh reference -/
theorem cc_Q_klass (l : Launch) (D : va_G) (dA : Nat → ClassId) (B : Nat) (h : zz_H) (n : Nat) (q n0 : Nat) (x : Int32) (hq : h q = some (.inr (11, md_o n0))) (hp : h (n0) = some (.inl (dA 0, 8, .inl (fun _ => 0)))) (hk : h (n0 + 11) = some (.inl (dA 2, 4, .inl (fun _ => 0)))) (hn : h (n0 + 14) = some (.inl (dA 0, 4, .inl (fun _ => 0)))) (e1 : q < n0) : zz_M l D zz_cl (zz_ty dA) B zz_tb (zz_x B) yy_Q_klass (Cond.code yy_Q_klass bb_Q_klass 3 (some FieldType.int)) rm_Q_klass [.ref q, .int x] h n zz_mi (fun r h' n' => n' = n ∧ ((¬ x < 0 ∧ ¬ (1 - 1) < x ∧ r = 1 + 1 - 1 ∧ ∃ fs', h' q = some (.inr (11, fs')) ∧ fs'[0]? = some (.int 0)) ∨ ((x < 0 ∨ (1 - 1) < x) ∧ ∃ fs', h' q = some (.inr (11, fs')) ∧ fs'[0]? = some (.int 1))) ∧ ∀ y, y ≠ q → (y < n0 ∨ n0 + 15 ≤ y) → h' y = h y) := by
  refine zz_ofW (zz_f B) [some (.ref q), some (.int x), none] (by decide) rfl rfl (Nat.le_of_ble_eq_true rfl) ?_
  intro p e s m below meth c C
  refine z_aload_n C dd_Q_klass_0 rfl ?_
  refine z_iload_n C dd_Q_klass_1 rfl ?_
  refine z_iconst (v := 0) C dd_Q_klass_2 (by decide) ?_
  refine z_aload_n C dd_Q_klass_3 rfl ?_
  refine gf_Q_7 C dd_Q_klass_4 hq rfl ?_
  refine z_iconst (v := 1) C dd_Q_klass_7 (by decide) ?_
  refine z_isub C dd_Q_klass_8 ?_
  refine is_Q_127 (sk := fun r => .int r :: [.ref q]) (zz_f B) C dd_Q_klass_9 (cc_Q_in l D dA B _ _ _ _ _) rfl rfl ⟨by decide, by decide⟩ (Nat.le_of_ble_eq_true rfl) ⟨by decide, by decide⟩ (fun _ => rfl) (fun r0 h0 n9 p0 => ?_)
  obtain ⟨rfl, rfl, hr0⟩ := p0
  rcases hr0 with ⟨rfl, u1, u2⟩ | ⟨rfl, u1⟩
  · skip
    refine z_if_ne (tgt := 19) C dd_Q_klass_12 (by decide) (fun q12 => ?_) (fun q12 => absurd q12 (by decide))
    refine z_aload_n C dd_Q_klass_19 rfl ?_
    refine gf_Q_7 C dd_Q_klass_20 hq rfl ?_
    refine z_bipush (v := 8) C dd_Q_klass_23 (by decide) ?_
    refine z_icmp_ne (tgt := 32) C dd_Q_klass_25 (by decide) (fun q25 => ?_) (fun q25 => absurd q25 (by decide))
    refine z_iconst (v := 0) C dd_Q_klass_32 (by decide) ?_
    refine pf_Q_121 C dd_Q_klass_33 hq (Nat.le_of_ble_eq_true rfl) rfl rfl ?_
    refine z_aload_n C dd_Q_klass_36 rfl ?_
    refine gf_Q_121 C dd_Q_klass_37 (zz_us _ _ _) rfl ?_
    refine z_if_le (tgt := 45) C dd_Q_klass_40 (by decide) (fun q40 => ?_) (fun q40 => absurd (by decide) q40)
    refine z_aload_n C dd_Q_klass_45 rfl ?_
    refine gf_Q_13 C dd_Q_klass_46 (zz_us _ _ _) rfl ?_
    refine z_aload_n C dd_Q_klass_49 rfl ?_
    refine gf_Q_7 C dd_Q_klass_50 (zz_us _ _ _) rfl ?_
    refine z_iload_n C dd_Q_klass_53 rfl ?_
    refine z_iast (t0 := 0) C rfl dd_Q_klass_54 ((zz_un (by omega)).trans (hp)) (by unfold vp_in; decide) ?_
    refine z_aload_n C dd_Q_klass_55 rfl ?_
    refine z_dup C dd_Q_klass_56 rfl ?_
    refine gf_Q_7 C dd_Q_klass_57 ((zz_un (by omega)).trans (zz_us _ _ _)) rfl ?_
    refine z_iconst (v := 1) C dd_Q_klass_60 (by decide) ?_
    refine z_iadd C dd_Q_klass_61 ?_
    refine pf_Q_7 C dd_Q_klass_62 ((zz_un (by omega)).trans (zz_us _ _ _)) (Nat.le_of_ble_eq_true rfl) rfl rfl ?_
    refine z_iconst (v := 0) C dd_Q_klass_65 (by decide) ?_
    refine z_istore_n C dd_Q_klass_66 rfl ?_
    refine z_iload_n C dd_Q_klass_67 rfl ?_
    refine z_iconst (v := 4) C dd_Q_klass_68 (by decide) ?_
    refine z_icmp_ge (tgt := 83) C dd_Q_klass_69 (by decide) (fun q69 => absurd q69 (by decide)) (fun q69 => ?_)
    refine z_aload_n C dd_Q_klass_72 rfl ?_
    refine z_iload_n C dd_Q_klass_73 rfl ?_
    refine iv_Q_131 (sk := fun _ => []) (zz_f B) C dd_Q_klass_74 (cc_Q_forget l D dA B _ _ _ _ _ _ _ _ _ (zz_us _ _ _) rfl rfl rfl ((zz_un (by omega)).trans ((zz_un (by omega)).trans ((zz_un (by omega)).trans (hk)))) ((zz_un (by omega)).trans ((zz_un (by omega)).trans ((zz_un (by omega)).trans (hn)))) (by unfold vp_in; decide) (by omega) (by omega) (by omega)) (zz_us _ _ _) rfl rfl ⟨by decide, by decide⟩ (Nat.le_of_ble_eq_true rfl) ⟨by decide, by decide⟩ (fun _ => rfl) (fun _ h0 n9 p0 => ?_)
    obtain ⟨rfl, ga0, gb0, gd0, gf0⟩ := p0
    have f42_0 := (gf0 n0 (by omega) (by omega) (by omega)).trans ((zz_un (by omega)).trans (zz_us _ _ _))
    refine z_iinc C dd_Q_klass_77 rfl rfl ?_
    refine z_goto (tgt := 67) C dd_Q_klass_80 (by decide) ?_
    refine z_iload_n C dd_Q_klass_67 rfl ?_
    refine z_iconst (v := 4) C dd_Q_klass_68 (by decide) ?_
    refine z_icmp_ge (tgt := 83) C dd_Q_klass_69 (by decide) (fun q69 => absurd q69 (by decide)) (fun q69 => ?_)
    refine z_aload_n C dd_Q_klass_72 rfl ?_
    refine z_iload_n C dd_Q_klass_73 rfl ?_
    refine iv_Q_131 (sk := fun _ => []) (zz_f B) C dd_Q_klass_74 (cc_Q_forget l D dA B _ _ _ _ _ _ _ _ _ ga0 rfl rfl rfl gb0 gd0 (by unfold vp_in; decide) (by omega) (by omega) (by omega)) ga0 rfl rfl ⟨by decide, by decide⟩ (Nat.le_of_ble_eq_true rfl) ⟨by decide, by decide⟩ (fun _ => rfl) (fun _ h1 n9 p1 => ?_)
    obtain ⟨rfl, ga1, gb1, gd1, gf1⟩ := p1
    have f52_0 := (gf1 n0 (by omega) (by omega) (by omega)).trans f42_0
    refine z_iinc C dd_Q_klass_77 rfl rfl ?_
    refine z_goto (tgt := 67) C dd_Q_klass_80 (by decide) ?_
    refine z_iload_n C dd_Q_klass_67 rfl ?_
    refine z_iconst (v := 4) C dd_Q_klass_68 (by decide) ?_
    refine z_icmp_ge (tgt := 83) C dd_Q_klass_69 (by decide) (fun q69 => absurd q69 (by decide)) (fun q69 => ?_)
    refine z_aload_n C dd_Q_klass_72 rfl ?_
    refine z_iload_n C dd_Q_klass_73 rfl ?_
    refine iv_Q_131 (sk := fun _ => []) (zz_f B) C dd_Q_klass_74 (cc_Q_forget l D dA B _ _ _ _ _ _ _ _ _ ga1 rfl rfl rfl gb1 gd1 (by unfold vp_in; decide) (by omega) (by omega) (by omega)) ga1 rfl rfl ⟨by decide, by decide⟩ (Nat.le_of_ble_eq_true rfl) ⟨by decide, by decide⟩ (fun _ => rfl) (fun _ h2 n9 p2 => ?_)
    obtain ⟨rfl, ga2, gb2, gd2, gf2⟩ := p2
    have f62_0 := (gf2 n0 (by omega) (by omega) (by omega)).trans f52_0
    refine z_iinc C dd_Q_klass_77 rfl rfl ?_
    refine z_goto (tgt := 67) C dd_Q_klass_80 (by decide) ?_
    refine z_iload_n C dd_Q_klass_67 rfl ?_
    refine z_iconst (v := 4) C dd_Q_klass_68 (by decide) ?_
    refine z_icmp_ge (tgt := 83) C dd_Q_klass_69 (by decide) (fun q69 => absurd q69 (by decide)) (fun q69 => ?_)
    refine z_aload_n C dd_Q_klass_72 rfl ?_
    refine z_iload_n C dd_Q_klass_73 rfl ?_
    refine iv_Q_131 (sk := fun _ => []) (zz_f B) C dd_Q_klass_74 (cc_Q_forget l D dA B _ _ _ _ _ _ _ _ _ ga2 rfl rfl rfl gb2 gd2 (by unfold vp_in; decide) (by omega) (by omega) (by omega)) ga2 rfl rfl ⟨by decide, by decide⟩ (Nat.le_of_ble_eq_true rfl) ⟨by decide, by decide⟩ (fun _ => rfl) (fun _ h3 n9 p3 => ?_)
    obtain ⟨rfl, ga3, gb3, gd3, gf3⟩ := p3
    have f72_0 := (gf3 n0 (by omega) (by omega) (by omega)).trans f62_0
    refine z_iinc C dd_Q_klass_77 rfl rfl ?_
    refine z_goto (tgt := 67) C dd_Q_klass_80 (by decide) ?_
    refine z_iload_n C dd_Q_klass_67 rfl ?_
    refine z_iconst (v := 4) C dd_Q_klass_68 (by decide) ?_
    refine z_icmp_ge (tgt := 83) C dd_Q_klass_69 (by decide) (fun q69 => ?_) (fun q69 => absurd (by decide) q69)
    refine z_aload_n C dd_Q_klass_83 rfl ?_
    refine gf_Q_7 C dd_Q_klass_84 ga3 rfl ?_
    refine z_iconst (v := 1) C dd_Q_klass_87 (by decide) ?_
    refine z_isub C dd_Q_klass_88 ?_
    exact z_iret C dd_Q_klass_89 ⟨rfl, Or.inl ⟨u1, u2, rfl, _, ga3, rfl⟩, fun y y1 y2 => (gf3 _ (by omega) (by omega) (by omega)).trans ((gf2 _ (by omega) (by omega) (by omega)).trans ((gf1 _ (by omega) (by omega) (by omega)).trans ((gf0 _ (by omega) (by omega) (by omega)).trans ((zz_un (by omega)).trans ((zz_un (by omega)).trans ((zz_un (by omega)).trans (rfl)))))))⟩ (by decide) (by decide)
  · skip
    refine z_if_ne (tgt := 19) C dd_Q_klass_12 (by decide) (fun q12 => absurd (by decide) q12) (fun q12 => ?_)
    refine z_iconst (v := 1) C dd_Q_klass_15 (by decide) ?_
    refine z_goto (tgt := 33) C dd_Q_klass_16 (by decide) ?_
    refine pf_Q_121 C dd_Q_klass_33 hq (Nat.le_of_ble_eq_true rfl) rfl rfl ?_
    refine z_aload_n C dd_Q_klass_36 rfl ?_
    refine gf_Q_121 C dd_Q_klass_37 (zz_us _ _ _) rfl ?_
    refine z_if_le (tgt := 45) C dd_Q_klass_40 (by decide) (fun q40 => absurd q40 (by decide)) (fun q40 => ?_)
    refine z_iconst (v := 0) C dd_Q_klass_43 (by decide) ?_
    exact z_iret C dd_Q_klass_44 ⟨rfl, Or.inr ⟨u1, _, (zz_us _ _ _), rfl⟩, fun y y1 y2 => (zz_un y1).trans rfl⟩ (by decide) (by decide)
abbrev rm_Q_generic : Room := { frames := 3, cells := 0, slots := 0, locals := 60 }
set_option maxRecDepth 20000 in
/-- generic on a fresh reference -/
theorem cc_Q_generic (l : Launch) (D : va_G) (dA : Nat → ClassId) (B : Nat) (h : zz_H) (n : Nat) (q n0 : Nat) (x : Int32) (hq : h q = some (.inr (11, md_o n0))) (hp : h (n0 + 1) = some (.inl (dA 0, 4, .inl (fun _ => 0)))) (e1 : q < n0) : zz_M l D zz_cl (zz_ty dA) B zz_tb (zz_x B) yy_Q_generic (Cond.code yy_Q_generic bb_Q_generic 2 (some FieldType.int)) rm_Q_generic [.ref q, .int x] h n zz_mi (fun r h' n' => n' = n ∧ ((¬ x < 1 ∧ ¬ 2 < x ∧ r = 0 + 1 - 1 ∧ ∃ fs', h' q = some (.inr (11, fs')) ∧ fs'[0]? = some (.int 0)) ∨ ((x < 1 ∨ 2 < x) ∧ ∃ fs', h' q = some (.inr (11, fs')) ∧ fs'[0]? = some (.int 1))) ∧ ∀ y, y ≠ q → (y < n0 ∨ n0 + 15 ≤ y) → h' y = h y) := by
  refine zz_ofW (zz_f B) [some (.ref q), some (.int x)] (by decide) rfl rfl (Nat.le_of_ble_eq_true rfl) ?_
  intro p e s m below meth c C
  refine z_aload_n C dd_Q_generic_0 rfl ?_
  refine z_iload_n C dd_Q_generic_1 rfl ?_
  refine z_iconst (v := 1) C dd_Q_generic_2 (by decide) ?_
  refine z_iconst (v := 2) C dd_Q_generic_3 (by decide) ?_
  refine is_Q_127 (sk := fun r => .int r :: [.ref q]) (zz_f B) C dd_Q_generic_4 (cc_Q_in l D dA B _ _ _ _ _) rfl rfl ⟨by decide, by decide⟩ (Nat.le_of_ble_eq_true rfl) ⟨by decide, by decide⟩ (fun _ => rfl) (fun r0 h0 n9 p0 => ?_)
  obtain ⟨rfl, rfl, hr0⟩ := p0
  rcases hr0 with ⟨rfl, u1, u2⟩ | ⟨rfl, u1⟩
  · skip
    refine z_if_ne (tgt := 14) C dd_Q_generic_7 (by decide) (fun q7 => ?_) (fun q7 => absurd q7 (by decide))
    refine z_aload_n C dd_Q_generic_14 rfl ?_
    refine gf_Q_135 C dd_Q_generic_15 hq rfl ?_
    refine z_iconst (v := 4) C dd_Q_generic_18 (by decide) ?_
    refine z_icmp_ne (tgt := 26) C dd_Q_generic_19 (by decide) (fun q19 => ?_) (fun q19 => absurd q19 (by decide))
    refine z_iconst (v := 0) C dd_Q_generic_26 (by decide) ?_
    refine pf_Q_121 C dd_Q_generic_27 hq (Nat.le_of_ble_eq_true rfl) rfl rfl ?_
    refine z_aload_n C dd_Q_generic_30 rfl ?_
    refine gf_Q_121 C dd_Q_generic_31 (zz_us _ _ _) rfl ?_
    refine z_if_le (tgt := 39) C dd_Q_generic_34 (by decide) (fun q34 => ?_) (fun q34 => absurd (by decide) q34)
    refine z_aload_n C dd_Q_generic_39 rfl ?_
    refine gf_Q_17 C dd_Q_generic_40 (zz_us _ _ _) rfl ?_
    refine z_aload_n C dd_Q_generic_43 rfl ?_
    refine gf_Q_135 C dd_Q_generic_44 (zz_us _ _ _) rfl ?_
    refine z_iload_n C dd_Q_generic_47 rfl ?_
    refine z_iast (t0 := 0) C rfl dd_Q_generic_48 ((zz_un (by omega)).trans (hp)) (by unfold vp_in; decide) ?_
    refine z_aload_n C dd_Q_generic_49 rfl ?_
    refine z_dup C dd_Q_generic_50 rfl ?_
    refine gf_Q_135 C dd_Q_generic_51 ((zz_un (by omega)).trans (zz_us _ _ _)) rfl ?_
    refine z_iconst (v := 1) C dd_Q_generic_54 (by decide) ?_
    refine z_iadd C dd_Q_generic_55 ?_
    refine pf_Q_135 C dd_Q_generic_56 ((zz_un (by omega)).trans (zz_us _ _ _)) (Nat.le_of_ble_eq_true rfl) rfl rfl ?_
    refine z_aload_n C dd_Q_generic_59 rfl ?_
    refine gf_Q_135 C dd_Q_generic_60 (zz_us _ _ _) rfl ?_
    refine z_iconst (v := 1) C dd_Q_generic_63 (by decide) ?_
    refine z_isub C dd_Q_generic_64 ?_
    exact z_iret C dd_Q_generic_65 ⟨rfl, Or.inl ⟨u1, u2, rfl, _, (zz_us _ _ _), rfl⟩, fun y y1 y2 => (zz_un (by omega)).trans ((zz_un (by omega)).trans ((zz_un (by omega)).trans (rfl)))⟩ (by decide) (by decide)
  · skip
    refine z_if_ne (tgt := 14) C dd_Q_generic_7 (by decide) (fun q7 => absurd (by decide) q7) (fun q7 => ?_)
    refine z_iconst (v := 1) C dd_Q_generic_10 (by decide) ?_
    refine z_goto (tgt := 27) C dd_Q_generic_11 (by decide) ?_
    refine pf_Q_121 C dd_Q_generic_27 hq (Nat.le_of_ble_eq_true rfl) rfl rfl ?_
    refine z_aload_n C dd_Q_generic_30 rfl ?_
    refine gf_Q_121 C dd_Q_generic_31 (zz_us _ _ _) rfl ?_
    refine z_if_le (tgt := 39) C dd_Q_generic_34 (by decide) (fun q34 => absurd q34 (by decide)) (fun q34 => ?_)
    refine z_iconst (v := 0) C dd_Q_generic_37 (by decide) ?_
    exact z_iret C dd_Q_generic_38 ⟨rfl, Or.inr ⟨u1, _, (zz_us _ _ _), rfl⟩, fun y y1 y2 => (zz_un y1).trans rfl⟩ (by decide) (by decide)
abbrev rm_Q_left : Room := { frames := 0, cells := 0, slots := 0, locals := 0 }
set_option maxRecDepth 20000 in
/-- left on a fresh reference -/
theorem cc_Q_left (l : Launch) (D : va_G) (dA : Nat → ClassId) (B : Nat) (h : zz_H) (n : Nat) (q n0 : Nat) (hq : h q = some (.inr (11, md_o n0))) : zz_M l D zz_cl (zz_ty dA) B zz_tb (zz_x B) yy_Q_left (Cond.code yy_Q_left bb_Q_left 1 (some FieldType.int)) rm_Q_left [.ref q] h n zz_mi (fun r h' n' => n' = n ∧ r = 0 ∧ ∀ y, y ≠ q → h' y = h y) := by
  refine zz_ofW (zz_f B) [some (.ref q)] (by decide) rfl rfl (Nat.le_of_ble_eq_true rfl) ?_
  intro p e s m below meth c C
  refine z_aload_n C dd_Q_left_0 rfl ?_
  refine z_iconst (v := 0) C dd_Q_left_1 (by decide) ?_
  refine pf_Q_121 C dd_Q_left_2 hq (Nat.le_of_ble_eq_true rfl) rfl rfl ?_
  refine z_aload_n C dd_Q_left_5 rfl ?_
  refine gf_Q_225 C dd_Q_left_6 (zz_us _ _ _) rfl ?_
  exact z_iret C dd_Q_left_9 ⟨rfl, rfl, fun y hy => zz_un hy⟩ (by decide) (by decide)
abbrev rm_Q_tests : Room := { frames := 0, cells := 0, slots := 0, locals := 0 }
set_option maxRecDepth 20000 in
/-- tests on a fresh reference -/
theorem cc_Q_tests (l : Launch) (D : va_G) (dA : Nat → ClassId) (B : Nat) (h : zz_H) (n : Nat) (q n0 : Nat) (hq : h q = some (.inr (11, md_o n0))) : zz_M l D zz_cl (zz_ty dA) B zz_tb (zz_x B) yy_Q_tests (Cond.code yy_Q_tests bb_Q_tests 1 (some FieldType.int)) rm_Q_tests [.ref q] h n zz_mi (fun r h' n' => n' = n ∧ r = 0 ∧ ∀ y, y ≠ q → h' y = h y) := by
  refine zz_ofW (zz_f B) [some (.ref q)] (by decide) rfl rfl (Nat.le_of_ble_eq_true rfl) ?_
  intro p e s m below meth c C
  refine z_aload_n C dd_Q_tests_0 rfl ?_
  refine z_iconst (v := 0) C dd_Q_tests_1 (by decide) ?_
  refine pf_Q_121 C dd_Q_tests_2 hq (Nat.le_of_ble_eq_true rfl) rfl rfl ?_
  refine z_aload_n C dd_Q_tests_5 rfl ?_
  refine gf_Q_222 C dd_Q_tests_6 (zz_us _ _ _) rfl ?_
  exact z_iret C dd_Q_tests_9 ⟨rfl, rfl, fun y hy => zz_un hy⟩ (by decide) (by decide)
