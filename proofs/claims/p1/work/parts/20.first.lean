abbrev rm_D_compiledAt : Room := { frames := 7, cells := 1, slots := 6, locals := 120 }
set_option maxRecDepth 20000 in
/-- compiledAt where the number names nothing -/
theorem cc_D_compiledAt (l : Launch) (D : va_G) (dA : Nat → ClassId) (B : Nat) (h : zz_H) (n : Nat) (q c0 g0 m0 b0 k0 : Nat) (gc mc w0 w1 w2 : Int32) (x : Int32) (x1 : Int32) (hq : h q = some (.inr (0, [.ref c0, .ref g0, .int gc, .ref m0, .int mc, .ref b0, .ref k0, .int w0, .int w1, .int w2]))) (gf : Nat → Option Nat) (ha : h g0 = some (.inl (dA 3, 4, .inr (.inr (.inr (.inr gf)))))) (hx : x < 0 ∨ ¬ x < gc) (hl : l.stackTraces = false) : zz_MX l D zz_cl (zz_ty dA) B zz_tb (zz_x B) yy_D_compiledAt (Cond.code yy_D_compiledAt bb_D_compiledAt 4 (some (FieldType.object "DispatchDesk$Generic"))) rm_D_compiledAt [.ref q, .int x, .int x1] h n zz_mr (fun _ _ _ => False) (fun E h' n' => E = "java/lang/IllegalArgumentException" ∧ h' = h ∧ n ≤ n') := by
  refine zz_ofX (zz_f B) [some (.ref q), some (.int x), some (.int x1), none] (by decide) rfl rfl (Nat.le_of_ble_eq_true rfl) ?_
  intro p e s m below meth c C hno
  refine z_aload_n C dd_D_compiledAt_0 rfl ?_
  refine z_iload_n C dd_D_compiledAt_1 rfl ?_
  exact ix_D_92 (sk := fun r => .ref r :: []) (zz_f B) C dd_D_compiledAt_2 (cc_D_genericAt l D dA B _ _ q c0 g0 m0 b0 k0 gc mc w0 w1 w2 hq x gf ha (fun a b => absurd b (hx.resolve_left a)) hl) hno hq rfl rfl ⟨by decide, by decide⟩ (Nat.le_of_ble_eq_true rfl) ⟨by decide, by decide⟩ (fun _ => rfl) (fun E h' n' p9 => ⟨p9.1, p9.2.1, p9.2.2.1⟩) (by decide) (by decide) (fun _ _ _ p9 => absurd p9.2.2.2.2 (hx.resolve_left p9.2.2.2.1))
abbrev rm_D_method : Room := { frames := 7, cells := 1, slots := 6, locals := 120 }
set_option maxRecDepth 20000 in
/-- method where the number names nothing -/
theorem cc_D_method (l : Launch) (D : va_G) (dA : Nat → ClassId) (B : Nat) (h : zz_H) (n : Nat) (q c0 g0 m0 b0 k0 : Nat) (gc mc w0 w1 w2 : Int32) (x : Int32) (hq : h q = some (.inr (0, [.ref c0, .ref g0, .int gc, .ref m0, .int mc, .ref b0, .ref k0, .int w0, .int w1, .int w2]))) (gf : Nat → Option Nat) (ha : h g0 = some (.inl (dA 3, 4, .inr (.inr (.inr (.inr gf)))))) (hx : x < 0 ∨ ¬ x < gc) (hl : l.stackTraces = false) : zz_MX l D zz_cl (zz_ty dA) B zz_tb (zz_x B) yy_D_method (Cond.code yy_D_method bb_D_method 4 (some FieldType.int)) rm_D_method [.ref q, .int x] h n zz_mi (fun _ _ _ => False) (fun E h' n' => E = "java/lang/IllegalArgumentException" ∧ h' = h ∧ n ≤ n') := by
  refine zz_ofX (zz_f B) [some (.ref q), some (.int x), none, none] (by decide) rfl rfl (Nat.le_of_ble_eq_true rfl) ?_
  intro p e s m below meth c C hno
  refine z_aload_n C dd_D_method_0 rfl ?_
  refine z_iload_n C dd_D_method_1 rfl ?_
  exact ix_D_92 (sk := fun r => .ref r :: []) (zz_f B) C dd_D_method_2 (cc_D_genericAt l D dA B _ _ q c0 g0 m0 b0 k0 gc mc w0 w1 w2 hq x gf ha (fun a b => absurd b (hx.resolve_left a)) hl) hno hq rfl rfl ⟨by decide, by decide⟩ (Nat.le_of_ble_eq_true rfl) ⟨by decide, by decide⟩ (fun _ => rfl) (fun E h' n' p9 => ⟨p9.1, p9.2.1, p9.2.2.1⟩) (by decide) (by decide) (fun _ _ _ p9 => absurd p9.2.2.2.2 (hx.resolve_left p9.2.2.2.1))
abbrev rm_D_check : Room := { frames := 7, cells := 1, slots := 6, locals := 120 }
set_option maxRecDepth 20000 in
/-- check where the number names nothing -/
theorem cc_D_check (l : Launch) (D : va_G) (dA : Nat → ClassId) (B : Nat) (h : zz_H) (n : Nat) (q c0 g0 m0 b0 k0 : Nat) (gc mc w0 w1 w2 : Int32) (x : Int32) (hq : h q = some (.inr (0, [.ref c0, .ref g0, .int gc, .ref m0, .int mc, .ref b0, .ref k0, .int w0, .int w1, .int w2]))) (gf : Nat → Option Nat) (ha : h g0 = some (.inl (dA 3, 4, .inr (.inr (.inr (.inr gf)))))) (hx : x < 0 ∨ ¬ x < gc) (hl : l.stackTraces = false) : zz_MX l D zz_cl (zz_ty dA) B zz_tb (zz_x B) yy_D_check (Cond.code yy_D_check bb_D_check 4 (some FieldType.int)) rm_D_check [.ref q, .int x] h n zz_mi (fun _ _ _ => False) (fun E h' n' => E = "java/lang/IllegalArgumentException" ∧ h' = h ∧ n ≤ n') := by
  refine zz_ofX (zz_f B) [some (.ref q), some (.int x), none, none] (by decide) rfl rfl (Nat.le_of_ble_eq_true rfl) ?_
  intro p e s m below meth c C hno
  refine z_aload_n C dd_D_check_0 rfl ?_
  refine z_iload_n C dd_D_check_1 rfl ?_
  exact ix_D_92 (sk := fun r => .ref r :: []) (zz_f B) C dd_D_check_2 (cc_D_genericAt l D dA B _ _ q c0 g0 m0 b0 k0 gc mc w0 w1 w2 hq x gf ha (fun a b => absurd b (hx.resolve_left a)) hl) hno hq rfl rfl ⟨by decide, by decide⟩ (Nat.le_of_ble_eq_true rfl) ⟨by decide, by decide⟩ (fun _ => rfl) (fun E h' n' p9 => ⟨p9.1, p9.2.1, p9.2.2.1⟩) (by decide) (by decide) (fun _ _ _ p9 => absurd p9.2.2.2.2 (hx.resolve_left p9.2.2.2.1))
abbrev rm_D_compile : Room := { frames := 7, cells := 1, slots := 6, locals := 120 }
set_option maxRecDepth 20000 in
/-- compile where the number names nothing -/
theorem cc_D_compile (l : Launch) (D : va_G) (dA : Nat → ClassId) (B : Nat) (h : zz_H) (n : Nat) (q c0 g0 m0 b0 k0 : Nat) (gc mc w0 w1 w2 : Int32) (x : Int32) (hq : h q = some (.inr (0, [.ref c0, .ref g0, .int gc, .ref m0, .int mc, .ref b0, .ref k0, .int w0, .int w1, .int w2]))) (gf : Nat → Option Nat) (ha : h g0 = some (.inl (dA 3, 4, .inr (.inr (.inr (.inr gf)))))) (hx : x < 0 ∨ ¬ x < gc) (hl : l.stackTraces = false) : zz_MX l D zz_cl (zz_ty dA) B zz_tb (zz_x B) yy_D_compile (Cond.code yy_D_compile bb_D_compile 3 (some FieldType.int)) rm_D_compile [.ref q, .int x] h n zz_mi (fun _ _ _ => False) (fun E h' n' => E = "java/lang/IllegalArgumentException" ∧ h' = h ∧ n ≤ n') := by
  refine zz_ofX (zz_f B) [some (.ref q), some (.int x), none] (by decide) rfl rfl (Nat.le_of_ble_eq_true rfl) ?_
  intro p e s m below meth c C hno
  refine z_aload_n C dd_D_compile_0 rfl ?_
  refine z_iload_n C dd_D_compile_1 rfl ?_
  exact ix_D_92 (sk := fun r => .ref r :: []) (zz_f B) C dd_D_compile_2 (cc_D_genericAt l D dA B _ _ q c0 g0 m0 b0 k0 gc mc w0 w1 w2 hq x gf ha (fun a b => absurd b (hx.resolve_left a)) hl) hno hq rfl rfl ⟨by decide, by decide⟩ (Nat.le_of_ble_eq_true rfl) ⟨by decide, by decide⟩ (fun _ => rfl) (fun E h' n' p9 => ⟨p9.1, p9.2.1, p9.2.2.1⟩) (by decide) (by decide) (fun _ _ _ p9 => absurd p9.2.2.2.2 (hx.resolve_left p9.2.2.2.1))
abbrev rm_D_best : Room := { frames := 7, cells := 1, slots := 6, locals := 120 }
set_option maxRecDepth 20000 in
/-- best where the number names nothing -/
theorem cc_D_best (l : Launch) (D : va_G) (dA : Nat → ClassId) (B : Nat) (h : zz_H) (n : Nat) (q c0 g0 m0 b0 k0 : Nat) (gc mc w0 w1 w2 : Int32) (x : Int32) (x1 : Int32) (x2 : Int32) (hq : h q = some (.inr (0, [.ref c0, .ref g0, .int gc, .ref m0, .int mc, .ref b0, .ref k0, .int w0, .int w1, .int w2]))) (gf : Nat → Option Nat) (ha : h g0 = some (.inl (dA 3, 4, .inr (.inr (.inr (.inr gf)))))) (hx : x < 0 ∨ ¬ x < gc) (hl : l.stackTraces = false) : zz_MX l D zz_cl (zz_ty dA) B zz_tb (zz_x B) yy_D_best (Cond.code yy_D_best bb_D_best 5 (some FieldType.int)) rm_D_best [.ref q, .int x, .int x1, .int x2] h n zz_mi (fun _ _ _ => False) (fun E h' n' => E = "java/lang/IllegalArgumentException" ∧ h' = h ∧ n ≤ n') := by
  refine zz_ofX (zz_f B) [some (.ref q), some (.int x), some (.int x1), some (.int x2), none] (by decide) rfl rfl (Nat.le_of_ble_eq_true rfl) ?_
  intro p e s m below meth c C hno
  refine z_aload_n C dd_D_best_0 rfl ?_
  refine z_iload_n C dd_D_best_1 rfl ?_
  exact ix_D_92 (sk := fun r => .ref r :: []) (zz_f B) C dd_D_best_2 (cc_D_genericAt l D dA B _ _ q c0 g0 m0 b0 k0 gc mc w0 w1 w2 hq x gf ha (fun a b => absurd b (hx.resolve_left a)) hl) hno hq rfl rfl ⟨by decide, by decide⟩ (Nat.le_of_ble_eq_true rfl) ⟨by decide, by decide⟩ (fun _ => rfl) (fun E h' n' p9 => ⟨p9.1, p9.2.1, p9.2.2.1⟩) (by decide) (by decide) (fun _ _ _ p9 => absurd p9.2.2.2.2 (hx.resolve_left p9.2.2.2.1))
abbrev rm_D_run : Room := { frames := 7, cells := 1, slots := 6, locals := 120 }
set_option maxRecDepth 20000 in
/-- run where the number names nothing -/
theorem cc_D_run (l : Launch) (D : va_G) (dA : Nat → ClassId) (B : Nat) (h : zz_H) (n : Nat) (q c0 g0 m0 b0 k0 : Nat) (gc mc w0 w1 w2 : Int32) (x : Int32) (x1 : Int32) (x2 : Int32) (x3 : Int32) (hq : h q = some (.inr (0, [.ref c0, .ref g0, .int gc, .ref m0, .int mc, .ref b0, .ref k0, .int w0, .int w1, .int w2]))) (gf : Nat → Option Nat) (ha : h g0 = some (.inl (dA 3, 4, .inr (.inr (.inr (.inr gf)))))) (hx : x < 0 ∨ ¬ x < gc) (hl : l.stackTraces = false) : zz_MX l D zz_cl (zz_ty dA) B zz_tb (zz_x B) yy_D_run (Cond.code yy_D_run bb_D_run 7 (some FieldType.int)) rm_D_run [.ref q, .int x, .int x1, .int x2, .int x3] h n zz_mi (fun _ _ _ => False) (fun E h' n' => E = "java/lang/IllegalArgumentException" ∧ h' = h ∧ n ≤ n') := by
  refine zz_ofX (zz_f B) [some (.ref q), some (.int x), some (.int x1), some (.int x2), some (.int x3), none, none] (by decide) rfl rfl (Nat.le_of_ble_eq_true rfl) ?_
  intro p e s m below meth c C hno
  refine z_aload_n C dd_D_run_0 rfl ?_
  refine z_iload_n C dd_D_run_1 rfl ?_
  exact ix_D_92 (sk := fun r => .ref r :: []) (zz_f B) C dd_D_run_2 (cc_D_genericAt l D dA B _ _ q c0 g0 m0 b0 k0 gc mc w0 w1 w2 hq x gf ha (fun a b => absurd b (hx.resolve_left a)) hl) hno hq rfl rfl ⟨by decide, by decide⟩ (Nat.le_of_ble_eq_true rfl) ⟨by decide, by decide⟩ (fun _ => rfl) (fun E h' n' p9 => ⟨p9.1, p9.2.1, p9.2.2.1⟩) (by decide) (by decide) (fun _ _ _ p9 => absurd p9.2.2.2.2 (hx.resolve_left p9.2.2.2.1))
abbrev rm_D_node : Room := { frames := 8, cells := 1, slots := 6, locals := 160 }
set_option maxRecDepth 20000 in
/-- node where the number names nothing -/
theorem cc_D_node (l : Launch) (D : va_G) (dA : Nat → ClassId) (B : Nat) (h : zz_H) (n : Nat) (q c0 g0 m0 b0 k0 : Nat) (gc mc w0 w1 w2 : Int32) (x : Int32) (x1 : Int32) (x2 : Int32) (hq : h q = some (.inr (0, [.ref c0, .ref g0, .int gc, .ref m0, .int mc, .ref b0, .ref k0, .int w0, .int w1, .int w2]))) (gf : Nat → Option Nat) (ha : h g0 = some (.inl (dA 3, 4, .inr (.inr (.inr (.inr gf)))))) (hx : x < 0 ∨ ¬ x < gc) (hl : l.stackTraces = false) : zz_MX l D zz_cl (zz_ty dA) B zz_tb (zz_x B) yy_D_node (Cond.code yy_D_node bb_D_node 5 (some FieldType.int)) rm_D_node [.ref q, .int x, .int x1, .int x2] h n zz_mi (fun _ _ _ => False) (fun E h' n' => E = "java/lang/IllegalArgumentException" ∧ h' = h ∧ n ≤ n') := by
  refine zz_ofX (zz_f B) [some (.ref q), some (.int x), some (.int x1), some (.int x2), none] (by decide) rfl rfl (Nat.le_of_ble_eq_true rfl) ?_
  intro p e s m below meth c C hno
  refine z_aload_n C dd_D_node_0 rfl ?_
  refine z_iload_n C dd_D_node_1 rfl ?_
  refine z_iload_n C dd_D_node_2 rfl ?_
  exact ix_D_220 (sk := fun r => .ref r :: []) (zz_f B) C dd_D_node_3 (cc_D_compiledAt l D dA B _ _ q c0 g0 m0 b0 k0 gc mc w0 w1 w2 x _ hq gf ha hx hl) hno hq rfl rfl ⟨by decide, by decide⟩ (Nat.le_of_ble_eq_true rfl) ⟨by decide, by decide⟩ (fun _ => rfl) (fun E h' n' p9 => p9) (by decide) (by decide) (fun _ _ _ p9 => absurd p9 id)
abbrev rm_D_test : Room := { frames := 8, cells := 1, slots := 6, locals := 160 }
set_option maxRecDepth 20000 in
/-- test where the number names nothing -/
theorem cc_D_test (l : Launch) (D : va_G) (dA : Nat → ClassId) (B : Nat) (h : zz_H) (n : Nat) (q c0 g0 m0 b0 k0 : Nat) (gc mc w0 w1 w2 : Int32) (x : Int32) (x1 : Int32) (x2 : Int32) (hq : h q = some (.inr (0, [.ref c0, .ref g0, .int gc, .ref m0, .int mc, .ref b0, .ref k0, .int w0, .int w1, .int w2]))) (gf : Nat → Option Nat) (ha : h g0 = some (.inl (dA 3, 4, .inr (.inr (.inr (.inr gf)))))) (hx : x < 0 ∨ ¬ x < gc) (hl : l.stackTraces = false) : zz_MX l D zz_cl (zz_ty dA) B zz_tb (zz_x B) yy_D_test (Cond.code yy_D_test bb_D_test 5 (some FieldType.int)) rm_D_test [.ref q, .int x, .int x1, .int x2] h n zz_mi (fun _ _ _ => False) (fun E h' n' => E = "java/lang/IllegalArgumentException" ∧ h' = h ∧ n ≤ n') := by
  refine zz_ofX (zz_f B) [some (.ref q), some (.int x), some (.int x1), some (.int x2), none] (by decide) rfl rfl (Nat.le_of_ble_eq_true rfl) ?_
  intro p e s m below meth c C hno
  refine z_aload_n C dd_D_test_0 rfl ?_
  refine z_iload_n C dd_D_test_1 rfl ?_
  refine z_iload_n C dd_D_test_2 rfl ?_
  exact ix_D_220 (sk := fun r => .ref r :: []) (zz_f B) C dd_D_test_3 (cc_D_compiledAt l D dA B _ _ q c0 g0 m0 b0 k0 gc mc w0 w1 w2 x _ hq gf ha hx hl) hno hq rfl rfl ⟨by decide, by decide⟩ (Nat.le_of_ble_eq_true rfl) ⟨by decide, by decide⟩ (fun _ => rfl) (fun E h' n' p9 => p9) (by decide) (by decide) (fun _ _ _ p9 => absurd p9 id)
abbrev rm_D_atom : Room := { frames := 7, cells := 1, slots := 6, locals := 120 }
set_option maxRecDepth 20000 in
/-- atom where the number names nothing -/
theorem cc_D_atom (l : Launch) (D : va_G) (dA : Nat → ClassId) (B : Nat) (h : zz_H) (n : Nat) (q c0 g0 m0 b0 k0 : Nat) (gc mc w0 w1 w2 : Int32) (x : Int32) (x1 : Int32) (x2 : Int32) (x3 : Int32) (x4 : Int32) (hq : h q = some (.inr (0, [.ref c0, .ref g0, .int gc, .ref m0, .int mc, .ref b0, .ref k0, .int w0, .int w1, .int w2]))) (gf : Nat → Option Nat) (ha : h m0 = some (.inl (dA 4, 12, .inr (.inr (.inr (.inr gf)))))) (hx : x < 0 ∨ ¬ x < mc) (hl : l.stackTraces = false) : zz_MX l D zz_cl (zz_ty dA) B zz_tb (zz_x B) yy_D_atom (Cond.code yy_D_atom bb_D_atom 7 (some FieldType.int)) rm_D_atom [.ref q, .int x, .int x1, .int x2, .int x3, .int x4] h n zz_mi (fun _ _ _ => False) (fun E h' n' => E = "java/lang/IllegalArgumentException" ∧ h' = h ∧ n ≤ n') := by
  refine zz_ofX (zz_f B) [some (.ref q), some (.int x), some (.int x1), some (.int x2), some (.int x3), some (.int x4), none] (by decide) rfl rfl (Nat.le_of_ble_eq_true rfl) ?_
  intro p e s m below meth c C hno
  refine z_aload_n C dd_D_atom_0 rfl ?_
  refine z_iload_n C dd_D_atom_1 rfl ?_
  exact ix_D_104 (sk := fun r => .ref r :: []) (zz_f B) C dd_D_atom_2 (cc_D_methodAt l D dA B _ _ q c0 g0 m0 b0 k0 gc mc w0 w1 w2 hq x gf ha (fun a b => absurd b (hx.resolve_left a)) hl) hno hq rfl rfl ⟨by decide, by decide⟩ (Nat.le_of_ble_eq_true rfl) ⟨by decide, by decide⟩ (fun _ => rfl) (fun E h' n' p9 => ⟨p9.1, p9.2.1, p9.2.2.1⟩) (by decide) (by decide) (fun _ _ _ p9 => absurd p9.2.2.2.2 (hx.resolve_left p9.2.2.2.1))
abbrev rm_D_operation : Room := { frames := 7, cells := 1, slots := 6, locals := 120 }
set_option maxRecDepth 20000 in
/-- operation where the number names nothing -/
theorem cc_D_operation (l : Launch) (D : va_G) (dA : Nat → ClassId) (B : Nat) (h : zz_H) (n : Nat) (q c0 g0 m0 b0 k0 : Nat) (gc mc w0 w1 w2 : Int32) (x : Int32) (x1 : Int32) (x2 : Int32) (hq : h q = some (.inr (0, [.ref c0, .ref g0, .int gc, .ref m0, .int mc, .ref b0, .ref k0, .int w0, .int w1, .int w2]))) (gf : Nat → Option Nat) (ha : h m0 = some (.inl (dA 4, 12, .inr (.inr (.inr (.inr gf)))))) (hx : x < 0 ∨ ¬ x < mc) (hl : l.stackTraces = false) : zz_MX l D zz_cl (zz_ty dA) B zz_tb (zz_x B) yy_D_operation (Cond.code yy_D_operation bb_D_operation 5 (some FieldType.int)) rm_D_operation [.ref q, .int x, .int x1, .int x2] h n zz_mi (fun _ _ _ => False) (fun E h' n' => E = "java/lang/IllegalArgumentException" ∧ h' = h ∧ n ≤ n') := by
  refine zz_ofX (zz_f B) [some (.ref q), some (.int x), some (.int x1), some (.int x2), none] (by decide) rfl rfl (Nat.le_of_ble_eq_true rfl) ?_
  intro p e s m below meth c C hno
  refine z_aload_n C dd_D_operation_0 rfl ?_
  refine z_iload_n C dd_D_operation_1 rfl ?_
  exact ix_D_104 (sk := fun r => .ref r :: []) (zz_f B) C dd_D_operation_2 (cc_D_methodAt l D dA B _ _ q c0 g0 m0 b0 k0 gc mc w0 w1 w2 hq x gf ha (fun a b => absurd b (hx.resolve_left a)) hl) hno hq rfl rfl ⟨by decide, by decide⟩ (Nat.le_of_ble_eq_true rfl) ⟨by decide, by decide⟩ (fun _ => rfl) (fun E h' n' p9 => ⟨p9.1, p9.2.1, p9.2.2.1⟩) (by decide) (by decide) (fun _ _ _ p9 => absurd p9.2.2.2.2 (hx.resolve_left p9.2.2.2.1))
abbrev rm_D_beyond : Room := { frames := 7, cells := 1, slots := 6, locals := 120 }
set_option maxRecDepth 20000 in
/-- beyond where the number names nothing -/
theorem cc_D_beyond (l : Launch) (D : va_G) (dA : Nat → ClassId) (B : Nat) (h : zz_H) (n : Nat) (q c0 g0 m0 b0 k0 : Nat) (gc mc w0 w1 w2 : Int32) (x : Int32) (x1 : Int32) (hq : h q = some (.inr (0, [.ref c0, .ref g0, .int gc, .ref m0, .int mc, .ref b0, .ref k0, .int w0, .int w1, .int w2]))) (gf : Nat → Option Nat) (ha : h m0 = some (.inl (dA 4, 12, .inr (.inr (.inr (.inr gf)))))) (hx : x < 0 ∨ ¬ x < mc) (hl : l.stackTraces = false) : zz_MX l D zz_cl (zz_ty dA) B zz_tb (zz_x B) yy_D_beyond (Cond.code yy_D_beyond bb_D_beyond 5 (some FieldType.boolean)) rm_D_beyond [.ref q, .int x, .int x1] h n zz_mi (fun _ _ _ => False) (fun E h' n' => E = "java/lang/IllegalArgumentException" ∧ h' = h ∧ n ≤ n') := by
  refine zz_ofX (zz_f B) [some (.ref q), some (.int x), some (.int x1), none, none] (by decide) rfl rfl (Nat.le_of_ble_eq_true rfl) ?_
  intro p e s m below meth c C hno
  refine z_aload_n C dd_D_beyond_0 rfl ?_
  refine z_iload_n C dd_D_beyond_1 rfl ?_
  exact ix_D_104 (sk := fun r => .ref r :: []) (zz_f B) C dd_D_beyond_2 (cc_D_methodAt l D dA B _ _ q c0 g0 m0 b0 k0 gc mc w0 w1 w2 hq x gf ha (fun a b => absurd b (hx.resolve_left a)) hl) hno hq rfl rfl ⟨by decide, by decide⟩ (Nat.le_of_ble_eq_true rfl) ⟨by decide, by decide⟩ (fun _ => rfl) (fun E h' n' p9 => ⟨p9.1, p9.2.1, p9.2.2.1⟩) (by decide) (by decide) (fun _ _ _ p9 => absurd p9.2.2.2.2 (hx.resolve_left p9.2.2.2.1))
abbrev rm_D_klass : Room := { frames := 7, cells := 1, slots := 6, locals := 120 }
set_option maxRecDepth 20000 in
/-- klass on a fresh desk -/
theorem cc_D_klass (l : Launch) (D : va_G) (dA : Nat → ClassId) (B : Nat) (h : zz_H) (n : Nat) (q c0 g0 m0 b0 k0 a0 : Nat) (mc w0 w1 w2 x : Int32) (lf : Nat → Int32) (hq : h q = some (.inr (0, [.ref c0, .ref g0, .int 0, .ref m0, .int mc, .ref b0, .ref k0, .int w0, .int w1, .int w2]))) (hc : h c0 = some (.inr (1, [.ref a0, .int 1]))) (ha : h a0 = some (.inl (dA 0, 8, .inl lf))) (e1 : q ≠ c0) (e2 : q ≠ a0) (e3 : c0 ≠ a0) (hl : l.stackTraces = false) : zz_MX l D zz_cl (zz_ty dA) B zz_tb (zz_x B) yy_D_klass (Cond.code yy_D_klass bb_D_klass 3 (some FieldType.int)) rm_D_klass [.ref q, .int x] h n zz_mi (fun r h' n' => n ≤ n' ∧ r = 1 ∧ ¬ x < 0 ∧ ¬ 1 ≤ x ∧ ∀ y, y ≠ q → y ≠ c0 → y ≠ a0 → h' y = h y) (fun E h' n' => E = "java/lang/IllegalArgumentException" ∧ h' = h ∧ n ≤ n' ∧ (x < 0 ∨ 1 ≤ x)) := by
  refine zz_ofX (zz_f B) [some (.ref q), some (.int x), none] (by decide) rfl rfl (Nat.le_of_ble_eq_true rfl) ?_
  intro p e s m below meth c C hno
  refine z_aload_n C dd_D_klass_0 rfl ?_
  refine gf_D_10 C dd_D_klass_1 hq rfl ?_
  refine z_iload_n C dd_D_klass_4 rfl ?_
  refine iv_D_58 (sk := fun r => .int r :: []) (zz_f B) C dd_D_klass_5 (cc_H_has l D dA B _ _ c0 a0 1 x hc) hc rfl rfl ⟨by decide, by decide⟩ (Nat.le_of_ble_eq_true rfl) ⟨by decide, by decide⟩ (fun _ => rfl) (fun r1 h1 n1 p1 => ?_)
  obtain ⟨rfl, rfl, hr1⟩ := p1
  refine z_if_ne (tgt := 21) C dd_D_klass_8 (by decide) (fun q8 => ?_) (fun q8 => ?_)
  · skip
    refine z_aload_n C dd_D_klass_21 rfl ?_
    refine gf_D_10 C dd_D_klass_22 hq rfl ?_
    refine iv_D_69 (sk := fun r => .int r :: []) (zz_f B) C dd_D_klass_25 (cc_H_isFull l D dA B _ _ c0 a0 1 hc) hc rfl rfl ⟨by decide, by decide⟩ (Nat.le_of_ble_eq_true rfl) ⟨by decide, by decide⟩ (fun _ => rfl) (fun r2 h2 n2 p2 => ?_)
    obtain ⟨rfl, rfl, hr2⟩ := p2
    refine z_if_eq (tgt := 41) C dd_D_klass_28 (by decide) (fun q28 => ?_) (fun q28 => absurd ((hr2.resolve_right (fun z => z.2 (by decide))).1) q28)
    refine z_iconst (v := 0) C dd_D_klass_41 (by decide) ?_
    refine z_istore_n C dd_D_klass_42 rfl ?_
    refine z_iload_n C dd_D_klass_43 rfl ?_
    refine z_aload_n C dd_D_klass_44 rfl ?_
    refine gf_D_22 C dd_D_klass_45 hq rfl ?_
    refine z_icmp_ge (tgt := 66) C dd_D_klass_48 (by decide) (fun q48 => ?_) (fun q48 => absurd (by decide) q48)
    refine z_aload_n C dd_D_klass_66 rfl ?_
    refine z_iconst (v := 0) C dd_D_klass_67 (by decide) ?_
    refine pf_D_49 C dd_D_klass_68 hq (Nat.le_of_ble_eq_true rfl) rfl rfl ?_
    refine z_aload_n C dd_D_klass_71 rfl ?_
    refine gf_D_10 C dd_D_klass_72 (zz_us _ _ _) rfl ?_
    refine z_iload_n C dd_D_klass_75 rfl ?_
    have hx0 : ¬ x < 0 ∧ ¬ 1 ≤ x := (hr1.resolve_right (fun z => q8 z.1)).2
    have hx1 : x = 0 := Int32.toInt_inj.mp (by have a1 := hx0.1; have a2 := hx0.2; rw [Int32.lt_iff_toInt_lt] at a1; rw [Int32.le_iff_toInt_le] at a2; have z0 : (0 : Int32).toInt = 0 := rfl; have z1 : (1 : Int32).toInt = 1 := rfl; omega)
    refine iv_D_81 (sk := fun r => .int r :: []) (zz_f B) C dd_D_klass_76 (cc_H_add l D dA B _ _ c0 a0 1 x lf ((zz_un (by omega)).trans (hc)) ((zz_un (by omega)).trans (ha)) (by rw [hx1]; unfold vp_in; decide) (by unfold vp_in; decide)) ((zz_un (by omega)).trans (hc)) rfl rfl ⟨by decide, by decide⟩ (Nat.le_of_ble_eq_true rfl) ⟨by decide, by decide⟩ (fun _ => rfl) (fun r3 h3 n3 p3 => ?_)
    obtain ⟨rfl, hr3, g1, g2, g3⟩ := p3
    exact z_iretX C dd_D_klass_79 ⟨Nat.le_refl _, hr3, hx0.1, hx0.2, fun y y1 y2 y3 => (g3 y y2 y3).trans (zz_un y1)⟩ (by decide) (by decide)
  · skip
    exact tr_IAE "no such parent" C hl hno (by decide +kernel) dd_D_klass_11 dd_D_klass_14 dd_D_klass_15 dd_D_klass_17 dd_D_klass_20 (by decide) (Nat.le_of_ble_eq_true rfl) (by decide) (by decide) (by decide) (by decide) (fun n' hn => ⟨rfl, rfl, hn, (hr1.resolve_left (fun z => absurd (z.1.symm.trans q8) (by decide))).2⟩)
abbrev rm_D_generic : Room := { frames := 7, cells := 10, slots := 462, locals := 120 }
set_option maxRecDepth 20000 in
/-- generic on a fresh desk -/
theorem cc_D_generic (l : Launch) (D : va_G) (dA : Nat → ClassId) (B : Nat) (h : zz_H) (n : Nat) (q c0 g0 m0 b0 k0 : Nat) (mc w0 w1 w2 x : Int32) (gf : Nat → Option Nat) (hq : h q = some (.inr (0, [.ref c0, .ref g0, .int 0, .ref m0, .int mc, .ref b0, .ref k0, .int w0, .int w1, .int w2]))) (ha : h g0 = some (.inl (dA 3, 4, .inr (.inr (.inr (.inr gf)))))) (e1 : q ≠ g0) (e2 : q < n) (e3 : g0 < n) (hl : l.stackTraces = false) : zz_MX l D zz_cl (zz_ty dA) B zz_tb (zz_x B) yy_D_generic (Cond.code yy_D_generic bb_D_generic 2 (some FieldType.int)) rm_D_generic [.ref q, .int x] h n zz_mi (fun r h' n' => n ≤ n' ∧ r = 0 ∧ ¬ x < 1 ∧ x ≤ 2 ∧ ∀ y, y < n → y ≠ q → y ≠ g0 → h' y = h y) (fun E h' n' => E = "java/lang/IllegalArgumentException" ∧ h' = h ∧ n ≤ n' ∧ (x < 1 ∨ ¬ x ≤ 2)) := by
  refine zz_ofX (zz_f B) [some (.ref q), some (.int x)] (by decide) rfl rfl (Nat.le_of_ble_eq_true rfl) ?_
  intro p e s m below meth c C hno
  refine z_iload_n C dd_D_generic_0 rfl ?_
  refine z_iconst (v := 1) C dd_D_generic_1 (by decide) ?_
  refine z_icmp_lt (tgt := 10) C dd_D_generic_2 (by decide) (fun q2 => ?_) (fun q2 => ?_)
  · skip
    exact tr_IAE "one or two arguments" C hl hno (by decide +kernel) dd_D_generic_10 dd_D_generic_13 dd_D_generic_14 dd_D_generic_16 dd_D_generic_19 (by decide) (Nat.le_of_ble_eq_true rfl) (by decide) (by decide) (by decide) (by decide) (fun n' hn => ⟨rfl, rfl, hn, by first | exact Or.inl (by assumption) | exact Or.inr (by assumption)⟩)
  · skip
    refine z_iload_n C dd_D_generic_5 rfl ?_
    refine z_iconst (v := 2) C dd_D_generic_6 (by decide) ?_
    refine z_icmp_le (tgt := 20) C dd_D_generic_7 (by decide) (fun q7 => ?_) (fun q7 => ?_)
    · skip
      refine z_aload_n C dd_D_generic_20 rfl ?_
      refine gf_D_22 C dd_D_generic_21 hq rfl ?_
      refine z_iconst (v := 4) C dd_D_generic_24 (by decide) ?_
      refine z_icmp_lt (tgt := 38) C dd_D_generic_25 (by decide) (fun q25 => ?_) (fun q25 => absurd (by decide) q25)
      refine z_aload_n C dd_D_generic_38 rfl ?_
      refine gf_D_18 C dd_D_generic_39 hq rfl ?_
      refine z_aload_n C dd_D_generic_42 rfl ?_
      refine gf_D_22 C dd_D_generic_43 hq rfl ?_
      refine nw_D_16 C dd_D_generic_46 (by decide) (by decide) ?_
      refine z_dup C dd_D_generic_49 rfl ?_
      refine z_iload_n C dd_D_generic_50 rfl ?_
      refine z_aload_n C dd_D_generic_51 rfl ?_
      refine gf_D_10 C dd_D_generic_52 ((zz_un (by omega)).trans (hq)) rfl ?_
      refine ii_D_89 (sk := fun _ => [.ref n, .int 0, .ref g0]) (zz_f B) C dd_D_generic_55 (cc_G_init l D dA B _ _ _ _ _ (zz_us _ _ _) (by omega)) rfl rfl ⟨by decide, by decide⟩ (Nat.le_of_ble_eq_true rfl) ⟨by decide, by decide⟩ (fun _ => rfl) (fun _ h1 n1 p1 => ?_)
      obtain ⟨rfl, ga, g1, g2, g3, g4, g5, g6, g7, g8, g9, gc9⟩ := p1
      have f25_0 := (gc9 g0 (by omega) (by omega)).trans ((zz_un (by omega)).trans (ha))
      have f25_1 := (gc9 q (by omega) (by omega)).trans ((zz_un (by omega)).trans (hq))
      refine z_aast (t0 := 3) (ci := 6) (r := (RR_G, FF_G, 11)) C rfl rfl dd_D_generic_58 f25_0 ga (by unfold vp_in; decide) ?_
      refine z_aload_n C dd_D_generic_59 rfl ?_
      refine z_dup C dd_D_generic_60 rfl ?_
      refine gf_D_22 C dd_D_generic_61 ((zz_un (by omega)).trans (f25_1)) rfl ?_
      refine z_dup_x1 C dd_D_generic_64 rfl rfl ?_
      refine z_iconst (v := 1) C dd_D_generic_65 (by decide) ?_
      refine z_iadd C dd_D_generic_66 ?_
      refine pf_D_22 C dd_D_generic_67 ((zz_un (by omega)).trans (f25_1)) (Nat.le_of_ble_eq_true rfl) rfl rfl ?_
      exact z_iretX C dd_D_generic_70 ⟨by omega, rfl, by assumption, by assumption, fun y y0 y1 y2 => (zz_un y1).trans ((zz_un y2).trans ((gc9 y (by omega) (by omega)).trans (zz_un (by omega))))⟩ (by decide) (by decide)
    · skip
      exact tr_IAE "one or two arguments" C hl hno (by decide +kernel) dd_D_generic_10 dd_D_generic_13 dd_D_generic_14 dd_D_generic_16 dd_D_generic_19 (by decide) (Nat.le_of_ble_eq_true rfl) (by decide) (by decide) (by decide) (by decide) (fun n' hn => ⟨rfl, rfl, hn, by first | exact Or.inl (by assumption) | exact Or.inr (by assumption)⟩)
