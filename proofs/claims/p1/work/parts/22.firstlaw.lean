/-- the reference at its start, and the law's row for an answer -/
def p1_M (dA : Nat → ClassId) (b : Nat) (h : zz_H) : Prop := h (b + 25) = some (.inr (11, md_o (b + 26))) ∧ (∀ k, k < 35 → h (b + 26 + k) = some (md_c dA k)) ∧ ∃ f : Nat → Int64, h (b + 61) = some (.inl (dA 1, 1, .inr (.inl f)))
/-- desk, reference and row, as the law makes them, from the cell b on -/
def p1_S (dA : Nat → ClassId) (b : Nat) (h : zz_H) : Prop := h b = some (.inr (0, [.ref (b + 1), .ref (b + 3), .int 0, .ref (b + 4), .int 0, .ref (b + 5), .ref (b + 7), .int 0, .int 0, .int 0])) ∧ h (b + 1) = some (.inr (1, [.ref (b + 2), .int 1])) ∧ h (b + 2) = some (.inl (dA 0, 8, .inl (upd (fun _ => 0) 0 1))) ∧ h (b + 3) = some (.inl (dA 3, 4, (.inr (.inr (.inr (.inr (fun _ => none))))))) ∧ h (b + 4) = some (.inl (dA 4, 12, (.inr (.inr (.inr (.inr (fun _ => none))))))) ∧ h (b + 7) = some (.inr (10, [.int 0, .int 0, .null, .null, .ref (b + 8)])) ∧ p1_M dA b h
/-- behind a helper: the reference as it was, the helper's answer k, the row's number -/
def p1_R (dA : Nat → ClassId) (b : Nat) (P : Int32 → Int64 → Prop) (k : Int32) (h : zz_H) (n : Nat) : Prop := b + 62 ≤ n ∧ h (b + 25) = some (.inr (11, md_o (b + 26))) ∧ (∀ k, k < 35 → h (b + 26 + k) = some (md_c dA k)) ∧ ∃ f : Nat → Int64, h (b + 61) = some (.inl (dA 1, 1, .inr (.inl f))) ∧ P k (f 0)
abbrev rm_L_method : Room := { frames := 10, cells := 1, slots := 6, locals := 400 }
set_option maxRecDepth 20000 in
/-- the law's method at the first call -/
theorem cc_L_method (l : Launch) (D : va_G) (dA : Nat → ClassId) (B : Nat) (h : zz_H) (n : Nat) (b : Nat) (x : Int32) (hS : p1_S dA b h) (hb : b + 62 ≤ n) (hl : l.stackTraces = false) : zz_M l D zz_cl (zz_ty dA) B zz_tb (zz_x B) yy_L_method (Cond.codeWith yy_L_method bb_L_method 4 (some FieldType.int) [(0, 9, 12, 13), (0, 9, 15, 15)]) rm_L_method [.ref b, .int x, .ref (b + 61)] h n zz_mi (fun k h' n' => p1_R dA b (fun k o => k = 1) k h' n') := by
  refine zz_ofH (zz_f B) [some (.ref b), some (.int x), some (.ref (b + 61)), none] (by decide) rfl rfl (Nat.le_of_ble_eq_true rfl) ?_
  intro p e s m below meth c C htb
  obtain ⟨S0, S1, S2, S3, S4, S7, M0, M1, ff, M2⟩ := hS
  refine z_aload_n C dd_L_method_0 rfl ?_
  refine z_iconst (v := 0) C dd_L_method_1 (by decide) ?_
  refine z_aload_n C dd_L_method_2 rfl ?_
  refine z_iload_n C dd_L_method_3 rfl ?_
  refine it_L_20 (sk := fun r => .int r :: [.int 0, .ref (b + 61)]) (zz_f B) C dd_L_method_4 (cc_D_method l D dA B _ _ b (b + 1) (b + 3) (b + 4) (b + 5) (b + 7) 0 0 0 0 0 x S0 (fun _ => none) S3 (Classical.em _) hl) S0 rfl rfl ⟨by decide, by decide⟩ (Nat.le_of_ble_eq_true rfl) ⟨by decide, by decide⟩ (fun _ => rfl) (fun E h1 n1 p1 => ?_) (fun r1 h1 n1 p1 => ?_)
  · skip
    obtain ⟨rfl, rfl, hn1⟩ := p1
    refine z_catch (name := "java/lang/IllegalArgumentException") C [] ⟨0, 9, 12, 13⟩ [⟨0, 9, 15, 15⟩] htb (fun z hz => absurd hz List.not_mem_nil) (by decide) (by decide) wd_152 wd_164 (fun q9 => ?_)
    refine z_astore_n C dd_L_method_12 rfl ?_
    refine z_iconst (v := 1) C dd_L_method_13 (by decide) ?_
    exact z_iret C dd_L_method_14 ⟨by omega, M0, M1, ff, M2, rfl⟩ (by decide) (by decide)
  · skip
    exact p1.elim
abbrev rm_L_check : Room := { frames := 10, cells := 1, slots := 6, locals := 400 }
set_option maxRecDepth 20000 in
/-- the law's check at the first call -/
theorem cc_L_check (l : Launch) (D : va_G) (dA : Nat → ClassId) (B : Nat) (h : zz_H) (n : Nat) (b : Nat) (x : Int32) (hS : p1_S dA b h) (hb : b + 62 ≤ n) (hl : l.stackTraces = false) : zz_M l D zz_cl (zz_ty dA) B zz_tb (zz_x B) yy_L_check (Cond.codeWith yy_L_check bb_L_check 4 (some FieldType.int) [(0, 9, 12, 13)]) rm_L_check [.ref b, .int x, .ref (b + 61)] h n zz_mi (fun k h' n' => p1_R dA b (fun k o => k = 1) k h' n') := by
  refine zz_ofH (zz_f B) [some (.ref b), some (.int x), some (.ref (b + 61)), none] (by decide) rfl rfl (Nat.le_of_ble_eq_true rfl) ?_
  intro p e s m below meth c C htb
  obtain ⟨S0, S1, S2, S3, S4, S7, M0, M1, ff, M2⟩ := hS
  refine z_aload_n C dd_L_check_0 rfl ?_
  refine z_iconst (v := 0) C dd_L_check_1 (by decide) ?_
  refine z_aload_n C dd_L_check_2 rfl ?_
  refine z_iload_n C dd_L_check_3 rfl ?_
  refine it_L_38 (sk := fun r => .int r :: [.int 0, .ref (b + 61)]) (zz_f B) C dd_L_check_4 (cc_D_check l D dA B _ _ b (b + 1) (b + 3) (b + 4) (b + 5) (b + 7) 0 0 0 0 0 x S0 (fun _ => none) S3 (Classical.em _) hl) S0 rfl rfl ⟨by decide, by decide⟩ (Nat.le_of_ble_eq_true rfl) ⟨by decide, by decide⟩ (fun _ => rfl) (fun E h1 n1 p1 => ?_) (fun r1 h1 n1 p1 => ?_)
  · skip
    obtain ⟨rfl, rfl, hn1⟩ := p1
    refine z_catch (name := "java/lang/IllegalArgumentException") C [] ⟨0, 9, 12, 13⟩ [] htb (fun z hz => absurd hz List.not_mem_nil) (by decide) (by decide) wd_152 wd_164 (fun q9 => ?_)
    refine z_astore_n C dd_L_check_12 rfl ?_
    refine z_iconst (v := 1) C dd_L_check_13 (by decide) ?_
    exact z_iret C dd_L_check_14 ⟨by omega, M0, M1, ff, M2, rfl⟩ (by decide) (by decide)
  · skip
    exact p1.elim
abbrev rm_L_compile : Room := { frames := 10, cells := 1, slots := 6, locals := 400 }
set_option maxRecDepth 20000 in
/-- the law's compile at the first call -/
theorem cc_L_compile (l : Launch) (D : va_G) (dA : Nat → ClassId) (B : Nat) (h : zz_H) (n : Nat) (b : Nat) (x : Int32) (hS : p1_S dA b h) (hb : b + 62 ≤ n) (hl : l.stackTraces = false) : zz_M l D zz_cl (zz_ty dA) B zz_tb (zz_x B) yy_L_compile (Cond.codeWith yy_L_compile bb_L_compile 4 (some FieldType.int) [(0, 9, 12, 13), (0, 9, 15, 15)]) rm_L_compile [.ref b, .int x, .ref (b + 61)] h n zz_mi (fun k h' n' => p1_R dA b (fun k o => k = 1) k h' n') := by
  refine zz_ofH (zz_f B) [some (.ref b), some (.int x), some (.ref (b + 61)), none] (by decide) rfl rfl (Nat.le_of_ble_eq_true rfl) ?_
  intro p e s m below meth c C htb
  obtain ⟨S0, S1, S2, S3, S4, S7, M0, M1, ff, M2⟩ := hS
  refine z_aload_n C dd_L_compile_0 rfl ?_
  refine z_iconst (v := 0) C dd_L_compile_1 (by decide) ?_
  refine z_aload_n C dd_L_compile_2 rfl ?_
  refine z_iload_n C dd_L_compile_3 rfl ?_
  refine it_L_46 (sk := fun r => .int r :: [.int 0, .ref (b + 61)]) (zz_f B) C dd_L_compile_4 (cc_D_compile l D dA B _ _ b (b + 1) (b + 3) (b + 4) (b + 5) (b + 7) 0 0 0 0 0 x S0 (fun _ => none) S3 (Classical.em _) hl) S0 rfl rfl ⟨by decide, by decide⟩ (Nat.le_of_ble_eq_true rfl) ⟨by decide, by decide⟩ (fun _ => rfl) (fun E h1 n1 p1 => ?_) (fun r1 h1 n1 p1 => ?_)
  · skip
    obtain ⟨rfl, rfl, hn1⟩ := p1
    refine z_catch (name := "java/lang/IllegalArgumentException") C [] ⟨0, 9, 12, 13⟩ [⟨0, 9, 15, 15⟩] htb (fun z hz => absurd hz List.not_mem_nil) (by decide) (by decide) wd_152 wd_164 (fun q9 => ?_)
    refine z_astore_n C dd_L_compile_12 rfl ?_
    refine z_iconst (v := 1) C dd_L_compile_13 (by decide) ?_
    exact z_iret C dd_L_compile_14 ⟨by omega, M0, M1, ff, M2, rfl⟩ (by decide) (by decide)
  · skip
    exact p1.elim
abbrev rm_L_best : Room := { frames := 10, cells := 1, slots := 6, locals := 400 }
set_option maxRecDepth 20000 in
/-- the law's best at the first call -/
theorem cc_L_best (l : Launch) (D : va_G) (dA : Nat → ClassId) (B : Nat) (h : zz_H) (n : Nat) (b : Nat) (x : Int32) (x1 : Int32) (x2 : Int32) (hS : p1_S dA b h) (hb : b + 62 ≤ n) (hl : l.stackTraces = false) : zz_M l D zz_cl (zz_ty dA) B zz_tb (zz_x B) yy_L_best (Cond.codeWith yy_L_best bb_L_best 6 (some FieldType.int) [(0, 12, 15, 13)]) rm_L_best [.ref b, .int x, .int x1, .int x2, .ref (b + 61)] h n zz_mi (fun k h' n' => p1_R dA b (fun k o => k = 1) k h' n') := by
  refine zz_ofH (zz_f B) [some (.ref b), some (.int x), some (.int x1), some (.int x2), some (.ref (b + 61)), none] (by decide) rfl rfl (Nat.le_of_ble_eq_true rfl) ?_
  intro p e s m below meth c C htb
  obtain ⟨S0, S1, S2, S3, S4, S7, M0, M1, ff, M2⟩ := hS
  refine z_aload C dd_L_best_0 rfl ?_
  refine z_iconst (v := 0) C dd_L_best_2 (by decide) ?_
  refine z_aload_n C dd_L_best_3 rfl ?_
  refine z_iload_n C dd_L_best_4 rfl ?_
  refine z_iload_n C dd_L_best_5 rfl ?_
  refine z_iload_n C dd_L_best_6 rfl ?_
  refine it_L_35 (sk := fun r => .int r :: [.int 0, .ref (b + 61)]) (zz_f B) C dd_L_best_7 (cc_D_best l D dA B _ _ b (b + 1) (b + 3) (b + 4) (b + 5) (b + 7) 0 0 0 0 0 x x1 x2 S0 (fun _ => none) S3 (Classical.em _) hl) S0 rfl rfl ⟨by decide, by decide⟩ (Nat.le_of_ble_eq_true rfl) ⟨by decide, by decide⟩ (fun _ => rfl) (fun E h1 n1 p1 => ?_) (fun r1 h1 n1 p1 => ?_)
  · skip
    obtain ⟨rfl, rfl, hn1⟩ := p1
    refine z_catch (name := "java/lang/IllegalArgumentException") C [] ⟨0, 12, 15, 13⟩ [] htb (fun z hz => absurd hz List.not_mem_nil) (by decide) (by decide) wd_152 wd_164 (fun q9 => ?_)
    refine z_astore C dd_L_best_15 rfl ?_
    refine z_iconst (v := 1) C dd_L_best_17 (by decide) ?_
    exact z_iret C dd_L_best_18 ⟨by omega, M0, M1, ff, M2, rfl⟩ (by decide) (by decide)
  · skip
    exact p1.elim
abbrev rm_L_run : Room := { frames := 10, cells := 1, slots := 6, locals := 400 }
set_option maxRecDepth 20000 in
/-- the law's run at the first call -/
theorem cc_L_run (l : Launch) (D : va_G) (dA : Nat → ClassId) (B : Nat) (h : zz_H) (n : Nat) (b : Nat) (x : Int32) (x1 : Int32) (x2 : Int32) (x3 : Int32) (hS : p1_S dA b h) (hb : b + 62 ≤ n) (hl : l.stackTraces = false) : zz_M l D zz_cl (zz_ty dA) B zz_tb (zz_x B) yy_L_run (Cond.codeWith yy_L_run bb_L_run 7 (some FieldType.int) [(0, 14, 17, 13)]) rm_L_run [.ref b, .int x, .int x1, .int x2, .int x3, .ref (b + 61)] h n zz_mi (fun k h' n' => p1_R dA b (fun k o => k = 1) k h' n') := by
  refine zz_ofH (zz_f B) [some (.ref b), some (.int x), some (.int x1), some (.int x2), some (.int x3), some (.ref (b + 61)), none] (by decide) rfl rfl (Nat.le_of_ble_eq_true rfl) ?_
  intro p e s m below meth c C htb
  obtain ⟨S0, S1, S2, S3, S4, S7, M0, M1, ff, M2⟩ := hS
  refine z_aload C dd_L_run_0 rfl ?_
  refine z_iconst (v := 0) C dd_L_run_2 (by decide) ?_
  refine z_aload_n C dd_L_run_3 rfl ?_
  refine z_iload_n C dd_L_run_4 rfl ?_
  refine z_iload_n C dd_L_run_5 rfl ?_
  refine z_iload_n C dd_L_run_6 rfl ?_
  refine z_iload C dd_L_run_7 rfl ?_
  refine it_L_55 (sk := fun r => .int r :: [.int 0, .ref (b + 61)]) (zz_f B) C dd_L_run_9 (cc_D_run l D dA B _ _ b (b + 1) (b + 3) (b + 4) (b + 5) (b + 7) 0 0 0 0 0 x x1 x2 x3 S0 (fun _ => none) S3 (Classical.em _) hl) S0 rfl rfl ⟨by decide, by decide⟩ (Nat.le_of_ble_eq_true rfl) ⟨by decide, by decide⟩ (fun _ => rfl) (fun E h1 n1 p1 => ?_) (fun r1 h1 n1 p1 => ?_)
  · skip
    obtain ⟨rfl, rfl, hn1⟩ := p1
    refine z_catch (name := "java/lang/IllegalArgumentException") C [] ⟨0, 14, 17, 13⟩ [] htb (fun z hz => absurd hz List.not_mem_nil) (by decide) (by decide) wd_152 wd_164 (fun q9 => ?_)
    refine z_astore C dd_L_run_17 rfl ?_
    refine z_iconst (v := 1) C dd_L_run_19 (by decide) ?_
    exact z_iret C dd_L_run_20 ⟨by omega, M0, M1, ff, M2, rfl⟩ (by decide) (by decide)
  · skip
    exact p1.elim
abbrev rm_L_node : Room := { frames := 10, cells := 1, slots := 6, locals := 400 }
set_option maxRecDepth 20000 in
/-- the law's node at the first call -/
theorem cc_L_node (l : Launch) (D : va_G) (dA : Nat → ClassId) (B : Nat) (h : zz_H) (n : Nat) (b : Nat) (x : Int32) (x1 : Int32) (x2 : Int32) (hS : p1_S dA b h) (hb : b + 62 ≤ n) (hl : l.stackTraces = false) : zz_M l D zz_cl (zz_ty dA) B zz_tb (zz_x B) yy_L_node (Cond.codeWith yy_L_node bb_L_node 6 (some FieldType.int) [(0, 12, 15, 13), (0, 12, 19, 15), (0, 12, 23, 44)]) rm_L_node [.ref b, .int x, .int x1, .int x2, .ref (b + 61)] h n zz_mi (fun k h' n' => p1_R dA b (fun k o => k = 1) k h' n') := by
  refine zz_ofH (zz_f B) [some (.ref b), some (.int x), some (.int x1), some (.int x2), some (.ref (b + 61)), none] (by decide) rfl rfl (Nat.le_of_ble_eq_true rfl) ?_
  intro p e s m below meth c C htb
  obtain ⟨S0, S1, S2, S3, S4, S7, M0, M1, ff, M2⟩ := hS
  refine z_aload C dd_L_node_0 rfl ?_
  refine z_iconst (v := 0) C dd_L_node_2 (by decide) ?_
  refine z_aload_n C dd_L_node_3 rfl ?_
  refine z_iload_n C dd_L_node_4 rfl ?_
  refine z_iload_n C dd_L_node_5 rfl ?_
  refine z_iload_n C dd_L_node_6 rfl ?_
  refine it_L_49 (sk := fun r => .int r :: [.int 0, .ref (b + 61)]) (zz_f B) C dd_L_node_7 (cc_D_node l D dA B _ _ b (b + 1) (b + 3) (b + 4) (b + 5) (b + 7) 0 0 0 0 0 x x1 x2 S0 (fun _ => none) S3 (Classical.em _) hl) S0 rfl rfl ⟨by decide, by decide⟩ (Nat.le_of_ble_eq_true rfl) ⟨by decide, by decide⟩ (fun _ => rfl) (fun E h1 n1 p1 => ?_) (fun r1 h1 n1 p1 => ?_)
  · skip
    obtain ⟨rfl, rfl, hn1⟩ := p1
    refine z_catch (name := "java/lang/IllegalArgumentException") C [] ⟨0, 12, 15, 13⟩ [⟨0, 12, 19, 15⟩, ⟨0, 12, 23, 44⟩] htb (fun z hz => absurd hz List.not_mem_nil) (by decide) (by decide) wd_152 wd_164 (fun q9 => ?_)
    refine z_astore C dd_L_node_15 rfl ?_
    refine z_iconst (v := 1) C dd_L_node_17 (by decide) ?_
    exact z_iret C dd_L_node_18 ⟨by omega, M0, M1, ff, M2, rfl⟩ (by decide) (by decide)
  · skip
    exact p1.elim
abbrev rm_L_test : Room := { frames := 10, cells := 1, slots := 6, locals := 400 }
set_option maxRecDepth 20000 in
/-- the law's test at the first call -/
theorem cc_L_test (l : Launch) (D : va_G) (dA : Nat → ClassId) (B : Nat) (h : zz_H) (n : Nat) (b : Nat) (x : Int32) (x1 : Int32) (x2 : Int32) (hS : p1_S dA b h) (hb : b + 62 ≤ n) (hl : l.stackTraces = false) : zz_M l D zz_cl (zz_ty dA) B zz_tb (zz_x B) yy_L_test (Cond.codeWith yy_L_test bb_L_test 6 (some FieldType.int) [(0, 12, 15, 13), (0, 12, 19, 15), (0, 12, 23, 44)]) rm_L_test [.ref b, .int x, .int x1, .int x2, .ref (b + 61)] h n zz_mi (fun k h' n' => p1_R dA b (fun k o => k = 1) k h' n') := by
  refine zz_ofH (zz_f B) [some (.ref b), some (.int x), some (.int x1), some (.int x2), some (.ref (b + 61)), none] (by decide) rfl rfl (Nat.le_of_ble_eq_true rfl) ?_
  intro p e s m below meth c C htb
  obtain ⟨S0, S1, S2, S3, S4, S7, M0, M1, ff, M2⟩ := hS
  refine z_aload C dd_L_test_0 rfl ?_
  refine z_iconst (v := 0) C dd_L_test_2 (by decide) ?_
  refine z_aload_n C dd_L_test_3 rfl ?_
  refine z_iload_n C dd_L_test_4 rfl ?_
  refine z_iload_n C dd_L_test_5 rfl ?_
  refine z_iload_n C dd_L_test_6 rfl ?_
  refine it_L_52 (sk := fun r => .int r :: [.int 0, .ref (b + 61)]) (zz_f B) C dd_L_test_7 (cc_D_test l D dA B _ _ b (b + 1) (b + 3) (b + 4) (b + 5) (b + 7) 0 0 0 0 0 x x1 x2 S0 (fun _ => none) S3 (Classical.em _) hl) S0 rfl rfl ⟨by decide, by decide⟩ (Nat.le_of_ble_eq_true rfl) ⟨by decide, by decide⟩ (fun _ => rfl) (fun E h1 n1 p1 => ?_) (fun r1 h1 n1 p1 => ?_)
  · skip
    obtain ⟨rfl, rfl, hn1⟩ := p1
    refine z_catch (name := "java/lang/IllegalArgumentException") C [] ⟨0, 12, 15, 13⟩ [⟨0, 12, 19, 15⟩, ⟨0, 12, 23, 44⟩] htb (fun z hz => absurd hz List.not_mem_nil) (by decide) (by decide) wd_152 wd_164 (fun q9 => ?_)
    refine z_astore C dd_L_test_15 rfl ?_
    refine z_iconst (v := 1) C dd_L_test_17 (by decide) ?_
    exact z_iret C dd_L_test_18 ⟨by omega, M0, M1, ff, M2, rfl⟩ (by decide) (by decide)
  · skip
    exact p1.elim
abbrev rm_L_atom : Room := { frames := 10, cells := 1, slots := 6, locals := 400 }
set_option maxRecDepth 20000 in
/-- the law's atom at the first call -/
theorem cc_L_atom (l : Launch) (D : va_G) (dA : Nat → ClassId) (B : Nat) (h : zz_H) (n : Nat) (b : Nat) (x : Int32) (x1 : Int32) (x2 : Int32) (x3 : Int32) (x4 : Int32) (hS : p1_S dA b h) (hb : b + 62 ≤ n) (hl : l.stackTraces = false) : zz_M l D zz_cl (zz_ty dA) B zz_tb (zz_x B) yy_L_atom (Cond.codeWith yy_L_atom bb_L_atom 8 (some FieldType.int) [(0, 16, 19, 13), (0, 16, 23, 15)]) rm_L_atom [.ref b, .int x, .int x1, .int x2, .int x3, .int x4, .ref (b + 61)] h n zz_mi (fun k h' n' => p1_R dA b (fun k o => k = 1) k h' n') := by
  refine zz_ofH (zz_f B) [some (.ref b), some (.int x), some (.int x1), some (.int x2), some (.int x3), some (.int x4), some (.ref (b + 61)), none] (by decide) rfl rfl (Nat.le_of_ble_eq_true rfl) ?_
  intro p e s m below meth c C htb
  obtain ⟨S0, S1, S2, S3, S4, S7, M0, M1, ff, M2⟩ := hS
  refine z_aload C dd_L_atom_0 rfl ?_
  refine z_iconst (v := 0) C dd_L_atom_2 (by decide) ?_
  refine z_aload_n C dd_L_atom_3 rfl ?_
  refine z_iload_n C dd_L_atom_4 rfl ?_
  refine z_iload_n C dd_L_atom_5 rfl ?_
  refine z_iload_n C dd_L_atom_6 rfl ?_
  refine z_iload C dd_L_atom_7 rfl ?_
  refine z_iload C dd_L_atom_9 rfl ?_
  refine it_L_23 (sk := fun r => .int r :: [.int 0, .ref (b + 61)]) (zz_f B) C dd_L_atom_11 (cc_D_atom l D dA B _ _ b (b + 1) (b + 3) (b + 4) (b + 5) (b + 7) 0 0 0 0 0 x x1 x2 x3 x4 S0 (fun _ => none) S4 (Classical.em _) hl) S0 rfl rfl ⟨by decide, by decide⟩ (Nat.le_of_ble_eq_true rfl) ⟨by decide, by decide⟩ (fun _ => rfl) (fun E h1 n1 p1 => ?_) (fun r1 h1 n1 p1 => ?_)
  · skip
    obtain ⟨rfl, rfl, hn1⟩ := p1
    refine z_catch (name := "java/lang/IllegalArgumentException") C [] ⟨0, 16, 19, 13⟩ [⟨0, 16, 23, 15⟩] htb (fun z hz => absurd hz List.not_mem_nil) (by decide) (by decide) wd_152 wd_164 (fun q9 => ?_)
    refine z_astore C dd_L_atom_19 rfl ?_
    refine z_iconst (v := 1) C dd_L_atom_21 (by decide) ?_
    exact z_iret C dd_L_atom_22 ⟨by omega, M0, M1, ff, M2, rfl⟩ (by decide) (by decide)
  · skip
    exact p1.elim
abbrev rm_L_operation : Room := { frames := 10, cells := 1, slots := 6, locals := 400 }
set_option maxRecDepth 20000 in
/-- the law's operation at the first call -/
theorem cc_L_operation (l : Launch) (D : va_G) (dA : Nat → ClassId) (B : Nat) (h : zz_H) (n : Nat) (b : Nat) (x : Int32) (x1 : Int32) (x2 : Int32) (hS : p1_S dA b h) (hb : b + 62 ≤ n) (hl : l.stackTraces = false) : zz_M l D zz_cl (zz_ty dA) B zz_tb (zz_x B) yy_L_operation (Cond.codeWith yy_L_operation bb_L_operation 6 (some FieldType.int) [(0, 12, 15, 13), (0, 12, 19, 15)]) rm_L_operation [.ref b, .int x, .int x1, .int x2, .ref (b + 61)] h n zz_mi (fun k h' n' => p1_R dA b (fun k o => k = 1) k h' n') := by
  refine zz_ofH (zz_f B) [some (.ref b), some (.int x), some (.int x1), some (.int x2), some (.ref (b + 61)), none] (by decide) rfl rfl (Nat.le_of_ble_eq_true rfl) ?_
  intro p e s m below meth c C htb
  obtain ⟨S0, S1, S2, S3, S4, S7, M0, M1, ff, M2⟩ := hS
  refine z_aload C dd_L_operation_0 rfl ?_
  refine z_iconst (v := 0) C dd_L_operation_2 (by decide) ?_
  refine z_aload_n C dd_L_operation_3 rfl ?_
  refine z_iload_n C dd_L_operation_4 rfl ?_
  refine z_iload_n C dd_L_operation_5 rfl ?_
  refine z_iload_n C dd_L_operation_6 rfl ?_
  refine it_L_27 (sk := fun r => .int r :: [.int 0, .ref (b + 61)]) (zz_f B) C dd_L_operation_7 (cc_D_operation l D dA B _ _ b (b + 1) (b + 3) (b + 4) (b + 5) (b + 7) 0 0 0 0 0 x x1 x2 S0 (fun _ => none) S4 (Classical.em _) hl) S0 rfl rfl ⟨by decide, by decide⟩ (Nat.le_of_ble_eq_true rfl) ⟨by decide, by decide⟩ (fun _ => rfl) (fun E h1 n1 p1 => ?_) (fun r1 h1 n1 p1 => ?_)
  · skip
    obtain ⟨rfl, rfl, hn1⟩ := p1
    refine z_catch (name := "java/lang/IllegalArgumentException") C [] ⟨0, 12, 15, 13⟩ [⟨0, 12, 19, 15⟩] htb (fun z hz => absurd hz List.not_mem_nil) (by decide) (by decide) wd_152 wd_164 (fun q9 => ?_)
    refine z_astore C dd_L_operation_15 rfl ?_
    refine z_iconst (v := 1) C dd_L_operation_17 (by decide) ?_
    exact z_iret C dd_L_operation_18 ⟨by omega, M0, M1, ff, M2, rfl⟩ (by decide) (by decide)
  · skip
    exact p1.elim
abbrev rm_L_beyond : Room := { frames := 10, cells := 1, slots := 6, locals := 400 }
set_option maxRecDepth 20000 in
/-- the law's beyond at the first call -/
theorem cc_L_beyond (l : Launch) (D : va_G) (dA : Nat → ClassId) (B : Nat) (h : zz_H) (n : Nat) (b : Nat) (x : Int32) (x1 : Int32) (hS : p1_S dA b h) (hb : b + 62 ≤ n) (hl : l.stackTraces = false) : zz_M l D zz_cl (zz_ty dA) B zz_tb (zz_x B) yy_L_beyond (Cond.codeWith yy_L_beyond bb_L_beyond 5 (some FieldType.int) [(0, 17, 20, 13)]) rm_L_beyond [.ref b, .int x, .int x1, .ref (b + 61)] h n zz_mi (fun k h' n' => p1_R dA b (fun k o => k = 1) k h' n') := by
  refine zz_ofH (zz_f B) [some (.ref b), some (.int x), some (.int x1), some (.ref (b + 61)), none] (by decide) rfl rfl (Nat.le_of_ble_eq_true rfl) ?_
  intro p e s m below meth c C htb
  obtain ⟨S0, S1, S2, S3, S4, S7, M0, M1, ff, M2⟩ := hS
  refine z_aload_n C dd_L_beyond_0 rfl ?_
  refine z_iconst (v := 0) C dd_L_beyond_1 (by decide) ?_
  refine z_aload_n C dd_L_beyond_2 rfl ?_
  refine z_iload_n C dd_L_beyond_3 rfl ?_
  refine z_iload_n C dd_L_beyond_4 rfl ?_
  refine it_L_31 (sk := fun r => .int r :: [.int 0, .ref (b + 61)]) (zz_f B) C dd_L_beyond_5 (cc_D_beyond l D dA B _ _ b (b + 1) (b + 3) (b + 4) (b + 5) (b + 7) 0 0 0 0 0 x x1 S0 (fun _ => none) S4 (Classical.em _) hl) S0 rfl rfl ⟨by decide, by decide⟩ (Nat.le_of_ble_eq_true rfl) ⟨by decide, by decide⟩ (fun _ => rfl) (fun E h1 n1 p1 => ?_) (fun r1 h1 n1 p1 => ?_)
  · skip
    obtain ⟨rfl, rfl, hn1⟩ := p1
    refine z_catch (name := "java/lang/IllegalArgumentException") C [] ⟨0, 17, 20, 13⟩ [] htb (fun z hz => absurd hz List.not_mem_nil) (by decide) (by decide) wd_152 wd_164 (fun q9 => ?_)
    refine z_astore C dd_L_beyond_20 rfl ?_
    refine z_iconst (v := 1) C dd_L_beyond_22 (by decide) ?_
    exact z_iret C dd_L_beyond_23 ⟨by omega, M0, M1, ff, M2, rfl⟩ (by decide) (by decide)
  · skip
    exact p1.elim
abbrev rm_L_witness : Room := { frames := 10, cells := 1, slots := 6, locals := 400 }
set_option maxRecDepth 20000 in
/-- the law's witness at the first call -/
theorem cc_L_witness (l : Launch) (D : va_G) (dA : Nat → ClassId) (B : Nat) (h : zz_H) (n : Nat) (b : Nat) (x : Int32) (hS : p1_S dA b h) (hb : b + 62 ≤ n) (hl : l.stackTraces = false) : zz_M l D zz_cl (zz_ty dA) B zz_tb (zz_x B) yy_L_witness (Cond.codeWith yy_L_witness bb_L_witness 4 (some FieldType.int) [(0, 9, 12, 44)]) rm_L_witness [.ref b, .int x, .ref (b + 61)] h n zz_mi (fun k h' n' => p1_R dA b (fun k o => k = 1) k h' n') := by
  refine zz_ofH (zz_f B) [some (.ref b), some (.int x), some (.ref (b + 61)), none] (by decide) rfl rfl (Nat.le_of_ble_eq_true rfl) ?_
  intro p e s m below meth c C htb
  obtain ⟨S0, S1, S2, S3, S4, S7, M0, M1, ff, M2⟩ := hS
  refine z_aload_n C dd_L_witness_0 rfl ?_
  refine z_iconst (v := 0) C dd_L_witness_1 (by decide) ?_
  refine z_aload_n C dd_L_witness_2 rfl ?_
  refine z_iload_n C dd_L_witness_3 rfl ?_
  refine it_L_41 (sk := fun r => .int r :: [.int 0, .ref (b + 61)]) (zz_f B) C dd_L_witness_4 (cc_D_witness l D dA B _ _ b (b + 1) (b + 3) (b + 4) (b + 5) (b + 7) 0 0 0 0 0 S0 x hl) S0 rfl rfl ⟨by decide, by decide⟩ (Nat.le_of_ble_eq_true rfl) ⟨by decide, by decide⟩ (fun _ => rfl) (fun E h1 n1 p1 => ?_) (fun r1 h1 n1 p1 => ?_)
  · skip
    obtain ⟨rfl, rfl, hn1, hz1⟩ := p1
    refine z_catch (name := "java/util/NoSuchElementException") C [] ⟨0, 9, 12, 44⟩ [] htb (fun z hz => absurd hz List.not_mem_nil) (by decide) (by decide) wd_669 wd_676 (fun q9 => ?_)
    refine z_astore_n C dd_L_witness_12 rfl ?_
    refine z_iconst (v := 1) C dd_L_witness_13 (by decide) ?_
    exact z_iret C dd_L_witness_14 ⟨by omega, M0, M1, ff, M2, rfl⟩ (by decide) (by decide)
  · skip
    exact absurd p1.2.2.2.1 p1.2.2.1
abbrev rm_L_klass : Room := { frames := 10, cells := 1, slots := 6, locals := 400 }
set_option maxRecDepth 20000 in
/-- the law's klass at the first call -/
theorem cc_L_klass (l : Launch) (D : va_G) (dA : Nat → ClassId) (B : Nat) (h : zz_H) (n : Nat) (b : Nat) (x : Int32) (hS : p1_S dA b h) (hb : b + 62 ≤ n) (hl : l.stackTraces = false) : zz_M l D zz_cl (zz_ty dA) B zz_tb (zz_x B) yy_L_klass (Cond.codeWith yy_L_klass bb_L_klass 4 (some FieldType.int) [(0, 9, 12, 13), (0, 9, 15, 15)]) rm_L_klass [.ref b, .int x, .ref (b + 61)] h n zz_mi (fun k h' n' => p1_R dA b (fun k o => (k = 0 ∧ o = (1 : Int32).toInt64 ∧ ¬ x < 0 ∧ ¬ 1 ≤ x) ∨ (k = 1 ∧ (x < 0 ∨ 1 ≤ x))) k h' n') := by
  refine zz_ofH (zz_f B) [some (.ref b), some (.int x), some (.ref (b + 61)), none] (by decide) rfl rfl (Nat.le_of_ble_eq_true rfl) ?_
  intro p e s m below meth c C htb
  obtain ⟨S0, S1, S2, S3, S4, S7, M0, M1, ff, M2⟩ := hS
  refine z_aload_n C dd_L_klass_0 rfl ?_
  refine z_iconst (v := 0) C dd_L_klass_1 (by decide) ?_
  refine z_aload_n C dd_L_klass_2 rfl ?_
  refine z_iload_n C dd_L_klass_3 rfl ?_
  refine it_L_7 (sk := fun r => .int r :: [.int 0, .ref (b + 61)]) (zz_f B) C dd_L_klass_4 (cc_D_klass l D dA B _ _ b (b + 1) (b + 3) (b + 4) (b + 5) (b + 7) (b + 2) 0 0 0 0 x _ S0 S1 S2 (by omega) (by omega) (by omega) hl) S0 rfl rfl ⟨by decide, by decide⟩ (Nat.le_of_ble_eq_true rfl) ⟨by decide, by decide⟩ (fun _ => rfl) (fun E h1 n1 p1 => ?_) (fun r1 h1 n1 p1 => ?_)
  · skip
    obtain ⟨rfl, rfl, hn1, hz1⟩ := p1
    refine z_catch (name := "java/lang/IllegalArgumentException") C [] ⟨0, 9, 12, 13⟩ [⟨0, 9, 15, 15⟩] htb (fun z hz => absurd hz List.not_mem_nil) (by decide) (by decide) wd_152 wd_164 (fun q9 => ?_)
    refine z_astore_n C dd_L_klass_12 rfl ?_
    refine z_iconst (v := 1) C dd_L_klass_13 (by decide) ?_
    exact z_iret C dd_L_klass_14 ⟨by omega, M0, M1, ff, M2, Or.inr ⟨rfl, hz1⟩⟩ (by decide) (by decide)
  · skip
    obtain ⟨hn1, rfl, z1, z2, g1⟩ := p1
    refine z_i2l C dd_L_klass_7 ?_
    refine z_last (t0 := 1) C rfl dd_L_klass_8 ((g1 _ (by omega) (by omega) (by omega)).trans M2) (by unfold vp_in; decide) ?_
    refine z_goto (tgt := 18) C dd_L_klass_9 (by decide) ?_
    refine z_iconst (v := 0) C dd_L_klass_18 (by decide) ?_
    exact z_iret C dd_L_klass_19 ⟨by omega, (zz_un (by omega)).trans ((g1 _ (by omega) (by omega) (by omega)).trans M0), fun k hk => (zz_un (by omega)).trans ((g1 _ (by omega) (by omega) (by omega)).trans (M1 k hk)), _, zz_us _ _ _, Or.inl ⟨rfl, rfl, z1, z2⟩⟩ (by decide) (by decide)
abbrev rm_L_generic : Room := { frames := 10, cells := 10, slots := 462, locals := 400 }
set_option maxRecDepth 20000 in
/-- the law's generic at the first call -/
theorem cc_L_generic (l : Launch) (D : va_G) (dA : Nat → ClassId) (B : Nat) (h : zz_H) (n : Nat) (b : Nat) (x : Int32) (hS : p1_S dA b h) (hb : b + 62 ≤ n) (hl : l.stackTraces = false) : zz_M l D zz_cl (zz_ty dA) B zz_tb (zz_x B) yy_L_generic (Cond.codeWith yy_L_generic bb_L_generic 4 (some FieldType.int) [(0, 9, 12, 13), (0, 9, 15, 15)]) rm_L_generic [.ref b, .int x, .ref (b + 61)] h n zz_mi (fun k h' n' => p1_R dA b (fun k o => (k = 0 ∧ o = (0 : Int32).toInt64 ∧ ¬ x < 1 ∧ x ≤ 2) ∨ (k = 1 ∧ (x < 1 ∨ ¬ x ≤ 2))) k h' n') := by
  refine zz_ofH (zz_f B) [some (.ref b), some (.int x), some (.ref (b + 61)), none] (by decide) rfl rfl (Nat.le_of_ble_eq_true rfl) ?_
  intro p e s m below meth c C htb
  obtain ⟨S0, S1, S2, S3, S4, S7, M0, M1, ff, M2⟩ := hS
  refine z_aload_n C dd_L_generic_0 rfl ?_
  refine z_iconst (v := 0) C dd_L_generic_1 (by decide) ?_
  refine z_aload_n C dd_L_generic_2 rfl ?_
  refine z_iload_n C dd_L_generic_3 rfl ?_
  refine it_L_17 (sk := fun r => .int r :: [.int 0, .ref (b + 61)]) (zz_f B) C dd_L_generic_4 (cc_D_generic l D dA B _ _ b (b + 1) (b + 3) (b + 4) (b + 5) (b + 7) 0 0 0 0 x _ S0 S3 (by omega) (by omega) (by omega) hl) S0 rfl rfl ⟨by decide, by decide⟩ (Nat.le_of_ble_eq_true rfl) ⟨by decide, by decide⟩ (fun _ => rfl) (fun E h1 n1 p1 => ?_) (fun r1 h1 n1 p1 => ?_)
  · skip
    obtain ⟨rfl, rfl, hn1, hz1⟩ := p1
    refine z_catch (name := "java/lang/IllegalArgumentException") C [] ⟨0, 9, 12, 13⟩ [⟨0, 9, 15, 15⟩] htb (fun z hz => absurd hz List.not_mem_nil) (by decide) (by decide) wd_152 wd_164 (fun q9 => ?_)
    refine z_astore_n C dd_L_generic_12 rfl ?_
    refine z_iconst (v := 1) C dd_L_generic_13 (by decide) ?_
    exact z_iret C dd_L_generic_14 ⟨by omega, M0, M1, ff, M2, Or.inr ⟨rfl, hz1⟩⟩ (by decide) (by decide)
  · skip
    obtain ⟨hn1, rfl, z1, z2, g1⟩ := p1
    refine z_i2l C dd_L_generic_7 ?_
    refine z_last (t0 := 1) C rfl dd_L_generic_8 ((g1 _ (by omega) (by omega) (by omega)).trans M2) (by unfold vp_in; decide) ?_
    refine z_goto (tgt := 18) C dd_L_generic_9 (by decide) ?_
    refine z_iconst (v := 0) C dd_L_generic_18 (by decide) ?_
    exact z_iret C dd_L_generic_19 ⟨by omega, (zz_un (by omega)).trans ((g1 _ (by omega) (by omega) (by omega)).trans M0), fun k hk => (zz_un (by omega)).trans ((g1 _ (by omega) (by omega) (by omega)).trans (M1 k hk)), _, zz_us _ _ _, Or.inl ⟨rfl, rfl, z1, z2⟩⟩ (by decide) (by decide)
