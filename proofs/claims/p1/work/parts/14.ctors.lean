abbrev rm_H_init : Room := { frames := 1, cells := 1, slots := 8, locals := 12 }
set_option maxRecDepth 20000 in
/-- Hierarchy(): a row of eight, its first 1; one class -/
theorem cc_H_init (l : Launch) (D : va_G) (dA : Nat → ClassId) (B : Nat) (h : zz_H) (n : Nat) (q : Nat) (hq : h q = some (.inr (1, [.null, .int 0]))) (hqn : q < n) : zz_M l D zz_cl (zz_ty dA) B zz_tb (zz_x B) yy_H_init (Cond.code yy_H_init bb_H_init 1 none) rm_H_init [.ref q] h n zz_mv (fun _ h' n' => n' = n + 1 ∧ h' q = some (.inr (1, [.ref n, .int 1])) ∧ h' n = some (.inl (dA 0, 8, .inl (upd (fun _ => 0) 0 1))) ∧ ∀ x, x < n → x ≠ q → h' x = h x) := by
  refine zz_ofW (zz_f B) [some (.ref q)] (by decide) rfl rfl (Nat.le_of_ble_eq_true rfl) ?_
  intro p e s m below meth c C
  refine z_aload_n C dd_H_init_0 rfl ?_
  refine oi_H_3 C dd_H_init_1 (Nat.le_of_ble_eq_true rfl) (Nat.le_of_ble_eq_true rfl) ?_
  refine z_aload_n C dd_H_init_4 rfl ?_
  refine z_bipush (v := 8) C dd_H_init_5 (by decide) ?_
  refine na_int (N := 8) C dd_H_init_7 (by decide) (by decide) (by decide) (by decide) (by decide) ?_
  refine pf_H_9 C dd_H_init_9 ((zz_un (by omega)).trans (hq)) (Nat.le_of_ble_eq_true rfl) rfl rfl ?_
  refine z_aload_n C dd_H_init_12 rfl ?_
  refine z_iconst (v := 1) C dd_H_init_13 (by decide) ?_
  refine pf_H_13 C dd_H_init_14 (zz_us _ _ _) (Nat.le_of_ble_eq_true rfl) rfl rfl ?_
  refine z_aload_n C dd_H_init_17 rfl ?_
  refine gf_H_9 C dd_H_init_18 (zz_us _ _ _) rfl ?_
  refine z_iconst (v := 0) C dd_H_init_21 (by decide) ?_
  refine z_iconst (v := 1) C dd_H_init_22 (by decide) ?_
  refine z_iast (t0 := 0) C rfl dd_H_init_23 ((zz_un (by omega)).trans ((zz_un (by omega)).trans (zz_us _ _ _))) (by unfold vp_in; decide) ?_
  refine z_vret C dd_H_init_24 ⟨rfl, ?_, ?_, fun x hx hxq => ?_⟩ (by decide) (by decide)
  · exact ((zz_un (by omega)).trans (zz_us _ _ _))
  · exact (zz_us _ _ _)
  · exact (zz_un (by omega)).trans ((zz_un (by omega)).trans ((zz_un (by omega)).trans ((zz_un (by omega)).trans (rfl))))
abbrev rm_B_init : Room := { frames := 1, cells := 1, slots := 4096, locals := 12 }
set_option maxRecDepth 20000 in
/-- GraphBuilder(): 4096 longs -/
theorem cc_B_init (l : Launch) (D : va_G) (dA : Nat → ClassId) (B : Nat) (h : zz_H) (n : Nat) (q : Nat) (hq : h q = some (.inr (8, [.null]))) (hqn : q < n) : zz_M l D zz_cl (zz_ty dA) B zz_tb (zz_x B) yy_B_init (Cond.code yy_B_init bb_B_init 1 none) rm_B_init [.ref q] h n zz_mv (fun _ h' n' => n' = n + 1 ∧ h' q = some (.inr (8, [.ref n])) ∧ h' n = some (.inl (dA 1, 4096, .inr (.inl (fun _ => 0)))) ∧ ∀ x, x < n → x ≠ q → h' x = h x) := by
  refine zz_ofW (zz_f B) [some (.ref q)] (by decide) rfl rfl (Nat.le_of_ble_eq_true rfl) ?_
  intro p e s m below meth c C
  refine z_aload_n C dd_B_init_0 rfl ?_
  refine oi_B_5 C dd_B_init_1 (Nat.le_of_ble_eq_true rfl) (Nat.le_of_ble_eq_true rfl) ?_
  refine z_aload_n C dd_B_init_4 rfl ?_
  refine z_sipush (v := 4096) C dd_B_init_5 (by decide) ?_
  refine na_long (N := 4096) C dd_B_init_8 (by decide) (by decide) (by decide) (by decide) (by decide) ?_
  refine pf_B_13 C dd_B_init_10 ((zz_un (by omega)).trans (hq)) (Nat.le_of_ble_eq_true rfl) rfl rfl ?_
  refine z_vret C dd_B_init_13 ⟨rfl, ?_, ?_, fun x hx hxq => ?_⟩ (by decide) (by decide)
  · exact (zz_us _ _ _)
  · exact ((zz_un (by omega)).trans (zz_us _ _ _))
  · exact (zz_un (by omega)).trans ((zz_un (by omega)).trans (rfl))
abbrev rm_E_init : Room := { frames := 1, cells := 1, slots := 6, locals := 12 }
set_option maxRecDepth 20000 in
/-- Frame(): a stack of six -/
theorem cc_E_init (l : Launch) (D : va_G) (dA : Nat → ClassId) (B : Nat) (h : zz_H) (n : Nat) (q : Nat) (hq : h q = some (.inr (9, [.null, .int 0, .int 0, .null, .int 0]))) (hqn : q < n) : zz_M l D zz_cl (zz_ty dA) B zz_tb (zz_x B) yy_E_init (Cond.code yy_E_init bb_E_init 1 none) rm_E_init [.ref q] h n zz_mv (fun _ h' n' => n' = n + 1 ∧ h' q = some (.inr (9, [.null, .int 0, .int 0, .ref n, .int 0])) ∧ h' n = some (.inl (dA 0, 6, .inl (fun _ => 0))) ∧ ∀ x, x < n → x ≠ q → h' x = h x) := by
  refine zz_ofW (zz_f B) [some (.ref q)] (by decide) rfl rfl (Nat.le_of_ble_eq_true rfl) ?_
  intro p e s m below meth c C
  refine z_aload_n C dd_E_init_0 rfl ?_
  refine oi_E_1 C dd_E_init_1 (Nat.le_of_ble_eq_true rfl) (Nat.le_of_ble_eq_true rfl) ?_
  refine z_aload_n C dd_E_init_4 rfl ?_
  refine z_null C dd_E_init_5 ?_
  refine pf_E_7 C dd_E_init_6 hq (Nat.le_of_ble_eq_true rfl) rfl rfl ?_
  refine z_aload_n C dd_E_init_9 rfl ?_
  refine z_iconst (v := 0) C dd_E_init_10 (by decide) ?_
  refine pf_E_13 C dd_E_init_11 (zz_us _ _ _) (Nat.le_of_ble_eq_true rfl) rfl rfl ?_
  refine z_aload_n C dd_E_init_14 rfl ?_
  refine z_iconst (v := 0) C dd_E_init_15 (by decide) ?_
  refine pf_E_17 C dd_E_init_16 (zz_us _ _ _) (Nat.le_of_ble_eq_true rfl) rfl rfl ?_
  refine z_aload_n C dd_E_init_19 rfl ?_
  refine z_bipush (v := 6) C dd_E_init_20 (by decide) ?_
  refine na_int (N := 6) C dd_E_init_22 (by decide) (by decide) (by decide) (by decide) (by decide) ?_
  refine pf_E_20 C dd_E_init_24 ((zz_un (by omega)).trans (zz_us _ _ _)) (Nat.le_of_ble_eq_true rfl) rfl rfl ?_
  refine z_aload_n C dd_E_init_27 rfl ?_
  refine z_iconst (v := 0) C dd_E_init_28 (by decide) ?_
  refine pf_E_24 C dd_E_init_29 (zz_us _ _ _) (Nat.le_of_ble_eq_true rfl) rfl rfl ?_
  refine z_vret C dd_E_init_32 ⟨rfl, ?_, ?_, fun x hx hxq => ?_⟩ (by decide) (by decide)
  · exact (zz_us _ _ _)
  · exact ((zz_un (by omega)).trans ((zz_un (by omega)).trans (zz_us _ _ _)))
  · exact (zz_un (by omega)).trans ((zz_un (by omega)).trans ((zz_un (by omega)).trans ((zz_un (by omega)).trans ((zz_un (by omega)).trans ((zz_un (by omega)).trans (rfl))))))
abbrev rm_R_init : Room := { frames := 1, cells := 3, slots := 240, locals := 12 }
set_option maxRecDepth 20000 in
/-- Graph(): three rows of eighty -/
theorem cc_R_init (l : Launch) (D : va_G) (dA : Nat → ClassId) (B : Nat) (h : zz_H) (n : Nat) (q : Nat) (hq : h q = some (.inr (7, [.null, .null, .null, .int 0]))) (hqn : q < n) : zz_M l D zz_cl (zz_ty dA) B zz_tb (zz_x B) yy_R_init (Cond.code yy_R_init bb_R_init 1 none) rm_R_init [.ref q] h n zz_mv (fun _ h' n' => n' = n + 3 ∧ h' q = some (.inr (7, [.ref n, .ref (n + 1), .ref (n + 2), .int 0])) ∧ h' (n) = some (.inl (dA 0, 80, .inl (fun _ => 0))) ∧ h' (n + 1) = some (.inl (dA 0, 80, .inl (fun _ => 0))) ∧ h' (n + 2) = some (.inl (dA 0, 80, .inl (fun _ => 0))) ∧ ∀ x, x < n → x ≠ q → h' x = h x) := by
  refine zz_ofW (zz_f B) [some (.ref q)] (by decide) rfl rfl (Nat.le_of_ble_eq_true rfl) ?_
  intro p e s m below meth c C
  refine z_aload_n C dd_R_init_0 rfl ?_
  refine oi_R_1 C dd_R_init_1 (Nat.le_of_ble_eq_true rfl) (Nat.le_of_ble_eq_true rfl) ?_
  refine z_aload_n C dd_R_init_4 rfl ?_
  refine z_bipush (v := 80) C dd_R_init_5 (by decide) ?_
  refine na_int (N := 80) C dd_R_init_7 (by decide) (by decide) (by decide) (by decide) (by decide) ?_
  refine pf_R_9 C dd_R_init_9 ((zz_un (by omega)).trans (hq)) (Nat.le_of_ble_eq_true rfl) rfl rfl ?_
  refine z_aload_n C dd_R_init_12 rfl ?_
  refine z_bipush (v := 80) C dd_R_init_13 (by decide) ?_
  refine na_int (N := 80) C dd_R_init_15 (by decide) (by decide) (by decide) (by decide) (by decide) ?_
  refine pf_R_13 C dd_R_init_17 ((zz_un (by omega)).trans (zz_us _ _ _)) (Nat.le_of_ble_eq_true rfl) rfl rfl ?_
  refine z_aload_n C dd_R_init_20 rfl ?_
  refine z_bipush (v := 80) C dd_R_init_21 (by decide) ?_
  refine na_int (N := 80) C dd_R_init_23 (by decide) (by decide) (by decide) (by decide) (by decide) ?_
  refine pf_R_16 C dd_R_init_25 ((zz_un (by omega)).trans (zz_us _ _ _)) (Nat.le_of_ble_eq_true rfl) rfl rfl ?_
  refine z_aload_n C dd_R_init_28 rfl ?_
  refine z_iconst (v := 0) C dd_R_init_29 (by decide) ?_
  refine pf_R_19 C dd_R_init_30 (zz_us _ _ _) (Nat.le_of_ble_eq_true rfl) rfl rfl ?_
  refine z_vret C dd_R_init_33 ⟨rfl, ?_, ?_, ?_, ?_, fun x hx hxq => ?_⟩ (by decide) (by decide)
  · exact (zz_us _ _ _)
  · exact ((zz_un (by omega)).trans ((zz_un (by omega)).trans ((zz_un (by omega)).trans ((zz_un (by omega)).trans ((zz_un (by omega)).trans ((zz_un (by omega)).trans (zz_us _ _ _)))))))
  · exact ((zz_un (by omega)).trans ((zz_un (by omega)).trans ((zz_un (by omega)).trans ((zz_un (by omega)).trans (zz_us _ _ _)))))
  · exact ((zz_un (by omega)).trans ((zz_un (by omega)).trans (zz_us _ _ _)))
  · exact (zz_un (by omega)).trans ((zz_un (by omega)).trans ((zz_un (by omega)).trans ((zz_un (by omega)).trans ((zz_un (by omega)).trans ((zz_un (by omega)).trans ((zz_un (by omega)).trans (rfl)))))))
abbrev rm_F_init : Room := { frames := 1, cells := 3, slots := 176, locals := 12 }
set_option maxRecDepth 20000 in
/-- Facts(classes) -/
theorem cc_F_init (l : Launch) (D : va_G) (dA : Nat → ClassId) (B : Nat) (h : zz_H) (n : Nat) (q : Nat) (c0 : Nat) (hq : h q = some (.inr (5, [.null, .null, .int 0, .null, .null, .long 0, .long 0]))) (hqn : q < n) : zz_M l D zz_cl (zz_ty dA) B zz_tb (zz_x B) yy_F_init (Cond.code yy_F_init bb_F_init 2 none) rm_F_init [.ref q, .ref c0] h n zz_mv (fun _ h' n' => n' = n + 3 ∧ h' q = some (.inr (5, [.ref c0, .ref n, .int 0, .ref (n + 1), .ref (n + 2), .long 0, .long 0])) ∧ h' n = some (.inl (dA 5, 48, .inr (.inr (.inr (.inr (fun _ => none)))))) ∧ h' (n + 1) = some (.inl (dA 1, 64, .inr (.inl (fun _ => 0)))) ∧ h' (n + 2) = some (.inl (dA 1, 64, .inr (.inl (fun _ => 0)))) ∧ ∀ x, x < n → x ≠ q → h' x = h x) := by
  refine zz_ofW (zz_f B) [some (.ref q), some (.ref c0)] (by decide) rfl rfl (Nat.le_of_ble_eq_true rfl) ?_
  intro p e s m below meth c C
  refine z_aload_n C dd_F_init_0 rfl ?_
  refine oi_F_5 C dd_F_init_1 (Nat.le_of_ble_eq_true rfl) (Nat.le_of_ble_eq_true rfl) ?_
  refine z_aload_n C dd_F_init_4 rfl ?_
  refine z_bipush (v := 48) C dd_F_init_5 (by decide) ?_
  refine an_F_13 (N := 48) C dd_F_init_7 (by decide) (by decide) (by decide) (by decide) (by decide) ?_
  refine pf_F_15 C dd_F_init_10 ((zz_un (by omega)).trans (hq)) (Nat.le_of_ble_eq_true rfl) rfl rfl ?_
  refine z_aload_n C dd_F_init_13 rfl ?_
  refine z_iconst (v := 0) C dd_F_init_14 (by decide) ?_
  refine pf_F_19 C dd_F_init_15 (zz_us _ _ _) (Nat.le_of_ble_eq_true rfl) rfl rfl ?_
  refine z_aload_n C dd_F_init_18 rfl ?_
  refine z_bipush (v := 64) C dd_F_init_19 (by decide) ?_
  refine na_long (N := 64) C dd_F_init_21 (by decide) (by decide) (by decide) (by decide) (by decide) ?_
  refine pf_F_25 C dd_F_init_23 ((zz_un (by omega)).trans (zz_us _ _ _)) (Nat.le_of_ble_eq_true rfl) rfl rfl ?_
  refine z_aload_n C dd_F_init_26 rfl ?_
  refine z_bipush (v := 64) C dd_F_init_27 (by decide) ?_
  refine na_long (N := 64) C dd_F_init_29 (by decide) (by decide) (by decide) (by decide) (by decide) ?_
  refine pf_F_29 C dd_F_init_31 ((zz_un (by omega)).trans (zz_us _ _ _)) (Nat.le_of_ble_eq_true rfl) rfl rfl ?_
  refine z_aload_n C dd_F_init_34 rfl ?_
  refine z_lconst (v := 0) C dd_F_init_35 (by decide) ?_
  refine pf_F_32 C dd_F_init_36 (zz_us _ _ _) (Nat.le_of_ble_eq_true rfl) rfl rfl ?_
  refine z_aload_n C dd_F_init_39 rfl ?_
  refine z_lconst (v := 0) C dd_F_init_40 (by decide) ?_
  refine pf_F_36 C dd_F_init_41 (zz_us _ _ _) (Nat.le_of_ble_eq_true rfl) rfl rfl ?_
  refine z_aload_n C dd_F_init_44 rfl ?_
  refine z_aload_n C dd_F_init_45 rfl ?_
  refine pf_F_39 C dd_F_init_46 (zz_us _ _ _) (Nat.le_of_ble_eq_true rfl) rfl rfl ?_
  refine z_vret C dd_F_init_49 ⟨rfl, ?_, ?_, ?_, ?_, fun x hx hxq => ?_⟩ (by decide) (by decide)
  · exact (zz_us _ _ _)
  · exact ((zz_un (by omega)).trans ((zz_un (by omega)).trans ((zz_un (by omega)).trans ((zz_un (by omega)).trans ((zz_un (by omega)).trans ((zz_un (by omega)).trans ((zz_un (by omega)).trans ((zz_un (by omega)).trans ((zz_un (by omega)).trans (zz_us _ _ _))))))))))
  · exact ((zz_un (by omega)).trans ((zz_un (by omega)).trans ((zz_un (by omega)).trans ((zz_un (by omega)).trans ((zz_un (by omega)).trans ((zz_un (by omega)).trans (zz_us _ _ _)))))))
  · exact ((zz_un (by omega)).trans ((zz_un (by omega)).trans ((zz_un (by omega)).trans ((zz_un (by omega)).trans (zz_us _ _ _)))))
  · exact (zz_un (by omega)).trans ((zz_un (by omega)).trans ((zz_un (by omega)).trans ((zz_un (by omega)).trans ((zz_un (by omega)).trans ((zz_un (by omega)).trans ((zz_un (by omega)).trans ((zz_un (by omega)).trans ((zz_un (by omega)).trans ((zz_un (by omega)).trans (rfl))))))))))
abbrev rm_N_init : Room := { frames := 2, cells := 17, slots := 96, locals := 40 }
set_option maxRecDepth 20000 in
/-- Machine(): eight frames -/
theorem cc_N_init (l : Launch) (D : va_G) (dA : Nat → ClassId) (B : Nat) (h : zz_H) (n : Nat) (q : Nat) (hq : h q = some (.inr (10, [.int 0, .int 0, .null, .null, .null]))) (hqn : q < n) : zz_M l D zz_cl (zz_ty dA) B zz_tb (zz_x B) yy_N_init (Cond.code yy_N_init bb_N_init 2 none) rm_N_init [.ref q] h n zz_mv (fun _ h' n' => n' = n + 17 ∧ h' q = some (.inr (10, [.int 0, .int 0, .null, .null, .ref n])) ∧ (∃ f, h' n = some (.inl (dA 7, 8, .inr (.inr (.inr (.inr f))))) ∧ ∀ j, j < 8 → f j = some (n + 1 + 2 * j)) ∧ (∀ j, j < 8 → h' (n + 1 + 2 * j) = some (.inr (9, [.null, .int 0, .int 0, .ref (n + 2 + 2 * j), .int 0])) ∧ h' (n + 2 + 2 * j) = some (.inl (dA 0, 6, .inl (fun _ => 0)))) ∧ ∀ x, x < n → x ≠ q → h' x = h x) := by
  refine zz_ofW (zz_f B) [some (.ref q), none] (by decide) rfl rfl (Nat.le_of_ble_eq_true rfl) ?_
  intro p e s m below meth c C
  refine z_aload_n C dd_N_init_0 rfl ?_
  refine oi_N_1 C dd_N_init_1 (Nat.le_of_ble_eq_true rfl) (Nat.le_of_ble_eq_true rfl) ?_
  refine z_aload_n C dd_N_init_4 rfl ?_
  refine z_iconst (v := 0) C dd_N_init_5 (by decide) ?_
  refine pf_N_7 C dd_N_init_6 hq (Nat.le_of_ble_eq_true rfl) rfl rfl ?_
  refine z_aload_n C dd_N_init_9 rfl ?_
  refine z_iconst (v := 0) C dd_N_init_10 (by decide) ?_
  refine pf_N_13 C dd_N_init_11 (zz_us _ _ _) (Nat.le_of_ble_eq_true rfl) rfl rfl ?_
  refine z_aload_n C dd_N_init_14 rfl ?_
  refine z_null C dd_N_init_15 ?_
  refine pf_N_16 C dd_N_init_16 (zz_us _ _ _) (Nat.le_of_ble_eq_true rfl) rfl rfl ?_
  refine z_aload_n C dd_N_init_19 rfl ?_
  refine z_null C dd_N_init_20 ?_
  refine pf_N_20 C dd_N_init_21 (zz_us _ _ _) (Nat.le_of_ble_eq_true rfl) rfl rfl ?_
  refine z_aload_n C dd_N_init_24 rfl ?_
  refine z_bipush (v := 8) C dd_N_init_25 (by decide) ?_
  refine an_N_24 (N := 8) C dd_N_init_27 (by decide) (by decide) (by decide) (by decide) (by decide) ?_
  refine pf_N_26 C dd_N_init_30 ((zz_un (by omega)).trans (zz_us _ _ _)) (Nat.le_of_ble_eq_true rfl) rfl rfl ?_
  refine z_iconst (v := 0) C dd_N_init_33 (by decide) ?_
  refine z_istore_n C dd_N_init_34 rfl ?_
  refine z_iload_n C dd_N_init_35 rfl ?_
  refine z_bipush (v := 8) C dd_N_init_36 (by decide) ?_
  refine z_icmp_ge (tgt := 60) C dd_N_init_38 (by decide) (fun q38 => absurd q38 (by decide)) (fun q38 => ?_)
  refine z_aload_n C dd_N_init_41 rfl ?_
  refine gf_N_26 C dd_N_init_42 (zz_us _ _ _) rfl ?_
  refine z_iload_n C dd_N_init_45 rfl ?_
  refine nw_N_24 C dd_N_init_46 (by decide) (by decide) ?_
  refine z_dup C dd_N_init_49 rfl ?_
  refine ii_N_30 (sk := fun _ => [.ref (n + 1), .int 0, .ref n]) (zz_f B) C dd_N_init_50 (cc_E_init l D dA B _ _ _ (zz_us _ _ _) (by omega)) rfl rfl ⟨by decide, by decide⟩ (Nat.le_of_ble_eq_true rfl) ⟨by decide, by decide⟩ (fun _ => rfl) (fun _ h0 n0 p0 => ?_)
  obtain ⟨rfl, ga0, gb0, gc0⟩ := p0
  have f30_0 := (gc0 n (by omega) (by omega)).trans ((zz_un (by omega)).trans ((zz_un (by omega)).trans (zz_us _ _ _)))
  have f30_1 := (gc0 q (by omega) (by omega)).trans ((zz_un (by omega)).trans (zz_us _ _ _))
  refine z_aast (t0 := 7) (ci := 9) (r := (RR_E, FF_E, 5)) C rfl rfl dd_N_init_53 f30_0 ga0 (by unfold vp_in; decide) ?_
  refine z_iinc C dd_N_init_54 rfl rfl ?_
  refine z_goto (tgt := 35) C dd_N_init_57 (by decide) ?_
  refine z_iload_n C dd_N_init_35 rfl ?_
  refine z_bipush (v := 8) C dd_N_init_36 (by decide) ?_
  refine z_icmp_ge (tgt := 60) C dd_N_init_38 (by decide) (fun q38 => absurd q38 (by decide)) (fun q38 => ?_)
  refine z_aload_n C dd_N_init_41 rfl ?_
  refine gf_N_26 C dd_N_init_42 ((zz_un (by omega)).trans (f30_1)) rfl ?_
  refine z_iload_n C dd_N_init_45 rfl ?_
  refine nw_N_24 C dd_N_init_46 (by decide) (by decide) ?_
  refine z_dup C dd_N_init_49 rfl ?_
  refine ii_N_30 (sk := fun _ => [.ref (n + 3), .int ((0 + Int32.ofInt 1)), .ref n]) (zz_f B) C dd_N_init_50 (cc_E_init l D dA B _ _ _ (zz_us _ _ _) (by omega)) rfl rfl ⟨by decide, by decide⟩ (Nat.le_of_ble_eq_true rfl) ⟨by decide, by decide⟩ (fun _ => rfl) (fun _ h1 n1 p1 => ?_)
  obtain ⟨rfl, ga1, gb1, gc1⟩ := p1
  have f45_0 := (gc1 n (by omega) (by omega)).trans ((zz_un (by omega)).trans (zz_us _ _ _))
  have f45_1 := (gc1 (n + 1) (by omega) (by omega)).trans ((zz_un (by omega)).trans ((zz_un (by omega)).trans (ga0)))
  have f45_2 := (gc1 (n + 2) (by omega) (by omega)).trans ((zz_un (by omega)).trans ((zz_un (by omega)).trans (gb0)))
  have f45_3 := (gc1 q (by omega) (by omega)).trans ((zz_un (by omega)).trans ((zz_un (by omega)).trans (f30_1)))
  refine z_aast (t0 := 7) (ci := 9) (r := (RR_E, FF_E, 5)) C rfl rfl dd_N_init_53 f45_0 ga1 (by unfold vp_in; decide) ?_
  refine z_iinc C dd_N_init_54 rfl rfl ?_
  refine z_goto (tgt := 35) C dd_N_init_57 (by decide) ?_
  refine z_iload_n C dd_N_init_35 rfl ?_
  refine z_bipush (v := 8) C dd_N_init_36 (by decide) ?_
  refine z_icmp_ge (tgt := 60) C dd_N_init_38 (by decide) (fun q38 => absurd q38 (by decide)) (fun q38 => ?_)
  refine z_aload_n C dd_N_init_41 rfl ?_
  refine gf_N_26 C dd_N_init_42 ((zz_un (by omega)).trans (f45_3)) rfl ?_
  refine z_iload_n C dd_N_init_45 rfl ?_
  refine nw_N_24 C dd_N_init_46 (by decide) (by decide) ?_
  refine z_dup C dd_N_init_49 rfl ?_
  refine ii_N_30 (sk := fun _ => [.ref (n + 5), .int (((0 + Int32.ofInt 1) + Int32.ofInt 1)), .ref n]) (zz_f B) C dd_N_init_50 (cc_E_init l D dA B _ _ _ (zz_us _ _ _) (by omega)) rfl rfl ⟨by decide, by decide⟩ (Nat.le_of_ble_eq_true rfl) ⟨by decide, by decide⟩ (fun _ => rfl) (fun _ h2 n2 p2 => ?_)
  obtain ⟨rfl, ga2, gb2, gc2⟩ := p2
  have f62_0 := (gc2 n (by omega) (by omega)).trans ((zz_un (by omega)).trans (zz_us _ _ _))
  have f62_1 := (gc2 (n + 1) (by omega) (by omega)).trans ((zz_un (by omega)).trans ((zz_un (by omega)).trans (f45_1)))
  have f62_2 := (gc2 (n + 2) (by omega) (by omega)).trans ((zz_un (by omega)).trans ((zz_un (by omega)).trans (f45_2)))
  have f62_3 := (gc2 (n + 3) (by omega) (by omega)).trans ((zz_un (by omega)).trans ((zz_un (by omega)).trans (ga1)))
  have f62_4 := (gc2 (n + 4) (by omega) (by omega)).trans ((zz_un (by omega)).trans ((zz_un (by omega)).trans (gb1)))
  have f62_5 := (gc2 q (by omega) (by omega)).trans ((zz_un (by omega)).trans ((zz_un (by omega)).trans (f45_3)))
  refine z_aast (t0 := 7) (ci := 9) (r := (RR_E, FF_E, 5)) C rfl rfl dd_N_init_53 f62_0 ga2 (by unfold vp_in; decide) ?_
  refine z_iinc C dd_N_init_54 rfl rfl ?_
  refine z_goto (tgt := 35) C dd_N_init_57 (by decide) ?_
  refine z_iload_n C dd_N_init_35 rfl ?_
  refine z_bipush (v := 8) C dd_N_init_36 (by decide) ?_
  refine z_icmp_ge (tgt := 60) C dd_N_init_38 (by decide) (fun q38 => absurd q38 (by decide)) (fun q38 => ?_)
  refine z_aload_n C dd_N_init_41 rfl ?_
  refine gf_N_26 C dd_N_init_42 ((zz_un (by omega)).trans (f62_5)) rfl ?_
  refine z_iload_n C dd_N_init_45 rfl ?_
  refine nw_N_24 C dd_N_init_46 (by decide) (by decide) ?_
  refine z_dup C dd_N_init_49 rfl ?_
  refine ii_N_30 (sk := fun _ => [.ref (n + 7), .int ((((0 + Int32.ofInt 1) + Int32.ofInt 1) + Int32.ofInt 1)), .ref n]) (zz_f B) C dd_N_init_50 (cc_E_init l D dA B _ _ _ (zz_us _ _ _) (by omega)) rfl rfl ⟨by decide, by decide⟩ (Nat.le_of_ble_eq_true rfl) ⟨by decide, by decide⟩ (fun _ => rfl) (fun _ h3 n3 p3 => ?_)
  obtain ⟨rfl, ga3, gb3, gc3⟩ := p3
  have f81_0 := (gc3 n (by omega) (by omega)).trans ((zz_un (by omega)).trans (zz_us _ _ _))
  have f81_1 := (gc3 (n + 1) (by omega) (by omega)).trans ((zz_un (by omega)).trans ((zz_un (by omega)).trans (f62_1)))
  have f81_2 := (gc3 (n + 2) (by omega) (by omega)).trans ((zz_un (by omega)).trans ((zz_un (by omega)).trans (f62_2)))
  have f81_3 := (gc3 (n + 3) (by omega) (by omega)).trans ((zz_un (by omega)).trans ((zz_un (by omega)).trans (f62_3)))
  have f81_4 := (gc3 (n + 4) (by omega) (by omega)).trans ((zz_un (by omega)).trans ((zz_un (by omega)).trans (f62_4)))
  have f81_5 := (gc3 (n + 5) (by omega) (by omega)).trans ((zz_un (by omega)).trans ((zz_un (by omega)).trans (ga2)))
  have f81_6 := (gc3 (n + 6) (by omega) (by omega)).trans ((zz_un (by omega)).trans ((zz_un (by omega)).trans (gb2)))
  have f81_7 := (gc3 q (by omega) (by omega)).trans ((zz_un (by omega)).trans ((zz_un (by omega)).trans (f62_5)))
  refine z_aast (t0 := 7) (ci := 9) (r := (RR_E, FF_E, 5)) C rfl rfl dd_N_init_53 f81_0 ga3 (by unfold vp_in; decide) ?_
  refine z_iinc C dd_N_init_54 rfl rfl ?_
  refine z_goto (tgt := 35) C dd_N_init_57 (by decide) ?_
  refine z_iload_n C dd_N_init_35 rfl ?_
  refine z_bipush (v := 8) C dd_N_init_36 (by decide) ?_
  refine z_icmp_ge (tgt := 60) C dd_N_init_38 (by decide) (fun q38 => absurd q38 (by decide)) (fun q38 => ?_)
  refine z_aload_n C dd_N_init_41 rfl ?_
  refine gf_N_26 C dd_N_init_42 ((zz_un (by omega)).trans (f81_7)) rfl ?_
  refine z_iload_n C dd_N_init_45 rfl ?_
  refine nw_N_24 C dd_N_init_46 (by decide) (by decide) ?_
  refine z_dup C dd_N_init_49 rfl ?_
  refine ii_N_30 (sk := fun _ => [.ref (n + 9), .int (((((0 + Int32.ofInt 1) + Int32.ofInt 1) + Int32.ofInt 1) + Int32.ofInt 1)), .ref n]) (zz_f B) C dd_N_init_50 (cc_E_init l D dA B _ _ _ (zz_us _ _ _) (by omega)) rfl rfl ⟨by decide, by decide⟩ (Nat.le_of_ble_eq_true rfl) ⟨by decide, by decide⟩ (fun _ => rfl) (fun _ h4 n4 p4 => ?_)
  obtain ⟨rfl, ga4, gb4, gc4⟩ := p4
  have f102_0 := (gc4 n (by omega) (by omega)).trans ((zz_un (by omega)).trans (zz_us _ _ _))
  have f102_1 := (gc4 (n + 1) (by omega) (by omega)).trans ((zz_un (by omega)).trans ((zz_un (by omega)).trans (f81_1)))
  have f102_2 := (gc4 (n + 2) (by omega) (by omega)).trans ((zz_un (by omega)).trans ((zz_un (by omega)).trans (f81_2)))
  have f102_3 := (gc4 (n + 3) (by omega) (by omega)).trans ((zz_un (by omega)).trans ((zz_un (by omega)).trans (f81_3)))
  have f102_4 := (gc4 (n + 4) (by omega) (by omega)).trans ((zz_un (by omega)).trans ((zz_un (by omega)).trans (f81_4)))
  have f102_5 := (gc4 (n + 5) (by omega) (by omega)).trans ((zz_un (by omega)).trans ((zz_un (by omega)).trans (f81_5)))
  have f102_6 := (gc4 (n + 6) (by omega) (by omega)).trans ((zz_un (by omega)).trans ((zz_un (by omega)).trans (f81_6)))
  have f102_7 := (gc4 (n + 7) (by omega) (by omega)).trans ((zz_un (by omega)).trans ((zz_un (by omega)).trans (ga3)))
  have f102_8 := (gc4 (n + 8) (by omega) (by omega)).trans ((zz_un (by omega)).trans ((zz_un (by omega)).trans (gb3)))
  have f102_9 := (gc4 q (by omega) (by omega)).trans ((zz_un (by omega)).trans ((zz_un (by omega)).trans (f81_7)))
  refine z_aast (t0 := 7) (ci := 9) (r := (RR_E, FF_E, 5)) C rfl rfl dd_N_init_53 f102_0 ga4 (by unfold vp_in; decide) ?_
  refine z_iinc C dd_N_init_54 rfl rfl ?_
  refine z_goto (tgt := 35) C dd_N_init_57 (by decide) ?_
  refine z_iload_n C dd_N_init_35 rfl ?_
  refine z_bipush (v := 8) C dd_N_init_36 (by decide) ?_
  refine z_icmp_ge (tgt := 60) C dd_N_init_38 (by decide) (fun q38 => absurd q38 (by decide)) (fun q38 => ?_)
  refine z_aload_n C dd_N_init_41 rfl ?_
  refine gf_N_26 C dd_N_init_42 ((zz_un (by omega)).trans (f102_9)) rfl ?_
  refine z_iload_n C dd_N_init_45 rfl ?_
  refine nw_N_24 C dd_N_init_46 (by decide) (by decide) ?_
  refine z_dup C dd_N_init_49 rfl ?_
  refine ii_N_30 (sk := fun _ => [.ref (n + 11), .int ((((((0 + Int32.ofInt 1) + Int32.ofInt 1) + Int32.ofInt 1) + Int32.ofInt 1) + Int32.ofInt 1)), .ref n]) (zz_f B) C dd_N_init_50 (cc_E_init l D dA B _ _ _ (zz_us _ _ _) (by omega)) rfl rfl ⟨by decide, by decide⟩ (Nat.le_of_ble_eq_true rfl) ⟨by decide, by decide⟩ (fun _ => rfl) (fun _ h5 n5 p5 => ?_)
  obtain ⟨rfl, ga5, gb5, gc5⟩ := p5
  have f125_0 := (gc5 n (by omega) (by omega)).trans ((zz_un (by omega)).trans (zz_us _ _ _))
  have f125_1 := (gc5 (n + 1) (by omega) (by omega)).trans ((zz_un (by omega)).trans ((zz_un (by omega)).trans (f102_1)))
  have f125_2 := (gc5 (n + 10) (by omega) (by omega)).trans ((zz_un (by omega)).trans ((zz_un (by omega)).trans (gb4)))
  have f125_3 := (gc5 (n + 2) (by omega) (by omega)).trans ((zz_un (by omega)).trans ((zz_un (by omega)).trans (f102_2)))
  have f125_4 := (gc5 (n + 3) (by omega) (by omega)).trans ((zz_un (by omega)).trans ((zz_un (by omega)).trans (f102_3)))
  have f125_5 := (gc5 (n + 4) (by omega) (by omega)).trans ((zz_un (by omega)).trans ((zz_un (by omega)).trans (f102_4)))
  have f125_6 := (gc5 (n + 5) (by omega) (by omega)).trans ((zz_un (by omega)).trans ((zz_un (by omega)).trans (f102_5)))
  have f125_7 := (gc5 (n + 6) (by omega) (by omega)).trans ((zz_un (by omega)).trans ((zz_un (by omega)).trans (f102_6)))
  have f125_8 := (gc5 (n + 7) (by omega) (by omega)).trans ((zz_un (by omega)).trans ((zz_un (by omega)).trans (f102_7)))
  have f125_9 := (gc5 (n + 8) (by omega) (by omega)).trans ((zz_un (by omega)).trans ((zz_un (by omega)).trans (f102_8)))
  have f125_10 := (gc5 (n + 9) (by omega) (by omega)).trans ((zz_un (by omega)).trans ((zz_un (by omega)).trans (ga4)))
  have f125_11 := (gc5 q (by omega) (by omega)).trans ((zz_un (by omega)).trans ((zz_un (by omega)).trans (f102_9)))
  refine z_aast (t0 := 7) (ci := 9) (r := (RR_E, FF_E, 5)) C rfl rfl dd_N_init_53 f125_0 ga5 (by unfold vp_in; decide) ?_
  refine z_iinc C dd_N_init_54 rfl rfl ?_
  refine z_goto (tgt := 35) C dd_N_init_57 (by decide) ?_
  refine z_iload_n C dd_N_init_35 rfl ?_
  refine z_bipush (v := 8) C dd_N_init_36 (by decide) ?_
  refine z_icmp_ge (tgt := 60) C dd_N_init_38 (by decide) (fun q38 => absurd q38 (by decide)) (fun q38 => ?_)
  refine z_aload_n C dd_N_init_41 rfl ?_
  refine gf_N_26 C dd_N_init_42 ((zz_un (by omega)).trans (f125_11)) rfl ?_
  refine z_iload_n C dd_N_init_45 rfl ?_
  refine nw_N_24 C dd_N_init_46 (by decide) (by decide) ?_
  refine z_dup C dd_N_init_49 rfl ?_
  refine ii_N_30 (sk := fun _ => [.ref (n + 13), .int (((((((0 + Int32.ofInt 1) + Int32.ofInt 1) + Int32.ofInt 1) + Int32.ofInt 1) + Int32.ofInt 1) + Int32.ofInt 1)), .ref n]) (zz_f B) C dd_N_init_50 (cc_E_init l D dA B _ _ _ (zz_us _ _ _) (by omega)) rfl rfl ⟨by decide, by decide⟩ (Nat.le_of_ble_eq_true rfl) ⟨by decide, by decide⟩ (fun _ => rfl) (fun _ h6 n6 p6 => ?_)
  obtain ⟨rfl, ga6, gb6, gc6⟩ := p6
  have f150_0 := (gc6 n (by omega) (by omega)).trans ((zz_un (by omega)).trans (zz_us _ _ _))
  have f150_1 := (gc6 (n + 1) (by omega) (by omega)).trans ((zz_un (by omega)).trans ((zz_un (by omega)).trans (f125_1)))
  have f150_2 := (gc6 (n + 10) (by omega) (by omega)).trans ((zz_un (by omega)).trans ((zz_un (by omega)).trans (f125_2)))
  have f150_3 := (gc6 (n + 11) (by omega) (by omega)).trans ((zz_un (by omega)).trans ((zz_un (by omega)).trans (ga5)))
  have f150_4 := (gc6 (n + 12) (by omega) (by omega)).trans ((zz_un (by omega)).trans ((zz_un (by omega)).trans (gb5)))
  have f150_5 := (gc6 (n + 2) (by omega) (by omega)).trans ((zz_un (by omega)).trans ((zz_un (by omega)).trans (f125_3)))
  have f150_6 := (gc6 (n + 3) (by omega) (by omega)).trans ((zz_un (by omega)).trans ((zz_un (by omega)).trans (f125_4)))
  have f150_7 := (gc6 (n + 4) (by omega) (by omega)).trans ((zz_un (by omega)).trans ((zz_un (by omega)).trans (f125_5)))
  have f150_8 := (gc6 (n + 5) (by omega) (by omega)).trans ((zz_un (by omega)).trans ((zz_un (by omega)).trans (f125_6)))
  have f150_9 := (gc6 (n + 6) (by omega) (by omega)).trans ((zz_un (by omega)).trans ((zz_un (by omega)).trans (f125_7)))
  have f150_10 := (gc6 (n + 7) (by omega) (by omega)).trans ((zz_un (by omega)).trans ((zz_un (by omega)).trans (f125_8)))
  have f150_11 := (gc6 (n + 8) (by omega) (by omega)).trans ((zz_un (by omega)).trans ((zz_un (by omega)).trans (f125_9)))
  have f150_12 := (gc6 (n + 9) (by omega) (by omega)).trans ((zz_un (by omega)).trans ((zz_un (by omega)).trans (f125_10)))
  have f150_13 := (gc6 q (by omega) (by omega)).trans ((zz_un (by omega)).trans ((zz_un (by omega)).trans (f125_11)))
  refine z_aast (t0 := 7) (ci := 9) (r := (RR_E, FF_E, 5)) C rfl rfl dd_N_init_53 f150_0 ga6 (by unfold vp_in; decide) ?_
  refine z_iinc C dd_N_init_54 rfl rfl ?_
  refine z_goto (tgt := 35) C dd_N_init_57 (by decide) ?_
  refine z_iload_n C dd_N_init_35 rfl ?_
  refine z_bipush (v := 8) C dd_N_init_36 (by decide) ?_
  refine z_icmp_ge (tgt := 60) C dd_N_init_38 (by decide) (fun q38 => absurd q38 (by decide)) (fun q38 => ?_)
  refine z_aload_n C dd_N_init_41 rfl ?_
  refine gf_N_26 C dd_N_init_42 ((zz_un (by omega)).trans (f150_13)) rfl ?_
  refine z_iload_n C dd_N_init_45 rfl ?_
  refine nw_N_24 C dd_N_init_46 (by decide) (by decide) ?_
  refine z_dup C dd_N_init_49 rfl ?_
  refine ii_N_30 (sk := fun _ => [.ref (n + 15), .int ((((((((0 + Int32.ofInt 1) + Int32.ofInt 1) + Int32.ofInt 1) + Int32.ofInt 1) + Int32.ofInt 1) + Int32.ofInt 1) + Int32.ofInt 1)), .ref n]) (zz_f B) C dd_N_init_50 (cc_E_init l D dA B _ _ _ (zz_us _ _ _) (by omega)) rfl rfl ⟨by decide, by decide⟩ (Nat.le_of_ble_eq_true rfl) ⟨by decide, by decide⟩ (fun _ => rfl) (fun _ h7 n7 p7 => ?_)
  obtain ⟨rfl, ga7, gb7, gc7⟩ := p7
  have f177_0 := (gc7 n (by omega) (by omega)).trans ((zz_un (by omega)).trans (zz_us _ _ _))
  have f177_1 := (gc7 (n + 1) (by omega) (by omega)).trans ((zz_un (by omega)).trans ((zz_un (by omega)).trans (f150_1)))
  have f177_2 := (gc7 (n + 10) (by omega) (by omega)).trans ((zz_un (by omega)).trans ((zz_un (by omega)).trans (f150_2)))
  have f177_3 := (gc7 (n + 11) (by omega) (by omega)).trans ((zz_un (by omega)).trans ((zz_un (by omega)).trans (f150_3)))
  have f177_4 := (gc7 (n + 12) (by omega) (by omega)).trans ((zz_un (by omega)).trans ((zz_un (by omega)).trans (f150_4)))
  have f177_5 := (gc7 (n + 13) (by omega) (by omega)).trans ((zz_un (by omega)).trans ((zz_un (by omega)).trans (ga6)))
  have f177_6 := (gc7 (n + 14) (by omega) (by omega)).trans ((zz_un (by omega)).trans ((zz_un (by omega)).trans (gb6)))
  have f177_7 := (gc7 (n + 2) (by omega) (by omega)).trans ((zz_un (by omega)).trans ((zz_un (by omega)).trans (f150_5)))
  have f177_8 := (gc7 (n + 3) (by omega) (by omega)).trans ((zz_un (by omega)).trans ((zz_un (by omega)).trans (f150_6)))
  have f177_9 := (gc7 (n + 4) (by omega) (by omega)).trans ((zz_un (by omega)).trans ((zz_un (by omega)).trans (f150_7)))
  have f177_10 := (gc7 (n + 5) (by omega) (by omega)).trans ((zz_un (by omega)).trans ((zz_un (by omega)).trans (f150_8)))
  have f177_11 := (gc7 (n + 6) (by omega) (by omega)).trans ((zz_un (by omega)).trans ((zz_un (by omega)).trans (f150_9)))
  have f177_12 := (gc7 (n + 7) (by omega) (by omega)).trans ((zz_un (by omega)).trans ((zz_un (by omega)).trans (f150_10)))
  have f177_13 := (gc7 (n + 8) (by omega) (by omega)).trans ((zz_un (by omega)).trans ((zz_un (by omega)).trans (f150_11)))
  have f177_14 := (gc7 (n + 9) (by omega) (by omega)).trans ((zz_un (by omega)).trans ((zz_un (by omega)).trans (f150_12)))
  have f177_15 := (gc7 q (by omega) (by omega)).trans ((zz_un (by omega)).trans ((zz_un (by omega)).trans (f150_13)))
  refine z_aast (t0 := 7) (ci := 9) (r := (RR_E, FF_E, 5)) C rfl rfl dd_N_init_53 f177_0 ga7 (by unfold vp_in; decide) ?_
  refine z_iinc C dd_N_init_54 rfl rfl ?_
  refine z_goto (tgt := 35) C dd_N_init_57 (by decide) ?_
  refine z_iload_n C dd_N_init_35 rfl ?_
  refine z_bipush (v := 8) C dd_N_init_36 (by decide) ?_
  refine z_icmp_ge (tgt := 60) C dd_N_init_38 (by decide) (fun q38 => ?_) (fun q38 => absurd q38 (by decide))
  refine z_vret C dd_N_init_60 ⟨rfl, ?_, ⟨_, (zz_us _ _ _), fun j hj => ?_⟩, fun j hj => ?_, fun x hx hxq => ?_⟩ (by decide) (by decide)
  · exact ((zz_un (by omega)).trans (f177_15))
  · rcases (show j = 0 ∨ j = 1 ∨ j = 2 ∨ j = 3 ∨ j = 4 ∨ j = 5 ∨ j = 6 ∨ j = 7 by omega) with rfl | rfl | rfl | rfl | rfl | rfl | rfl | rfl <;> rfl
  · rcases (show j = 0 ∨ j = 1 ∨ j = 2 ∨ j = 3 ∨ j = 4 ∨ j = 5 ∨ j = 6 ∨ j = 7 by omega) with rfl | rfl | rfl | rfl | rfl | rfl | rfl | rfl
    · exact ⟨((zz_un (by omega)).trans (f177_1)), ((zz_un (by omega)).trans (f177_7))⟩
    · exact ⟨((zz_un (by omega)).trans (f177_8)), ((zz_un (by omega)).trans (f177_9))⟩
    · exact ⟨((zz_un (by omega)).trans (f177_10)), ((zz_un (by omega)).trans (f177_11))⟩
    · exact ⟨((zz_un (by omega)).trans (f177_12)), ((zz_un (by omega)).trans (f177_13))⟩
    · exact ⟨((zz_un (by omega)).trans (f177_14)), ((zz_un (by omega)).trans (f177_2))⟩
    · exact ⟨((zz_un (by omega)).trans (f177_3)), ((zz_un (by omega)).trans (f177_4))⟩
    · exact ⟨((zz_un (by omega)).trans (f177_5)), ((zz_un (by omega)).trans (f177_6))⟩
    · exact ⟨((zz_un (by omega)).trans (ga7)), ((zz_un (by omega)).trans (gb7))⟩
  · exact (zz_un (by omega)).trans ((gc7 _ (by omega) (by omega)).trans ((zz_un (by omega)).trans ((zz_un (by omega)).trans ((gc6 _ (by omega) (by omega)).trans ((zz_un (by omega)).trans ((zz_un (by omega)).trans ((gc5 _ (by omega) (by omega)).trans ((zz_un (by omega)).trans ((zz_un (by omega)).trans ((gc4 _ (by omega) (by omega)).trans ((zz_un (by omega)).trans ((zz_un (by omega)).trans ((gc3 _ (by omega) (by omega)).trans ((zz_un (by omega)).trans ((zz_un (by omega)).trans ((gc2 _ (by omega) (by omega)).trans ((zz_un (by omega)).trans ((zz_un (by omega)).trans ((gc1 _ (by omega) (by omega)).trans ((zz_un (by omega)).trans ((zz_un (by omega)).trans ((gc0 _ (by omega) (by omega)).trans ((zz_un (by omega)).trans ((zz_un (by omega)).trans ((zz_un (by omega)).trans ((zz_un (by omega)).trans ((zz_un (by omega)).trans ((zz_un (by omega)).trans ((zz_un (by omega)).trans (rfl))))))))))))))))))))))))))))))
abbrev rm_G_init : Room := { frames := 2, cells := 9, slots := 439, locals := 40 }
set_option maxRecDepth 20000 in
/-- Generic(arguments, classes) -/
theorem cc_G_init (l : Launch) (D : va_G) (dA : Nat → ClassId) (B : Nat) (h : zz_H) (n : Nat) (q : Nat) (k0 : Int32) (c0 : Nat) (hq : h q = some (.inr (6, [.int 0, .null, .null, .null, .null, .int 0, .int 0, .int 0, .int 0, .long 0, .int 0]))) (hqn : q < n) : zz_M l D zz_cl (zz_ty dA) B zz_tb (zz_x B) yy_G_init (Cond.code yy_G_init bb_G_init 3 none) rm_G_init [.ref q, .int k0, .ref c0] h n zz_mv (fun _ h' n' => n' = n + 9 ∧ h' q = some (.inr (6, [.int k0, .ref (n + 5), .ref n, .ref c0, .ref (n + 4), .int 0, .int 0, .int 0, .int 0, .long 0, .int 0])) ∧ h' n = some (.inr (7, [.ref (n + 1), .ref (n + 2), .ref (n + 3), .int 0])) ∧ h' (n + 1) = some (.inl (dA 0, 80, .inl (fun _ => 0))) ∧ h' (n + 2) = some (.inl (dA 0, 80, .inl (fun _ => 0))) ∧ h' (n + 3) = some (.inl (dA 0, 80, .inl (fun _ => 0))) ∧ h' (n + 4) = some (.inl (dA 4, 12, .inr (.inr (.inr (.inr (fun _ => none)))))) ∧ h' (n + 5) = some (.inr (5, [.ref c0, .ref (n + 6), .int 0, .ref (n + 7), .ref (n + 8), .long 0, .long 0])) ∧ h' (n + 6) = some (.inl (dA 5, 48, .inr (.inr (.inr (.inr (fun _ => none)))))) ∧ h' (n + 7) = some (.inl (dA 1, 64, .inr (.inl (fun _ => 0)))) ∧ h' (n + 8) = some (.inl (dA 1, 64, .inr (.inl (fun _ => 0)))) ∧ ∀ x, x < n → x ≠ q → h' x = h x) := by
  refine zz_ofW (zz_f B) [some (.ref q), some (.int k0), some (.ref c0)] (by decide) rfl rfl (Nat.le_of_ble_eq_true rfl) ?_
  intro p e s m below meth c C
  refine z_aload_n C dd_G_init_0 rfl ?_
  refine oi_G_3 C dd_G_init_1 (Nat.le_of_ble_eq_true rfl) (Nat.le_of_ble_eq_true rfl) ?_
  refine z_aload_n C dd_G_init_4 rfl ?_
  refine nw_G_9 C dd_G_init_5 (by decide) (by decide) ?_
  refine z_dup C dd_G_init_8 rfl ?_
  refine ii_G_11 (sk := fun _ => [.ref n, .ref q]) (zz_f B) C dd_G_init_9 (cc_R_init l D dA B _ _ _ (zz_us _ _ _) (by omega)) rfl rfl ⟨by decide, by decide⟩ (Nat.le_of_ble_eq_true rfl) ⟨by decide, by decide⟩ (fun _ => rfl) (fun _ h1 n1 p1 => ?_)
  obtain ⟨rfl, ga1, gb1, gb2, gb3, gc1⟩ := p1
  have f7_0 := (gc1 q (by omega) (by omega)).trans ((zz_un (by omega)).trans (hq))
  refine pf_G_12 C dd_G_init_12 f7_0 (Nat.le_of_ble_eq_true rfl) rfl rfl ?_
  refine z_aload_n C dd_G_init_15 rfl ?_
  refine z_bipush (v := 12) C dd_G_init_16 (by decide) ?_
  refine an_G_18 (N := 12) C dd_G_init_18 (by decide) (by decide) (by decide) (by decide) (by decide) ?_
  refine pf_G_20 C dd_G_init_21 ((zz_un (by omega)).trans (zz_us _ _ _)) (Nat.le_of_ble_eq_true rfl) rfl rfl ?_
  refine z_aload_n C dd_G_init_24 rfl ?_
  refine z_iconst (v := 0) C dd_G_init_25 (by decide) ?_
  refine pf_G_24 C dd_G_init_26 (zz_us _ _ _) (Nat.le_of_ble_eq_true rfl) rfl rfl ?_
  refine z_aload_n C dd_G_init_29 rfl ?_
  refine z_iconst (v := 0) C dd_G_init_30 (by decide) ?_
  refine pf_G_28 C dd_G_init_31 (zz_us _ _ _) (Nat.le_of_ble_eq_true rfl) rfl rfl ?_
  refine z_aload_n C dd_G_init_34 rfl ?_
  refine z_iconst (v := 0) C dd_G_init_35 (by decide) ?_
  refine pf_G_31 C dd_G_init_36 (zz_us _ _ _) (Nat.le_of_ble_eq_true rfl) rfl rfl ?_
  refine z_aload_n C dd_G_init_39 rfl ?_
  refine z_iconst (v := 0) C dd_G_init_40 (by decide) ?_
  refine pf_G_35 C dd_G_init_41 (zz_us _ _ _) (Nat.le_of_ble_eq_true rfl) rfl rfl ?_
  refine z_aload_n C dd_G_init_44 rfl ?_
  refine z_lconst (v := 0) C dd_G_init_45 (by decide) ?_
  refine pf_G_38 C dd_G_init_46 (zz_us _ _ _) (Nat.le_of_ble_eq_true rfl) rfl rfl ?_
  refine z_aload_n C dd_G_init_49 rfl ?_
  refine z_iconst (v := 0) C dd_G_init_50 (by decide) ?_
  refine pf_G_42 C dd_G_init_51 (zz_us _ _ _) (Nat.le_of_ble_eq_true rfl) rfl rfl ?_
  refine z_aload_n C dd_G_init_54 rfl ?_
  refine z_iload_n C dd_G_init_55 rfl ?_
  refine pf_G_45 C dd_G_init_56 (zz_us _ _ _) (Nat.le_of_ble_eq_true rfl) rfl rfl ?_
  refine z_aload_n C dd_G_init_59 rfl ?_
  refine z_aload_n C dd_G_init_60 rfl ?_
  refine pf_G_48 C dd_G_init_61 (zz_us _ _ _) (Nat.le_of_ble_eq_true rfl) rfl rfl ?_
  refine z_aload_n C dd_G_init_64 rfl ?_
  refine nw_G_52 C dd_G_init_65 (by decide) (by decide) ?_
  refine z_dup C dd_G_init_68 rfl ?_
  refine z_aload_n C dd_G_init_69 rfl ?_
  refine ii_G_54 (sk := fun _ => [.ref (n + 5), .ref q]) (zz_f B) C dd_G_init_70 (cc_F_init l D dA B _ _ _ _ (zz_us _ _ _) (by omega)) rfl rfl ⟨by decide, by decide⟩ (Nat.le_of_ble_eq_true rfl) ⟨by decide, by decide⟩ (fun _ => rfl) (fun _ h2 n2 p2 => ?_)
  obtain ⟨rfl, ha1, hb1, hb2, hb3, hc1⟩ := p2
  have f43_0 := (hc1 n (by omega) (by omega)).trans ((zz_un (by omega)).trans ((zz_un (by omega)).trans ((zz_un (by omega)).trans ((zz_un (by omega)).trans ((zz_un (by omega)).trans ((zz_un (by omega)).trans ((zz_un (by omega)).trans ((zz_un (by omega)).trans ((zz_un (by omega)).trans ((zz_un (by omega)).trans ((zz_un (by omega)).trans ((zz_un (by omega)).trans (ga1)))))))))))))
  have f43_1 := (hc1 (n + 1) (by omega) (by omega)).trans ((zz_un (by omega)).trans ((zz_un (by omega)).trans ((zz_un (by omega)).trans ((zz_un (by omega)).trans ((zz_un (by omega)).trans ((zz_un (by omega)).trans ((zz_un (by omega)).trans ((zz_un (by omega)).trans ((zz_un (by omega)).trans ((zz_un (by omega)).trans ((zz_un (by omega)).trans ((zz_un (by omega)).trans (gb1)))))))))))))
  have f43_2 := (hc1 (n + 2) (by omega) (by omega)).trans ((zz_un (by omega)).trans ((zz_un (by omega)).trans ((zz_un (by omega)).trans ((zz_un (by omega)).trans ((zz_un (by omega)).trans ((zz_un (by omega)).trans ((zz_un (by omega)).trans ((zz_un (by omega)).trans ((zz_un (by omega)).trans ((zz_un (by omega)).trans ((zz_un (by omega)).trans ((zz_un (by omega)).trans (gb2)))))))))))))
  have f43_3 := (hc1 (n + 3) (by omega) (by omega)).trans ((zz_un (by omega)).trans ((zz_un (by omega)).trans ((zz_un (by omega)).trans ((zz_un (by omega)).trans ((zz_un (by omega)).trans ((zz_un (by omega)).trans ((zz_un (by omega)).trans ((zz_un (by omega)).trans ((zz_un (by omega)).trans ((zz_un (by omega)).trans ((zz_un (by omega)).trans ((zz_un (by omega)).trans (gb3)))))))))))))
  have f43_4 := (hc1 (n + 4) (by omega) (by omega)).trans ((zz_un (by omega)).trans ((zz_un (by omega)).trans ((zz_un (by omega)).trans ((zz_un (by omega)).trans ((zz_un (by omega)).trans ((zz_un (by omega)).trans ((zz_un (by omega)).trans ((zz_un (by omega)).trans ((zz_un (by omega)).trans ((zz_un (by omega)).trans (zz_us _ _ _)))))))))))
  have f43_5 := (hc1 q (by omega) (by omega)).trans ((zz_un (by omega)).trans (zz_us _ _ _))
  refine pf_G_57 C dd_G_init_73 f43_5 (Nat.le_of_ble_eq_true rfl) rfl rfl ?_
  refine z_vret C dd_G_init_76 ⟨rfl, ?_, ?_, ?_, ?_, ?_, ?_, ?_, ?_, ?_, ?_, fun x hx hxq => ?_⟩ (by decide) (by decide)
  · exact (zz_us _ _ _)
  · exact ((zz_un (by omega)).trans (f43_0))
  · exact ((zz_un (by omega)).trans (f43_1))
  · exact ((zz_un (by omega)).trans (f43_2))
  · exact ((zz_un (by omega)).trans (f43_3))
  · exact ((zz_un (by omega)).trans (f43_4))
  · exact ((zz_un (by omega)).trans (ha1))
  · exact ((zz_un (by omega)).trans (hb1))
  · exact ((zz_un (by omega)).trans (hb2))
  · exact ((zz_un (by omega)).trans (hb3))
  · exact (zz_un (by omega)).trans ((hc1 _ (by omega) (by omega)).trans ((zz_un (by omega)).trans ((zz_un (by omega)).trans ((zz_un (by omega)).trans ((zz_un (by omega)).trans ((zz_un (by omega)).trans ((zz_un (by omega)).trans ((zz_un (by omega)).trans ((zz_un (by omega)).trans ((zz_un (by omega)).trans ((zz_un (by omega)).trans ((zz_un (by omega)).trans ((zz_un (by omega)).trans ((gc1 _ (by omega) (by omega)).trans ((zz_un (by omega)).trans (rfl))))))))))))))))
abbrev rm_D_init : Room := { frames := 3, cells := 24, slots := 4224, locals := 70 }
set_option maxRecDepth 20000 in
/-- DispatchDesk(): a desk with the class 0 alone -/
theorem cc_D_init (l : Launch) (D : va_G) (dA : Nat → ClassId) (B : Nat) (h : zz_H) (n : Nat) (q : Nat) (hq : h q = some (.inr (0, [.null, .null, .int 0, .null, .int 0, .null, .null, .int 0, .int 0, .int 0]))) (hqn : q < n) : zz_M l D zz_cl (zz_ty dA) B zz_tb (zz_x B) yy_D_init (Cond.code yy_D_init bb_D_init 1 none) rm_D_init [.ref q] h n zz_mv (fun _ h' n' => n' = n + 24 ∧ h' q = some (.inr (0, [.ref n, .ref (n + 2), .int 0, .ref (n + 3), .int 0, .ref (n + 4), .ref (n + 6), .int 0, .int 0, .int 0])) ∧ h' n = some (.inr (1, [.ref (n + 1), .int 1])) ∧ h' (n + 1) = some (.inl (dA 0, 8, .inl (upd (fun _ => 0) 0 1))) ∧ h' (n + 2) = some (.inl (dA 3, 4, .inr (.inr (.inr (.inr (fun _ => none)))))) ∧ h' (n + 3) = some (.inl (dA 4, 12, .inr (.inr (.inr (.inr (fun _ => none)))))) ∧ h' (n + 4) = some (.inr (8, [.ref (n + 5)])) ∧ h' (n + 5) = some (.inl (dA 1, 4096, .inr (.inl (fun _ => 0)))) ∧ h' (n + 6) = some (.inr (10, [.int 0, .int 0, .null, .null, .ref (n + 7)])) ∧ (∃ f, h' (n + 7) = some (.inl (dA 7, 8, .inr (.inr (.inr (.inr f))))) ∧ ∀ j, j < 8 → f j = some (n + 8 + 2 * j)) ∧ (∀ j, j < 8 → h' (n + 8 + 2 * j) = some (.inr (9, [.null, .int 0, .int 0, .ref (n + 9 + 2 * j), .int 0])) ∧ h' (n + 9 + 2 * j) = some (.inl (dA 0, 6, .inl (fun _ => 0)))) ∧ ∀ x, x < n → x ≠ q → h' x = h x) := by
  refine zz_ofW (zz_f B) [some (.ref q)] (by decide) rfl rfl (Nat.le_of_ble_eq_true rfl) ?_
  intro p e s m below meth c C
  refine z_aload_n C dd_D_init_0 rfl ?_
  refine oi_D_1 C dd_D_init_1 (Nat.le_of_ble_eq_true rfl) (Nat.le_of_ble_eq_true rfl) ?_
  refine z_aload_n C dd_D_init_4 rfl ?_
  refine nw_D_7 C dd_D_init_5 (by decide) (by decide) ?_
  refine z_dup C dd_D_init_8 rfl ?_
  refine ii_D_9 (sk := fun _ => [.ref n, .ref q]) (zz_f B) C dd_D_init_9 (cc_H_init l D dA B _ _ _ (zz_us _ _ _) (by omega)) rfl rfl ⟨by decide, by decide⟩ (Nat.le_of_ble_eq_true rfl) ⟨by decide, by decide⟩ (fun _ => rfl) (fun _ h1 n1 p1 => ?_)
  obtain ⟨rfl, ga1, gb1, gc1⟩ := p1
  have f7_0 := (gc1 q (by omega) (by omega)).trans ((zz_un (by omega)).trans (hq))
  refine pf_D_10 C dd_D_init_12 f7_0 (Nat.le_of_ble_eq_true rfl) rfl rfl ?_
  refine z_aload_n C dd_D_init_15 rfl ?_
  refine z_iconst (v := 4) C dd_D_init_16 (by decide) ?_
  refine an_D_16 (N := 4) C dd_D_init_17 (by decide) (by decide) (by decide) (by decide) (by decide) ?_
  refine pf_D_18 C dd_D_init_20 ((zz_un (by omega)).trans (zz_us _ _ _)) (Nat.le_of_ble_eq_true rfl) rfl rfl ?_
  refine z_aload_n C dd_D_init_23 rfl ?_
  refine z_iconst (v := 0) C dd_D_init_24 (by decide) ?_
  refine pf_D_22 C dd_D_init_25 (zz_us _ _ _) (Nat.le_of_ble_eq_true rfl) rfl rfl ?_
  refine z_aload_n C dd_D_init_28 rfl ?_
  refine z_bipush (v := 12) C dd_D_init_29 (by decide) ?_
  refine an_D_26 (N := 12) C dd_D_init_31 (by decide) (by decide) (by decide) (by decide) (by decide) ?_
  refine pf_D_28 C dd_D_init_34 ((zz_un (by omega)).trans (zz_us _ _ _)) (Nat.le_of_ble_eq_true rfl) rfl rfl ?_
  refine z_aload_n C dd_D_init_37 rfl ?_
  refine z_iconst (v := 0) C dd_D_init_38 (by decide) ?_
  refine pf_D_32 C dd_D_init_39 (zz_us _ _ _) (Nat.le_of_ble_eq_true rfl) rfl rfl ?_
  refine z_aload_n C dd_D_init_42 rfl ?_
  refine nw_D_35 C dd_D_init_43 (by decide) (by decide) ?_
  refine z_dup C dd_D_init_46 rfl ?_
  refine ii_D_37 (sk := fun _ => [.ref (n + 4), .ref q]) (zz_f B) C dd_D_init_47 (cc_B_init l D dA B _ _ _ (zz_us _ _ _) (by omega)) rfl rfl ⟨by decide, by decide⟩ (Nat.le_of_ble_eq_true rfl) ⟨by decide, by decide⟩ (fun _ => rfl) (fun _ h2 n2 p2 => ?_)
  obtain ⟨rfl, ga2, gb2, gc2⟩ := p2
  have f28_0 := (gc2 n (by omega) (by omega)).trans ((zz_un (by omega)).trans ((zz_un (by omega)).trans ((zz_un (by omega)).trans ((zz_un (by omega)).trans ((zz_un (by omega)).trans ((zz_un (by omega)).trans ((zz_un (by omega)).trans ((zz_un (by omega)).trans (ga1)))))))))
  have f28_1 := (gc2 (n + 1) (by omega) (by omega)).trans ((zz_un (by omega)).trans ((zz_un (by omega)).trans ((zz_un (by omega)).trans ((zz_un (by omega)).trans ((zz_un (by omega)).trans ((zz_un (by omega)).trans ((zz_un (by omega)).trans ((zz_un (by omega)).trans (gb1)))))))))
  have f28_2 := (gc2 (n + 2) (by omega) (by omega)).trans ((zz_un (by omega)).trans ((zz_un (by omega)).trans ((zz_un (by omega)).trans ((zz_un (by omega)).trans ((zz_un (by omega)).trans ((zz_un (by omega)).trans (zz_us _ _ _)))))))
  have f28_3 := (gc2 (n + 3) (by omega) (by omega)).trans ((zz_un (by omega)).trans ((zz_un (by omega)).trans ((zz_un (by omega)).trans (zz_us _ _ _))))
  have f28_4 := (gc2 q (by omega) (by omega)).trans ((zz_un (by omega)).trans (zz_us _ _ _))
  refine pf_D_38 C dd_D_init_50 f28_4 (Nat.le_of_ble_eq_true rfl) rfl rfl ?_
  refine z_aload_n C dd_D_init_53 rfl ?_
  refine nw_D_42 C dd_D_init_54 (by decide) (by decide) ?_
  refine z_dup C dd_D_init_57 rfl ?_
  refine ii_D_44 (sk := fun _ => [.ref (n + 6), .ref q]) (zz_f B) C dd_D_init_58 (cc_N_init l D dA B _ _ _ (zz_us _ _ _) (by omega)) rfl rfl ⟨by decide, by decide⟩ (Nat.le_of_ble_eq_true rfl) ⟨by decide, by decide⟩ (fun _ => rfl) (fun _ h3 n3 p3 => ?_)
  obtain ⟨rfl, ga3, ⟨ff, gb3, gf3⟩, gd3, gc3⟩ := p3
  have f39_0 := (gc3 n (by omega) (by omega)).trans ((zz_un (by omega)).trans ((zz_un (by omega)).trans (f28_0)))
  have f39_1 := (gc3 (n + 1) (by omega) (by omega)).trans ((zz_un (by omega)).trans ((zz_un (by omega)).trans (f28_1)))
  have f39_2 := (gc3 (n + 2) (by omega) (by omega)).trans ((zz_un (by omega)).trans ((zz_un (by omega)).trans (f28_2)))
  have f39_3 := (gc3 (n + 3) (by omega) (by omega)).trans ((zz_un (by omega)).trans ((zz_un (by omega)).trans (f28_3)))
  have f39_4 := (gc3 (n + 4) (by omega) (by omega)).trans ((zz_un (by omega)).trans ((zz_un (by omega)).trans (ga2)))
  have f39_5 := (gc3 (n + 5) (by omega) (by omega)).trans ((zz_un (by omega)).trans ((zz_un (by omega)).trans (gb2)))
  have f39_6 := (gc3 q (by omega) (by omega)).trans ((zz_un (by omega)).trans (zz_us _ _ _))
  refine pf_D_45 C dd_D_init_61 f39_6 (Nat.le_of_ble_eq_true rfl) rfl rfl ?_
  refine z_aload_n C dd_D_init_64 rfl ?_
  refine z_iconst (v := 0) C dd_D_init_65 (by decide) ?_
  refine pf_D_49 C dd_D_init_66 (zz_us _ _ _) (Nat.le_of_ble_eq_true rfl) rfl rfl ?_
  refine z_aload_n C dd_D_init_69 rfl ?_
  refine z_iconst (v := 0) C dd_D_init_70 (by decide) ?_
  refine pf_D_52 C dd_D_init_71 (zz_us _ _ _) (Nat.le_of_ble_eq_true rfl) rfl rfl ?_
  refine z_aload_n C dd_D_init_74 rfl ?_
  refine z_iconst (v := 0) C dd_D_init_75 (by decide) ?_
  refine pf_D_55 C dd_D_init_76 (zz_us _ _ _) (Nat.le_of_ble_eq_true rfl) rfl rfl ?_
  refine z_vret C dd_D_init_79 ⟨rfl, ?_, ?_, ?_, ?_, ?_, ?_, ?_, ?_, ⟨ff, ((zz_un (by omega)).trans ((zz_un (by omega)).trans ((zz_un (by omega)).trans ((zz_un (by omega)).trans (gb3))))), gf3⟩, fun j hj => ?_, fun x hx hxq => ?_⟩ (by decide) (by decide)
  · exact (zz_us _ _ _)
  · exact ((zz_un (by omega)).trans ((zz_un (by omega)).trans ((zz_un (by omega)).trans ((zz_un (by omega)).trans (f39_0)))))
  · exact ((zz_un (by omega)).trans ((zz_un (by omega)).trans ((zz_un (by omega)).trans ((zz_un (by omega)).trans (f39_1)))))
  · exact ((zz_un (by omega)).trans ((zz_un (by omega)).trans ((zz_un (by omega)).trans ((zz_un (by omega)).trans (f39_2)))))
  · exact ((zz_un (by omega)).trans ((zz_un (by omega)).trans ((zz_un (by omega)).trans ((zz_un (by omega)).trans (f39_3)))))
  · exact ((zz_un (by omega)).trans ((zz_un (by omega)).trans ((zz_un (by omega)).trans ((zz_un (by omega)).trans (f39_4)))))
  · exact ((zz_un (by omega)).trans ((zz_un (by omega)).trans ((zz_un (by omega)).trans ((zz_un (by omega)).trans (f39_5)))))
  · exact ((zz_un (by omega)).trans ((zz_un (by omega)).trans ((zz_un (by omega)).trans ((zz_un (by omega)).trans (ga3)))))
  · exact ⟨(zz_un (by omega)).trans ((zz_un (by omega)).trans ((zz_un (by omega)).trans ((zz_un (by omega)).trans ((gd3 j hj).1)))), (zz_un (by omega)).trans ((zz_un (by omega)).trans ((zz_un (by omega)).trans ((zz_un (by omega)).trans ((gd3 j hj).2))))⟩
  · exact (zz_un (by omega)).trans ((zz_un (by omega)).trans ((zz_un (by omega)).trans ((zz_un (by omega)).trans ((gc3 _ (by omega) (by omega)).trans ((zz_un (by omega)).trans ((zz_un (by omega)).trans ((gc2 _ (by omega) (by omega)).trans ((zz_un (by omega)).trans ((zz_un (by omega)).trans ((zz_un (by omega)).trans ((zz_un (by omega)).trans ((zz_un (by omega)).trans ((zz_un (by omega)).trans ((zz_un (by omega)).trans ((zz_un (by omega)).trans ((gc1 _ (by omega) (by omega)).trans ((zz_un (by omega)).trans (rfl))))))))))))))))))
