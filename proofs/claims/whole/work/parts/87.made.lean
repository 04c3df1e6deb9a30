/-! Record's constructor -/
abbrev yy_rec : MethodName := ⟨"java/lang/Record", "<init>", "()V"⟩
theorem dd_rec_0 : decode prog_20_method_1_code 0 = .ok (.aload_n 0, 1) := by decide +kernel
theorem dd_rec_1 : decode prog_20_method_1_code 1 = .ok (.invokespecial 1, 3) := by decide +kernel
theorem dd_rec_4 : decode prog_20_method_1_code 4 = .ok (.return_, 1) := by decide +kernel
abbrev rm_rec : Room := { frames := 1, cells := 0, slots := 0, locals := 12 }
theorem cc_rec (l : Launch) (D : va_G) (dA : Nat → ClassId) (B : Nat) (h : zz_H) (n : Nat) (q : Nat) : zz_M l D zz_cl (zz_ty dA) B zz_tb (zz_x B) yy_rec (Cond.code yy_rec prog_20_method_1_code 1 none) rm_rec [.ref q] h n zz_mv (fun _ h' n' => n' = n ∧ h' = h) := by
  refine zz_ofW (zz_f B) [some (.ref q)] (by decide) rfl rfl (Nat.le_of_ble_eq_true rfl) ?_
  intro p e s m below meth c C
  refine z_aload_n C dd_rec_0 rfl ?_
  refine z_objInit C wd_471 wd_29 wd_30 dd_rec_1 (Nat.le_of_ble_eq_true rfl) (Nat.le_of_ble_eq_true rfl) ?_
  exact z_vret C dd_rec_4 ⟨rfl, rfl⟩ (by decide) (by decide)
section ZRC
variable {D : va_G} {cl : List vw_C} {tys : List (ClassId × FieldType)} {B : Nat} {tb : List Cond} {X : State → Heap → Prop} {p : Program} {l : Launch} {e : Env} {R : Room} {s : State} {m : MethodId} {args : Array Value} {below : List Frame} {meth : Method} {c : Code} {Q : State → Prop} {h : zz_H} {n cells slots : Nat} {L : List (Option Value)} {cc : ByteArray} {pc : Nat} {rest : List Value} {own : String} {ret : Option FieldType} {nm : String} {dA : Nat → ClassId}
variable {ρ : Type} {mk : ρ → Option Value} {post : ρ → zz_H → Nat → Prop}
theorem ii_A_1 (F : zz_F B zz_tb X) (C : zz_C D zz_cl (zz_ty dA) B zz_tb X p s m args meth c cc RR_A ret nm) {rm : Room} {As st0 : List Value} {sk : ρ → List Value} {b : Nat} (d : decode cc pc = .ok (.invokespecial 1, 3)) (hM : zz_M l D zz_cl (zz_ty dA) B zz_tb X yy_rec (Cond.code yy_rec prog_20_method_1_code 1 none) rm (.ref b :: As) h n mk post) (hn : As.length = 0) (hst : st0 = As.reverse ++ .ref b :: rest) (hR : rm.frames + 1 ≤ R.frames ∧ 8 + (1 + 11) + rm.locals ≤ R.locals) (hW : (rest.map fun v => v.category).sum ≤ 8) (hf : cells + rm.cells ≤ R.cells ∧ slots + rm.slots ≤ R.slots) (hsk : ∀ r, (mk r).toList ++ rest = sk r) (kk : ∀ (r : ρ) (h' : zz_H) (n' : Nat), post r h' n' → zz_W D zz_cl B p l e R s m args below meth c Q h' n' (cells + rm.cells) (slots + rm.slots) L (pc + 3) (sk r)) : zz_W D zz_cl B p l e R s m args below meth c Q h n cells slots L pc st0 :=
  z_callI (rt := none) F C wd_470 wd_17 wd_468 wd_469 rfl ⟨by decide, by decide, by decide +kernel⟩ d hM hn hst hR hW hf hsk kk
theorem ii_O_1 (F : zz_F B zz_tb X) (C : zz_C D zz_cl (zz_ty dA) B zz_tb X p s m args meth c cc RR_O ret nm) {rm : Room} {As st0 : List Value} {sk : ρ → List Value} {b : Nat} (d : decode cc pc = .ok (.invokespecial 1, 3)) (hM : zz_M l D zz_cl (zz_ty dA) B zz_tb X yy_rec (Cond.code yy_rec prog_20_method_1_code 1 none) rm (.ref b :: As) h n mk post) (hn : As.length = 0) (hst : st0 = As.reverse ++ .ref b :: rest) (hR : rm.frames + 1 ≤ R.frames ∧ 8 + (1 + 11) + rm.locals ≤ R.locals) (hW : (rest.map fun v => v.category).sum ≤ 8) (hf : cells + rm.cells ≤ R.cells ∧ slots + rm.slots ≤ R.slots) (hsk : ∀ r, (mk r).toList ++ rest = sk r) (kk : ∀ (r : ρ) (h' : zz_H) (n' : Nat), post r h' n' → zz_W D zz_cl B p l e R s m args below meth c Q h' n' (cells + rm.cells) (slots + rm.slots) L (pc + 3) (sk r)) : zz_W D zz_cl B p l e R s m args below meth c Q h n cells slots L pc st0 :=
  z_callI (rt := none) F C wd_470 wd_17 wd_507 wd_469 rfl ⟨by decide, by decide, by decide +kernel⟩ d hM hn hst hR hW hf hsk kk
end ZRC
abbrev rm_M_init : Room := { frames := 1, cells := 2, slots := 12, locals := 12 }
set_option maxRecDepth 20000 in
/-- Method(number, owner) -/
theorem cc_M_init (l : Launch) (D : va_G) (dA : Nat → ClassId) (B : Nat) (h : zz_H) (n : Nat) (q : Nat) (k0 : Int32) (o0 : Nat) (hq : h q = some (.inr (4, [.int 0, .null, .null, .int 0, .null, .int 0, .long 0, .long 0, .int 0, .int 0]))) (hqn : q < n) : zz_M l D zz_cl (zz_ty dA) B zz_tb (zz_x B) yy_M_init (Cond.code yy_M_init bb_M_init 3 none) rm_M_init [.ref q, .int k0, .ref o0] h n zz_mv (fun _ h' n' => n' = n + 2 ∧ h' q = some (.inr (4, [.int k0, .ref o0, .ref n, .int 0, .ref (n + 1), .int 0, .long 0, .long 0, .int 0, .int 0])) ∧ h' n = some (.inl (dA 5, 4, .inr (.inr (.inr (.inr (fun _ => none)))))) ∧ h' (n + 1) = some (.inl (dA 6, 8, .inr (.inr (.inr (.inr (fun _ => none)))))) ∧ ∀ x, x < n → x ≠ q → h' x = h x) := by
  refine zz_ofW (zz_f B) [some (.ref q), some (.int k0), some (.ref o0)] (by decide) rfl rfl (Nat.le_of_ble_eq_true rfl) ?_
  intro p e s m below meth c C
  refine z_aload_n C dd_M_init_0 rfl ?_
  refine oi_M_1 C dd_M_init_1 (Nat.le_of_ble_eq_true rfl) (Nat.le_of_ble_eq_true rfl) ?_
  refine z_aload_n C dd_M_init_4 rfl ?_
  refine z_iconst (v := 4) C dd_M_init_5 (by decide) ?_
  refine an_M_9 (N := 4) C dd_M_init_6 (by decide) (by decide) (by decide) (by decide) (by decide) ?_
  refine pf_M_11 C dd_M_init_9 ((zz_un (by omega)).trans (hq)) (Nat.le_of_ble_eq_true rfl) rfl rfl ?_
  refine z_aload_n C dd_M_init_12 rfl ?_
  refine z_iconst (v := 0) C dd_M_init_13 (by decide) ?_
  refine pf_M_15 C dd_M_init_14 (zz_us _ _ _) (Nat.le_of_ble_eq_true rfl) rfl rfl ?_
  refine z_aload_n C dd_M_init_17 rfl ?_
  refine z_bipush (v := 8) C dd_M_init_18 (by decide) ?_
  refine an_M_19 (N := 8) C dd_M_init_20 (by decide) (by decide) (by decide) (by decide) (by decide) ?_
  refine pf_M_21 C dd_M_init_23 ((zz_un (by omega)).trans (zz_us _ _ _)) (Nat.le_of_ble_eq_true rfl) rfl rfl ?_
  refine z_aload_n C dd_M_init_26 rfl ?_
  refine z_iconst (v := 0) C dd_M_init_27 (by decide) ?_
  refine pf_M_25 C dd_M_init_28 (zz_us _ _ _) (Nat.le_of_ble_eq_true rfl) rfl rfl ?_
  refine z_aload_n C dd_M_init_31 rfl ?_
  refine z_lconst (v := 0) C dd_M_init_32 (by decide) ?_
  refine pf_M_28 C dd_M_init_33 (zz_us _ _ _) (Nat.le_of_ble_eq_true rfl) rfl rfl ?_
  refine z_aload_n C dd_M_init_36 rfl ?_
  refine z_lconst (v := 0) C dd_M_init_37 (by decide) ?_
  refine pf_M_32 C dd_M_init_38 (zz_us _ _ _) (Nat.le_of_ble_eq_true rfl) rfl rfl ?_
  refine z_aload_n C dd_M_init_41 rfl ?_
  refine z_iconst (v := 0) C dd_M_init_42 (by decide) ?_
  refine pf_M_35 C dd_M_init_43 (zz_us _ _ _) (Nat.le_of_ble_eq_true rfl) rfl rfl ?_
  refine z_aload_n C dd_M_init_46 rfl ?_
  refine z_iconst (v := 0) C dd_M_init_47 (by decide) ?_
  refine pf_M_38 C dd_M_init_48 (zz_us _ _ _) (Nat.le_of_ble_eq_true rfl) rfl rfl ?_
  refine z_aload_n C dd_M_init_51 rfl ?_
  refine z_iload_n C dd_M_init_52 rfl ?_
  refine pf_M_41 C dd_M_init_53 (zz_us _ _ _) (Nat.le_of_ble_eq_true rfl) rfl rfl ?_
  refine z_aload_n C dd_M_init_56 rfl ?_
  refine z_aload_n C dd_M_init_57 rfl ?_
  refine pf_M_44 C dd_M_init_58 (zz_us _ _ _) (Nat.le_of_ble_eq_true rfl) rfl rfl ?_
  refine z_vret C dd_M_init_61 ⟨rfl, ?_, ?_, ?_, fun x hx hxq => ?_⟩ (by decide) (by decide)
  · exact (zz_us _ _ _)
  · exact ((zz_un (by omega)).trans ((zz_un (by omega)).trans ((zz_un (by omega)).trans ((zz_un (by omega)).trans ((zz_un (by omega)).trans ((zz_un (by omega)).trans ((zz_un (by omega)).trans ((zz_un (by omega)).trans ((zz_un (by omega)).trans ((zz_un (by omega)).trans ((zz_un (by omega)).trans (zz_us _ _ _))))))))))))
  · exact ((zz_un (by omega)).trans ((zz_un (by omega)).trans ((zz_un (by omega)).trans ((zz_un (by omega)).trans ((zz_un (by omega)).trans ((zz_un (by omega)).trans ((zz_un (by omega)).trans ((zz_un (by omega)).trans (zz_us _ _ _)))))))))
  · exact (zz_un (by omega)).trans ((zz_un (by omega)).trans ((zz_un (by omega)).trans ((zz_un (by omega)).trans ((zz_un (by omega)).trans ((zz_un (by omega)).trans ((zz_un (by omega)).trans ((zz_un (by omega)).trans ((zz_un (by omega)).trans ((zz_un (by omega)).trans ((zz_un (by omega)).trans ((zz_un (by omega)).trans (rfl))))))))))))
abbrev rm_A_init : Room := { frames := 2, cells := 0, slots := 0, locals := 40 }
set_option maxRecDepth 20000 in
/-- Atom(..) -/
theorem cc_A_init (l : Launch) (D : va_G) (dA : Nat → ClassId) (B : Nat) (h : zz_H) (n : Nat) (q : Nat) (k0 i0 x0 b0 : Int32) (hb : b0 = 0 ∨ b0 = 1) (hq : h q = some (.inr (2, [.int 0, .int 0, .int 0, .int 0]))) (hqn : q < n) : zz_M l D zz_cl (zz_ty dA) B zz_tb (zz_x B) yy_A_init (Cond.code yy_A_init bb_A_init 5 none) rm_A_init [.ref q, .int k0, .int i0, .int x0, .int b0] h n zz_mv (fun _ h' n' => n' = n + 0 ∧ h' q = some (.inr (2, [.int k0, .int i0, .int x0, .int b0])) ∧ ∀ x, x < n → x ≠ q → h' x = h x) := by
  refine zz_ofW (zz_f B) [some (.ref q), some (.int k0), some (.int i0), some (.int x0), some (.int b0)] (by decide) rfl rfl (Nat.le_of_ble_eq_true rfl) ?_
  intro p e s m below meth c C
  refine z_aload_n C dd_A_init_0 rfl ?_
  refine ii_A_1 (sk := fun _ => []) (zz_f B) C dd_A_init_1 (cc_rec l D dA B _ _ q) rfl rfl ⟨by decide, by decide⟩ (Nat.le_of_ble_eq_true rfl) ⟨by decide, by decide⟩ (fun _ => rfl) (fun _ h1_ n1_ p1_ => ?_)
  obtain ⟨rfl, rfl⟩ := p1_
  refine z_aload_n C dd_A_init_4 rfl ?_
  refine z_iload_n C dd_A_init_5 rfl ?_
  refine pf_A_7 C dd_A_init_6 hq (Nat.le_of_ble_eq_true rfl) rfl rfl ?_
  refine z_aload_n C dd_A_init_9 rfl ?_
  refine z_iload_n C dd_A_init_10 rfl ?_
  refine pf_A_13 C dd_A_init_11 (zz_us _ _ _) (Nat.le_of_ble_eq_true rfl) rfl rfl ?_
  refine z_aload_n C dd_A_init_14 rfl ?_
  refine z_iload_n C dd_A_init_15 rfl ?_
  refine pf_A_16 C dd_A_init_16 (zz_us _ _ _) (Nat.le_of_ble_eq_true rfl) rfl rfl ?_
  refine z_aload_n C dd_A_init_19 rfl ?_
  refine z_iload C dd_A_init_20 rfl ?_
  refine pf_A_19 C dd_A_init_22 (zz_us _ _ _) (Nat.le_of_ble_eq_true rfl) (by rcases hb with rfl | rfl <;> rfl) (by rcases hb with rfl | rfl <;> rfl) ?_
  refine z_vret C dd_A_init_25 ⟨rfl, ?_, fun x hx hxq => ?_⟩ (by decide) (by decide)
  · exact (zz_us _ _ _)
  · exact (zz_un (by omega)).trans ((zz_un (by omega)).trans ((zz_un (by omega)).trans ((zz_un (by omega)).trans (rfl))))
abbrev rm_O_init : Room := { frames := 2, cells := 0, slots := 0, locals := 40 }
set_option maxRecDepth 20000 in
/-- Operation(..) -/
theorem cc_O_init (l : Launch) (D : va_G) (dA : Nat → ClassId) (B : Nat) (h : zz_H) (n : Nat) (q : Nat) (k0 i0 : Int32) (hq : h q = some (.inr (3, [.int 0, .int 0]))) (hqn : q < n) : zz_M l D zz_cl (zz_ty dA) B zz_tb (zz_x B) yy_O_init (Cond.code yy_O_init bb_O_init 3 none) rm_O_init [.ref q, .int k0, .int i0] h n zz_mv (fun _ h' n' => n' = n + 0 ∧ h' q = some (.inr (3, [.int k0, .int i0])) ∧ ∀ x, x < n → x ≠ q → h' x = h x) := by
  refine zz_ofW (zz_f B) [some (.ref q), some (.int k0), some (.int i0)] (by decide) rfl rfl (Nat.le_of_ble_eq_true rfl) ?_
  intro p e s m below meth c C
  refine z_aload_n C dd_O_init_0 rfl ?_
  refine ii_O_1 (sk := fun _ => []) (zz_f B) C dd_O_init_1 (cc_rec l D dA B _ _ q) rfl rfl ⟨by decide, by decide⟩ (Nat.le_of_ble_eq_true rfl) ⟨by decide, by decide⟩ (fun _ => rfl) (fun _ h1_ n1_ p1_ => ?_)
  obtain ⟨rfl, rfl⟩ := p1_
  refine z_aload_n C dd_O_init_4 rfl ?_
  refine z_iload_n C dd_O_init_5 rfl ?_
  refine pf_O_7 C dd_O_init_6 hq (Nat.le_of_ble_eq_true rfl) rfl rfl ?_
  refine z_aload_n C dd_O_init_9 rfl ?_
  refine z_iload_n C dd_O_init_10 rfl ?_
  refine pf_O_13 C dd_O_init_11 (zz_us _ _ _) (Nat.le_of_ble_eq_true rfl) rfl rfl ?_
  refine z_vret C dd_O_init_14 ⟨rfl, ?_, fun x hx hxq => ?_⟩ (by decide) (by decide)
  · exact (zz_us _ _ _)
  · exact (zz_un (by omega)).trans ((zz_un (by omega)).trans (rfl))
