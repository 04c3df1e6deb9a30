/-! the law's own helpers -/
def zy_x (B : Nat) (s : State) (H : Heap) : Prop := zz_x B s H ∧ va_Nc "java/lang/IllegalStateException" "java/lang/IllegalArgumentException" s ∧ va_Nc "java/util/NoSuchElementException" "java/lang/IllegalArgumentException" s ∧ va_Nc "java/util/NoSuchElementException" "java/lang/IllegalStateException" s
theorem zy_f (B : Nat) : zz_F B zz_tb (zy_x B) := ⟨(zz_f B).1, fun s U H hW hX => ⟨(zz_f B).2.1 s U H hW hX.1, hX.2.1.moved hW.alike, hX.2.2.1.moved hW.alike, hX.2.2.2.moved hW.alike⟩, fun U H H1 hk hX => ⟨(zz_f B).2.2 U H H1 hk hX.1, hX.2⟩⟩
section ZY
variable {ρ : Type} {l : Launch} {D : va_G} {cl : List vw_C} {tys : List (ClassId × FieldType)} {B : Nat} {tb : List Cond} {y : MethodName} {w : Cond} {rm : Room} {as : List Value} {h : zz_H} {n : Nat} {mk : ρ → Option Value} {post : ρ → zz_H → Nat → Prop} {px : String → zz_H → Nat → Prop}
theorem zy_G {v : Array Value} {U : State} (b : va_Pc as (zz_G D cl tys B tb (zy_x B) h n) v U) : va_Pc as (zz_G D cl tys B tb (zz_x B) h n) v U := ⟨b.1, b.2.1, b.2.2.1, b.2.2.2.1, b.2.2.2.2.1, b.2.2.2.2.2.1⟩
theorem zy_M (hM : zz_M l D cl tys B tb (zz_x B) y w rm as h n mk post) : zz_M l D cl tys B tb (zy_x B) y w rm as h n mk post := by
  intro p e a1 a2 a3 s m args below b1 b2 b3 b4
  exact hM p e a1 a2 a3 s m args below b1 b2 (zy_G b3) b4
theorem zy_MX (hM : zz_MX l D cl tys B tb (zz_x B) y w rm as h n mk post px) : zz_MX l D cl tys B tb (zy_x B) y w rm as h n mk post px := by
  intro p e a1 a2 a3 s m args below b1 b2 b3 b4
  exact hM p e a1 a2 a3 s m args below b1 b2 (zy_G b3) b4
end ZY
abbrev rm_L_klass : Room := { frames := 23, cells := 2, slots := 12, locals := 400 }
set_option maxRecDepth 20000 in
/-- the law's klass -/
theorem cc_L_klass (l : Launch) (D : va_G) (dA : Nat → ClassId) (B : Nat) (h : zz_H) (n : Nat) (b0 b1 : Nat) (f : Nat → Int64) (fl : List Value) (x : Int32) {Pc : Int32 → zz_H → Nat → Prop} {Px : String → zz_H → Nat → Prop} (hM : zz_MX l D zz_cl (zz_ty dA) B zz_tb (zz_x B) yy_D_klass (Cond.code yy_D_klass bb_D_klass 3 (some FieldType.int)) rm_D_klass [.ref b1, .int x] h n zz_mi Pc Px) (e1 : b1 = b0) (hb : h b0 = some (.inr (0, fl))) (ho : ∀ r hc n', Pc r hc n' → hc (b0 + 61) = some (.inl (dA 1, 1, .inr (.inl f)))) (hE : ∀ E h' n', Px E h' n' → E = "java/lang/IllegalArgumentException" ∨ E = "java/lang/IllegalStateException") : zz_M l D zz_cl (zz_ty dA) B zz_tb (zy_x B) yy_L_klass (Cond.codeWith yy_L_klass bb_L_klass 4 (some FieldType.int) [(0, 9, 12, 13), (0, 9, 15, 15)]) rm_L_klass [.ref b0, .int x, .ref (b0 + 61)] h n zz_mi (lx_H dA b0 f Pc Px lx_c) := by
  subst e1
  refine zz_ofH (zy_f B) [some (.ref b1), some (.int x), some (.ref (b1 + 61)), none] (by decide) rfl rfl (Nat.le_of_ble_eq_true rfl) ?_
  intro p e s m below meth c C htb
  refine z_aload_n C dd_L_klass_0 rfl ?_
  refine z_iconst (v := 0) C dd_L_klass_1 (by decide) ?_
  refine z_aload_n C dd_L_klass_2 rfl ?_
  refine z_iload_n C dd_L_klass_3 rfl ?_
  refine it_L_7 (sk := fun r => .int r :: [.int 0, .ref (b1 + 61)]) (zy_f B) C dd_L_klass_4 (zy_MX hM) hb rfl rfl ⟨by decide, by decide⟩ (Nat.le_of_ble_eq_true rfl) ⟨by decide, by decide⟩ (fun _ => rfl) (fun E h1 n1 p1 => ?_) (fun r1 h1 n1 p1 => ?_)
  · skip
    rcases hE E h1 n1 p1 with rfl | rfl
    · skip
      refine z_catch (name := "java/lang/IllegalArgumentException") C [] ⟨0, 9, 12, 13⟩ [⟨0, 9, 15, 15⟩] htb (fun z hz => absurd hz List.not_mem_nil) (by decide) (by decide) wd_152 wd_164 (fun q9 => ?_)
      refine z_astore_n C dd_L_klass_12 rfl ?_
      refine z_iconst (v := 1) C dd_L_klass_13 (by decide) ?_
      exact z_iret C dd_L_klass_14 (Or.inr ⟨_, p1, Or.inl ⟨rfl, rfl⟩⟩) (by decide) (by decide)
    · skip
      refine z_catch (name := "java/lang/IllegalStateException") C [⟨0, 9, 12, 13⟩] ⟨0, 9, 15, 15⟩ [] htb (fun z hz => by cases List.mem_singleton.mp hz; exact Or.inr ⟨by decide, _, wd_152, C.2.2.2.2.2.2.2.2.2.2.1⟩) (by decide) (by decide) wd_153 wd_236 (fun q9 => ?_)
      refine z_astore_n C dd_L_klass_15 rfl ?_
      refine z_iconst (v := 2) C dd_L_klass_16 (by decide) ?_
      exact z_iret C dd_L_klass_17 (Or.inr ⟨_, p1, Or.inr (Or.inl ⟨rfl, rfl⟩)⟩) (by decide) (by decide)
  · skip
    refine z_i2l C dd_L_klass_7 ?_
    refine z_last (t0 := 1) C rfl dd_L_klass_8 (ho _ _ _ p1) (by unfold vp_in; decide) ?_
    refine z_goto (tgt := 18) C dd_L_klass_9 (by decide) ?_
    refine z_iconst (v := 0) C dd_L_klass_18 (by decide) ?_
    exact z_iret C dd_L_klass_19 (Or.inl ⟨rfl, r1, h1, p1, rfl⟩) (by decide) (by decide)
abbrev rm_L_generic : Room := { frames := 15, cells := 12, slots := 470, locals := 300 }
set_option maxRecDepth 20000 in
/-- the law's generic -/
theorem cc_L_generic (l : Launch) (D : va_G) (dA : Nat → ClassId) (B : Nat) (h : zz_H) (n : Nat) (b0 b1 : Nat) (f : Nat → Int64) (fl : List Value) (x : Int32) {Pc : Int32 → zz_H → Nat → Prop} {Px : String → zz_H → Nat → Prop} (hM : zz_MX l D zz_cl (zz_ty dA) B zz_tb (zz_x B) yy_D_generic (Cond.code yy_D_generic bb_D_generic 2 (some FieldType.int)) rm_D_generic [.ref b1, .int x] h n zz_mi Pc Px) (e1 : b1 = b0) (hb : h b0 = some (.inr (0, fl))) (ho : ∀ r hc n', Pc r hc n' → hc (b0 + 61) = some (.inl (dA 1, 1, .inr (.inl f)))) (hE : ∀ E h' n', Px E h' n' → E = "java/lang/IllegalArgumentException" ∨ E = "java/lang/IllegalStateException") : zz_M l D zz_cl (zz_ty dA) B zz_tb (zy_x B) yy_L_generic (Cond.codeWith yy_L_generic bb_L_generic 4 (some FieldType.int) [(0, 9, 12, 13), (0, 9, 15, 15)]) rm_L_generic [.ref b0, .int x, .ref (b0 + 61)] h n zz_mi (lx_H dA b0 f Pc Px lx_c) := by
  subst e1
  refine zz_ofH (zy_f B) [some (.ref b1), some (.int x), some (.ref (b1 + 61)), none] (by decide) rfl rfl (Nat.le_of_ble_eq_true rfl) ?_
  intro p e s m below meth c C htb
  refine z_aload_n C dd_L_generic_0 rfl ?_
  refine z_iconst (v := 0) C dd_L_generic_1 (by decide) ?_
  refine z_aload_n C dd_L_generic_2 rfl ?_
  refine z_iload_n C dd_L_generic_3 rfl ?_
  refine it_L_17 (sk := fun r => .int r :: [.int 0, .ref (b1 + 61)]) (zy_f B) C dd_L_generic_4 (zy_MX hM) hb rfl rfl ⟨by decide, by decide⟩ (Nat.le_of_ble_eq_true rfl) ⟨by decide, by decide⟩ (fun _ => rfl) (fun E h1 n1 p1 => ?_) (fun r1 h1 n1 p1 => ?_)
  · skip
    rcases hE E h1 n1 p1 with rfl | rfl
    · skip
      refine z_catch (name := "java/lang/IllegalArgumentException") C [] ⟨0, 9, 12, 13⟩ [⟨0, 9, 15, 15⟩] htb (fun z hz => absurd hz List.not_mem_nil) (by decide) (by decide) wd_152 wd_164 (fun q9 => ?_)
      refine z_astore_n C dd_L_generic_12 rfl ?_
      refine z_iconst (v := 1) C dd_L_generic_13 (by decide) ?_
      exact z_iret C dd_L_generic_14 (Or.inr ⟨_, p1, Or.inl ⟨rfl, rfl⟩⟩) (by decide) (by decide)
    · skip
      refine z_catch (name := "java/lang/IllegalStateException") C [⟨0, 9, 12, 13⟩] ⟨0, 9, 15, 15⟩ [] htb (fun z hz => by cases List.mem_singleton.mp hz; exact Or.inr ⟨by decide, _, wd_152, C.2.2.2.2.2.2.2.2.2.2.1⟩) (by decide) (by decide) wd_153 wd_236 (fun q9 => ?_)
      refine z_astore_n C dd_L_generic_15 rfl ?_
      refine z_iconst (v := 2) C dd_L_generic_16 (by decide) ?_
      exact z_iret C dd_L_generic_17 (Or.inr ⟨_, p1, Or.inr (Or.inl ⟨rfl, rfl⟩)⟩) (by decide) (by decide)
  · skip
    refine z_i2l C dd_L_generic_7 ?_
    refine z_last (t0 := 1) C rfl dd_L_generic_8 (ho _ _ _ p1) (by unfold vp_in; decide) ?_
    refine z_goto (tgt := 18) C dd_L_generic_9 (by decide) ?_
    refine z_iconst (v := 0) C dd_L_generic_18 (by decide) ?_
    exact z_iret C dd_L_generic_19 (Or.inl ⟨rfl, r1, h1, p1, rfl⟩) (by decide) (by decide)
abbrev rm_L_method : Room := { frames := 15, cells := 5, slots := 40, locals := 300 }
set_option maxRecDepth 20000 in
/-- the law's method -/
theorem cc_L_method (l : Launch) (D : va_G) (dA : Nat → ClassId) (B : Nat) (h : zz_H) (n : Nat) (b0 b1 : Nat) (f : Nat → Int64) (fl : List Value) (x : Int32) {Pc : Int32 → zz_H → Nat → Prop} {Px : String → zz_H → Nat → Prop} (hM : zz_MX l D zz_cl (zz_ty dA) B zz_tb (zz_x B) yy_D_method (Cond.code yy_D_method bb_D_method 4 (some FieldType.int)) rm_D_method [.ref b1, .int x] h n zz_mi Pc Px) (e1 : b1 = b0) (hb : h b0 = some (.inr (0, fl))) (ho : ∀ r hc n', Pc r hc n' → hc (b0 + 61) = some (.inl (dA 1, 1, .inr (.inl f)))) (hE : ∀ E h' n', Px E h' n' → E = "java/lang/IllegalArgumentException" ∨ E = "java/lang/IllegalStateException") : zz_M l D zz_cl (zz_ty dA) B zz_tb (zy_x B) yy_L_method (Cond.codeWith yy_L_method bb_L_method 4 (some FieldType.int) [(0, 9, 12, 13), (0, 9, 15, 15)]) rm_L_method [.ref b0, .int x, .ref (b0 + 61)] h n zz_mi (lx_H dA b0 f Pc Px lx_c) := by
  subst e1
  refine zz_ofH (zy_f B) [some (.ref b1), some (.int x), some (.ref (b1 + 61)), none] (by decide) rfl rfl (Nat.le_of_ble_eq_true rfl) ?_
  intro p e s m below meth c C htb
  refine z_aload_n C dd_L_method_0 rfl ?_
  refine z_iconst (v := 0) C dd_L_method_1 (by decide) ?_
  refine z_aload_n C dd_L_method_2 rfl ?_
  refine z_iload_n C dd_L_method_3 rfl ?_
  refine it_L_20 (sk := fun r => .int r :: [.int 0, .ref (b1 + 61)]) (zy_f B) C dd_L_method_4 (zy_MX hM) hb rfl rfl ⟨by decide, by decide⟩ (Nat.le_of_ble_eq_true rfl) ⟨by decide, by decide⟩ (fun _ => rfl) (fun E h1 n1 p1 => ?_) (fun r1 h1 n1 p1 => ?_)
  · skip
    rcases hE E h1 n1 p1 with rfl | rfl
    · skip
      refine z_catch (name := "java/lang/IllegalArgumentException") C [] ⟨0, 9, 12, 13⟩ [⟨0, 9, 15, 15⟩] htb (fun z hz => absurd hz List.not_mem_nil) (by decide) (by decide) wd_152 wd_164 (fun q9 => ?_)
      refine z_astore_n C dd_L_method_12 rfl ?_
      refine z_iconst (v := 1) C dd_L_method_13 (by decide) ?_
      exact z_iret C dd_L_method_14 (Or.inr ⟨_, p1, Or.inl ⟨rfl, rfl⟩⟩) (by decide) (by decide)
    · skip
      refine z_catch (name := "java/lang/IllegalStateException") C [⟨0, 9, 12, 13⟩] ⟨0, 9, 15, 15⟩ [] htb (fun z hz => by cases List.mem_singleton.mp hz; exact Or.inr ⟨by decide, _, wd_152, C.2.2.2.2.2.2.2.2.2.2.1⟩) (by decide) (by decide) wd_153 wd_236 (fun q9 => ?_)
      refine z_astore_n C dd_L_method_15 rfl ?_
      refine z_iconst (v := 2) C dd_L_method_16 (by decide) ?_
      exact z_iret C dd_L_method_17 (Or.inr ⟨_, p1, Or.inr (Or.inl ⟨rfl, rfl⟩)⟩) (by decide) (by decide)
  · skip
    refine z_i2l C dd_L_method_7 ?_
    refine z_last (t0 := 1) C rfl dd_L_method_8 (ho _ _ _ p1) (by unfold vp_in; decide) ?_
    refine z_goto (tgt := 18) C dd_L_method_9 (by decide) ?_
    refine z_iconst (v := 0) C dd_L_method_18 (by decide) ?_
    exact z_iret C dd_L_method_19 (Or.inl ⟨rfl, r1, h1, p1, rfl⟩) (by decide) (by decide)
abbrev rm_L_atom : Room := { frames := 15, cells := 4, slots := 30, locals := 360 }
set_option maxRecDepth 20000 in
/-- the law's atom -/
theorem cc_L_atom (l : Launch) (D : va_G) (dA : Nat → ClassId) (B : Nat) (h : zz_H) (n : Nat) (b0 b1 : Nat) (f : Nat → Int64) (fl : List Value) (x1 x2 x3 x4 x5 : Int32) {Pc : Int32 → zz_H → Nat → Prop} {Px : String → zz_H → Nat → Prop} (hM : zz_MX l D zz_cl (zz_ty dA) B zz_tb (zz_x B) yy_D_atom (Cond.code yy_D_atom bb_D_atom 7 (some FieldType.int)) rm_D_atom [.ref b1, .int x1, .int x2, .int x3, .int x4, .int x5] h n zz_mi Pc Px) (e1 : b1 = b0) (hb : h b0 = some (.inr (0, fl))) (ho : ∀ r hc n', Pc r hc n' → hc (b0 + 61) = some (.inl (dA 1, 1, .inr (.inl f)))) (hE : ∀ E h' n', Px E h' n' → E = "java/lang/IllegalArgumentException" ∨ E = "java/lang/IllegalStateException") : zz_M l D zz_cl (zz_ty dA) B zz_tb (zy_x B) yy_L_atom (Cond.codeWith yy_L_atom bb_L_atom 8 (some FieldType.int) [(0, 16, 19, 13), (0, 16, 23, 15)]) rm_L_atom [.ref b0, .int x1, .int x2, .int x3, .int x4, .int x5, .ref (b0 + 61)] h n zz_mi (lx_H dA b0 f Pc Px lx_c) := by
  subst e1
  refine zz_ofH (zy_f B) [some (.ref b1), some (.int x1), some (.int x2), some (.int x3), some (.int x4), some (.int x5), some (.ref (b1 + 61)), none] (by decide) rfl rfl (Nat.le_of_ble_eq_true rfl) ?_
  intro p e s m below meth c C htb
  refine z_aload C dd_L_atom_0 rfl ?_
  refine z_iconst (v := 0) C dd_L_atom_2 (by decide) ?_
  refine z_aload_n C dd_L_atom_3 rfl ?_
  refine z_iload_n C dd_L_atom_4 rfl ?_
  refine z_iload_n C dd_L_atom_5 rfl ?_
  refine z_iload_n C dd_L_atom_6 rfl ?_
  refine z_iload C dd_L_atom_7 rfl ?_
  refine z_iload C dd_L_atom_9 rfl ?_
  refine it_L_23 (sk := fun r => .int r :: [.int 0, .ref (b1 + 61)]) (zy_f B) C dd_L_atom_11 (zy_MX hM) hb rfl rfl ⟨by decide, by decide⟩ (Nat.le_of_ble_eq_true rfl) ⟨by decide, by decide⟩ (fun _ => rfl) (fun E h1 n1 p1 => ?_) (fun r1 h1 n1 p1 => ?_)
  · skip
    rcases hE E h1 n1 p1 with rfl | rfl
    · skip
      refine z_catch (name := "java/lang/IllegalArgumentException") C [] ⟨0, 16, 19, 13⟩ [⟨0, 16, 23, 15⟩] htb (fun z hz => absurd hz List.not_mem_nil) (by decide) (by decide) wd_152 wd_164 (fun q9 => ?_)
      refine z_astore C dd_L_atom_19 rfl ?_
      refine z_iconst (v := 1) C dd_L_atom_21 (by decide) ?_
      exact z_iret C dd_L_atom_22 (Or.inr ⟨_, p1, Or.inl ⟨rfl, rfl⟩⟩) (by decide) (by decide)
    · skip
      refine z_catch (name := "java/lang/IllegalStateException") C [⟨0, 16, 19, 13⟩] ⟨0, 16, 23, 15⟩ [] htb (fun z hz => by cases List.mem_singleton.mp hz; exact Or.inr ⟨by decide, _, wd_152, C.2.2.2.2.2.2.2.2.2.2.1⟩) (by decide) (by decide) wd_153 wd_236 (fun q9 => ?_)
      refine z_astore C dd_L_atom_23 rfl ?_
      refine z_iconst (v := 2) C dd_L_atom_25 (by decide) ?_
      exact z_iret C dd_L_atom_26 (Or.inr ⟨_, p1, Or.inr (Or.inl ⟨rfl, rfl⟩)⟩) (by decide) (by decide)
  · skip
    refine z_i2l C dd_L_atom_14 ?_
    refine z_last (t0 := 1) C rfl dd_L_atom_15 (ho _ _ _ p1) (by unfold vp_in; decide) ?_
    refine z_goto (tgt := 27) C dd_L_atom_16 (by decide) ?_
    refine z_iconst (v := 0) C dd_L_atom_27 (by decide) ?_
    exact z_iret C dd_L_atom_28 (Or.inl ⟨rfl, r1, h1, p1, rfl⟩) (by decide) (by decide)
abbrev rm_L_operation : Room := { frames := 15, cells := 4, slots := 30, locals := 360 }
set_option maxRecDepth 20000 in
/-- the law's operation -/
theorem cc_L_operation (l : Launch) (D : va_G) (dA : Nat → ClassId) (B : Nat) (h : zz_H) (n : Nat) (b0 b1 : Nat) (f : Nat → Int64) (fl : List Value) (x1 x2 x3 : Int32) {Pc : Int32 → zz_H → Nat → Prop} {Px : String → zz_H → Nat → Prop} (hM : zz_MX l D zz_cl (zz_ty dA) B zz_tb (zz_x B) yy_D_operation (Cond.code yy_D_operation bb_D_operation 5 (some FieldType.int)) rm_D_operation [.ref b1, .int x1, .int x2, .int x3] h n zz_mi Pc Px) (e1 : b1 = b0) (hb : h b0 = some (.inr (0, fl))) (ho : ∀ r hc n', Pc r hc n' → hc (b0 + 61) = some (.inl (dA 1, 1, .inr (.inl f)))) (hE : ∀ E h' n', Px E h' n' → E = "java/lang/IllegalArgumentException" ∨ E = "java/lang/IllegalStateException") : zz_M l D zz_cl (zz_ty dA) B zz_tb (zy_x B) yy_L_operation (Cond.codeWith yy_L_operation bb_L_operation 6 (some FieldType.int) [(0, 12, 15, 13), (0, 12, 19, 15)]) rm_L_operation [.ref b0, .int x1, .int x2, .int x3, .ref (b0 + 61)] h n zz_mi (lx_H dA b0 f Pc Px lx_c) := by
  subst e1
  refine zz_ofH (zy_f B) [some (.ref b1), some (.int x1), some (.int x2), some (.int x3), some (.ref (b1 + 61)), none] (by decide) rfl rfl (Nat.le_of_ble_eq_true rfl) ?_
  intro p e s m below meth c C htb
  refine z_aload C dd_L_operation_0 rfl ?_
  refine z_iconst (v := 0) C dd_L_operation_2 (by decide) ?_
  refine z_aload_n C dd_L_operation_3 rfl ?_
  refine z_iload_n C dd_L_operation_4 rfl ?_
  refine z_iload_n C dd_L_operation_5 rfl ?_
  refine z_iload_n C dd_L_operation_6 rfl ?_
  refine it_L_27 (sk := fun r => .int r :: [.int 0, .ref (b1 + 61)]) (zy_f B) C dd_L_operation_7 (zy_MX hM) hb rfl rfl ⟨by decide, by decide⟩ (Nat.le_of_ble_eq_true rfl) ⟨by decide, by decide⟩ (fun _ => rfl) (fun E h1 n1 p1 => ?_) (fun r1 h1 n1 p1 => ?_)
  · skip
    rcases hE E h1 n1 p1 with rfl | rfl
    · skip
      refine z_catch (name := "java/lang/IllegalArgumentException") C [] ⟨0, 12, 15, 13⟩ [⟨0, 12, 19, 15⟩] htb (fun z hz => absurd hz List.not_mem_nil) (by decide) (by decide) wd_152 wd_164 (fun q9 => ?_)
      refine z_astore C dd_L_operation_15 rfl ?_
      refine z_iconst (v := 1) C dd_L_operation_17 (by decide) ?_
      exact z_iret C dd_L_operation_18 (Or.inr ⟨_, p1, Or.inl ⟨rfl, rfl⟩⟩) (by decide) (by decide)
    · skip
      refine z_catch (name := "java/lang/IllegalStateException") C [⟨0, 12, 15, 13⟩] ⟨0, 12, 19, 15⟩ [] htb (fun z hz => by cases List.mem_singleton.mp hz; exact Or.inr ⟨by decide, _, wd_152, C.2.2.2.2.2.2.2.2.2.2.1⟩) (by decide) (by decide) wd_153 wd_236 (fun q9 => ?_)
      refine z_astore C dd_L_operation_19 rfl ?_
      refine z_iconst (v := 2) C dd_L_operation_21 (by decide) ?_
      exact z_iret C dd_L_operation_22 (Or.inr ⟨_, p1, Or.inr (Or.inl ⟨rfl, rfl⟩)⟩) (by decide) (by decide)
  · skip
    refine z_i2l C dd_L_operation_10 ?_
    refine z_last (t0 := 1) C rfl dd_L_operation_11 (ho _ _ _ p1) (by unfold vp_in; decide) ?_
    refine z_goto (tgt := 23) C dd_L_operation_12 (by decide) ?_
    refine z_iconst (v := 0) C dd_L_operation_23 (by decide) ?_
    exact z_iret C dd_L_operation_24 (Or.inl ⟨rfl, r1, h1, p1, rfl⟩) (by decide) (by decide)
abbrev rm_L_beyond : Room := { frames := 33, cells := 4, slots := 24, locals := 900 }
set_option maxRecDepth 20000 in
/-- the law's beyond -/
theorem cc_L_beyond (l : Launch) (D : va_G) (dA : Nat → ClassId) (B : Nat) (h : zz_H) (n : Nat) (b0 b1 : Nat) (f : Nat → Int64) (fl : List Value) (x y : Int32) {Pc : Int32 → zz_H → Nat → Prop} {Px : String → zz_H → Nat → Prop} (hM : zz_MX l D zz_cl (zz_ty dA) B zz_tb (zz_x B) yy_D_beyond (Cond.code yy_D_beyond bb_D_beyond 5 (some FieldType.boolean)) rm_D_beyond [.ref b1, .int x, .int y] h n zz_mi Pc Px) (e1 : b1 = b0) (hb : h b0 = some (.inr (0, fl))) (ho : ∀ r hc n', Pc r hc n' → hc (b0 + 61) = some (.inl (dA 1, 1, .inr (.inl f)))) (hE : ∀ E h' n', Px E h' n' → E = "java/lang/IllegalArgumentException") (hz : ∀ r hc n', Pc r hc n' → r = 0 ∨ r = 1) : zz_M l D zz_cl (zz_ty dA) B zz_tb (zy_x B) yy_L_beyond (Cond.codeWith yy_L_beyond bb_L_beyond 5 (some FieldType.int) [(0, 17, 20, 13)]) rm_L_beyond [.ref b0, .int x, .int y, .ref (b0 + 61)] h n zz_mi (lx_H dA b0 f Pc Px lx_c) := by
  subst e1
  refine zz_ofH (zy_f B) [some (.ref b1), some (.int x), some (.int y), some (.ref (b1 + 61)), none] (by decide) rfl rfl (Nat.le_of_ble_eq_true rfl) ?_
  intro p e s m below meth c C htb
  refine z_aload_n C dd_L_beyond_0 rfl ?_
  refine z_iconst (v := 0) C dd_L_beyond_1 (by decide) ?_
  refine z_aload_n C dd_L_beyond_2 rfl ?_
  refine z_iload_n C dd_L_beyond_3 rfl ?_
  refine z_iload_n C dd_L_beyond_4 rfl ?_
  refine it_L_31 (sk := fun r => .int r :: [.int 0, .ref (b1 + 61)]) (zy_f B) C dd_L_beyond_5 (zy_MX hM) hb rfl rfl ⟨by decide, by decide⟩ (Nat.le_of_ble_eq_true rfl) ⟨by decide, by decide⟩ (fun _ => rfl) (fun E h1 n1 p1 => ?_) (fun r1 h1 n1 p1 => ?_)
  · skip
    cases hE E h1 n1 p1
    refine z_catch (name := "java/lang/IllegalArgumentException") C [] ⟨0, 17, 20, 13⟩ [] htb (fun z hz => absurd hz List.not_mem_nil) (by decide) (by decide) wd_152 wd_164 (fun q9 => ?_)
    refine z_astore C dd_L_beyond_20 rfl ?_
    refine z_iconst (v := 1) C dd_L_beyond_22 (by decide) ?_
    exact z_iret C dd_L_beyond_23 (Or.inr ⟨_, p1, Or.inl ⟨rfl, rfl⟩⟩) (by decide) (by decide)
  · skip
    refine z_if_eq (tgt := 15) C dd_L_beyond_8 (by decide) (fun q8 => ?_) (fun q8 => ?_)
    · skip
      refine z_lconst (v := 0) C dd_L_beyond_15 (by decide) ?_
      refine z_last (t0 := 1) C rfl dd_L_beyond_16 (ho _ _ _ p1) (by unfold vp_in; decide) ?_
      refine z_goto (tgt := 24) C dd_L_beyond_17 (by decide) ?_
      refine z_iconst (v := 0) C dd_L_beyond_24 (by decide) ?_
      exact z_iret C dd_L_beyond_25 (Or.inl ⟨rfl, r1, h1, p1, by rw [show r1.toInt64 = (0 : Int64) from by rw [q8]; decide]⟩) (by decide) (by decide)
    · skip
      refine z_lconst (v := 1) C dd_L_beyond_11 (by decide) ?_
      refine z_goto (tgt := 16) C dd_L_beyond_12 (by decide) ?_
      refine z_last (t0 := 1) C rfl dd_L_beyond_16 (ho _ _ _ p1) (by unfold vp_in; decide) ?_
      refine z_goto (tgt := 24) C dd_L_beyond_17 (by decide) ?_
      refine z_iconst (v := 0) C dd_L_beyond_24 (by decide) ?_
      exact z_iret C dd_L_beyond_25 (Or.inl ⟨rfl, r1, h1, p1, by rw [show r1.toInt64 = (1 : Int64) from (hz _ _ _ p1).elim (fun z => absurd z q8) (fun z => by rw [z]; decide)]⟩) (by decide) (by decide)
abbrev rm_L_best : Room := { frames := 33, cells := 2, slots := 12, locals := 900 }
set_option maxRecDepth 20000 in
/-- the law's best -/
theorem cc_L_best (l : Launch) (D : va_G) (dA : Nat → ClassId) (B : Nat) (h : zz_H) (n : Nat) (b0 b1 : Nat) (f : Nat → Int64) (fl : List Value) (g x y : Int32) {Pc : Int32 → zz_H → Nat → Prop} {Px : String → zz_H → Nat → Prop} (hM : zz_MX l D zz_cl (zz_ty dA) B zz_tb (zz_x B) yy_D_best (Cond.code yy_D_best bb_D_best 5 (some FieldType.int)) rm_D_best [.ref b1, .int g, .int x, .int y] h n zz_mi Pc Px) (e1 : b1 = b0) (hb : h b0 = some (.inr (0, fl))) (ho : ∀ r hc n', Pc r hc n' → hc (b0 + 61) = some (.inl (dA 1, 1, .inr (.inl f)))) (hE : ∀ E h' n', Px E h' n' → E = "java/lang/IllegalArgumentException") : zz_M l D zz_cl (zz_ty dA) B zz_tb (zy_x B) yy_L_best (Cond.codeWith yy_L_best bb_L_best 6 (some FieldType.int) [(0, 12, 15, 13)]) rm_L_best [.ref b0, .int g, .int x, .int y, .ref (b0 + 61)] h n zz_mi (lx_H dA b0 f Pc Px lx_c) := by
  subst e1
  refine zz_ofH (zy_f B) [some (.ref b1), some (.int g), some (.int x), some (.int y), some (.ref (b1 + 61)), none] (by decide) rfl rfl (Nat.le_of_ble_eq_true rfl) ?_
  intro p e s m below meth c C htb
  refine z_aload C dd_L_best_0 rfl ?_
  refine z_iconst (v := 0) C dd_L_best_2 (by decide) ?_
  refine z_aload_n C dd_L_best_3 rfl ?_
  refine z_iload_n C dd_L_best_4 rfl ?_
  refine z_iload_n C dd_L_best_5 rfl ?_
  refine z_iload_n C dd_L_best_6 rfl ?_
  refine it_L_35 (sk := fun r => .int r :: [.int 0, .ref (b1 + 61)]) (zy_f B) C dd_L_best_7 (zy_MX hM) hb rfl rfl ⟨by decide, by decide⟩ (Nat.le_of_ble_eq_true rfl) ⟨by decide, by decide⟩ (fun _ => rfl) (fun E h1 n1 p1 => ?_) (fun r1 h1 n1 p1 => ?_)
  · skip
    cases hE E h1 n1 p1
    refine z_catch (name := "java/lang/IllegalArgumentException") C [] ⟨0, 12, 15, 13⟩ [] htb (fun z hz => absurd hz List.not_mem_nil) (by decide) (by decide) wd_152 wd_164 (fun q9 => ?_)
    refine z_astore C dd_L_best_15 rfl ?_
    refine z_iconst (v := 1) C dd_L_best_17 (by decide) ?_
    exact z_iret C dd_L_best_18 (Or.inr ⟨_, p1, Or.inl ⟨rfl, rfl⟩⟩) (by decide) (by decide)
  · skip
    refine z_i2l C dd_L_best_10 ?_
    refine z_last (t0 := 1) C rfl dd_L_best_11 (ho _ _ _ p1) (by unfold vp_in; decide) ?_
    refine z_goto (tgt := 19) C dd_L_best_12 (by decide) ?_
    refine z_iconst (v := 0) C dd_L_best_19 (by decide) ?_
    exact z_iret C dd_L_best_20 (Or.inl ⟨rfl, r1, h1, p1, rfl⟩) (by decide) (by decide)
abbrev rm_L_check : Room := { frames := 33, cells := 2, slots := 12, locals := 900 }
set_option maxRecDepth 20000 in
/-- the law's check -/
theorem cc_L_check (l : Launch) (D : va_G) (dA : Nat → ClassId) (B : Nat) (h : zz_H) (n : Nat) (b0 b1 : Nat) (f : Nat → Int64) (fl : List Value) (g : Int32) {Pc : Int32 → zz_H → Nat → Prop} {Px : String → zz_H → Nat → Prop} (hM : zz_MX l D zz_cl (zz_ty dA) B zz_tb (zz_x B) yy_D_check (Cond.code yy_D_check bb_D_check 4 (some FieldType.int)) rm_D_check [.ref b1, .int g] h n zz_mi Pc Px) (e1 : b1 = b0) (hb : h b0 = some (.inr (0, fl))) (ho : ∀ r hc n', Pc r hc n' → hc (b0 + 61) = some (.inl (dA 1, 1, .inr (.inl f)))) (hE : ∀ E h' n', Px E h' n' → E = "java/lang/IllegalArgumentException") : zz_M l D zz_cl (zz_ty dA) B zz_tb (zy_x B) yy_L_check (Cond.codeWith yy_L_check bb_L_check 4 (some FieldType.int) [(0, 9, 12, 13)]) rm_L_check [.ref b0, .int g, .ref (b0 + 61)] h n zz_mi (lx_H dA b0 f Pc Px lx_c) := by
  subst e1
  refine zz_ofH (zy_f B) [some (.ref b1), some (.int g), some (.ref (b1 + 61)), none] (by decide) rfl rfl (Nat.le_of_ble_eq_true rfl) ?_
  intro p e s m below meth c C htb
  refine z_aload_n C dd_L_check_0 rfl ?_
  refine z_iconst (v := 0) C dd_L_check_1 (by decide) ?_
  refine z_aload_n C dd_L_check_2 rfl ?_
  refine z_iload_n C dd_L_check_3 rfl ?_
  refine it_L_38 (sk := fun r => .int r :: [.int 0, .ref (b1 + 61)]) (zy_f B) C dd_L_check_4 (zy_MX hM) hb rfl rfl ⟨by decide, by decide⟩ (Nat.le_of_ble_eq_true rfl) ⟨by decide, by decide⟩ (fun _ => rfl) (fun E h1 n1 p1 => ?_) (fun r1 h1 n1 p1 => ?_)
  · skip
    cases hE E h1 n1 p1
    refine z_catch (name := "java/lang/IllegalArgumentException") C [] ⟨0, 9, 12, 13⟩ [] htb (fun z hz => absurd hz List.not_mem_nil) (by decide) (by decide) wd_152 wd_164 (fun q9 => ?_)
    refine z_astore_n C dd_L_check_12 rfl ?_
    refine z_iconst (v := 1) C dd_L_check_13 (by decide) ?_
    exact z_iret C dd_L_check_14 (Or.inr ⟨_, p1, Or.inl ⟨rfl, rfl⟩⟩) (by decide) (by decide)
  · skip
    refine z_i2l C dd_L_check_7 ?_
    refine z_last (t0 := 1) C rfl dd_L_check_8 (ho _ _ _ p1) (by unfold vp_in; decide) ?_
    refine z_goto (tgt := 15) C dd_L_check_9 (by decide) ?_
    refine z_iconst (v := 0) C dd_L_check_15 (by decide) ?_
    exact z_iret C dd_L_check_16 (Or.inl ⟨rfl, r1, h1, p1, rfl⟩) (by decide) (by decide)
abbrev rm_L_compile : Room := { frames := 63, cells := 2, slots := 12, locals := 2100 }
set_option maxRecDepth 20000 in
/-- the law's compile -/
theorem cc_L_compile (l : Launch) (D : va_G) (dA : Nat → ClassId) (B : Nat) (h : zz_H) (n : Nat) (b0 b1 : Nat) (f : Nat → Int64) (fl : List Value) (g : Int32) {Pc : Int32 → zz_H → Nat → Prop} {Px : String → zz_H → Nat → Prop} (hM : zz_MX l D zz_cl (zz_ty dA) B zz_tb (zz_x B) yy_D_compile (Cond.code yy_D_compile bb_D_compile 3 (some FieldType.int)) rm_D_compile [.ref b1, .int g] h n zz_mi Pc Px) (e1 : b1 = b0) (hb : h b0 = some (.inr (0, fl))) (ho : ∀ r hc n', Pc r hc n' → hc (b0 + 61) = some (.inl (dA 1, 1, .inr (.inl f)))) (hE : ∀ E h' n', Px E h' n' → E = "java/lang/IllegalArgumentException" ∨ E = "java/lang/IllegalStateException") : zz_M l D zz_cl (zz_ty dA) B zz_tb (zy_x B) yy_L_compile (Cond.codeWith yy_L_compile bb_L_compile 4 (some FieldType.int) [(0, 9, 12, 13), (0, 9, 15, 15)]) rm_L_compile [.ref b0, .int g, .ref (b0 + 61)] h n zz_mi (lx_H dA b0 f Pc Px lx_c) := by
  subst e1
  refine zz_ofH (zy_f B) [some (.ref b1), some (.int g), some (.ref (b1 + 61)), none] (by decide) rfl rfl (Nat.le_of_ble_eq_true rfl) ?_
  intro p e s m below meth c C htb
  refine z_aload_n C dd_L_compile_0 rfl ?_
  refine z_iconst (v := 0) C dd_L_compile_1 (by decide) ?_
  refine z_aload_n C dd_L_compile_2 rfl ?_
  refine z_iload_n C dd_L_compile_3 rfl ?_
  refine it_L_46 (sk := fun r => .int r :: [.int 0, .ref (b1 + 61)]) (zy_f B) C dd_L_compile_4 (zy_MX hM) hb rfl rfl ⟨by decide, by decide⟩ (Nat.le_of_ble_eq_true rfl) ⟨by decide, by decide⟩ (fun _ => rfl) (fun E h1 n1 p1 => ?_) (fun r1 h1 n1 p1 => ?_)
  · skip
    rcases hE E h1 n1 p1 with rfl | rfl
    · skip
      refine z_catch (name := "java/lang/IllegalArgumentException") C [] ⟨0, 9, 12, 13⟩ [⟨0, 9, 15, 15⟩] htb (fun z hz => absurd hz List.not_mem_nil) (by decide) (by decide) wd_152 wd_164 (fun q9 => ?_)
      refine z_astore_n C dd_L_compile_12 rfl ?_
      refine z_iconst (v := 1) C dd_L_compile_13 (by decide) ?_
      exact z_iret C dd_L_compile_14 (Or.inr ⟨_, p1, Or.inl ⟨rfl, rfl⟩⟩) (by decide) (by decide)
    · skip
      refine z_catch (name := "java/lang/IllegalStateException") C [⟨0, 9, 12, 13⟩] ⟨0, 9, 15, 15⟩ [] htb (fun z hz => by cases List.mem_singleton.mp hz; exact Or.inr ⟨by decide, _, wd_152, C.2.2.2.2.2.2.2.2.2.2.1⟩) (by decide) (by decide) wd_153 wd_236 (fun q9 => ?_)
      refine z_astore_n C dd_L_compile_15 rfl ?_
      refine z_iconst (v := 2) C dd_L_compile_16 (by decide) ?_
      exact z_iret C dd_L_compile_17 (Or.inr ⟨_, p1, Or.inr (Or.inl ⟨rfl, rfl⟩)⟩) (by decide) (by decide)
  · skip
    refine z_i2l C dd_L_compile_7 ?_
    refine z_last (t0 := 1) C rfl dd_L_compile_8 (ho _ _ _ p1) (by unfold vp_in; decide) ?_
    refine z_goto (tgt := 18) C dd_L_compile_9 (by decide) ?_
    refine z_iconst (v := 0) C dd_L_compile_18 (by decide) ?_
    exact z_iret C dd_L_compile_19 (Or.inl ⟨rfl, r1, h1, p1, rfl⟩) (by decide) (by decide)
abbrev rm_L_run : Room := { frames := 83, cells := 4, slots := 24, locals := 2900 }
set_option maxRecDepth 20000 in
/-- the law's run -/
theorem cc_L_run (l : Launch) (D : va_G) (dA : Nat → ClassId) (B : Nat) (h : zz_H) (n : Nat) (b0 b1 : Nat) (f : Nat → Int64) (fl : List Value) (g x y f9 : Int32) {Pc : Int32 → zz_H → Nat → Prop} {Px : String → zz_H → Nat → Prop} (hM : zz_MX l D zz_cl (zz_ty dA) B zz_tb (zz_x B) yy_D_run (Cond.code yy_D_run bb_D_run 7 (some FieldType.int)) rm_D_run [.ref b1, .int g, .int x, .int y, .int f9] h n zz_mi Pc Px) (e1 : b1 = b0) (hb : h b0 = some (.inr (0, fl))) (ho : ∀ r hc n', Pc r hc n' → hc (b0 + 61) = some (.inl (dA 1, 1, .inr (.inl f)))) (hE : ∀ E h' n', Px E h' n' → E = "java/lang/IllegalArgumentException") : zz_M l D zz_cl (zz_ty dA) B zz_tb (zy_x B) yy_L_run (Cond.codeWith yy_L_run bb_L_run 7 (some FieldType.int) [(0, 14, 17, 13)]) rm_L_run [.ref b0, .int g, .int x, .int y, .int f9, .ref (b0 + 61)] h n zz_mi (lx_H dA b0 f Pc Px lx_c) := by
  subst e1
  refine zz_ofH (zy_f B) [some (.ref b1), some (.int g), some (.int x), some (.int y), some (.int f9), some (.ref (b1 + 61)), none] (by decide) rfl rfl (Nat.le_of_ble_eq_true rfl) ?_
  intro p e s m below meth c C htb
  refine z_aload C dd_L_run_0 rfl ?_
  refine z_iconst (v := 0) C dd_L_run_2 (by decide) ?_
  refine z_aload_n C dd_L_run_3 rfl ?_
  refine z_iload_n C dd_L_run_4 rfl ?_
  refine z_iload_n C dd_L_run_5 rfl ?_
  refine z_iload_n C dd_L_run_6 rfl ?_
  refine z_iload C dd_L_run_7 rfl ?_
  refine it_L_55 (sk := fun r => .int r :: [.int 0, .ref (b1 + 61)]) (zy_f B) C dd_L_run_9 (zy_MX hM) hb rfl rfl ⟨by decide, by decide⟩ (Nat.le_of_ble_eq_true rfl) ⟨by decide, by decide⟩ (fun _ => rfl) (fun E h1 n1 p1 => ?_) (fun r1 h1 n1 p1 => ?_)
  · skip
    cases hE E h1 n1 p1
    refine z_catch (name := "java/lang/IllegalArgumentException") C [] ⟨0, 14, 17, 13⟩ [] htb (fun z hz => absurd hz List.not_mem_nil) (by decide) (by decide) wd_152 wd_164 (fun q9 => ?_)
    refine z_astore C dd_L_run_17 rfl ?_
    refine z_iconst (v := 1) C dd_L_run_19 (by decide) ?_
    exact z_iret C dd_L_run_20 (Or.inr ⟨_, p1, Or.inl ⟨rfl, rfl⟩⟩) (by decide) (by decide)
  · skip
    refine z_i2l C dd_L_run_12 ?_
    refine z_last (t0 := 1) C rfl dd_L_run_13 (ho _ _ _ p1) (by unfold vp_in; decide) ?_
    refine z_goto (tgt := 21) C dd_L_run_14 (by decide) ?_
    refine z_iconst (v := 0) C dd_L_run_21 (by decide) ?_
    exact z_iret C dd_L_run_22 (Or.inl ⟨rfl, r1, h1, p1, rfl⟩) (by decide) (by decide)
abbrev rm_L_witness : Room := { frames := 9, cells := 1, slots := 6, locals := 182 }
set_option maxRecDepth 20000 in
/-- the law's witness -/
theorem cc_L_witness (l : Launch) (D : va_G) (dA : Nat → ClassId) (B : Nat) (h : zz_H) (n : Nat) (b0 b1 : Nat) (f : Nat → Int64) (fl : List Value) (x : Int32) {Pc : Int32 → zz_H → Nat → Prop} {Px : String → zz_H → Nat → Prop} (hM : zz_MX l D zz_cl (zz_ty dA) B zz_tb (zz_x B) yy_D_witness (Cond.code yy_D_witness bb_D_witness 2 (some FieldType.int)) rm_D_witness [.ref b1, .int x] h n zz_mi Pc Px) (e1 : b1 = b0) (hb : h b0 = some (.inr (0, fl))) (ho : ∀ r hc n', Pc r hc n' → hc (b0 + 61) = some (.inl (dA 1, 1, .inr (.inl f)))) (hE : ∀ E h' n', Px E h' n' → E = "java/util/NoSuchElementException") : zz_M l D zz_cl (zz_ty dA) B zz_tb (zy_x B) yy_L_witness (Cond.codeWith yy_L_witness bb_L_witness 4 (some FieldType.int) [(0, 9, 12, 44)]) rm_L_witness [.ref b0, .int x, .ref (b0 + 61)] h n zz_mi (lx_H dA b0 f Pc Px lx_cw) := by
  subst e1
  refine zz_ofH (zy_f B) [some (.ref b1), some (.int x), some (.ref (b1 + 61)), none] (by decide) rfl rfl (Nat.le_of_ble_eq_true rfl) ?_
  intro p e s m below meth c C htb
  refine z_aload_n C dd_L_witness_0 rfl ?_
  refine z_iconst (v := 0) C dd_L_witness_1 (by decide) ?_
  refine z_aload_n C dd_L_witness_2 rfl ?_
  refine z_iload_n C dd_L_witness_3 rfl ?_
  refine it_L_41 (sk := fun r => .int r :: [.int 0, .ref (b1 + 61)]) (zy_f B) C dd_L_witness_4 (zy_MX hM) hb rfl rfl ⟨by decide, by decide⟩ (Nat.le_of_ble_eq_true rfl) ⟨by decide, by decide⟩ (fun _ => rfl) (fun E h1 n1 p1 => ?_) (fun r1 h1 n1 p1 => ?_)
  · skip
    cases hE E h1 n1 p1
    refine z_catch (name := "java/util/NoSuchElementException") C [] ⟨0, 9, 12, 44⟩ [] htb (fun z hz => absurd hz List.not_mem_nil) (by decide) (by decide) wd_669 wd_676 (fun q9 => ?_)
    refine z_astore_n C dd_L_witness_12 rfl ?_
    refine z_iconst (v := 1) C dd_L_witness_13 (by decide) ?_
    exact z_iret C dd_L_witness_14 (Or.inr ⟨_, p1, ⟨rfl, rfl⟩⟩) (by decide) (by decide)
  · skip
    refine z_i2l C dd_L_witness_7 ?_
    refine z_last (t0 := 1) C rfl dd_L_witness_8 (ho _ _ _ p1) (by unfold vp_in; decide) ?_
    refine z_goto (tgt := 15) C dd_L_witness_9 (by decide) ?_
    refine z_iconst (v := 0) C dd_L_witness_15 (by decide) ?_
    exact z_iret C dd_L_witness_16 (Or.inl ⟨rfl, r1, h1, p1, rfl⟩) (by decide) (by decide)
abbrev rm_L_node : Room := { frames := 17, cells := 4, slots := 24, locals := 400 }
set_option maxRecDepth 20000 in
/-- the law's node -/
theorem cc_L_node (l : Launch) (D : va_G) (dA : Nat → ClassId) (B : Nat) (h : zz_H) (n : Nat) (b0 b1 : Nat) (f : Nat → Int64) (fl : List Value) (x y z : Int32) {Pc : Int32 → zz_H → Nat → Prop} {Px : String → zz_H → Nat → Prop} (hM : zz_MX l D zz_cl (zz_ty dA) B zz_tb (zz_x B) yy_D_node (Cond.code yy_D_node bb_D_node 5 (some FieldType.int)) rm_D_node [.ref b1, .int x, .int y, .int z] h n zz_mi Pc Px) (e1 : b1 = b0) (hb : h b0 = some (.inr (0, fl))) (ho : ∀ r hc n', Pc r hc n' → hc (b0 + 61) = some (.inl (dA 1, 1, .inr (.inl f)))) (hE : ∀ E h' n', Px E h' n' → E = "java/lang/IllegalArgumentException" ∨ E = "java/lang/IllegalStateException" ∨ E = "java/util/NoSuchElementException") : zz_M l D zz_cl (zz_ty dA) B zz_tb (zy_x B) yy_L_node (Cond.codeWith yy_L_node bb_L_node 6 (some FieldType.int) [(0, 12, 15, 13), (0, 12, 19, 15), (0, 12, 23, 44)]) rm_L_node [.ref b0, .int x, .int y, .int z, .ref (b0 + 61)] h n zz_mi (lx_H dA b0 f Pc Px lx_c) := by
  subst e1
  refine zz_ofH (zy_f B) [some (.ref b1), some (.int x), some (.int y), some (.int z), some (.ref (b1 + 61)), none] (by decide) rfl rfl (Nat.le_of_ble_eq_true rfl) ?_
  intro p e s m below meth c C htb
  refine z_aload C dd_L_node_0 rfl ?_
  refine z_iconst (v := 0) C dd_L_node_2 (by decide) ?_
  refine z_aload_n C dd_L_node_3 rfl ?_
  refine z_iload_n C dd_L_node_4 rfl ?_
  refine z_iload_n C dd_L_node_5 rfl ?_
  refine z_iload_n C dd_L_node_6 rfl ?_
  refine it_L_49 (sk := fun r => .int r :: [.int 0, .ref (b1 + 61)]) (zy_f B) C dd_L_node_7 (zy_MX hM) hb rfl rfl ⟨by decide, by decide⟩ (Nat.le_of_ble_eq_true rfl) ⟨by decide, by decide⟩ (fun _ => rfl) (fun E h1 n1 p1 => ?_) (fun r1 h1 n1 p1 => ?_)
  · skip
    rcases hE E h1 n1 p1 with rfl | rfl | rfl
    · skip
      refine z_catch (name := "java/lang/IllegalArgumentException") C [] ⟨0, 12, 15, 13⟩ [⟨0, 12, 19, 15⟩, ⟨0, 12, 23, 44⟩] htb (fun z hz => absurd hz List.not_mem_nil) (by decide) (by decide) wd_152 wd_164 (fun q9 => ?_)
      refine z_astore C dd_L_node_15 rfl ?_
      refine z_iconst (v := 1) C dd_L_node_17 (by decide) ?_
      exact z_iret C dd_L_node_18 (Or.inr ⟨_, p1, Or.inl ⟨rfl, rfl⟩⟩) (by decide) (by decide)
    · skip
      refine z_catch (name := "java/lang/IllegalStateException") C [⟨0, 12, 15, 13⟩] ⟨0, 12, 19, 15⟩ [⟨0, 12, 23, 44⟩] htb (fun z hz => by cases List.mem_singleton.mp hz; exact Or.inr ⟨by decide, _, wd_152, C.2.2.2.2.2.2.2.2.2.2.1⟩) (by decide) (by decide) wd_153 wd_236 (fun q9 => ?_)
      refine z_astore C dd_L_node_19 rfl ?_
      refine z_iconst (v := 2) C dd_L_node_21 (by decide) ?_
      exact z_iret C dd_L_node_22 (Or.inr ⟨_, p1, Or.inr (Or.inl ⟨rfl, rfl⟩)⟩) (by decide) (by decide)
    · skip
      refine z_catch (name := "java/util/NoSuchElementException") C [⟨0, 12, 15, 13⟩, ⟨0, 12, 19, 15⟩] ⟨0, 12, 23, 44⟩ [] htb (fun z hz => (List.mem_cons.mp hz).elim (fun e9 => by cases e9; exact Or.inr ⟨by decide, _, wd_152, C.2.2.2.2.2.2.2.2.2.2.2.1⟩) (fun e9 => by cases List.mem_singleton.mp e9; exact Or.inr ⟨by decide, _, wd_153, C.2.2.2.2.2.2.2.2.2.2.2.2⟩)) (by decide) (by decide) wd_669 wd_676 (fun q9 => ?_)
      refine z_astore C dd_L_node_23 rfl ?_
      refine z_iconst (v := 3) C dd_L_node_25 (by decide) ?_
      exact z_iret C dd_L_node_26 (Or.inr ⟨_, p1, Or.inr (Or.inr ⟨rfl, rfl⟩)⟩) (by decide) (by decide)
  · skip
    refine z_i2l C dd_L_node_10 ?_
    refine z_last (t0 := 1) C rfl dd_L_node_11 (ho _ _ _ p1) (by unfold vp_in; decide) ?_
    refine z_goto (tgt := 27) C dd_L_node_12 (by decide) ?_
    refine z_iconst (v := 0) C dd_L_node_27 (by decide) ?_
    exact z_iret C dd_L_node_28 (Or.inl ⟨rfl, r1, h1, p1, rfl⟩) (by decide) (by decide)
abbrev rm_L_test : Room := { frames := 17, cells := 4, slots := 24, locals := 400 }
set_option maxRecDepth 20000 in
/-- the law's test -/
theorem cc_L_test (l : Launch) (D : va_G) (dA : Nat → ClassId) (B : Nat) (h : zz_H) (n : Nat) (b0 b1 : Nat) (f : Nat → Int64) (fl : List Value) (x y z : Int32) {Pc : Int32 → zz_H → Nat → Prop} {Px : String → zz_H → Nat → Prop} (hM : zz_MX l D zz_cl (zz_ty dA) B zz_tb (zz_x B) yy_D_test (Cond.code yy_D_test bb_D_test 5 (some FieldType.int)) rm_D_test [.ref b1, .int x, .int y, .int z] h n zz_mi Pc Px) (e1 : b1 = b0) (hb : h b0 = some (.inr (0, fl))) (ho : ∀ r hc n', Pc r hc n' → hc (b0 + 61) = some (.inl (dA 1, 1, .inr (.inl f)))) (hE : ∀ E h' n', Px E h' n' → E = "java/lang/IllegalArgumentException" ∨ E = "java/lang/IllegalStateException" ∨ E = "java/util/NoSuchElementException") : zz_M l D zz_cl (zz_ty dA) B zz_tb (zy_x B) yy_L_test (Cond.codeWith yy_L_test bb_L_test 6 (some FieldType.int) [(0, 12, 15, 13), (0, 12, 19, 15), (0, 12, 23, 44)]) rm_L_test [.ref b0, .int x, .int y, .int z, .ref (b0 + 61)] h n zz_mi (lx_H dA b0 f Pc Px lx_c) := by
  subst e1
  refine zz_ofH (zy_f B) [some (.ref b1), some (.int x), some (.int y), some (.int z), some (.ref (b1 + 61)), none] (by decide) rfl rfl (Nat.le_of_ble_eq_true rfl) ?_
  intro p e s m below meth c C htb
  refine z_aload C dd_L_test_0 rfl ?_
  refine z_iconst (v := 0) C dd_L_test_2 (by decide) ?_
  refine z_aload_n C dd_L_test_3 rfl ?_
  refine z_iload_n C dd_L_test_4 rfl ?_
  refine z_iload_n C dd_L_test_5 rfl ?_
  refine z_iload_n C dd_L_test_6 rfl ?_
  refine it_L_52 (sk := fun r => .int r :: [.int 0, .ref (b1 + 61)]) (zy_f B) C dd_L_test_7 (zy_MX hM) hb rfl rfl ⟨by decide, by decide⟩ (Nat.le_of_ble_eq_true rfl) ⟨by decide, by decide⟩ (fun _ => rfl) (fun E h1 n1 p1 => ?_) (fun r1 h1 n1 p1 => ?_)
  · skip
    rcases hE E h1 n1 p1 with rfl | rfl | rfl
    · skip
      refine z_catch (name := "java/lang/IllegalArgumentException") C [] ⟨0, 12, 15, 13⟩ [⟨0, 12, 19, 15⟩, ⟨0, 12, 23, 44⟩] htb (fun z hz => absurd hz List.not_mem_nil) (by decide) (by decide) wd_152 wd_164 (fun q9 => ?_)
      refine z_astore C dd_L_test_15 rfl ?_
      refine z_iconst (v := 1) C dd_L_test_17 (by decide) ?_
      exact z_iret C dd_L_test_18 (Or.inr ⟨_, p1, Or.inl ⟨rfl, rfl⟩⟩) (by decide) (by decide)
    · skip
      refine z_catch (name := "java/lang/IllegalStateException") C [⟨0, 12, 15, 13⟩] ⟨0, 12, 19, 15⟩ [⟨0, 12, 23, 44⟩] htb (fun z hz => by cases List.mem_singleton.mp hz; exact Or.inr ⟨by decide, _, wd_152, C.2.2.2.2.2.2.2.2.2.2.1⟩) (by decide) (by decide) wd_153 wd_236 (fun q9 => ?_)
      refine z_astore C dd_L_test_19 rfl ?_
      refine z_iconst (v := 2) C dd_L_test_21 (by decide) ?_
      exact z_iret C dd_L_test_22 (Or.inr ⟨_, p1, Or.inr (Or.inl ⟨rfl, rfl⟩)⟩) (by decide) (by decide)
    · skip
      refine z_catch (name := "java/util/NoSuchElementException") C [⟨0, 12, 15, 13⟩, ⟨0, 12, 19, 15⟩] ⟨0, 12, 23, 44⟩ [] htb (fun z hz => (List.mem_cons.mp hz).elim (fun e9 => by cases e9; exact Or.inr ⟨by decide, _, wd_152, C.2.2.2.2.2.2.2.2.2.2.2.1⟩) (fun e9 => by cases List.mem_singleton.mp e9; exact Or.inr ⟨by decide, _, wd_153, C.2.2.2.2.2.2.2.2.2.2.2.2⟩)) (by decide) (by decide) wd_669 wd_676 (fun q9 => ?_)
      refine z_astore C dd_L_test_23 rfl ?_
      refine z_iconst (v := 3) C dd_L_test_25 (by decide) ?_
      exact z_iret C dd_L_test_26 (Or.inr ⟨_, p1, Or.inr (Or.inr ⟨rfl, rfl⟩)⟩) (by decide) (by decide)
  · skip
    refine z_i2l C dd_L_test_10 ?_
    refine z_last (t0 := 1) C rfl dd_L_test_11 (ho _ _ _ p1) (by unfold vp_in; decide) ?_
    refine z_goto (tgt := 27) C dd_L_test_12 (by decide) ?_
    refine z_iconst (v := 0) C dd_L_test_27 (by decide) ?_
    exact z_iret C dd_L_test_28 (Or.inl ⟨rfl, r1, h1, p1, rfl⟩) (by decide) (by decide)
abbrev rm_Q_thrown : Room := { frames := 0, cells := 0, slots := 0, locals := 0 }
set_option maxRecDepth 20000 in
/-- thrown -/
theorem cc_Q_thrown (l : Launch) (D : va_G) (dA : Nat → ClassId) (B : Nat) (h : zz_H) (n : Nat) (q : Nat) (F : Nat → Int32) (I : Nat → Nat → Int32) (J : Nat → Nat → Int64) (hP : md_P dA F I J q h) : zz_M l D zz_cl (zz_ty dA) B zz_tb (zz_x B) yy_Q_thrown (Cond.code yy_Q_thrown bb_Q_thrown 1 (some FieldType.int)) rm_Q_thrown [.ref q] h n zz_mi (fun r h' n' => h' = h ∧ n' = n ∧ r = F 0) := by
  refine zz_ofW (zz_f B) [some (.ref q)] (by decide) rfl rfl (Nat.le_of_ble_eq_true rfl) ?_
  intro p e s m below meth c C
  refine z_aload_n C dd_Q_thrown_0 rfl ?_
  refine gf_Q_121 C dd_Q_thrown_1 hP.1 rfl ?_
  exact z_iret C dd_Q_thrown_4 ⟨rfl, rfl, rfl⟩ (by decide) (by decide)
