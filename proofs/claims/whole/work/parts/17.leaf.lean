abbrev rm_V_isNumber : Room := { frames := 1, cells := 0, slots := 0, locals := 0 }
set_option maxRecDepth 20000 in
/-- V_isNumber -/
theorem cc_V_isNumber (l : Launch) (D : va_G) (dA : Nat → ClassId) (B : Nat) (h : zz_H) (n : Nat) (x : Int32)  : zz_M l D zz_cl (zz_ty dA) B zz_tb (zz_x B) yy_V_isNumber (Cond.code yy_V_isNumber bb_V_isNumber 1 (some FieldType.boolean)) rm_V_isNumber [.int x] h n zz_mi (fun r h' n' => n' = n ∧ h' = h ∧ ((x < (-4) ∧ r = 0) ∨ (¬ x < (-4) ∧ 3 < x ∧ r = 0) ∨ (¬ x < (-4) ∧ ¬ 3 < x ∧ r = 1))) := by
  refine zz_ofW (zz_f B) [some (.int x)] (by decide) rfl rfl (Nat.le_of_ble_eq_true rfl) ?_
  intro p e s m below meth c C
  refine z_iload_n C dd_V_isNumber_0 rfl ?_
  refine z_bipush (v := (-4)) C dd_V_isNumber_1 (by decide) ?_
  refine z_icmp_lt (tgt := 15) C dd_V_isNumber_3 (by decide) (fun q1 => ?_) (fun q1 => ?_)
  · skip
    refine z_iconst (v := 0) C dd_V_isNumber_15 (by decide) ?_
    exact z_zret C dd_V_isNumber_16 rfl ⟨rfl, rfl, Or.inl ⟨q1, rfl⟩⟩ (by decide) (by decide)
  · skip
    refine z_iload_n C dd_V_isNumber_6 rfl ?_
    refine z_iconst (v := 3) C dd_V_isNumber_7 (by decide) ?_
    refine z_icmp_gt (tgt := 15) C dd_V_isNumber_8 (by decide) (fun q2 => ?_) (fun q2 => ?_)
    · skip
      refine z_iconst (v := 0) C dd_V_isNumber_15 (by decide) ?_
      exact z_zret C dd_V_isNumber_16 rfl ⟨rfl, rfl, Or.inr (Or.inl ⟨q1, q2, rfl⟩)⟩ (by decide) (by decide)
    · skip
      refine z_iconst (v := 1) C dd_V_isNumber_11 (by decide) ?_
      refine z_goto (tgt := 16) C dd_V_isNumber_12 (by decide) ?_
      exact z_zret C dd_V_isNumber_16 rfl ⟨rfl, rfl, Or.inr (Or.inr (⟨q1, q2, rfl⟩))⟩ (by decide) (by decide)
abbrev rm_V_classOf : Room := { frames := 1, cells := 0, slots := 0, locals := 0 }
set_option maxRecDepth 20000 in
/-- V_classOf -/
theorem cc_V_classOf (l : Launch) (D : va_G) (dA : Nat → ClassId) (B : Nat) (h : zz_H) (n : Nat) (x : Int32)  : zz_M l D zz_cl (zz_ty dA) B zz_tb (zz_x B) yy_V_classOf (Cond.code yy_V_classOf bb_V_classOf 1 (some FieldType.int)) rm_V_classOf [.int x] h n zz_mi (fun r h' n' => n' = n ∧ h' = h ∧ ((r = (x >>> (3 &&& 31))))) := by
  refine zz_ofW (zz_f B) [some (.int x)] (by decide) rfl rfl (Nat.le_of_ble_eq_true rfl) ?_
  intro p e s m below meth c C
  refine z_iload_n C dd_V_classOf_0 rfl ?_
  refine z_iconst (v := 3) C dd_V_classOf_1 (by decide) ?_
  refine z_ishr C dd_V_classOf_2 ?_
  exact z_iret C dd_V_classOf_3 ⟨rfl, rfl, rfl⟩ (by decide) (by decide)
abbrev rm_V_numberOf : Room := { frames := 1, cells := 0, slots := 0, locals := 0 }
set_option maxRecDepth 20000 in
/-- V_numberOf -/
theorem cc_V_numberOf (l : Launch) (D : va_G) (dA : Nat → ClassId) (B : Nat) (h : zz_H) (n : Nat) (x : Int32)  : zz_M l D zz_cl (zz_ty dA) B zz_tb (zz_x B) yy_V_numberOf (Cond.code yy_V_numberOf bb_V_numberOf 1 (some FieldType.int)) rm_V_numberOf [.int x] h n zz_mi (fun r h' n' => n' = n ∧ h' = h ∧ ((r = ((x &&& 7) + (-4))))) := by
  refine zz_ofW (zz_f B) [some (.int x)] (by decide) rfl rfl (Nat.le_of_ble_eq_true rfl) ?_
  intro p e s m below meth c C
  refine z_iload_n C dd_V_numberOf_0 rfl ?_
  refine z_bipush (v := 7) C dd_V_numberOf_1 (by decide) ?_
  refine z_iand C dd_V_numberOf_3 ?_
  refine z_bipush (v := (-4)) C dd_V_numberOf_4 (by decide) ?_
  refine z_iadd C dd_V_numberOf_6 ?_
  exact z_iret C dd_V_numberOf_7 ⟨rfl, rfl, rfl⟩ (by decide) (by decide)
abbrev rm_G_firstOfRow : Room := { frames := 1, cells := 0, slots := 0, locals := 0 }
set_option maxRecDepth 20000 in
/-- G_firstOfRow -/
theorem cc_G_firstOfRow (l : Launch) (D : va_G) (dA : Nat → ClassId) (B : Nat) (h : zz_H) (n : Nat) (x : Int32)  : zz_M l D zz_cl (zz_ty dA) B zz_tb (zz_x B) yy_G_firstOfRow (Cond.code yy_G_firstOfRow bb_G_firstOfRow 1 (some FieldType.int)) rm_G_firstOfRow [.int x] h n zz_mi (fun r h' n' => n' = n ∧ h' = h ∧ ((r = (x / 64)))) := by
  refine zz_ofW (zz_f B) [some (.int x)] (by decide) rfl rfl (Nat.le_of_ble_eq_true rfl) ?_
  intro p e s m below meth c C
  refine z_iload_n C dd_G_firstOfRow_0 rfl ?_
  refine z_bipush (v := 64) C dd_G_firstOfRow_1 (by decide) ?_
  refine z_idiv C dd_G_firstOfRow_3 (by decide) ?_
  exact z_iret C dd_G_firstOfRow_4 ⟨rfl, rfl, rfl⟩ (by decide) (by decide)
abbrev rm_G_secondOfRow : Room := { frames := 1, cells := 0, slots := 0, locals := 0 }
set_option maxRecDepth 20000 in
/-- G_secondOfRow -/
theorem cc_G_secondOfRow (l : Launch) (D : va_G) (dA : Nat → ClassId) (B : Nat) (h : zz_H) (n : Nat) (x : Int32)  : zz_M l D zz_cl (zz_ty dA) B zz_tb (zz_x B) yy_G_secondOfRow (Cond.code yy_G_secondOfRow bb_G_secondOfRow 1 (some FieldType.int)) rm_G_secondOfRow [.int x] h n zz_mi (fun r h' n' => n' = n ∧ h' = h ∧ ((r = (x - x / 64 * 64)))) := by
  refine zz_ofW (zz_f B) [some (.int x)] (by decide) rfl rfl (Nat.le_of_ble_eq_true rfl) ?_
  intro p e s m below meth c C
  refine z_iload_n C dd_G_secondOfRow_0 rfl ?_
  refine z_bipush (v := 64) C dd_G_secondOfRow_1 (by decide) ?_
  refine z_irem C dd_G_secondOfRow_3 (by decide) ?_
  exact z_iret C dd_G_secondOfRow_4 ⟨rfl, rfl, rfl⟩ (by decide) (by decide)
abbrev rm_V_of : Room := { frames := 1, cells := 0, slots := 0, locals := 0 }
set_option maxRecDepth 20000 in
/-- V_of -/
theorem cc_V_of (l : Launch) (D : va_G) (dA : Nat → ClassId) (B : Nat) (h : zz_H) (n : Nat) (x y : Int32)  : zz_M l D zz_cl (zz_ty dA) B zz_tb (zz_x B) yy_V_of (Cond.code yy_V_of bb_V_of 2 (some FieldType.int)) rm_V_of [.int x, .int y] h n zz_mi (fun r h' n' => n' = n ∧ h' = h ∧ ((r = ((x <<< (3 &&& 31)) ||| ((y - (-4)) &&& 7))))) := by
  refine zz_ofW (zz_f B) [some (.int x), some (.int y)] (by decide) rfl rfl (Nat.le_of_ble_eq_true rfl) ?_
  intro p e s m below meth c C
  refine z_iload_n C dd_V_of_0 rfl ?_
  refine z_iconst (v := 3) C dd_V_of_1 (by decide) ?_
  refine z_ishl C dd_V_of_2 ?_
  refine z_iload_n C dd_V_of_3 rfl ?_
  refine z_bipush (v := (-4)) C dd_V_of_4 (by decide) ?_
  refine z_isub C dd_V_of_6 ?_
  refine z_bipush (v := 7) C dd_V_of_7 (by decide) ?_
  refine z_iand C dd_V_of_9 ?_
  refine z_ior C dd_V_of_10 ?_
  exact z_iret C dd_V_of_11 ⟨rfl, rfl, rfl⟩ (by decide) (by decide)
abbrev rm_A_kind : Room := { frames := 1, cells := 0, slots := 0, locals := 0 }
set_option maxRecDepth 20000 in
/-- A_kind -/
theorem cc_A_kind (l : Launch) (D : va_G) (dA : Nat → ClassId) (B : Nat) (h : zz_H) (n : Nat) (q : Nat) (ak ai ax an : Int32) (hq : h q = some (.inr (2, [.int ak, .int ai, .int ax, .int an])))  : zz_M l D zz_cl (zz_ty dA) B zz_tb (zz_x B) yy_A_kind (Cond.code yy_A_kind bb_A_kind 1 (some FieldType.int)) rm_A_kind [.ref q] h n zz_mi (fun r h' n' => n' = n ∧ h' = h ∧ ((r = ak))) := by
  refine zz_ofW (zz_f B) [some (.ref q)] (by decide) rfl rfl (Nat.le_of_ble_eq_true rfl) ?_
  intro p e s m below meth c C
  refine z_aload_n C dd_A_kind_0 rfl ?_
  refine gf_A_7 C dd_A_kind_1 hq rfl ?_
  exact z_iret C dd_A_kind_4 ⟨rfl, rfl, rfl⟩ (by decide) (by decide)
abbrev rm_A_i : Room := { frames := 1, cells := 0, slots := 0, locals := 0 }
set_option maxRecDepth 20000 in
/-- A_i -/
theorem cc_A_i (l : Launch) (D : va_G) (dA : Nat → ClassId) (B : Nat) (h : zz_H) (n : Nat) (q : Nat) (ak ai ax an : Int32) (hq : h q = some (.inr (2, [.int ak, .int ai, .int ax, .int an])))  : zz_M l D zz_cl (zz_ty dA) B zz_tb (zz_x B) yy_A_i (Cond.code yy_A_i bb_A_i 1 (some FieldType.int)) rm_A_i [.ref q] h n zz_mi (fun r h' n' => n' = n ∧ h' = h ∧ ((r = ai))) := by
  refine zz_ofW (zz_f B) [some (.ref q)] (by decide) rfl rfl (Nat.le_of_ble_eq_true rfl) ?_
  intro p e s m below meth c C
  refine z_aload_n C dd_A_i_0 rfl ?_
  refine gf_A_13 C dd_A_i_1 hq rfl ?_
  exact z_iret C dd_A_i_4 ⟨rfl, rfl, rfl⟩ (by decide) (by decide)
abbrev rm_A_x : Room := { frames := 1, cells := 0, slots := 0, locals := 0 }
set_option maxRecDepth 20000 in
/-- A_x -/
theorem cc_A_x (l : Launch) (D : va_G) (dA : Nat → ClassId) (B : Nat) (h : zz_H) (n : Nat) (q : Nat) (ak ai ax an : Int32) (hq : h q = some (.inr (2, [.int ak, .int ai, .int ax, .int an])))  : zz_M l D zz_cl (zz_ty dA) B zz_tb (zz_x B) yy_A_x (Cond.code yy_A_x bb_A_x 1 (some FieldType.int)) rm_A_x [.ref q] h n zz_mi (fun r h' n' => n' = n ∧ h' = h ∧ ((r = ax))) := by
  refine zz_ofW (zz_f B) [some (.ref q)] (by decide) rfl rfl (Nat.le_of_ble_eq_true rfl) ?_
  intro p e s m below meth c C
  refine z_aload_n C dd_A_x_0 rfl ?_
  refine gf_A_16 C dd_A_x_1 hq rfl ?_
  exact z_iret C dd_A_x_4 ⟨rfl, rfl, rfl⟩ (by decide) (by decide)
abbrev rm_O_kind : Room := { frames := 1, cells := 0, slots := 0, locals := 0 }
set_option maxRecDepth 20000 in
/-- O_kind -/
theorem cc_O_kind (l : Launch) (D : va_G) (dA : Nat → ClassId) (B : Nat) (h : zz_H) (n : Nat) (q : Nat) (ok on : Int32) (hq : h q = some (.inr (3, [.int ok, .int on])))  : zz_M l D zz_cl (zz_ty dA) B zz_tb (zz_x B) yy_O_kind (Cond.code yy_O_kind bb_O_kind 1 (some FieldType.int)) rm_O_kind [.ref q] h n zz_mi (fun r h' n' => n' = n ∧ h' = h ∧ ((r = ok))) := by
  refine zz_ofW (zz_f B) [some (.ref q)] (by decide) rfl rfl (Nat.le_of_ble_eq_true rfl) ?_
  intro p e s m below meth c C
  refine z_aload_n C dd_O_kind_0 rfl ?_
  refine gf_O_7 C dd_O_kind_1 hq rfl ?_
  exact z_iret C dd_O_kind_4 ⟨rfl, rfl, rfl⟩ (by decide) (by decide)
abbrev rm_O_n : Room := { frames := 1, cells := 0, slots := 0, locals := 0 }
set_option maxRecDepth 20000 in
/-- O_n -/
theorem cc_O_n (l : Launch) (D : va_G) (dA : Nat → ClassId) (B : Nat) (h : zz_H) (n : Nat) (q : Nat) (ok on : Int32) (hq : h q = some (.inr (3, [.int ok, .int on])))  : zz_M l D zz_cl (zz_ty dA) B zz_tb (zz_x B) yy_O_n (Cond.code yy_O_n bb_O_n 1 (some FieldType.int)) rm_O_n [.ref q] h n zz_mi (fun r h' n' => n' = n ∧ h' = h ∧ ((r = on))) := by
  refine zz_ofW (zz_f B) [some (.ref q)] (by decide) rfl rfl (Nat.le_of_ble_eq_true rfl) ?_
  intro p e s m below meth c C
  refine z_aload_n C dd_O_n_0 rfl ?_
  refine gf_O_13 C dd_O_n_1 hq rfl ?_
  exact z_iret C dd_O_n_4 ⟨rfl, rfl, rfl⟩ (by decide) (by decide)
abbrev rm_A_asksTheSame : Room := { frames := 1, cells := 0, slots := 0, locals := 0 }
set_option maxRecDepth 20000 in
/-- Atom.asksTheSame -/
theorem cc_A_asksTheSame (l : Launch) (D : va_G) (dA : Nat → ClassId) (B : Nat) (h : zz_H) (n : Nat) (q : Nat) (ak ai ax an : Int32) (hq : h q = some (.inr (2, [.int ak, .int ai, .int ax, .int an]))) (o : Nat) (bk bi bx bn : Int32) (ho : h o = some (.inr (2, [.int bk, .int bi, .int bx, .int bn])))  : zz_M l D zz_cl (zz_ty dA) B zz_tb (zz_x B) yy_A_asksTheSame (Cond.code yy_A_asksTheSame bb_A_asksTheSame 2 (some FieldType.boolean)) rm_A_asksTheSame [.ref q, .ref o] h n zz_mi (fun r h' n' => n' = n ∧ h' = h ∧ ((¬ ak = bk ∧ r = 0) ∨ (ak = bk ∧ ¬ ai = bi ∧ r = 0) ∨ (ak = bk ∧ ai = bi ∧ ¬ ax = bx ∧ r = 0) ∨ (ak = bk ∧ ai = bi ∧ ax = bx ∧ r = 1))) := by
  refine zz_ofW (zz_f B) [some (.ref q), some (.ref o)] (by decide) rfl rfl (Nat.le_of_ble_eq_true rfl) ?_
  intro p e s m below meth c C
  refine z_aload_n C dd_A_asksTheSame_0 rfl ?_
  refine gf_A_7 C dd_A_asksTheSame_1 hq rfl ?_
  refine z_aload_n C dd_A_asksTheSame_4 rfl ?_
  refine gf_A_7 C dd_A_asksTheSame_5 ho rfl ?_
  refine z_icmp_ne (tgt := 37) C dd_A_asksTheSame_8 (by decide) (fun q1 => ?_) (fun q1 => ?_)
  · skip
    refine z_iconst (v := 0) C dd_A_asksTheSame_37 (by decide) ?_
    exact z_zret C dd_A_asksTheSame_38 rfl ⟨rfl, rfl, Or.inl ⟨q1, rfl⟩⟩ (by decide) (by decide)
  · skip
    refine z_aload_n C dd_A_asksTheSame_11 rfl ?_
    refine gf_A_13 C dd_A_asksTheSame_12 hq rfl ?_
    refine z_aload_n C dd_A_asksTheSame_15 rfl ?_
    refine gf_A_13 C dd_A_asksTheSame_16 ho rfl ?_
    refine z_icmp_ne (tgt := 37) C dd_A_asksTheSame_19 (by decide) (fun q2 => ?_) (fun q2 => ?_)
    · skip
      refine z_iconst (v := 0) C dd_A_asksTheSame_37 (by decide) ?_
      exact z_zret C dd_A_asksTheSame_38 rfl ⟨rfl, rfl, Or.inr (Or.inl ⟨q1, q2, rfl⟩)⟩ (by decide) (by decide)
    · skip
      refine z_aload_n C dd_A_asksTheSame_22 rfl ?_
      refine gf_A_16 C dd_A_asksTheSame_23 hq rfl ?_
      refine z_aload_n C dd_A_asksTheSame_26 rfl ?_
      refine gf_A_16 C dd_A_asksTheSame_27 ho rfl ?_
      refine z_icmp_ne (tgt := 37) C dd_A_asksTheSame_30 (by decide) (fun q3 => ?_) (fun q3 => ?_)
      · skip
        refine z_iconst (v := 0) C dd_A_asksTheSame_37 (by decide) ?_
        exact z_zret C dd_A_asksTheSame_38 rfl ⟨rfl, rfl, Or.inr (Or.inr (Or.inl ⟨q1, q2, q3, rfl⟩))⟩ (by decide) (by decide)
      · skip
        refine z_iconst (v := 1) C dd_A_asksTheSame_33 (by decide) ?_
        refine z_goto (tgt := 38) C dd_A_asksTheSame_34 (by decide) ?_
        exact z_zret C dd_A_asksTheSame_38 rfl ⟨rfl, rfl, Or.inr (Or.inr (Or.inr (⟨q1, q2, q3, rfl⟩)))⟩ (by decide) (by decide)
abbrev rm_H_valueCount : Room := { frames := 1, cells := 0, slots := 0, locals := 0 }
set_option maxRecDepth 20000 in
/-- Hierarchy.valueCount -/
theorem cc_H_valueCount (l : Launch) (D : va_G) (dA : Nat → ClassId) (B : Nat) (h : zz_H) (n : Nat) (q a0 : Nat) (k0 : Int32) (hq : h q = some (.inr (1, [.ref a0, .int k0])))  : zz_M l D zz_cl (zz_ty dA) B zz_tb (zz_x B) yy_H_valueCount (Cond.code yy_H_valueCount bb_H_valueCount 1 (some FieldType.int)) rm_H_valueCount [.ref q] h n zz_mi (fun r h' n' => n' = n ∧ h' = h ∧ ((r = (8 * k0)))) := by
  refine zz_ofW (zz_f B) [some (.ref q)] (by decide) rfl rfl (Nat.le_of_ble_eq_true rfl) ?_
  intro p e s m below meth c C
  refine z_bipush (v := 8) C dd_H_valueCount_0 (by decide) ?_
  refine z_aload_n C dd_H_valueCount_2 rfl ?_
  refine gf_H_13 C dd_H_valueCount_3 hq rfl ?_
  refine z_imul C dd_H_valueCount_6 ?_
  exact z_iret C dd_H_valueCount_7 ⟨rfl, rfl, rfl⟩ (by decide) (by decide)
abbrev rm_H_is : Room := { frames := 1, cells := 0, slots := 0, locals := 0 }
set_option maxRecDepth 20000 in
/-- Hierarchy.is -/
theorem cc_H_is (l : Launch) (D : va_G) (dA : Nat → ClassId) (B : Nat) (h : zz_H) (n : Nat) (q a0 : Nat) (k0 : Int32) (hq : h q = some (.inr (1, [.ref a0, .int k0]))) (lf : Nat → Int32) (ha : h a0 = some (.inl (dA 0, 8, .inl lf))) (x y : Int32) (hi0 : vp_in (x) 8) : zz_M l D zz_cl (zz_ty dA) B zz_tb (zz_x B) yy_H_is (Cond.code yy_H_is bb_H_is 3 (some FieldType.boolean)) rm_H_is [.ref q, .int x, .int y] h n zz_mi (fun r h' n' => n' = n ∧ h' = h ∧ (((((lf (Int32.toNatClampNeg x)) >>> (y &&& 31)) &&& 1) = 0 ∧ r = 0) ∨ (¬ (((lf (Int32.toNatClampNeg x)) >>> (y &&& 31)) &&& 1) = 0 ∧ r = 1))) := by
  refine zz_ofW (zz_f B) [some (.ref q), some (.int x), some (.int y)] (by decide) rfl rfl (Nat.le_of_ble_eq_true rfl) ?_
  intro p e s m below meth c C
  refine z_aload_n C dd_H_is_0 rfl ?_
  refine gf_H_9 C dd_H_is_1 hq rfl ?_
  refine z_iload_n C dd_H_is_4 rfl ?_
  refine z_iald (t0 := 0) C rfl dd_H_is_5 ha hi0 ?_
  refine z_iload_n C dd_H_is_6 rfl ?_
  refine z_ishr C dd_H_is_7 ?_
  refine z_iconst (v := 1) C dd_H_is_8 (by decide) ?_
  refine z_iand C dd_H_is_9 ?_
  refine z_if_eq (tgt := 17) C dd_H_is_10 (by decide) (fun q1 => ?_) (fun q1 => ?_)
  · skip
    refine z_iconst (v := 0) C dd_H_is_17 (by decide) ?_
    exact z_zret C dd_H_is_18 rfl ⟨rfl, rfl, Or.inl ⟨q1, rfl⟩⟩ (by decide) (by decide)
  · skip
    refine z_iconst (v := 1) C dd_H_is_13 (by decide) ?_
    refine z_goto (tgt := 18) C dd_H_is_14 (by decide) ?_
    exact z_zret C dd_H_is_18 rfl ⟨rfl, rfl, Or.inr (⟨q1, rfl⟩)⟩ (by decide) (by decide)
abbrev rm_R_clear : Room := { frames := 1, cells := 0, slots := 0, locals := 0 }
set_option maxRecDepth 20000 in
/-- R_clear -/
theorem cc_R_clear (l : Launch) (D : va_G) (dA : Nat → ClassId) (B : Nat) (h : zz_H) (n : Nat) (q t0 p0 f0 : Nat) (k0 : Int32) (hq : h q = some (.inr (7, [.ref t0, .ref p0, .ref f0, .int k0])))  : zz_M l D zz_cl (zz_ty dA) B zz_tb (zz_x B) yy_R_clear (Cond.code yy_R_clear bb_R_clear 1 none) rm_R_clear [.ref q] h n zz_mv (fun _ h' n' => n' = n ∧ (∀ y, y ≠ q → h' y = h y) ∧ ((h' q = some (.inr (7, [.ref t0, .ref p0, .ref f0, .int 0]))))) := by
  refine zz_ofW (zz_f B) [some (.ref q)] (by decide) rfl rfl (Nat.le_of_ble_eq_true rfl) ?_
  intro p e s m below meth c C
  refine z_aload_n C dd_R_clear_0 rfl ?_
  refine z_iconst (v := 0) C dd_R_clear_1 (by decide) ?_
  refine pf_R_19 C dd_R_clear_2 hq (Nat.le_of_ble_eq_true rfl) rfl rfl ?_
  exact z_vret C dd_R_clear_5 ⟨rfl, fun y y0 => (zz_un y0).trans (rfl), (zz_us _ _ _)⟩ (by decide) (by decide)
abbrev rm_R_isEmpty : Room := { frames := 1, cells := 0, slots := 0, locals := 0 }
set_option maxRecDepth 20000 in
/-- R_isEmpty -/
theorem cc_R_isEmpty (l : Launch) (D : va_G) (dA : Nat → ClassId) (B : Nat) (h : zz_H) (n : Nat) (q t0 p0 f0 : Nat) (k0 : Int32) (hq : h q = some (.inr (7, [.ref t0, .ref p0, .ref f0, .int k0])))  : zz_M l D zz_cl (zz_ty dA) B zz_tb (zz_x B) yy_R_isEmpty (Cond.code yy_R_isEmpty bb_R_isEmpty 1 (some FieldType.boolean)) rm_R_isEmpty [.ref q] h n zz_mi (fun r h' n' => n' = n ∧ h' = h ∧ ((¬ k0 = 0 ∧ r = 0) ∨ (k0 = 0 ∧ r = 1))) := by
  refine zz_ofW (zz_f B) [some (.ref q)] (by decide) rfl rfl (Nat.le_of_ble_eq_true rfl) ?_
  intro p e s m below meth c C
  refine z_aload_n C dd_R_isEmpty_0 rfl ?_
  refine gf_R_19 C dd_R_isEmpty_1 hq rfl ?_
  refine z_if_ne (tgt := 11) C dd_R_isEmpty_4 (by decide) (fun q1 => ?_) (fun q1 => ?_)
  · skip
    refine z_iconst (v := 0) C dd_R_isEmpty_11 (by decide) ?_
    exact z_zret C dd_R_isEmpty_12 rfl ⟨rfl, rfl, Or.inl ⟨q1, rfl⟩⟩ (by decide) (by decide)
  · skip
    refine z_iconst (v := 1) C dd_R_isEmpty_7 (by decide) ?_
    refine z_goto (tgt := 12) C dd_R_isEmpty_8 (by decide) ?_
    exact z_zret C dd_R_isEmpty_12 rfl ⟨rfl, rfl, Or.inr (⟨q1, rfl⟩)⟩ (by decide) (by decide)
abbrev rm_R_size : Room := { frames := 1, cells := 0, slots := 0, locals := 0 }
set_option maxRecDepth 20000 in
/-- R_size -/
theorem cc_R_size (l : Launch) (D : va_G) (dA : Nat → ClassId) (B : Nat) (h : zz_H) (n : Nat) (q t0 p0 f0 : Nat) (k0 : Int32) (hq : h q = some (.inr (7, [.ref t0, .ref p0, .ref f0, .int k0])))  : zz_M l D zz_cl (zz_ty dA) B zz_tb (zz_x B) yy_R_size (Cond.code yy_R_size bb_R_size 1 (some FieldType.int)) rm_R_size [.ref q] h n zz_mi (fun r h' n' => n' = n ∧ h' = h ∧ ((r = k0))) := by
  refine zz_ofW (zz_f B) [some (.ref q)] (by decide) rfl rfl (Nat.le_of_ble_eq_true rfl) ?_
  intro p e s m below meth c C
  refine z_aload_n C dd_R_size_0 rfl ?_
  refine gf_R_19 C dd_R_size_1 hq rfl ?_
  exact z_iret C dd_R_size_4 ⟨rfl, rfl, rfl⟩ (by decide) (by decide)
abbrev rm_R_root : Room := { frames := 1, cells := 0, slots := 0, locals := 0 }
set_option maxRecDepth 20000 in
/-- R_root -/
theorem cc_R_root (l : Launch) (D : va_G) (dA : Nat → ClassId) (B : Nat) (h : zz_H) (n : Nat) (q t0 p0 f0 : Nat) (k0 : Int32) (hq : h q = some (.inr (7, [.ref t0, .ref p0, .ref f0, .int k0])))  : zz_M l D zz_cl (zz_ty dA) B zz_tb (zz_x B) yy_R_root (Cond.code yy_R_root bb_R_root 1 (some FieldType.int)) rm_R_root [.ref q] h n zz_mi (fun r h' n' => n' = n ∧ h' = h ∧ ((r = (k0 - 1)))) := by
  refine zz_ofW (zz_f B) [some (.ref q)] (by decide) rfl rfl (Nat.le_of_ble_eq_true rfl) ?_
  intro p e s m below meth c C
  refine z_aload_n C dd_R_root_0 rfl ?_
  refine gf_R_19 C dd_R_root_1 hq rfl ?_
  refine z_iconst (v := 1) C dd_R_root_4 (by decide) ?_
  refine z_isub C dd_R_root_5 ?_
  exact z_iret C dd_R_root_6 ⟨rfl, rfl, rfl⟩ (by decide) (by decide)
abbrev rm_R_part : Room := { frames := 1, cells := 0, slots := 0, locals := 0 }
set_option maxRecDepth 20000 in
/-- Graph.part -/
theorem cc_R_part (l : Launch) (D : va_G) (dA : Nat → ClassId) (B : Nat) (h : zz_H) (n : Nat) (q t0 p0 f0 : Nat) (k0 : Int32) (hq : h q = some (.inr (7, [.ref t0, .ref p0, .ref f0, .int k0]))) (tf pf ff : Nat → Int32) (ht : h t0 = some (.inl (dA 0, 80, .inl tf))) (hp : h p0 = some (.inl (dA 0, 80, .inl pf))) (hf : h f0 = some (.inl (dA 0, 80, .inl ff))) (x y : Int32) (hi0 : vp_in (x) 80) : zz_M l D zz_cl (zz_ty dA) B zz_tb (zz_x B) yy_R_part (Cond.code yy_R_part bb_R_part 3 (some FieldType.int)) rm_R_part [.ref q, .int x, .int y] h n zz_mi (fun r h' n' => n' = n ∧ h' = h ∧ ((¬ y = 0 ∧ ¬ y = 1 ∧ r = (ff (Int32.toNatClampNeg x))) ∨ (¬ y = 0 ∧ y = 1 ∧ r = (pf (Int32.toNatClampNeg x))) ∨ (y = 0 ∧ r = (tf (Int32.toNatClampNeg x))))) := by
  refine zz_ofW (zz_f B) [some (.ref q), some (.int x), some (.int y)] (by decide) rfl rfl (Nat.le_of_ble_eq_true rfl) ?_
  intro p e s m below meth c C
  refine z_iload_n C dd_R_part_0 rfl ?_
  refine z_if_ne (tgt := 13) C dd_R_part_1 (by decide) (fun q1 => ?_) (fun q1 => ?_)
  · skip
    refine z_iload_n C dd_R_part_13 rfl ?_
    refine z_iconst (v := 1) C dd_R_part_14 (by decide) ?_
    refine z_icmp_ne (tgt := 27) C dd_R_part_15 (by decide) (fun q2 => ?_) (fun q2 => ?_)
    · skip
      refine z_aload_n C dd_R_part_27 rfl ?_
      refine gf_R_16 C dd_R_part_28 hq rfl ?_
      refine z_iload_n C dd_R_part_31 rfl ?_
      refine z_iald (t0 := 0) C rfl dd_R_part_32 hf hi0 ?_
      exact z_iret C dd_R_part_33 ⟨rfl, rfl, Or.inl ⟨q1, q2, rfl⟩⟩ (by decide) (by decide)
    · skip
      refine z_aload_n C dd_R_part_18 rfl ?_
      refine gf_R_13 C dd_R_part_19 hq rfl ?_
      refine z_iload_n C dd_R_part_22 rfl ?_
      refine z_iald (t0 := 0) C rfl dd_R_part_23 hp hi0 ?_
      refine z_goto (tgt := 33) C dd_R_part_24 (by decide) ?_
      exact z_iret C dd_R_part_33 ⟨rfl, rfl, Or.inr (Or.inl ⟨q1, q2, rfl⟩)⟩ (by decide) (by decide)
  · skip
    refine z_aload_n C dd_R_part_4 rfl ?_
    refine gf_R_9 C dd_R_part_5 hq rfl ?_
    refine z_iload_n C dd_R_part_8 rfl ?_
    refine z_iald (t0 := 0) C rfl dd_R_part_9 ht hi0 ?_
    refine z_goto (tgt := 33) C dd_R_part_10 (by decide) ?_
    exact z_iret C dd_R_part_33 ⟨rfl, rfl, Or.inr (Or.inr (⟨q1, rfl⟩))⟩ (by decide) (by decide)
abbrev rm_R_isLeaf : Room := { frames := 1, cells := 0, slots := 0, locals := 0 }
set_option maxRecDepth 20000 in
/-- Graph.isLeaf -/
theorem cc_R_isLeaf (l : Launch) (D : va_G) (dA : Nat → ClassId) (B : Nat) (h : zz_H) (n : Nat) (q t0 p0 f0 : Nat) (k0 : Int32) (hq : h q = some (.inr (7, [.ref t0, .ref p0, .ref f0, .int k0]))) (tf pf ff : Nat → Int32) (ht : h t0 = some (.inl (dA 0, 80, .inl tf))) (hp : h p0 = some (.inl (dA 0, 80, .inl pf))) (hf : h f0 = some (.inl (dA 0, 80, .inl ff))) (x : Int32) (hi0 : vp_in (x) 80) : zz_M l D zz_cl (zz_ty dA) B zz_tb (zz_x B) yy_R_isLeaf (Cond.code yy_R_isLeaf bb_R_isLeaf 2 (some FieldType.boolean)) rm_R_isLeaf [.ref q, .int x] h n zz_mi (fun r h' n' => n' = n ∧ h' = h ∧ ((¬ (tf (Int32.toNatClampNeg x)) = (-1) ∧ r = 0) ∨ ((tf (Int32.toNatClampNeg x)) = (-1) ∧ r = 1))) := by
  refine zz_ofW (zz_f B) [some (.ref q), some (.int x)] (by decide) rfl rfl (Nat.le_of_ble_eq_true rfl) ?_
  intro p e s m below meth c C
  refine z_aload_n C dd_R_isLeaf_0 rfl ?_
  refine gf_R_9 C dd_R_isLeaf_1 hq rfl ?_
  refine z_iload_n C dd_R_isLeaf_4 rfl ?_
  refine z_iald (t0 := 0) C rfl dd_R_isLeaf_5 ht hi0 ?_
  refine z_iconst (v := (-1)) C dd_R_isLeaf_6 (by decide) ?_
  refine z_icmp_ne (tgt := 14) C dd_R_isLeaf_7 (by decide) (fun q1 => ?_) (fun q1 => ?_)
  · skip
    refine z_iconst (v := 0) C dd_R_isLeaf_14 (by decide) ?_
    exact z_zret C dd_R_isLeaf_15 rfl ⟨rfl, rfl, Or.inl ⟨q1, rfl⟩⟩ (by decide) (by decide)
  · skip
    refine z_iconst (v := 1) C dd_R_isLeaf_10 (by decide) ?_
    refine z_goto (tgt := 15) C dd_R_isLeaf_11 (by decide) ?_
    exact z_zret C dd_R_isLeaf_15 rfl ⟨rfl, rfl, Or.inr (⟨q1, rfl⟩)⟩ (by decide) (by decide)
abbrev rm_R_methodAt : Room := { frames := 1, cells := 0, slots := 0, locals := 0 }
set_option maxRecDepth 20000 in
/-- Graph.methodAt -/
theorem cc_R_methodAt (l : Launch) (D : va_G) (dA : Nat → ClassId) (B : Nat) (h : zz_H) (n : Nat) (q t0 p0 f0 : Nat) (k0 : Int32) (hq : h q = some (.inr (7, [.ref t0, .ref p0, .ref f0, .int k0]))) (tf pf ff : Nat → Int32) (ht : h t0 = some (.inl (dA 0, 80, .inl tf))) (hp : h p0 = some (.inl (dA 0, 80, .inl pf))) (hf : h f0 = some (.inl (dA 0, 80, .inl ff))) (x : Int32) (hi0 : vp_in (x) 80) : zz_M l D zz_cl (zz_ty dA) B zz_tb (zz_x B) yy_R_methodAt (Cond.code yy_R_methodAt bb_R_methodAt 2 (some FieldType.int)) rm_R_methodAt [.ref q, .int x] h n zz_mi (fun r h' n' => n' = n ∧ h' = h ∧ ((r = (pf (Int32.toNatClampNeg x))))) := by
  refine zz_ofW (zz_f B) [some (.ref q), some (.int x)] (by decide) rfl rfl (Nat.le_of_ble_eq_true rfl) ?_
  intro p e s m below meth c C
  refine z_aload_n C dd_R_methodAt_0 rfl ?_
  refine gf_R_13 C dd_R_methodAt_1 hq rfl ?_
  refine z_iload_n C dd_R_methodAt_4 rfl ?_
  refine z_iald (t0 := 0) C rfl dd_R_methodAt_5 hp hi0 ?_
  exact z_iret C dd_R_methodAt_6 ⟨rfl, rfl, rfl⟩ (by decide) (by decide)
abbrev rm_R_follow : Room := { frames := 1, cells := 0, slots := 0, locals := 0 }
set_option maxRecDepth 20000 in
/-- Graph.follow -/
theorem cc_R_follow (l : Launch) (D : va_G) (dA : Nat → ClassId) (B : Nat) (h : zz_H) (n : Nat) (q t0 p0 f0 : Nat) (k0 : Int32) (hq : h q = some (.inr (7, [.ref t0, .ref p0, .ref f0, .int k0]))) (tf pf ff : Nat → Int32) (ht : h t0 = some (.inl (dA 0, 80, .inl tf))) (hp : h p0 = some (.inl (dA 0, 80, .inl pf))) (hf : h f0 = some (.inl (dA 0, 80, .inl ff))) (x : Int32) (w : Int64) (hi0 : vp_in (x) 80) : zz_M l D zz_cl (zz_ty dA) B zz_tb (zz_x B) yy_R_follow (Cond.code yy_R_follow bb_R_follow 4 (some FieldType.int)) rm_R_follow [.ref q, .int x, .long w] h n zz_mi (fun r h' n' => n' = n ∧ h' = h ∧ (((lg_cmp ((w >>> (Int32.toInt64 (tf (Int32.toNatClampNeg x)) &&& 63)) &&& 1) 0) = 0 ∧ r = (ff (Int32.toNatClampNeg x))) ∨ (¬ (lg_cmp ((w >>> (Int32.toInt64 (tf (Int32.toNatClampNeg x)) &&& 63)) &&& 1) 0) = 0 ∧ r = (pf (Int32.toNatClampNeg x))))) := by
  refine zz_ofW (zz_f B) [some (.ref q), some (.int x), some (.long w), none] (by decide) rfl rfl (Nat.le_of_ble_eq_true rfl) ?_
  intro p e s m below meth c C
  refine z_lload_n C dd_R_follow_0 rfl ?_
  refine z_aload_n C dd_R_follow_1 rfl ?_
  refine gf_R_9 C dd_R_follow_2 hq rfl ?_
  refine z_iload_n C dd_R_follow_5 rfl ?_
  refine z_iald (t0 := 0) C rfl dd_R_follow_6 ht hi0 ?_
  refine z_lshr C dd_R_follow_7 ?_
  refine z_lconst (v := 1) C dd_R_follow_8 (by decide) ?_
  refine z_land C dd_R_follow_9 ?_
  refine z_lconst (v := 0) C dd_R_follow_10 (by decide) ?_
  refine z_lcmp C dd_R_follow_11 ?_
  refine z_if_eq (tgt := 24) C dd_R_follow_12 (by decide) (fun q1 => ?_) (fun q1 => ?_)
  · skip
    refine z_aload_n C dd_R_follow_24 rfl ?_
    refine gf_R_16 C dd_R_follow_25 hq rfl ?_
    refine z_iload_n C dd_R_follow_28 rfl ?_
    refine z_iald (t0 := 0) C rfl dd_R_follow_29 hf hi0 ?_
    exact z_iret C dd_R_follow_30 ⟨rfl, rfl, Or.inl ⟨q1, rfl⟩⟩ (by decide) (by decide)
  · skip
    refine z_aload_n C dd_R_follow_15 rfl ?_
    refine gf_R_13 C dd_R_follow_16 hq rfl ?_
    refine z_iload_n C dd_R_follow_19 rfl ?_
    refine z_iald (t0 := 0) C rfl dd_R_follow_20 hp hi0 ?_
    refine z_goto (tgt := 30) C dd_R_follow_21 (by decide) ?_
    exact z_iret C dd_R_follow_30 ⟨rfl, rfl, Or.inr (⟨q1, rfl⟩)⟩ (by decide) (by decide)
abbrev rm_F_size : Room := { frames := 1, cells := 0, slots := 0, locals := 0 }
set_option maxRecDepth 20000 in
/-- Facts.size -/
theorem cc_F_size (l : Launch) (D : va_G) (dA : Nat → ClassId) (B : Nat) (h : zz_H) (n : Nat) (q c0 t0 g0 s0 : Nat) (k0 : Int32) (bf sf : Int64) (hq : h q = some (.inr (5, [.ref c0, .ref t0, .int k0, .ref g0, .ref s0, .long bf, .long sf])))  : zz_M l D zz_cl (zz_ty dA) B zz_tb (zz_x B) yy_F_size (Cond.code yy_F_size bb_F_size 1 (some FieldType.int)) rm_F_size [.ref q] h n zz_mi (fun r h' n' => n' = n ∧ h' = h ∧ ((r = k0))) := by
  refine zz_ofW (zz_f B) [some (.ref q)] (by decide) rfl rfl (Nat.le_of_ble_eq_true rfl) ?_
  intro p e s m below meth c C
  refine z_aload_n C dd_F_size_0 rfl ?_
  refine gf_F_19 C dd_F_size_1 hq rfl ?_
  exact z_iret C dd_F_size_4 ⟨rfl, rfl, rfl⟩ (by decide) (by decide)
abbrev rm_M_bit : Room := { frames := 1, cells := 0, slots := 0, locals := 0 }
set_option maxRecDepth 20000 in
/-- Method.bit -/
theorem cc_M_bit (l : Launch) (D : va_G) (dA : Nat → ClassId) (B : Nat) (h : zz_H) (n : Nat) (q o0 a0 b0 : Nat) (mn ac oc im be : Int32) (wa un : Int64) (hq : h q = some (.inr (4, [.int mn, .ref o0, .ref a0, .int ac, .ref b0, .int oc, .long wa, .long un, .int im, .int be])))  : zz_M l D zz_cl (zz_ty dA) B zz_tb (zz_x B) yy_M_bit (Cond.code yy_M_bit bb_M_bit 1 (some FieldType.int)) rm_M_bit [.ref q] h n zz_mi (fun r h' n' => n' = n ∧ h' = h ∧ ((r = (1 <<< (mn &&& 31))))) := by
  refine zz_ofW (zz_f B) [some (.ref q)] (by decide) rfl rfl (Nat.le_of_ble_eq_true rfl) ?_
  intro p e s m below meth c C
  refine z_iconst (v := 1) C dd_M_bit_0 (by decide) ?_
  refine z_aload_n C dd_M_bit_1 rfl ?_
  refine gf_M_41 C dd_M_bit_2 hq rfl ?_
  refine z_ishl C dd_M_bit_5 ?_
  exact z_iret C dd_M_bit_6 ⟨rfl, rfl, rfl⟩ (by decide) (by decide)
abbrev rm_M_holds : Room := { frames := 1, cells := 0, slots := 0, locals := 0 }
set_option maxRecDepth 20000 in
/-- Method.holds -/
theorem cc_M_holds (l : Launch) (D : va_G) (dA : Nat → ClassId) (B : Nat) (h : zz_H) (n : Nat) (q o0 a0 b0 : Nat) (mn ac oc im be : Int32) (wa un : Int64) (hq : h q = some (.inr (4, [.int mn, .ref o0, .ref a0, .int ac, .ref b0, .int oc, .long wa, .long un, .int im, .int be]))) (w : Int64)  : zz_M l D zz_cl (zz_ty dA) B zz_tb (zz_x B) yy_M_holds (Cond.code yy_M_holds bb_M_holds 3 (some FieldType.boolean)) rm_M_holds [.ref q, .long w] h n zz_mi (fun r h' n' => n' = n ∧ h' = h ∧ ((¬ (lg_cmp (w &&& wa) wa) = 0 ∧ r = 0) ∨ ((lg_cmp (w &&& wa) wa) = 0 ∧ ¬ (lg_cmp (w &&& un) 0) = 0 ∧ r = 0) ∨ ((lg_cmp (w &&& wa) wa) = 0 ∧ (lg_cmp (w &&& un) 0) = 0 ∧ r = 1))) := by
  refine zz_ofW (zz_f B) [some (.ref q), some (.long w), none] (by decide) rfl rfl (Nat.le_of_ble_eq_true rfl) ?_
  intro p e s m below meth c C
  refine z_lload_n C dd_M_holds_0 rfl ?_
  refine z_aload_n C dd_M_holds_1 rfl ?_
  refine gf_M_28 C dd_M_holds_2 hq rfl ?_
  refine z_land C dd_M_holds_5 ?_
  refine z_aload_n C dd_M_holds_6 rfl ?_
  refine gf_M_28 C dd_M_holds_7 hq rfl ?_
  refine z_lcmp C dd_M_holds_10 ?_
  refine z_if_ne (tgt := 29) C dd_M_holds_11 (by decide) (fun q1 => ?_) (fun q1 => ?_)
  · skip
    refine z_iconst (v := 0) C dd_M_holds_29 (by decide) ?_
    exact z_zret C dd_M_holds_30 rfl ⟨rfl, rfl, Or.inl ⟨q1, rfl⟩⟩ (by decide) (by decide)
  · skip
    refine z_lload_n C dd_M_holds_14 rfl ?_
    refine z_aload_n C dd_M_holds_15 rfl ?_
    refine gf_M_32 C dd_M_holds_16 hq rfl ?_
    refine z_land C dd_M_holds_19 ?_
    refine z_lconst (v := 0) C dd_M_holds_20 (by decide) ?_
    refine z_lcmp C dd_M_holds_21 ?_
    refine z_if_ne (tgt := 29) C dd_M_holds_22 (by decide) (fun q2 => ?_) (fun q2 => ?_)
    · skip
      refine z_iconst (v := 0) C dd_M_holds_29 (by decide) ?_
      exact z_zret C dd_M_holds_30 rfl ⟨rfl, rfl, Or.inr (Or.inl ⟨q1, q2, rfl⟩)⟩ (by decide) (by decide)
    · skip
      refine z_iconst (v := 1) C dd_M_holds_25 (by decide) ?_
      refine z_goto (tgt := 30) C dd_M_holds_26 (by decide) ?_
      exact z_zret C dd_M_holds_30 rfl ⟨rfl, rfl, Or.inr (Or.inr (⟨q1, q2, rfl⟩))⟩ (by decide) (by decide)
abbrev rm_E_has : Room := { frames := 1, cells := 0, slots := 0, locals := 0 }
set_option maxRecDepth 20000 in
/-- Frame.has -/
theorem cc_E_has (l : Launch) (D : va_G) (dA : Nat → ClassId) (B : Nat) (h : zz_H) (n : Nat) (q s0 : Nat) (me : Value) (e1 e2 eh : Int32) (hq : h q = some (.inr (9, [me, .int e1, .int e2, .ref s0, .int eh]))) (x : Int32)  : zz_M l D zz_cl (zz_ty dA) B zz_tb (zz_x B) yy_E_has (Cond.code yy_E_has bb_E_has 2 (some FieldType.boolean)) rm_E_has [.ref q, .int x] h n zz_mi (fun r h' n' => n' = n ∧ h' = h ∧ ((eh < x ∧ r = 0) ∨ (¬ eh < x ∧ r = 1))) := by
  refine zz_ofW (zz_f B) [some (.ref q), some (.int x)] (by decide) rfl rfl (Nat.le_of_ble_eq_true rfl) ?_
  intro p e s m below meth c C
  refine z_aload_n C dd_E_has_0 rfl ?_
  refine gf_E_24 C dd_E_has_1 hq rfl ?_
  refine z_iload_n C dd_E_has_4 rfl ?_
  refine z_icmp_lt (tgt := 12) C dd_E_has_5 (by decide) (fun q1 => ?_) (fun q1 => ?_)
  · skip
    refine z_iconst (v := 0) C dd_E_has_12 (by decide) ?_
    exact z_zret C dd_E_has_13 rfl ⟨rfl, rfl, Or.inl ⟨q1, rfl⟩⟩ (by decide) (by decide)
  · skip
    refine z_iconst (v := 1) C dd_E_has_8 (by decide) ?_
    refine z_goto (tgt := 13) C dd_E_has_9 (by decide) ?_
    exact z_zret C dd_E_has_13 rfl ⟨rfl, rfl, Or.inr (⟨q1, rfl⟩)⟩ (by decide) (by decide)
abbrev rm_E_open : Room := { frames := 1, cells := 0, slots := 0, locals := 0 }
set_option maxRecDepth 20000 in
/-- Frame's begin -/
theorem cc_E_open (l : Launch) (D : va_G) (dA : Nat → ClassId) (B : Nat) (h : zz_H) (n : Nat) (q s0 : Nat) (me : Value) (e1 e2 eh : Int32) (hq : h q = some (.inr (9, [me, .int e1, .int e2, .ref s0, .int eh]))) (m0 : Nat) (x y : Int32)  : zz_M l D zz_cl (zz_ty dA) B zz_tb (zz_x B) yy_E_open (Cond.code yy_E_open bb_E_open 4 none) rm_E_open [.ref q, .ref m0, .int x, .int y] h n zz_mv (fun _ h' n' => n' = n ∧ (∀ y, y ≠ q → h' y = h y) ∧ ((h' q = some (.inr (9, [.ref m0, .int x, .int y, .ref s0, .int 0]))))) := by
  refine zz_ofW (zz_f B) [some (.ref q), some (.ref m0), some (.int x), some (.int y)] (by decide) rfl rfl (Nat.le_of_ble_eq_true rfl) ?_
  intro p e s m below meth c C
  refine z_aload_n C dd_E_open_0 rfl ?_
  refine z_aload_n C dd_E_open_1 rfl ?_
  refine pf_E_7 C dd_E_open_2 hq (Nat.le_of_ble_eq_true rfl) rfl rfl ?_
  refine z_aload_n C dd_E_open_5 rfl ?_
  refine z_iload_n C dd_E_open_6 rfl ?_
  refine pf_E_13 C dd_E_open_7 (zz_us _ _ _) (Nat.le_of_ble_eq_true rfl) rfl rfl ?_
  refine z_aload_n C dd_E_open_10 rfl ?_
  refine z_iload_n C dd_E_open_11 rfl ?_
  refine pf_E_17 C dd_E_open_12 (zz_us _ _ _) (Nat.le_of_ble_eq_true rfl) rfl rfl ?_
  refine z_aload_n C dd_E_open_15 rfl ?_
  refine z_iconst (v := 0) C dd_E_open_16 (by decide) ?_
  refine pf_E_24 C dd_E_open_17 (zz_us _ _ _) (Nat.le_of_ble_eq_true rfl) rfl rfl ?_
  exact z_vret C dd_E_open_20 ⟨rfl, fun y y0 => (zz_un y0).trans ((zz_un y0).trans ((zz_un y0).trans ((zz_un y0).trans (rfl)))), (zz_us _ _ _)⟩ (by decide) (by decide)
abbrev rm_N_spend : Room := { frames := 1, cells := 0, slots := 0, locals := 0 }
set_option maxRecDepth 20000 in
/-- Machine.spend -/
theorem cc_N_spend (l : Launch) (D : va_G) (dA : Nat → ClassId) (B : Nat) (h : zz_H) (n : Nat) (q : Nat) (fu tc : Int32) (v2 v3 v4 : Value) (hq : h q = some (.inr (10, [.int fu, .int tc, v2, v3, v4])))  : zz_M l D zz_cl (zz_ty dA) B zz_tb (zz_x B) yy_N_spend (Cond.code yy_N_spend bb_N_spend 1 (some FieldType.int)) rm_N_spend [.ref q] h n zz_mi (fun r h' n' => n' = n ∧ (∀ y, y ≠ q → h' y = h y) ∧ ((0 < fu ∧ r = (fu - 1) ∧ h' q = some (.inr (10, [.int ((fu - 1)), .int tc, v2, v3, v4]))) ∨ (¬ 0 < fu ∧ r = (-3) ∧ h' q = some (.inr (10, [.int fu, .int tc, v2, v3, v4]))))) := by
  refine zz_ofW (zz_f B) [some (.ref q)] (by decide) rfl rfl (Nat.le_of_ble_eq_true rfl) ?_
  intro p e s m below meth c C
  refine z_aload_n C dd_N_spend_0 rfl ?_
  refine gf_N_7 C dd_N_spend_1 hq rfl ?_
  refine z_if_gt (tgt := 10) C dd_N_spend_4 (by decide) (fun q1 => ?_) (fun q1 => ?_)
  · skip
    refine z_aload_n C dd_N_spend_10 rfl ?_
    refine z_dup C dd_N_spend_11 rfl ?_
    refine gf_N_7 C dd_N_spend_12 hq rfl ?_
    refine z_iconst (v := 1) C dd_N_spend_15 (by decide) ?_
    refine z_isub C dd_N_spend_16 ?_
    refine pf_N_7 C dd_N_spend_17 hq (Nat.le_of_ble_eq_true rfl) rfl rfl ?_
    refine z_aload_n C dd_N_spend_20 rfl ?_
    refine gf_N_7 C dd_N_spend_21 (zz_us _ _ _) rfl ?_
    exact z_iret C dd_N_spend_24 ⟨rfl, fun y y0 => (zz_un y0).trans (rfl), Or.inl ⟨q1, rfl, (zz_us _ _ _)⟩⟩ (by decide) (by decide)
  · skip
    refine z_bipush (v := (-3)) C dd_N_spend_7 (by decide) ?_
    exact z_iret C dd_N_spend_9 ⟨rfl, fun y y0 => rfl, Or.inr (⟨q1, rfl, hq⟩)⟩ (by decide) (by decide)
abbrev rm_G_secondOrNone : Room := { frames := 1, cells := 0, slots := 0, locals := 0 }
set_option maxRecDepth 20000 in
/-- Generic.secondOrNone -/
theorem cc_G_secondOrNone (l : Launch) (D : va_G) (dA : Nat → ClassId) (B : Nat) (h : zz_H) (n : Nat) (q f0 g0 c0 o0 : Nat) (ar oc os fr hc ch : Int32) (cf : Int64) (hq : h q = some (.inr (6, [.int ar, .ref f0, .ref g0, .ref c0, .ref o0, .int oc, .int os, .int fr, .int hc, .long cf, .int ch]))) (x : Int32)  : zz_M l D zz_cl (zz_ty dA) B zz_tb (zz_x B) yy_G_secondOrNone (Cond.code yy_G_secondOrNone bb_G_secondOrNone 2 (some FieldType.int)) rm_G_secondOrNone [.ref q, .int x] h n zz_mi (fun r h' n' => n' = n ∧ h' = h ∧ ((¬ ar = 2 ∧ r = 0) ∨ (ar = 2 ∧ r = x))) := by
  refine zz_ofW (zz_f B) [some (.ref q), some (.int x)] (by decide) rfl rfl (Nat.le_of_ble_eq_true rfl) ?_
  intro p e s m below meth c C
  refine z_aload_n C dd_G_secondOrNone_0 rfl ?_
  refine gf_G_45 C dd_G_secondOrNone_1 hq rfl ?_
  refine z_iconst (v := 2) C dd_G_secondOrNone_4 (by decide) ?_
  refine z_icmp_ne (tgt := 12) C dd_G_secondOrNone_5 (by decide) (fun q1 => ?_) (fun q1 => ?_)
  · skip
    refine z_iconst (v := 0) C dd_G_secondOrNone_12 (by decide) ?_
    exact z_iret C dd_G_secondOrNone_13 ⟨rfl, rfl, Or.inl ⟨q1, rfl⟩⟩ (by decide) (by decide)
  · skip
    refine z_iload_n C dd_G_secondOrNone_8 rfl ?_
    refine z_goto (tgt := 13) C dd_G_secondOrNone_9 (by decide) ?_
    exact z_iret C dd_G_secondOrNone_13 ⟨rfl, rfl, Or.inr (⟨q1, rfl⟩)⟩ (by decide) (by decide)
