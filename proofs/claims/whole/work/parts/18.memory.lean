/-! The reference's whole memory: F the numbers in its fields, I its rows of ints and booleans, J of longs; its cells: the object at q, its rows at q + 1 + k. -/
abbrev md_ob (F : Nat → Int32) (n0 : Nat) : List Value := [.int (F 0), .int (F 1), .ref n0, .int (F 3), .ref (n0 + 1), .int (F 5), .ref (n0 + 2), .ref (n0 + 3), .ref (n0 + 4), .ref (n0 + 5), .ref (n0 + 6), .ref (n0 + 7), .ref (n0 + 8), .ref (n0 + 9), .ref (n0 + 10), .ref (n0 + 11), .ref (n0 + 12), .ref (n0 + 13), .int (F 18), .int (F 19), .int (F 20), .ref (n0 + 14), .ref (n0 + 15), .ref (n0 + 16), .ref (n0 + 17), .ref (n0 + 18), .ref (n0 + 19), .ref (n0 + 20), .ref (n0 + 21), .ref (n0 + 22), .ref (n0 + 23), .ref (n0 + 24), .ref (n0 + 25), .ref (n0 + 26), .ref (n0 + 27), .ref (n0 + 28), .int (F 36), .ref (n0 + 29), .ref (n0 + 30), .ref (n0 + 31), .ref (n0 + 32), .ref (n0 + 33), .ref (n0 + 34), .int (F 43), .int (F 44), .int (F 45)]
def md_ar (dA : Nat → ClassId) (I : Nat → Nat → Int32) (J : Nat → Nat → Int64) (k : Nat) : va_E := match k with
  | 0 => .inl (dA 0, 8, .inl (I 0))
  | 1 => .inl (dA 0, 4, .inl (I 1))
  | 2 => .inl (dA 0, 12, .inl (I 2))
  | 3 => .inl (dA 0, 12, .inl (I 3))
  | 4 => .inl (dA 0, 48, .inl (I 4))
  | 5 => .inl (dA 0, 48, .inl (I 5))
  | 6 => .inl (dA 0, 48, .inl (I 6))
  | 7 => .inl (dA 2, 48, .inl (I 7))
  | 8 => .inl (dA 0, 12, .inl (I 8))
  | 9 => .inl (dA 0, 96, .inl (I 9))
  | 10 => .inl (dA 0, 96, .inl (I 10))
  | 11 => .inl (dA 2, 4, .inl (I 11))
  | 12 => .inl (dA 0, 16384, .inl (I 12))
  | 13 => .inl (dA 0, 12, .inl (I 13))
  | 14 => .inl (dA 0, 4, .inl (I 14))
  | 15 => .inl (dA 0, 320, .inl (I 15))
  | 16 => .inl (dA 0, 320, .inl (I 16))
  | 17 => .inl (dA 0, 320, .inl (I 17))
  | 18 => .inl (dA 0, 4, .inl (I 18))
  | 19 => .inl (dA 0, 192, .inl (I 19))
  | 20 => .inl (dA 0, 192, .inl (I 20))
  | 21 => .inl (dA 0, 192, .inl (I 21))
  | 22 => .inl (dA 1, 4096, .inr (.inl (J 22)))
  | 23 => .inl (dA 1, 50, .inr (.inl (J 23)))
  | 24 => .inl (dA 1, 50, .inr (.inl (J 24)))
  | 25 => .inl (dA 0, 50, .inl (I 25))
  | 26 => .inl (dA 0, 50, .inl (I 26))
  | 27 => .inl (dA 0, 50, .inl (I 27))
  | 28 => .inl (dA 0, 50, .inl (I 28))
  | 29 => .inl (dA 0, 9, .inl (I 29))
  | 30 => .inl (dA 0, 9, .inl (I 30))
  | 31 => .inl (dA 0, 9, .inl (I 31))
  | 32 => .inl (dA 0, 9, .inl (I 32))
  | 33 => .inl (dA 0, 9, .inl (I 33))
  | _ => .inl (dA 0, 54, .inl (I k))
def md_fs (F : Nat → Int32) (k : Nat) (v : Int32) : Nat → Int32 := fun j => if j = k then v else F j
def md_is {α : Type} (I : Nat → Nat → α) (k : Nat) (f : Nat → α) : Nat → Nat → α := fun j => if j = k then f else I j
def md_P (dA : Nat → ClassId) (F : Nat → Int32) (I : Nat → Nat → Int32) (J : Nat → Nat → Int64) (q : Nat) (h : zz_H) : Prop := h q = some (.inr (11, md_ob F (q + 1))) ∧ ∀ k, k < 35 → h (q + 1 + k) = some (md_ar dA I J k)
/-- .. and what isn't the reference's stands as in h0 -/
def md_K (dA : Nat → ClassId) (F : Nat → Int32) (I : Nat → Nat → Int32) (J : Nat → Nat → Int64) (q : Nat) (h0 h : zz_H) : Prop := md_P dA F I J q h ∧ ∀ y, (y < q ∨ q + 36 ≤ y) → h y = h0 y
theorem md_rf {dA : Nat → ClassId} {F : Nat → Int32} {I : Nat → Nat → Int32} {J : Nat → Nat → Int64} {q : Nat} {h : zz_H} (hP : md_P dA F I J q h) : md_K dA F I J q h h := ⟨hP, fun _ _ => rfl⟩
theorem md_tr {dA : Nat → ClassId} {F F' : Nat → Int32} {I I' : Nat → Nat → Int32} {J J' : Nat → Nat → Int64} {q : Nat} {h0 h h' : zz_H} (h1 : md_K dA F I J q h0 h) (h2 : md_K dA F' I' J' q h h') : md_K dA F' I' J' q h0 h' := ⟨h2.1, fun y hy => (h2.2 y hy).trans (h1.2 y hy)⟩
theorem md_cg {dA : Nat → ClassId} {I I' : Nat → Nat → Int32} {J J' : Nat → Nat → Int64} {k : Nat} (h1 : I' k = I k) (h2 : J' k = J k) : md_ar dA I' J' k = md_ar dA I J k := by
  unfold md_ar
  split <;> simp_all
theorem md_wF {dA : Nat → ClassId} {F F' : Nat → Int32} {I : Nat → Nat → Int32} {J : Nat → Nat → Int64} {q : Nat} {h0 h : zz_H} {o : va_E} (hP : md_K dA F I J q h0 h) (e : o = .inr (11, md_ob F' (q + 1))) : md_K dA F' I J q h0 (zz_up h q o) := by
  subst e
  refine ⟨⟨zz_us _ _ _, fun k hk => ?_⟩, fun y hy => ?_⟩
  · rw [zz_un (by omega)]
    exact hP.1.2 k hk
  · rw [zz_un (by omega)]
    exact hP.2 y hy
theorem md_wI {dA : Nat → ClassId} {F : Nat → Int32} {I : Nat → Nat → Int32} {J : Nat → Nat → Int64} {q : Nat} {h0 h : zz_H} {o : va_E} {f : Nat → Int32} (hP : md_K dA F I J q h0 h) (k : Nat) (hk : k < 35) (e : o = md_ar dA (md_is I k f) J k) : md_K dA F (md_is I k f) J q h0 (zz_up h (q + 1 + k) o) := by
  subst e
  refine ⟨⟨?_, fun j hj => ?_⟩, fun y hy => ?_⟩
  · rw [zz_un (by omega)]
    exact hP.1.1
  · by_cases hjk : j = k
    · subst hjk
      exact zz_us _ _ _
    · rw [zz_un (by omega), hP.1.2 j hj, md_cg (I := I) (J := J) (I' := md_is I k f) (J' := J) (by simp [md_is, hjk]) rfl]
  · rw [zz_un (by omega)]
    exact hP.2 y hy
theorem md_wJ {dA : Nat → ClassId} {F : Nat → Int32} {I : Nat → Nat → Int32} {J : Nat → Nat → Int64} {q : Nat} {h0 h : zz_H} {o : va_E} {f : Nat → Int64} (hP : md_K dA F I J q h0 h) (k : Nat) (hk : k < 35) (e : o = md_ar dA I (md_is J k f) k) : md_K dA F I (md_is J k f) q h0 (zz_up h (q + 1 + k) o) := by
  subst e
  refine ⟨⟨?_, fun j hj => ?_⟩, fun y hy => ?_⟩
  · rw [zz_un (by omega)]
    exact hP.1.1
  · by_cases hjk : j = k
    · subst hjk
      exact zz_us _ _ _
    · rw [zz_un (by omega), hP.1.2 j hj, md_cg (I := I) (J := J) (I' := I) (J' := md_is J k f) rfl (by simp [md_is, hjk])]
  · rw [zz_un (by omega)]
    exact hP.2 y hy
abbrev rm_Q_fail : Room := { frames := 3, cells := 0, slots := 0, locals := 60 }
set_option maxRecDepth 20000 in
/-- Q_fail -/
theorem cc_Q_fail (l : Launch) (D : va_G) (dA : Nat → ClassId) (B : Nat) (h : zz_H) (n : Nat) (q : Nat) (F : Nat → Int32) (I : Nat → Nat → Int32) (J : Nat → Nat → Int64) (hP0 : md_P dA F I J q h) (x : Int32)  : zz_M l D zz_cl (zz_ty dA) B zz_tb (zz_x B) yy_Q_fail (Cond.code yy_Q_fail bb_Q_fail 2 (some FieldType.int)) rm_Q_fail [.ref q, .int x] h n zz_mi (fun r h' n' => n' = n ∧ ((r = 0 ∧ md_K dA (md_fs F 0 x) I J q h h'))) := by
  refine zz_ofW (zz_f B) [some (.ref q), some (.int x)] (by decide) rfl rfl (Nat.le_of_ble_eq_true rfl) ?_
  intro p e s m below meth c C
  have hP := md_rf hP0
  refine z_aload_n C dd_Q_fail_0 rfl ?_
  refine z_iload_n C dd_Q_fail_1 rfl ?_
  refine pf_Q_121 C dd_Q_fail_2 hP.1.1 (Nat.le_of_ble_eq_true rfl) rfl rfl ?_
  refine z_cut (md_K dA (md_fs F 0 x) I J q h) (md_wF hP rfl) rfl rfl rfl (fun h1_ hP1_ => ?_)
  refine z_iconst (v := 0) C dd_Q_fail_5 (by decide) ?_
  exact z_iret C dd_Q_fail_6 ⟨rfl, ⟨rfl, hP1_⟩⟩ (by decide) (by decide)
abbrev rm_Q_values : Room := { frames := 1, cells := 0, slots := 0, locals := 0 }
set_option maxRecDepth 20000 in
/-- Q_values -/
theorem cc_Q_values (l : Launch) (D : va_G) (dA : Nat → ClassId) (B : Nat) (h : zz_H) (n : Nat) (q : Nat) (F : Nat → Int32) (I : Nat → Nat → Int32) (J : Nat → Nat → Int64) (hP0 : md_P dA F I J q h)   : zz_M l D zz_cl (zz_ty dA) B zz_tb (zz_x B) yy_Q_values (Cond.code yy_Q_values bb_Q_values 1 (some FieldType.int)) rm_Q_values [.ref q] h n zz_mi (fun r h' n' => n' = n ∧ ((r = (8 * (F 1)) ∧ md_K dA F I J q h h'))) := by
  refine zz_ofW (zz_f B) [some (.ref q)] (by decide) rfl rfl (Nat.le_of_ble_eq_true rfl) ?_
  intro p e s m below meth c C
  have hP := md_rf hP0
  refine z_bipush (v := 8) C dd_Q_values_0 (by decide) ?_
  refine z_aload_n C dd_Q_values_2 rfl ?_
  refine gf_Q_7 (v := .int (F 1)) C dd_Q_values_3 hP.1.1 rfl ?_
  refine z_imul C dd_Q_values_6 ?_
  exact z_iret C dd_Q_values_7 ⟨rfl, ⟨rfl, hP⟩⟩ (by decide) (by decide)
abbrev rm_Q_left : Room := { frames := 3, cells := 0, slots := 0, locals := 60 }
set_option maxRecDepth 20000 in
/-- Q_left -/
theorem cc_Q_left (l : Launch) (D : va_G) (dA : Nat → ClassId) (B : Nat) (h : zz_H) (n : Nat) (q : Nat) (F : Nat → Int32) (I : Nat → Nat → Int32) (J : Nat → Nat → Int64) (hP0 : md_P dA F I J q h)   : zz_M l D zz_cl (zz_ty dA) B zz_tb (zz_x B) yy_Q_left (Cond.code yy_Q_left bb_Q_left 1 (some FieldType.int)) rm_Q_left [.ref q] h n zz_mi (fun r h' n' => n' = n ∧ ((r = (F 43) ∧ md_K dA (md_fs F 0 0) I J q h h'))) := by
  refine zz_ofW (zz_f B) [some (.ref q)] (by decide) rfl rfl (Nat.le_of_ble_eq_true rfl) ?_
  intro p e s m below meth c C
  have hP := md_rf hP0
  refine z_aload_n C dd_Q_left_0 rfl ?_
  refine z_iconst (v := 0) C dd_Q_left_1 (by decide) ?_
  refine pf_Q_121 C dd_Q_left_2 hP.1.1 (Nat.le_of_ble_eq_true rfl) rfl rfl ?_
  refine z_cut (md_K dA (md_fs F 0 0) I J q h) (md_wF hP rfl) rfl rfl rfl (fun h1_ hP1_ => ?_)
  refine z_aload_n C dd_Q_left_5 rfl ?_
  refine gf_Q_225 (v := .int (F 43)) C dd_Q_left_6 hP1_.1.1 rfl ?_
  exact z_iret C dd_Q_left_9 ⟨rfl, ⟨rfl, hP1_⟩⟩ (by decide) (by decide)
abbrev rm_Q_tests : Room := { frames := 3, cells := 0, slots := 0, locals := 60 }
set_option maxRecDepth 20000 in
/-- Q_tests -/
theorem cc_Q_tests (l : Launch) (D : va_G) (dA : Nat → ClassId) (B : Nat) (h : zz_H) (n : Nat) (q : Nat) (F : Nat → Int32) (I : Nat → Nat → Int32) (J : Nat → Nat → Int64) (hP0 : md_P dA F I J q h)   : zz_M l D zz_cl (zz_ty dA) B zz_tb (zz_x B) yy_Q_tests (Cond.code yy_Q_tests bb_Q_tests 1 (some FieldType.int)) rm_Q_tests [.ref q] h n zz_mi (fun r h' n' => n' = n ∧ ((r = (F 44) ∧ md_K dA (md_fs F 0 0) I J q h h'))) := by
  refine zz_ofW (zz_f B) [some (.ref q)] (by decide) rfl rfl (Nat.le_of_ble_eq_true rfl) ?_
  intro p e s m below meth c C
  have hP := md_rf hP0
  refine z_aload_n C dd_Q_tests_0 rfl ?_
  refine z_iconst (v := 0) C dd_Q_tests_1 (by decide) ?_
  refine pf_Q_121 C dd_Q_tests_2 hP.1.1 (Nat.le_of_ble_eq_true rfl) rfl rfl ?_
  refine z_cut (md_K dA (md_fs F 0 0) I J q h) (md_wF hP rfl) rfl rfl rfl (fun h1_ hP1_ => ?_)
  refine z_aload_n C dd_Q_tests_5 rfl ?_
  refine gf_Q_222 (v := .int (F 44)) C dd_Q_tests_6 hP1_.1.1 rfl ?_
  exact z_iret C dd_Q_tests_9 ⟨rfl, ⟨rfl, hP1_⟩⟩ (by decide) (by decide)
abbrev rm_Q_spends : Room := { frames := 3, cells := 0, slots := 0, locals := 60 }
set_option maxRecDepth 20000 in
/-- Q_spends -/
theorem cc_Q_spends (l : Launch) (D : va_G) (dA : Nat → ClassId) (B : Nat) (h : zz_H) (n : Nat) (q : Nat) (F : Nat → Int32) (I : Nat → Nat → Int32) (J : Nat → Nat → Int64) (hP0 : md_P dA F I J q h)   : zz_M l D zz_cl (zz_ty dA) B zz_tb (zz_x B) yy_Q_spends (Cond.code yy_Q_spends bb_Q_spends 1 (some FieldType.boolean)) rm_Q_spends [.ref q] h n zz_mi (fun r h' n' => n' = n ∧ ((¬ (F 43) = 0 ∧ (F 43) ≤ 0 ∧ r = 1 ∧ md_K dA (md_fs (md_fs F 45 0) 43 0) I J q h h') ∨ (¬ (F 43) = 0 ∧ ¬ (F 43) ≤ 0 ∧ r = 1 ∧ md_K dA (md_fs (md_fs F 45 0) 43 ((F 43) - 1)) I J q h h') ∨ ((F 43) = 0 ∧ (F 43) ≤ 0 ∧ r = 0 ∧ md_K dA (md_fs (md_fs F 45 (-3)) 43 0) I J q h h') ∨ ((F 43) = 0 ∧ ¬ (F 43) ≤ 0 ∧ r = 0 ∧ md_K dA (md_fs (md_fs F 45 (-3)) 43 ((F 43) - 1)) I J q h h'))) := by
  refine zz_ofW (zz_f B) [some (.ref q)] (by decide) rfl rfl (Nat.le_of_ble_eq_true rfl) ?_
  intro p e s m below meth c C
  have hP := md_rf hP0
  refine z_aload_n C dd_Q_spends_0 rfl ?_
  refine z_aload_n C dd_Q_spends_1 rfl ?_
  refine gf_Q_225 (v := .int (F 43)) C dd_Q_spends_2 hP.1.1 rfl ?_
  refine z_if_ne (tgt := 13) C dd_Q_spends_5 (by decide) (fun q1 => ?_) (fun q1 => ?_)
  · skip
    refine z_iconst (v := 0) C dd_Q_spends_13 (by decide) ?_
    refine pf_Q_228 C dd_Q_spends_14 hP.1.1 (Nat.le_of_ble_eq_true rfl) rfl rfl ?_
    refine z_cut (md_K dA (md_fs F 45 0) I J q h) (md_wF hP rfl) rfl rfl rfl (fun h1_ hP1_ => ?_)
    refine z_aload_n C dd_Q_spends_17 rfl ?_
    refine z_aload_n C dd_Q_spends_18 rfl ?_
    refine gf_Q_225 (v := .int (F 43)) C dd_Q_spends_19 hP1_.1.1 rfl ?_
    refine z_if_le (tgt := 34) C dd_Q_spends_22 (by decide) (fun q2 => ?_) (fun q2 => ?_)
    · skip
      refine z_iconst (v := 0) C dd_Q_spends_34 (by decide) ?_
      refine pf_Q_225 C dd_Q_spends_35 hP1_.1.1 (Nat.le_of_ble_eq_true rfl) rfl rfl ?_
      refine z_cut (md_K dA (md_fs (md_fs F 45 0) 43 0) I J q h) (md_wF hP1_ rfl) rfl rfl rfl (fun h2_ hP2_ => ?_)
      refine z_aload_n C dd_Q_spends_38 rfl ?_
      refine gf_Q_228 (v := .int 0) C dd_Q_spends_39 hP2_.1.1 rfl ?_
      refine z_if_ne (tgt := 49) C dd_Q_spends_42 (by decide) (fun q3 => absurd (by decide) q3) (fun q3 => ?_)
      refine z_iconst (v := 1) C dd_Q_spends_45 (by decide) ?_
      refine z_goto (tgt := 50) C dd_Q_spends_46 (by decide) ?_
      exact z_zret C dd_Q_spends_50 rfl ⟨rfl, Or.inl ⟨q1, q2, rfl, hP2_⟩⟩ (by decide) (by decide)
    · skip
      refine z_aload_n C dd_Q_spends_25 rfl ?_
      refine gf_Q_225 (v := .int (F 43)) C dd_Q_spends_26 hP1_.1.1 rfl ?_
      refine z_iconst (v := 1) C dd_Q_spends_29 (by decide) ?_
      refine z_isub C dd_Q_spends_30 ?_
      refine z_goto (tgt := 35) C dd_Q_spends_31 (by decide) ?_
      refine pf_Q_225 C dd_Q_spends_35 hP1_.1.1 (Nat.le_of_ble_eq_true rfl) rfl rfl ?_
      refine z_cut (md_K dA (md_fs (md_fs F 45 0) 43 ((F 43) - 1)) I J q h) (md_wF hP1_ rfl) rfl rfl rfl (fun h3_ hP3_ => ?_)
      refine z_aload_n C dd_Q_spends_38 rfl ?_
      refine gf_Q_228 (v := .int 0) C dd_Q_spends_39 hP3_.1.1 rfl ?_
      refine z_if_ne (tgt := 49) C dd_Q_spends_42 (by decide) (fun q4 => absurd (by decide) q4) (fun q4 => ?_)
      refine z_iconst (v := 1) C dd_Q_spends_45 (by decide) ?_
      refine z_goto (tgt := 50) C dd_Q_spends_46 (by decide) ?_
      exact z_zret C dd_Q_spends_50 rfl ⟨rfl, Or.inr (Or.inl ⟨q1, q2, rfl, hP3_⟩)⟩ (by decide) (by decide)
  · skip
    refine z_bipush (v := (-3)) C dd_Q_spends_8 (by decide) ?_
    refine z_goto (tgt := 14) C dd_Q_spends_10 (by decide) ?_
    refine pf_Q_228 C dd_Q_spends_14 hP.1.1 (Nat.le_of_ble_eq_true rfl) rfl rfl ?_
    refine z_cut (md_K dA (md_fs F 45 (-3)) I J q h) (md_wF hP rfl) rfl rfl rfl (fun h4_ hP4_ => ?_)
    refine z_aload_n C dd_Q_spends_17 rfl ?_
    refine z_aload_n C dd_Q_spends_18 rfl ?_
    refine gf_Q_225 (v := .int (F 43)) C dd_Q_spends_19 hP4_.1.1 rfl ?_
    refine z_if_le (tgt := 34) C dd_Q_spends_22 (by decide) (fun q5 => ?_) (fun q5 => ?_)
    · skip
      refine z_iconst (v := 0) C dd_Q_spends_34 (by decide) ?_
      refine pf_Q_225 C dd_Q_spends_35 hP4_.1.1 (Nat.le_of_ble_eq_true rfl) rfl rfl ?_
      refine z_cut (md_K dA (md_fs (md_fs F 45 (-3)) 43 0) I J q h) (md_wF hP4_ rfl) rfl rfl rfl (fun h5_ hP5_ => ?_)
      refine z_aload_n C dd_Q_spends_38 rfl ?_
      refine gf_Q_228 (v := .int (-3)) C dd_Q_spends_39 hP5_.1.1 rfl ?_
      refine z_if_ne (tgt := 49) C dd_Q_spends_42 (by decide) (fun q6 => ?_) (fun q6 => absurd q6 (by decide))
      refine z_iconst (v := 0) C dd_Q_spends_49 (by decide) ?_
      exact z_zret C dd_Q_spends_50 rfl ⟨rfl, Or.inr (Or.inr (Or.inl ⟨q1, q5, rfl, hP5_⟩))⟩ (by decide) (by decide)
    · skip
      refine z_aload_n C dd_Q_spends_25 rfl ?_
      refine gf_Q_225 (v := .int (F 43)) C dd_Q_spends_26 hP4_.1.1 rfl ?_
      refine z_iconst (v := 1) C dd_Q_spends_29 (by decide) ?_
      refine z_isub C dd_Q_spends_30 ?_
      refine z_goto (tgt := 35) C dd_Q_spends_31 (by decide) ?_
      refine pf_Q_225 C dd_Q_spends_35 hP4_.1.1 (Nat.le_of_ble_eq_true rfl) rfl rfl ?_
      refine z_cut (md_K dA (md_fs (md_fs F 45 (-3)) 43 ((F 43) - 1)) I J q h) (md_wF hP4_ rfl) rfl rfl rfl (fun h6_ hP6_ => ?_)
      refine z_aload_n C dd_Q_spends_38 rfl ?_
      refine gf_Q_228 (v := .int (-3)) C dd_Q_spends_39 hP6_.1.1 rfl ?_
      refine z_if_ne (tgt := 49) C dd_Q_spends_42 (by decide) (fun q7 => ?_) (fun q7 => absurd q7 (by decide))
      refine z_iconst (v := 0) C dd_Q_spends_49 (by decide) ?_
      exact z_zret C dd_Q_spends_50 rfl ⟨rfl, Or.inr (Or.inr (Or.inr (⟨q1, q5, rfl, hP6_⟩)))⟩ (by decide) (by decide)
abbrev rm_Q_rows : Room := { frames := 3, cells := 0, slots := 0, locals := 60 }
set_option maxRecDepth 20000 in
/-- Q_rows -/
theorem cc_Q_rows (l : Launch) (D : va_G) (dA : Nat → ClassId) (B : Nat) (h : zz_H) (n : Nat) (q : Nat) (F : Nat → Int32) (I : Nat → Nat → Int32) (J : Nat → Nat → Int64) (hP0 : md_P dA F I J q h) (g : Int32) (hg : vp_in g 4) : zz_M l D zz_cl (zz_ty dA) B zz_tb (zz_x B) yy_Q_rows (Cond.code yy_Q_rows bb_Q_rows 2 (some FieldType.int)) rm_Q_rows [.ref q, .int g] h n zz_mi (fun r h' n' => n' = n ∧ ((¬ ((I 1) (Int32.toNatClampNeg g)) = 1 ∧ r = ((8 * (F 1)) * (8 * (F 1))) ∧ md_K dA F I J q h h') ∨ (((I 1) (Int32.toNatClampNeg g)) = 1 ∧ r = (8 * (F 1)) ∧ md_K dA F I J q h h'))) := by
  refine zz_ofW (zz_f B) [some (.ref q), some (.int g)] (by decide) rfl rfl (Nat.le_of_ble_eq_true rfl) ?_
  intro p e s m below meth c C
  have hP := md_rf hP0
  refine z_aload_n C dd_Q_rows_0 rfl ?_
  refine gf_Q_17 (v := .ref (q + 1 + 1)) C dd_Q_rows_1 hP.1.1 rfl ?_
  refine z_iload_n C dd_Q_rows_4 rfl ?_
  refine z_iald (t0 := 0) (N := 4) (f := (I 1)) C rfl dd_Q_rows_5 (hP.1.2 1 (by decide)) (by assumption) ?_
  refine z_iconst (v := 1) C dd_Q_rows_6 (by decide) ?_
  refine z_icmp_ne (tgt := 17) C dd_Q_rows_7 (by decide) (fun q1 => ?_) (fun q1 => ?_)
  · skip
    refine z_aload_n C dd_Q_rows_17 rfl ?_
    refine iv_Q_141 (sk := fun r => .int r :: []) (zz_f B) C dd_Q_rows_18 (cc_Q_values l D dA B _ _ q F I J hP.1) hP.1.1 rfl rfl ⟨by decide, by decide⟩ (Nat.le_of_ble_eq_true rfl) ⟨by decide, by decide⟩ (fun _ => rfl) (fun r1_ h1_ n1_ p1_ => ?_)
    obtain ⟨rfl, rfl, hQ1_⟩ := p1_
    have hP1_ := md_tr hP hQ1_
    refine z_aload_n C dd_Q_rows_21 rfl ?_
    refine iv_Q_141 (sk := fun r => .int r :: [.int ((8 * (F 1)))]) (zz_f B) C dd_Q_rows_22 (cc_Q_values l D dA B _ _ q F I J hP1_.1) hP1_.1.1 rfl rfl ⟨by decide, by decide⟩ (Nat.le_of_ble_eq_true rfl) ⟨by decide, by decide⟩ (fun _ => rfl) (fun r2_ h2_ n2_ p2_ => ?_)
    obtain ⟨rfl, rfl, hQ2_⟩ := p2_
    have hP2_ := md_tr hP1_ hQ2_
    refine z_imul C dd_Q_rows_25 ?_
    exact z_iret C dd_Q_rows_26 ⟨rfl, Or.inl ⟨q1, rfl, hP2_⟩⟩ (by decide) (by decide)
  · skip
    refine z_aload_n C dd_Q_rows_10 rfl ?_
    refine iv_Q_141 (sk := fun r => .int r :: []) (zz_f B) C dd_Q_rows_11 (cc_Q_values l D dA B _ _ q F I J hP.1) hP.1.1 rfl rfl ⟨by decide, by decide⟩ (Nat.le_of_ble_eq_true rfl) ⟨by decide, by decide⟩ (fun _ => rfl) (fun r3_ h3_ n3_ p3_ => ?_)
    obtain ⟨rfl, rfl, hQ3_⟩ := p3_
    have hP3_ := md_tr hP hQ3_
    refine z_goto (tgt := 26) C dd_Q_rows_14 (by decide) ?_
    exact z_iret C dd_Q_rows_26 ⟨rfl, Or.inr (⟨q1, rfl, hP3_⟩)⟩ (by decide) (by decide)
abbrev rm_Q_row : Room := { frames := 3, cells := 0, slots := 0, locals := 60 }
set_option maxRecDepth 20000 in
/-- Q_row -/
theorem cc_Q_row (l : Launch) (D : va_G) (dA : Nat → ClassId) (B : Nat) (h : zz_H) (n : Nat) (q : Nat) (F : Nat → Int32) (I : Nat → Nat → Int32) (J : Nat → Nat → Int64) (hP0 : md_P dA F I J q h) (g : Int32) (x : Int32) (y : Int32) (hg : vp_in g 4) : zz_M l D zz_cl (zz_ty dA) B zz_tb (zz_x B) yy_Q_row (Cond.code yy_Q_row bb_Q_row 4 (some FieldType.int)) rm_Q_row [.ref q, .int g, .int x, .int y] h n zz_mi (fun r h' n' => n' = n ∧ ((¬ ((I 1) (Int32.toNatClampNeg g)) = 1 ∧ r = ((x * (8 * (F 1))) + y) ∧ md_K dA F I J q h h') ∨ (((I 1) (Int32.toNatClampNeg g)) = 1 ∧ r = x ∧ md_K dA F I J q h h'))) := by
  refine zz_ofW (zz_f B) [some (.ref q), some (.int g), some (.int x), some (.int y)] (by decide) rfl rfl (Nat.le_of_ble_eq_true rfl) ?_
  intro p e s m below meth c C
  have hP := md_rf hP0
  refine z_aload_n C dd_Q_row_0 rfl ?_
  refine gf_Q_17 (v := .ref (q + 1 + 1)) C dd_Q_row_1 hP.1.1 rfl ?_
  refine z_iload_n C dd_Q_row_4 rfl ?_
  refine z_iald (t0 := 0) (N := 4) (f := (I 1)) C rfl dd_Q_row_5 (hP.1.2 1 (by decide)) (by assumption) ?_
  refine z_iconst (v := 1) C dd_Q_row_6 (by decide) ?_
  refine z_icmp_ne (tgt := 14) C dd_Q_row_7 (by decide) (fun q1 => ?_) (fun q1 => ?_)
  · skip
    refine z_iload_n C dd_Q_row_14 rfl ?_
    refine z_aload_n C dd_Q_row_15 rfl ?_
    refine iv_Q_141 (sk := fun r => .int r :: [.int x]) (zz_f B) C dd_Q_row_16 (cc_Q_values l D dA B _ _ q F I J hP.1) hP.1.1 rfl rfl ⟨by decide, by decide⟩ (Nat.le_of_ble_eq_true rfl) ⟨by decide, by decide⟩ (fun _ => rfl) (fun r1_ h1_ n1_ p1_ => ?_)
    obtain ⟨rfl, rfl, hQ1_⟩ := p1_
    have hP1_ := md_tr hP hQ1_
    refine z_imul C dd_Q_row_19 ?_
    refine z_iload_n C dd_Q_row_20 rfl ?_
    refine z_iadd C dd_Q_row_21 ?_
    exact z_iret C dd_Q_row_22 ⟨rfl, Or.inl ⟨q1, rfl, hP1_⟩⟩ (by decide) (by decide)
  · skip
    refine z_iload_n C dd_Q_row_10 rfl ?_
    refine z_goto (tgt := 22) C dd_Q_row_11 (by decide) ?_
    exact z_iret C dd_Q_row_22 ⟨rfl, Or.inr (⟨q1, rfl, hP⟩)⟩ (by decide) (by decide)
abbrev rm_Q_firstOf : Room := { frames := 3, cells := 0, slots := 0, locals := 60 }
set_option maxRecDepth 20000 in
/-- Q_firstOf -/
theorem cc_Q_firstOf (l : Launch) (D : va_G) (dA : Nat → ClassId) (B : Nat) (h : zz_H) (n : Nat) (q : Nat) (F : Nat → Int32) (I : Nat → Nat → Int32) (J : Nat → Nat → Int64) (hP0 : md_P dA F I J q h) (g : Int32) (x : Int32) (hg : vp_in g 4) (hz : ¬ (8 * (F 1)) = 0) : zz_M l D zz_cl (zz_ty dA) B zz_tb (zz_x B) yy_Q_firstOf (Cond.code yy_Q_firstOf bb_Q_firstOf 3 (some FieldType.int)) rm_Q_firstOf [.ref q, .int g, .int x] h n zz_mi (fun r h' n' => n' = n ∧ ((¬ ((I 1) (Int32.toNatClampNeg g)) = 1 ∧ r = (x / (8 * (F 1))) ∧ md_K dA F I J q h h') ∨ (((I 1) (Int32.toNatClampNeg g)) = 1 ∧ r = x ∧ md_K dA F I J q h h'))) := by
  refine zz_ofW (zz_f B) [some (.ref q), some (.int g), some (.int x)] (by decide) rfl rfl (Nat.le_of_ble_eq_true rfl) ?_
  intro p e s m below meth c C
  have hP := md_rf hP0
  refine z_aload_n C dd_Q_firstOf_0 rfl ?_
  refine gf_Q_17 (v := .ref (q + 1 + 1)) C dd_Q_firstOf_1 hP.1.1 rfl ?_
  refine z_iload_n C dd_Q_firstOf_4 rfl ?_
  refine z_iald (t0 := 0) (N := 4) (f := (I 1)) C rfl dd_Q_firstOf_5 (hP.1.2 1 (by decide)) (by assumption) ?_
  refine z_iconst (v := 1) C dd_Q_firstOf_6 (by decide) ?_
  refine z_icmp_ne (tgt := 14) C dd_Q_firstOf_7 (by decide) (fun q1 => ?_) (fun q1 => ?_)
  · skip
    refine z_iload_n C dd_Q_firstOf_14 rfl ?_
    refine z_aload_n C dd_Q_firstOf_15 rfl ?_
    refine iv_Q_141 (sk := fun r => .int r :: [.int x]) (zz_f B) C dd_Q_firstOf_16 (cc_Q_values l D dA B _ _ q F I J hP.1) hP.1.1 rfl rfl ⟨by decide, by decide⟩ (Nat.le_of_ble_eq_true rfl) ⟨by decide, by decide⟩ (fun _ => rfl) (fun r1_ h1_ n1_ p1_ => ?_)
    obtain ⟨rfl, rfl, hQ1_⟩ := p1_
    have hP1_ := md_tr hP hQ1_
    refine z_idiv C dd_Q_firstOf_19 hz ?_
    exact z_iret C dd_Q_firstOf_20 ⟨rfl, Or.inl ⟨q1, rfl, hP1_⟩⟩ (by decide) (by decide)
  · skip
    refine z_iload_n C dd_Q_firstOf_10 rfl ?_
    refine z_goto (tgt := 20) C dd_Q_firstOf_11 (by decide) ?_
    exact z_iret C dd_Q_firstOf_20 ⟨rfl, Or.inr (⟨q1, rfl, hP⟩)⟩ (by decide) (by decide)
abbrev rm_Q_secondOf : Room := { frames := 3, cells := 0, slots := 0, locals := 60 }
set_option maxRecDepth 20000 in
/-- Q_secondOf -/
theorem cc_Q_secondOf (l : Launch) (D : va_G) (dA : Nat → ClassId) (B : Nat) (h : zz_H) (n : Nat) (q : Nat) (F : Nat → Int32) (I : Nat → Nat → Int32) (J : Nat → Nat → Int64) (hP0 : md_P dA F I J q h) (g : Int32) (x : Int32) (hg : vp_in g 4) (hz : ¬ (8 * (F 1)) = 0) : zz_M l D zz_cl (zz_ty dA) B zz_tb (zz_x B) yy_Q_secondOf (Cond.code yy_Q_secondOf bb_Q_secondOf 3 (some FieldType.int)) rm_Q_secondOf [.ref q, .int g, .int x] h n zz_mi (fun r h' n' => n' = n ∧ ((¬ ((I 1) (Int32.toNatClampNeg g)) = 1 ∧ r = (x - x / (8 * (F 1)) * (8 * (F 1))) ∧ md_K dA F I J q h h') ∨ (((I 1) (Int32.toNatClampNeg g)) = 1 ∧ r = 0 ∧ md_K dA F I J q h h'))) := by
  refine zz_ofW (zz_f B) [some (.ref q), some (.int g), some (.int x)] (by decide) rfl rfl (Nat.le_of_ble_eq_true rfl) ?_
  intro p e s m below meth c C
  have hP := md_rf hP0
  refine z_aload_n C dd_Q_secondOf_0 rfl ?_
  refine gf_Q_17 (v := .ref (q + 1 + 1)) C dd_Q_secondOf_1 hP.1.1 rfl ?_
  refine z_iload_n C dd_Q_secondOf_4 rfl ?_
  refine z_iald (t0 := 0) (N := 4) (f := (I 1)) C rfl dd_Q_secondOf_5 (hP.1.2 1 (by decide)) (by assumption) ?_
  refine z_iconst (v := 1) C dd_Q_secondOf_6 (by decide) ?_
  refine z_icmp_ne (tgt := 14) C dd_Q_secondOf_7 (by decide) (fun q1 => ?_) (fun q1 => ?_)
  · skip
    refine z_iload_n C dd_Q_secondOf_14 rfl ?_
    refine z_aload_n C dd_Q_secondOf_15 rfl ?_
    refine iv_Q_141 (sk := fun r => .int r :: [.int x]) (zz_f B) C dd_Q_secondOf_16 (cc_Q_values l D dA B _ _ q F I J hP.1) hP.1.1 rfl rfl ⟨by decide, by decide⟩ (Nat.le_of_ble_eq_true rfl) ⟨by decide, by decide⟩ (fun _ => rfl) (fun r1_ h1_ n1_ p1_ => ?_)
    obtain ⟨rfl, rfl, hQ1_⟩ := p1_
    have hP1_ := md_tr hP hQ1_
    refine z_irem C dd_Q_secondOf_19 hz ?_
    exact z_iret C dd_Q_secondOf_20 ⟨rfl, Or.inl ⟨q1, rfl, hP1_⟩⟩ (by decide) (by decide)
  · skip
    refine z_iconst (v := 0) C dd_Q_secondOf_10 (by decide) ?_
    refine z_goto (tgt := 20) C dd_Q_secondOf_11 (by decide) ?_
    exact z_iret C dd_Q_secondOf_20 ⟨rfl, Or.inr (⟨q1, rfl, hP⟩)⟩ (by decide) (by decide)
