theorem dd_NSE_0 : decode prog_24_method_4_code 0 = .ok (.aload_n 0, 1) := by decide +kernel
theorem dd_NSE_1 : decode prog_24_method_4_code 1 = .ok (.aload_n 1, 1) := by decide +kernel
theorem dd_NSE_2 : decode prog_24_method_4_code 2 = .ok (.invokespecial 13, 3) := by decide +kernel
theorem dd_NSE_5 : decode prog_24_method_4_code 5 = .ok (.return_, 1) := by decide +kernel
theorem ta_IAE : ∀ w ∈ vx_atS RR_D 66 "java/lang/IllegalArgumentException" ["java/lang/RuntimeException", "java/lang/Exception"], w ∈ zz_tb := by decide +kernel
theorem tg_IAE : ∀ w ∈ Cond.classLink RR_D 62 "java/lang/IllegalArgumentException" :: Cond.initialized "java/lang/IllegalArgumentException" :: vx_atS RR_D 66 "java/lang/IllegalArgumentException" ["java/lang/RuntimeException", "java/lang/Exception"], vx_ot w = true := by decide +kernel
theorem tr_IAE {D : va_G} {dA : Nat → ClassId} {B : Nat} {p : Program} {l : Launch} {e : Env} {R : Room} {s : State} {m : MethodId} {args : Array Value} {below : List Frame} {meth : Method} {c : Code} {h : zz_H} {n cells slots : Nat} {L : List (Option Value)} {cc : ByteArray} {pc : Nat} {rest : List Value} {nm : String} {ret : Option FieldType} {ρ : Type} {mk : ρ → Option Value} {post : ρ → zz_H → Nat → Prop} {px : String → zz_H → Nat → Prop} {is mc ms : Nat} (text : String) (C : zz_C D zz_cl (zz_ty dA) B zz_tb (zz_x B) p s m args meth c cc RR_D ret nm) (hl : l.stackTraces = false) (hno : ∀ x ∈ c.exceptionTable.toList, False) (wt : (RR_D, is, text) ∈ zz_st) (d0 : decode cc pc = .ok (.new 62, 3)) (d3 : decode cc (pc + 3) = .ok (.dup, 1)) (d4 : decode cc (pc + 4) = .ok (.ldc is, 2)) (d6 : decode cc (pc + 6) = .ok (.invokespecial 66, 3)) (d9 : decode cc (pc + 9) = .ok (.athrow, 1)) (hRf : 5 < R.frames) (hRl : (rest.map fun v => v.category).sum + 82 ≤ R.locals) (hRc : cells + 1 ≤ R.cells) (hRs : slots + 6 ≤ R.slots) (hc : cells + 1 ≤ mc) (hs : slots + 6 ≤ ms) (hp : ∀ n', n ≤ n' → px "java/lang/IllegalArgumentException" h n') :
    zz_W D zz_cl B p l e R s m args below meth c (vx_MQ below (zz_Q D zz_cl B mk post) (zz_E D zz_cl B px) args s mc ms (fun q => B ≤ q)) h n cells slots L pc rest :=
  z_throw (names := ["java/lang/RuntimeException", "java/lang/Exception"]) C hl hno (by decide +kernel) (by decide +kernel) wd_162 wd_10 wt ta_IAE tg_IAE d0 d3 d4 d6 d9 hRf hRl hRc hRs hc hs hp
theorem tw_IAE {D : va_G} {dA : Nat → ClassId} {B : Nat} {p : Program} {l : Launch} {e : Env} {R : Room} {s : State} {m : MethodId} {args : Array Value} {below : List Frame} {meth : Method} {c : Code} {h : zz_H} {n cells slots : Nat} {L : List (Option Value)} {cc : ByteArray} {pc : Nat} {rest : List Value} {nm : String} {ret : Option FieldType} {ρ : Type} {mk : ρ → Option Value} {post : ρ → zz_H → Nat → Prop} {px : String → zz_H → Nat → Prop} {is mc ms : Nat} (text : String) (C : zz_C D zz_cl (zz_ty dA) B zz_tb (zz_x B) p s m args meth c cc RR_D ret nm) (hl : l.stackTraces = false) (hno : ∀ x ∈ c.exceptionTable.toList, False) (wt : (RR_D, is, text) ∈ zz_st) (d0 : decode cc pc = .ok (.new 62, 3)) (d3 : decode cc (pc + 3) = .ok (.dup, 1)) (d4 : decode cc (pc + 4) = .ok (.ldc_w is, 3)) (d7 : decode cc (pc + 7) = .ok (.invokespecial 66, 3)) (d10 : decode cc (pc + 10) = .ok (.athrow, 1)) (hRf : 5 < R.frames) (hRl : (rest.map fun v => v.category).sum + 82 ≤ R.locals) (hRc : cells + 1 ≤ R.cells) (hRs : slots + 6 ≤ R.slots) (hc : cells + 1 ≤ mc) (hs : slots + 6 ≤ ms) (hp : ∀ n', n ≤ n' → px "java/lang/IllegalArgumentException" h n') :
    zz_W D zz_cl B p l e R s m args below meth c (vx_MQ below (zz_Q D zz_cl B mk post) (zz_E D zz_cl B px) args s mc ms (fun q => B ≤ q)) h n cells slots L pc rest :=
  zz_throwW (names := ["java/lang/RuntimeException", "java/lang/Exception"]) C hl hno (by decide +kernel) (by decide +kernel) wd_162 wd_10 wt ta_IAE tg_IAE d0 d3 d4 d7 d10 hRf hRl hRc hRs hc hs hp
theorem ta_ISE : ∀ w ∈ vx_atS RR_D 77 "java/lang/IllegalStateException" ["java/lang/RuntimeException", "java/lang/Exception"], w ∈ zz_tb := by decide +kernel
theorem tg_ISE : ∀ w ∈ Cond.classLink RR_D 73 "java/lang/IllegalStateException" :: Cond.initialized "java/lang/IllegalStateException" :: vx_atS RR_D 77 "java/lang/IllegalStateException" ["java/lang/RuntimeException", "java/lang/Exception"], vx_ot w = true := by decide +kernel
theorem tr_ISE {D : va_G} {dA : Nat → ClassId} {B : Nat} {p : Program} {l : Launch} {e : Env} {R : Room} {s : State} {m : MethodId} {args : Array Value} {below : List Frame} {meth : Method} {c : Code} {h : zz_H} {n cells slots : Nat} {L : List (Option Value)} {cc : ByteArray} {pc : Nat} {rest : List Value} {nm : String} {ret : Option FieldType} {ρ : Type} {mk : ρ → Option Value} {post : ρ → zz_H → Nat → Prop} {px : String → zz_H → Nat → Prop} {is mc ms : Nat} (text : String) (C : zz_C D zz_cl (zz_ty dA) B zz_tb (zz_x B) p s m args meth c cc RR_D ret nm) (hl : l.stackTraces = false) (hno : ∀ x ∈ c.exceptionTable.toList, False) (wt : (RR_D, is, text) ∈ zz_st) (d0 : decode cc pc = .ok (.new 73, 3)) (d3 : decode cc (pc + 3) = .ok (.dup, 1)) (d4 : decode cc (pc + 4) = .ok (.ldc is, 2)) (d6 : decode cc (pc + 6) = .ok (.invokespecial 77, 3)) (d9 : decode cc (pc + 9) = .ok (.athrow, 1)) (hRf : 5 < R.frames) (hRl : (rest.map fun v => v.category).sum + 82 ≤ R.locals) (hRc : cells + 1 ≤ R.cells) (hRs : slots + 6 ≤ R.slots) (hc : cells + 1 ≤ mc) (hs : slots + 6 ≤ ms) (hp : ∀ n', n ≤ n' → px "java/lang/IllegalStateException" h n') :
    zz_W D zz_cl B p l e R s m args below meth c (vx_MQ below (zz_Q D zz_cl B mk post) (zz_E D zz_cl B px) args s mc ms (fun q => B ≤ q)) h n cells slots L pc rest :=
  z_throw (names := ["java/lang/RuntimeException", "java/lang/Exception"]) C hl hno (by decide +kernel) (by decide +kernel) wd_234 wd_11 wt ta_ISE tg_ISE d0 d3 d4 d6 d9 hRf hRl hRc hRs hc hs hp
theorem tw_ISE {D : va_G} {dA : Nat → ClassId} {B : Nat} {p : Program} {l : Launch} {e : Env} {R : Room} {s : State} {m : MethodId} {args : Array Value} {below : List Frame} {meth : Method} {c : Code} {h : zz_H} {n cells slots : Nat} {L : List (Option Value)} {cc : ByteArray} {pc : Nat} {rest : List Value} {nm : String} {ret : Option FieldType} {ρ : Type} {mk : ρ → Option Value} {post : ρ → zz_H → Nat → Prop} {px : String → zz_H → Nat → Prop} {is mc ms : Nat} (text : String) (C : zz_C D zz_cl (zz_ty dA) B zz_tb (zz_x B) p s m args meth c cc RR_D ret nm) (hl : l.stackTraces = false) (hno : ∀ x ∈ c.exceptionTable.toList, False) (wt : (RR_D, is, text) ∈ zz_st) (d0 : decode cc pc = .ok (.new 73, 3)) (d3 : decode cc (pc + 3) = .ok (.dup, 1)) (d4 : decode cc (pc + 4) = .ok (.ldc_w is, 3)) (d7 : decode cc (pc + 7) = .ok (.invokespecial 77, 3)) (d10 : decode cc (pc + 10) = .ok (.athrow, 1)) (hRf : 5 < R.frames) (hRl : (rest.map fun v => v.category).sum + 82 ≤ R.locals) (hRc : cells + 1 ≤ R.cells) (hRs : slots + 6 ≤ R.slots) (hc : cells + 1 ≤ mc) (hs : slots + 6 ≤ ms) (hp : ∀ n', n ≤ n' → px "java/lang/IllegalStateException" h n') :
    zz_W D zz_cl B p l e R s m args below meth c (vx_MQ below (zz_Q D zz_cl B mk post) (zz_E D zz_cl B px) args s mc ms (fun q => B ≤ q)) h n cells slots L pc rest :=
  zz_throwW (names := ["java/lang/RuntimeException", "java/lang/Exception"]) C hl hno (by decide +kernel) (by decide +kernel) wd_234 wd_11 wt ta_ISE tg_ISE d0 d3 d4 d7 d10 hRf hRl hRc hRs hc hs hp
theorem ta_NSE : ∀ w ∈ zn_at RR_D 204 "java/util/NoSuchElementException" 13 prog_24_method_4_code ["java/lang/RuntimeException", "java/lang/Exception"], w ∈ zz_tb := by decide +kernel
theorem tg_NSE : ∀ w ∈ Cond.classLink RR_D 200 "java/util/NoSuchElementException" :: Cond.initialized "java/util/NoSuchElementException" :: zn_at RR_D 204 "java/util/NoSuchElementException" 13 prog_24_method_4_code ["java/lang/RuntimeException", "java/lang/Exception"], vx_ot w = true := by decide +kernel
theorem tr_NSE {D : va_G} {dA : Nat → ClassId} {B : Nat} {p : Program} {l : Launch} {e : Env} {R : Room} {s : State} {m : MethodId} {args : Array Value} {below : List Frame} {meth : Method} {c : Code} {h : zz_H} {n cells slots : Nat} {L : List (Option Value)} {cc : ByteArray} {pc : Nat} {rest : List Value} {nm : String} {ret : Option FieldType} {ρ : Type} {mk : ρ → Option Value} {post : ρ → zz_H → Nat → Prop} {px : String → zz_H → Nat → Prop} {is mc ms : Nat} (text : String) (C : zz_C D zz_cl (zz_ty dA) B zz_tb (zz_x B) p s m args meth c cc RR_D ret nm) (hl : l.stackTraces = false) (hno : ∀ x ∈ c.exceptionTable.toList, False) (wt : (RR_D, is, text) ∈ zz_st) (d0 : decode cc pc = .ok (.new 200, 3)) (d3 : decode cc (pc + 3) = .ok (.dup, 1)) (d4 : decode cc (pc + 4) = .ok (.ldc is, 2)) (d6 : decode cc (pc + 6) = .ok (.invokespecial 204, 3)) (d9 : decode cc (pc + 9) = .ok (.athrow, 1)) (hRf : 5 < R.frames) (hRl : (rest.map fun v => v.category).sum + 82 ≤ R.locals) (hRc : cells + 1 ≤ R.cells) (hRs : slots + 6 ≤ R.slots) (hc : cells + 1 ≤ mc) (hs : slots + 6 ≤ ms) (hp : ∀ n', n ≤ n' → px "java/util/NoSuchElementException" h n') :
    zz_W D zz_cl B p l e R s m args below meth c (vx_MQ below (zz_Q D zz_cl B mk post) (zz_E D zz_cl B px) args s mc ms (fun q => B ≤ q)) h n cells slots L pc rest :=
  z_throwN dd_NSE_0 dd_NSE_1 dd_NSE_2 dd_NSE_5 (names := ["java/lang/RuntimeException", "java/lang/Exception"]) C hl hno (by decide +kernel) (by decide +kernel) wd_674 wd_20 wt ta_NSE tg_NSE d0 d3 d4 d6 d9 hRf hRl hRc hRs hc hs hp
theorem tw_NSE {D : va_G} {dA : Nat → ClassId} {B : Nat} {p : Program} {l : Launch} {e : Env} {R : Room} {s : State} {m : MethodId} {args : Array Value} {below : List Frame} {meth : Method} {c : Code} {h : zz_H} {n cells slots : Nat} {L : List (Option Value)} {cc : ByteArray} {pc : Nat} {rest : List Value} {nm : String} {ret : Option FieldType} {ρ : Type} {mk : ρ → Option Value} {post : ρ → zz_H → Nat → Prop} {px : String → zz_H → Nat → Prop} {is mc ms : Nat} (text : String) (C : zz_C D zz_cl (zz_ty dA) B zz_tb (zz_x B) p s m args meth c cc RR_D ret nm) (hl : l.stackTraces = false) (hno : ∀ x ∈ c.exceptionTable.toList, False) (wt : (RR_D, is, text) ∈ zz_st) (d0 : decode cc pc = .ok (.new 200, 3)) (d3 : decode cc (pc + 3) = .ok (.dup, 1)) (d4 : decode cc (pc + 4) = .ok (.ldc_w is, 3)) (d7 : decode cc (pc + 7) = .ok (.invokespecial 204, 3)) (d10 : decode cc (pc + 10) = .ok (.athrow, 1)) (hRf : 5 < R.frames) (hRl : (rest.map fun v => v.category).sum + 82 ≤ R.locals) (hRc : cells + 1 ≤ R.cells) (hRs : slots + 6 ≤ R.slots) (hc : cells + 1 ≤ mc) (hs : slots + 6 ≤ ms) (hp : ∀ n', n ≤ n' → px "java/util/NoSuchElementException" h n') :
    zz_W D zz_cl B p l e R s m args below meth c (vx_MQ below (zz_Q D zz_cl B mk post) (zz_E D zz_cl B px) args s mc ms (fun q => B ≤ q)) h n cells slots L pc rest :=
  zz_throwNW dd_NSE_0 dd_NSE_1 dd_NSE_2 dd_NSE_5 (names := ["java/lang/RuntimeException", "java/lang/Exception"]) C hl hno (by decide +kernel) (by decide +kernel) wd_674 wd_20 wt ta_NSE tg_NSE d0 d3 d4 d7 d10 hRf hRl hRc hRs hc hs hp
abbrev rm_H_has : Room := { frames := 1, cells := 0, slots := 0, locals := 0 }
set_option maxRecDepth 20000 in
/-- Hierarchy.has -/
theorem cc_H_has (l : Launch) (D : va_G) (dA : Nat → ClassId) (B : Nat) (h : zz_H) (n : Nat) (q a0 : Nat) (k0 x : Int32) (hq : h q = some (.inr (1, [.ref a0, .int k0]))) : zz_M l D zz_cl (zz_ty dA) B zz_tb (zz_x B) yy_H_has (Cond.code yy_H_has bb_H_has 2 (some FieldType.boolean)) rm_H_has [.ref q, .int x] h n zz_mi (fun r h' n' => h' = h ∧ n' = n ∧ ((r = 1 ∧ ¬ x < 0 ∧ ¬ k0 ≤ x) ∨ (r = 0 ∧ (x < 0 ∨ k0 ≤ x)))) := by
  refine zz_ofW (zz_f B) [some (.ref q), some (.int x)] (by decide) rfl rfl (Nat.le_of_ble_eq_true rfl) ?_
  intro p e s m below meth c C
  refine z_iload_n C dd_H_has_0 rfl ?_
  refine z_if_lt (tgt := 16) C dd_H_has_1 (by decide) (fun q1 => ?_) (fun q1 => ?_)
  · skip
    refine z_iconst (v := 0) C dd_H_has_16 (by decide) ?_
    exact z_zret C dd_H_has_17 rfl ⟨rfl, rfl, (by first | exact Or.inl ⟨rfl, by assumption, by assumption⟩ | exact Or.inr ⟨rfl, Or.inl (by assumption)⟩ | exact Or.inr ⟨rfl, Or.inr (by assumption)⟩)⟩ (by decide) (by decide)
  · skip
    refine z_iload_n C dd_H_has_4 rfl ?_
    refine z_aload_n C dd_H_has_5 rfl ?_
    refine gf_H_13 C dd_H_has_6 hq rfl ?_
    refine z_icmp_ge (tgt := 16) C dd_H_has_9 (by decide) (fun q9 => ?_) (fun q9 => ?_)
    · skip
      refine z_iconst (v := 0) C dd_H_has_16 (by decide) ?_
      exact z_zret C dd_H_has_17 rfl ⟨rfl, rfl, (by first | exact Or.inl ⟨rfl, by assumption, by assumption⟩ | exact Or.inr ⟨rfl, Or.inl (by assumption)⟩ | exact Or.inr ⟨rfl, Or.inr (by assumption)⟩)⟩ (by decide) (by decide)
    · skip
      refine z_iconst (v := 1) C dd_H_has_12 (by decide) ?_
      refine z_goto (tgt := 17) C dd_H_has_13 (by decide) ?_
      exact z_zret C dd_H_has_17 rfl ⟨rfl, rfl, (by first | exact Or.inl ⟨rfl, by assumption, by assumption⟩ | exact Or.inr ⟨rfl, Or.inl (by assumption)⟩ | exact Or.inr ⟨rfl, Or.inr (by assumption)⟩)⟩ (by decide) (by decide)
abbrev rm_H_isFull : Room := { frames := 1, cells := 0, slots := 0, locals := 0 }
set_option maxRecDepth 20000 in
/-- Hierarchy.isFull -/
theorem cc_H_isFull (l : Launch) (D : va_G) (dA : Nat → ClassId) (B : Nat) (h : zz_H) (n : Nat) (q a0 : Nat) (k0 : Int32) (hq : h q = some (.inr (1, [.ref a0, .int k0]))) : zz_M l D zz_cl (zz_ty dA) B zz_tb (zz_x B) yy_H_isFull (Cond.code yy_H_isFull bb_H_isFull 1 (some FieldType.boolean)) rm_H_isFull [.ref q] h n zz_mi (fun r h' n' => h' = h ∧ n' = n ∧ ((r = 0 ∧ k0 < 8) ∨ (r = 1 ∧ ¬ k0 < 8))) := by
  refine zz_ofW (zz_f B) [some (.ref q)] (by decide) rfl rfl (Nat.le_of_ble_eq_true rfl) ?_
  intro p e s m below meth c C
  refine z_aload_n C dd_H_isFull_0 rfl ?_
  refine gf_H_13 C dd_H_isFull_1 hq rfl ?_
  refine z_bipush (v := 8) C dd_H_isFull_4 (by decide) ?_
  refine z_icmp_lt (tgt := 13) C dd_H_isFull_6 (by decide) (fun q6 => ?_) (fun q6 => ?_)
  · skip
    refine z_iconst (v := 0) C dd_H_isFull_13 (by decide) ?_
    exact z_zret C dd_H_isFull_14 rfl ⟨rfl, rfl, (by first | exact Or.inl ⟨rfl, by assumption⟩ | exact Or.inr ⟨rfl, by assumption⟩)⟩ (by decide) (by decide)
  · skip
    refine z_iconst (v := 1) C dd_H_isFull_9 (by decide) ?_
    refine z_goto (tgt := 14) C dd_H_isFull_10 (by decide) ?_
    exact z_zret C dd_H_isFull_14 rfl ⟨rfl, rfl, (by first | exact Or.inl ⟨rfl, by assumption⟩ | exact Or.inr ⟨rfl, by assumption⟩)⟩ (by decide) (by decide)
abbrev rm_H_add : Room := { frames := 1, cells := 0, slots := 0, locals := 0 }
set_option maxRecDepth 20000 in
/-- Hierarchy.add -/
theorem cc_H_add (l : Launch) (D : va_G) (dA : Nat → ClassId) (B : Nat) (h : zz_H) (n : Nat) (q a0 : Nat) (k0 x : Int32) (lf : Nat → Int32) (hq : h q = some (.inr (1, [.ref a0, .int k0]))) (ha : h a0 = some (.inl (dA 0, 8, .inl lf))) (hx : vp_in x 8) (hk : vp_in k0 8) : zz_M l D zz_cl (zz_ty dA) B zz_tb (zz_x B) yy_H_add (Cond.code yy_H_add bb_H_add 2 (some FieldType.int)) rm_H_add [.ref q, .int x] h n zz_mi (fun r h' n' => n' = n ∧ r = k0 ∧ h' q = some (.inr (1, [.ref a0, .int (k0 + 1)])) ∧ h' a0 = some (.inl (dA 0, 8, .inl (upd lf k0.toNatClampNeg (lf x.toNatClampNeg ||| (1 <<< (k0 &&& 31)))))) ∧ ∀ y, y ≠ q → y ≠ a0 → h' y = h y) := by
  refine zz_ofW (zz_f B) [some (.ref q), some (.int x)] (by decide) rfl rfl (Nat.le_of_ble_eq_true rfl) ?_
  intro p e s m below meth c C
  have hne : q ≠ a0 := fun e9 => by rw [e9] at hq; exact absurd (hq.symm.trans ha) (by simp)
  refine z_aload_n C dd_H_add_0 rfl ?_
  refine gf_H_9 C dd_H_add_1 hq rfl ?_
  refine z_aload_n C dd_H_add_4 rfl ?_
  refine gf_H_13 C dd_H_add_5 hq rfl ?_
  refine z_aload_n C dd_H_add_8 rfl ?_
  refine gf_H_9 C dd_H_add_9 hq rfl ?_
  refine z_iload_n C dd_H_add_12 rfl ?_
  refine z_iald (t0 := 0) C rfl dd_H_add_13 ha hx ?_
  refine z_iconst (v := 1) C dd_H_add_14 (by decide) ?_
  refine z_aload_n C dd_H_add_15 rfl ?_
  refine gf_H_13 C dd_H_add_16 hq rfl ?_
  refine z_ishl C dd_H_add_19 ?_
  refine z_ior C dd_H_add_20 ?_
  refine z_iast (t0 := 0) C rfl dd_H_add_21 ha hk ?_
  refine z_aload_n C dd_H_add_22 rfl ?_
  refine z_dup C dd_H_add_23 rfl ?_
  refine gf_H_13 C dd_H_add_24 ((zz_un hne).trans (hq)) rfl ?_
  refine z_dup_x1 C dd_H_add_27 rfl rfl ?_
  refine z_iconst (v := 1) C dd_H_add_28 (by decide) ?_
  refine z_iadd C dd_H_add_29 ?_
  refine pf_H_13 C dd_H_add_30 ((zz_un hne).trans (hq)) (Nat.le_of_ble_eq_true rfl) rfl rfl ?_
  refine z_iret C dd_H_add_33 ⟨rfl, rfl, zz_us _ _ _, (zz_un (Ne.symm hne)).trans (zz_us _ _ _), fun y hy1 hy2 => (zz_un hy1).trans (zz_un hy2)⟩ (by decide) (by decide)
abbrev rm_D_genericAt : Room := { frames := 6, cells := 1, slots := 6, locals := 82 }
set_option maxRecDepth 20000 in
/-- the desk's genericAt -/
theorem cc_D_genericAt (l : Launch) (D : va_G) (dA : Nat → ClassId) (B : Nat) (h : zz_H) (n : Nat) (q c0 g0 m0 b0 k0 : Nat) (gc mc w0 w1 w2 : Int32) (hq : h q = some (.inr (0, [.ref c0, .ref g0, .int gc, .ref m0, .int mc, .ref b0, .ref k0, .int w0, .int w1, .int w2]))) (x : Int32) (gf : Nat → Option Nat) (ha : h g0 = some (.inl (dA 3, 4, .inr (.inr (.inr (.inr gf)))))) (hg : ¬ x < 0 → x < gc → ∃ a, gf x.toNatClampNeg = some a ∧ vp_in x 4) (hl : l.stackTraces = false) : zz_MX l D zz_cl (zz_ty dA) B zz_tb (zz_x B) yy_D_genericAt (Cond.code yy_D_genericAt bb_D_genericAt 2 (some (FieldType.object "DispatchDesk$Generic"))) rm_D_genericAt [.ref q, .int x] h n zz_mr (fun a h' n' => h' = h ∧ n' = n ∧ gf x.toNatClampNeg = some a ∧ ¬ x < 0 ∧ x < gc) (fun E h' n' => E = "java/lang/IllegalArgumentException" ∧ h' = h ∧ n ≤ n' ∧ (x < 0 ∨ ¬ x < gc)) := by
  refine zz_ofX (zz_f B) [some (.ref q), some (.int x)] (by decide) rfl rfl (Nat.le_of_ble_eq_true rfl) ?_
  intro p e s m below meth c C hno
  refine z_iload_n C dd_D_genericAt_0 rfl ?_
  refine z_if_lt (tgt := 12) C dd_D_genericAt_1 (by decide) (fun q1 => ?_) (fun q1 => ?_)
  · skip
    exact tr_IAE "no such generic" C hl hno (by decide +kernel) dd_D_genericAt_12 dd_D_genericAt_15 dd_D_genericAt_16 dd_D_genericAt_18 dd_D_genericAt_21 (by decide) (Nat.le_of_ble_eq_true rfl) (by decide) (by decide) (by decide) (by decide) (fun n' hn => ⟨rfl, rfl, hn, by first | exact Or.inl (by assumption) | exact Or.inr (by assumption)⟩)
  · skip
    refine z_iload_n C dd_D_genericAt_4 rfl ?_
    refine z_aload_n C dd_D_genericAt_5 rfl ?_
    refine gf_D_22 C dd_D_genericAt_6 hq rfl ?_
    refine z_icmp_lt (tgt := 22) C dd_D_genericAt_9 (by decide) (fun q9 => ?_) (fun q9 => ?_)
    · skip
      refine z_aload_n C dd_D_genericAt_22 rfl ?_
      refine gf_D_18 C dd_D_genericAt_23 hq rfl ?_
      refine z_iload_n C dd_D_genericAt_26 rfl ?_
      obtain ⟨v9, hv9, hi9⟩ := hg (by assumption) (by assumption)
      refine z_aald (t0 := 3) C rfl dd_D_genericAt_27 ha hi9 ?_
      refine z_eq (st' := [.ref v9]) rfl rfl (by rw [hv9]; rfl) ?_
      exact z_aretX C dd_D_genericAt_28 ⟨rfl, rfl, hv9, by assumption, by assumption⟩ (by decide) (by decide)
    · skip
      exact tr_IAE "no such generic" C hl hno (by decide +kernel) dd_D_genericAt_12 dd_D_genericAt_15 dd_D_genericAt_16 dd_D_genericAt_18 dd_D_genericAt_21 (by decide) (Nat.le_of_ble_eq_true rfl) (by decide) (by decide) (by decide) (by decide) (fun n' hn => ⟨rfl, rfl, hn, by first | exact Or.inl (by assumption) | exact Or.inr (by assumption)⟩)
abbrev rm_D_methodAt : Room := { frames := 6, cells := 1, slots := 6, locals := 82 }
set_option maxRecDepth 20000 in
/-- the desk's methodAt -/
theorem cc_D_methodAt (l : Launch) (D : va_G) (dA : Nat → ClassId) (B : Nat) (h : zz_H) (n : Nat) (q c0 g0 m0 b0 k0 : Nat) (gc mc w0 w1 w2 : Int32) (hq : h q = some (.inr (0, [.ref c0, .ref g0, .int gc, .ref m0, .int mc, .ref b0, .ref k0, .int w0, .int w1, .int w2]))) (x : Int32) (gf : Nat → Option Nat) (ha : h m0 = some (.inl (dA 4, 12, .inr (.inr (.inr (.inr gf)))))) (hg : ¬ x < 0 → x < mc → ∃ a, gf x.toNatClampNeg = some a ∧ vp_in x 12) (hl : l.stackTraces = false) : zz_MX l D zz_cl (zz_ty dA) B zz_tb (zz_x B) yy_D_methodAt (Cond.code yy_D_methodAt bb_D_methodAt 2 (some (FieldType.object "DispatchDesk$Method"))) rm_D_methodAt [.ref q, .int x] h n zz_mr (fun a h' n' => h' = h ∧ n' = n ∧ gf x.toNatClampNeg = some a ∧ ¬ x < 0 ∧ x < mc) (fun E h' n' => E = "java/lang/IllegalArgumentException" ∧ h' = h ∧ n ≤ n' ∧ (x < 0 ∨ ¬ x < mc)) := by
  refine zz_ofX (zz_f B) [some (.ref q), some (.int x)] (by decide) rfl rfl (Nat.le_of_ble_eq_true rfl) ?_
  intro p e s m below meth c C hno
  refine z_iload_n C dd_D_methodAt_0 rfl ?_
  refine z_if_lt (tgt := 12) C dd_D_methodAt_1 (by decide) (fun q1 => ?_) (fun q1 => ?_)
  · skip
    exact tr_IAE "no such method" C hl hno (by decide +kernel) dd_D_methodAt_12 dd_D_methodAt_15 dd_D_methodAt_16 dd_D_methodAt_18 dd_D_methodAt_21 (by decide) (Nat.le_of_ble_eq_true rfl) (by decide) (by decide) (by decide) (by decide) (fun n' hn => ⟨rfl, rfl, hn, by first | exact Or.inl (by assumption) | exact Or.inr (by assumption)⟩)
  · skip
    refine z_iload_n C dd_D_methodAt_4 rfl ?_
    refine z_aload_n C dd_D_methodAt_5 rfl ?_
    refine gf_D_32 C dd_D_methodAt_6 hq rfl ?_
    refine z_icmp_lt (tgt := 22) C dd_D_methodAt_9 (by decide) (fun q9 => ?_) (fun q9 => ?_)
    · skip
      refine z_aload_n C dd_D_methodAt_22 rfl ?_
      refine gf_D_28 C dd_D_methodAt_23 hq rfl ?_
      refine z_iload_n C dd_D_methodAt_26 rfl ?_
      obtain ⟨v9, hv9, hi9⟩ := hg (by assumption) (by assumption)
      refine z_aald (t0 := 4) C rfl dd_D_methodAt_27 ha hi9 ?_
      refine z_eq (st' := [.ref v9]) rfl rfl (by rw [hv9]; rfl) ?_
      exact z_aretX C dd_D_methodAt_28 ⟨rfl, rfl, hv9, by assumption, by assumption⟩ (by decide) (by decide)
    · skip
      exact tr_IAE "no such method" C hl hno (by decide +kernel) dd_D_methodAt_12 dd_D_methodAt_15 dd_D_methodAt_16 dd_D_methodAt_18 dd_D_methodAt_21 (by decide) (Nat.le_of_ble_eq_true rfl) (by decide) (by decide) (by decide) (by decide) (fun n' hn => ⟨rfl, rfl, hn, by first | exact Or.inl (by assumption) | exact Or.inr (by assumption)⟩)
abbrev rm_D_witness : Room := { frames := 6, cells := 1, slots := 6, locals := 82 }
set_option maxRecDepth 20000 in
/-- the desk's witness -/
theorem cc_D_witness (l : Launch) (D : va_G) (dA : Nat → ClassId) (B : Nat) (h : zz_H) (n : Nat) (q c0 g0 m0 b0 k0 : Nat) (gc mc w0 w1 w2 : Int32) (hq : h q = some (.inr (0, [.ref c0, .ref g0, .int gc, .ref m0, .int mc, .ref b0, .ref k0, .int w0, .int w1, .int w2]))) (x : Int32) (hl : l.stackTraces = false) : zz_MX l D zz_cl (zz_ty dA) B zz_tb (zz_x B) yy_D_witness (Cond.code yy_D_witness bb_D_witness 2 (some FieldType.int)) rm_D_witness [.ref q, .int x] h n zz_mi (fun r h' n' => h' = h ∧ n' = n ∧ ¬ x < 0 ∧ x < w0 ∧ ((x = 0 ∧ r = w1) ∨ (¬ x = 0 ∧ r = w2))) (fun E h' n' => E = "java/util/NoSuchElementException" ∧ h' = h ∧ n ≤ n' ∧ (x < 0 ∨ ¬ x < w0)) := by
  refine zz_ofX (zz_f B) [some (.ref q), some (.int x)] (by decide) rfl rfl (Nat.le_of_ble_eq_true rfl) ?_
  intro p e s m below meth c C hno
  refine z_iload_n C dd_D_witness_0 rfl ?_
  refine z_if_lt (tgt := 12) C dd_D_witness_1 (by decide) (fun q1 => ?_) (fun q1 => ?_)
  · skip
    exact tr_NSE "no such witness" C hl hno (by decide +kernel) dd_D_witness_12 dd_D_witness_15 dd_D_witness_16 dd_D_witness_18 dd_D_witness_21 (by decide) (Nat.le_of_ble_eq_true rfl) (by decide) (by decide) (by decide) (by decide) (fun n' hn => ⟨rfl, rfl, hn, by first | exact Or.inl (by assumption) | exact Or.inr (by assumption)⟩)
  · skip
    refine z_iload_n C dd_D_witness_4 rfl ?_
    refine z_aload_n C dd_D_witness_5 rfl ?_
    refine gf_D_49 C dd_D_witness_6 hq rfl ?_
    refine z_icmp_lt (tgt := 22) C dd_D_witness_9 (by decide) (fun q9 => ?_) (fun q9 => ?_)
    · skip
      refine z_iload_n C dd_D_witness_22 rfl ?_
      refine z_if_ne (tgt := 33) C dd_D_witness_23 (by decide) (fun q23 => ?_) (fun q23 => ?_)
      · skip
        refine z_aload_n C dd_D_witness_33 rfl ?_
        refine gf_D_55 C dd_D_witness_34 hq rfl ?_
        exact z_iretX C dd_D_witness_37 ⟨rfl, rfl, by assumption, by assumption, by first | exact Or.inl ⟨by assumption, rfl⟩ | exact Or.inr ⟨by assumption, rfl⟩⟩ (by decide) (by decide)
      · skip
        refine z_aload_n C dd_D_witness_26 rfl ?_
        refine gf_D_52 C dd_D_witness_27 hq rfl ?_
        refine z_goto (tgt := 37) C dd_D_witness_30 (by decide) ?_
        exact z_iretX C dd_D_witness_37 ⟨rfl, rfl, by assumption, by assumption, by first | exact Or.inl ⟨by assumption, rfl⟩ | exact Or.inr ⟨by assumption, rfl⟩⟩ (by decide) (by decide)
    · skip
      exact tr_NSE "no such witness" C hl hno (by decide +kernel) dd_D_witness_12 dd_D_witness_15 dd_D_witness_16 dd_D_witness_18 dd_D_witness_21 (by decide) (Nat.le_of_ble_eq_true rfl) (by decide) (by decide) (by decide) (by decide) (fun n' hn => ⟨rfl, rfl, hn, by first | exact Or.inl (by assumption) | exact Or.inr (by assumption)⟩)
abbrev rm_D_left : Room := { frames := 1, cells := 0, slots := 0, locals := 0 }
set_option maxRecDepth 20000 in
/-- the desk's left -/
theorem cc_D_left (l : Launch) (D : va_G) (dA : Nat → ClassId) (B : Nat) (h : zz_H) (n : Nat) (q c0 g0 m0 b0 k0 : Nat) (gc mc w0 w1 w2 : Int32) (hq : h q = some (.inr (0, [.ref c0, .ref g0, .int gc, .ref m0, .int mc, .ref b0, .ref k0, .int w0, .int w1, .int w2]))) (fu tc : Int32) (v2 v3 v4 : Value) (hm : h k0 = some (.inr (10, [.int fu, .int tc, v2, v3, v4]))) : zz_M l D zz_cl (zz_ty dA) B zz_tb (zz_x B) yy_D_left (Cond.code yy_D_left bb_D_left 1 (some FieldType.int)) rm_D_left [.ref q] h n zz_mi (fun r h' n' => h' = h ∧ n' = n ∧ r = fu) := by
  refine zz_ofW (zz_f B) [some (.ref q)] (by decide) rfl rfl (Nat.le_of_ble_eq_true rfl) ?_
  intro p e s m below meth c C
  refine z_aload_n C dd_D_left_0 rfl ?_
  refine gf_D_45 C dd_D_left_1 hq rfl ?_
  refine gf_D_244 C dd_D_left_4 hm rfl ?_
  exact z_iret C dd_D_left_7 ⟨rfl, rfl, rfl⟩ (by decide) (by decide)
abbrev rm_D_tests : Room := { frames := 1, cells := 0, slots := 0, locals := 0 }
set_option maxRecDepth 20000 in
/-- the desk's tests -/
theorem cc_D_tests (l : Launch) (D : va_G) (dA : Nat → ClassId) (B : Nat) (h : zz_H) (n : Nat) (q c0 g0 m0 b0 k0 : Nat) (gc mc w0 w1 w2 : Int32) (hq : h q = some (.inr (0, [.ref c0, .ref g0, .int gc, .ref m0, .int mc, .ref b0, .ref k0, .int w0, .int w1, .int w2]))) (fu tc : Int32) (v2 v3 v4 : Value) (hm : h k0 = some (.inr (10, [.int fu, .int tc, v2, v3, v4]))) : zz_M l D zz_cl (zz_ty dA) B zz_tb (zz_x B) yy_D_tests (Cond.code yy_D_tests bb_D_tests 1 (some FieldType.int)) rm_D_tests [.ref q] h n zz_mi (fun r h' n' => h' = h ∧ n' = n ∧ r = tc) := by
  refine zz_ofW (zz_f B) [some (.ref q)] (by decide) rfl rfl (Nat.le_of_ble_eq_true rfl) ?_
  intro p e s m below meth c C
  refine z_aload_n C dd_D_tests_0 rfl ?_
  refine gf_D_45 C dd_D_tests_1 hq rfl ?_
  refine gf_D_247 C dd_D_tests_4 hm rfl ?_
  exact z_iret C dd_D_tests_7 ⟨rfl, rfl, rfl⟩ (by decide) (by decide)
abbrev rm_Q_in : Room := { frames := 1, cells := 0, slots := 0, locals := 0 }
set_option maxRecDepth 20000 in
/-- the reference's in -/
theorem cc_Q_in (l : Launch) (D : va_G) (dA : Nat → ClassId) (B : Nat) (h : zz_H) (n : Nat) (x y z : Int32) : zz_M l D zz_cl (zz_ty dA) B zz_tb (zz_x B) yy_Q_in (Cond.code yy_Q_in bb_Q_in 3 (some FieldType.boolean)) rm_Q_in [.int x, .int y, .int z] h n zz_mi (fun r h' n' => h' = h ∧ n' = n ∧ ((r = 1 ∧ ¬ x < y ∧ ¬ z < x) ∨ (r = 0 ∧ (x < y ∨ z < x)))) := by
  refine zz_ofW (zz_f B) [some (.int x), some (.int y), some (.int z)] (by decide) rfl rfl (Nat.le_of_ble_eq_true rfl) ?_
  intro p e s m below meth c C
  refine z_iload_n C dd_Q_in_0 rfl ?_
  refine z_iload_n C dd_Q_in_1 rfl ?_
  refine z_icmp_lt (tgt := 14) C dd_Q_in_2 (by decide) (fun q2 => ?_) (fun q2 => ?_)
  · skip
    refine z_iconst (v := 0) C dd_Q_in_14 (by decide) ?_
    exact z_zret C dd_Q_in_15 rfl ⟨rfl, rfl, (by first | exact Or.inl ⟨rfl, by assumption, by assumption⟩ | exact Or.inr ⟨rfl, Or.inl (by assumption)⟩ | exact Or.inr ⟨rfl, Or.inr (by assumption)⟩)⟩ (by decide) (by decide)
  · skip
    refine z_iload_n C dd_Q_in_5 rfl ?_
    refine z_iload_n C dd_Q_in_6 rfl ?_
    refine z_icmp_gt (tgt := 14) C dd_Q_in_7 (by decide) (fun q7 => ?_) (fun q7 => ?_)
    · skip
      refine z_iconst (v := 0) C dd_Q_in_14 (by decide) ?_
      exact z_zret C dd_Q_in_15 rfl ⟨rfl, rfl, (by first | exact Or.inl ⟨rfl, by assumption, by assumption⟩ | exact Or.inr ⟨rfl, Or.inl (by assumption)⟩ | exact Or.inr ⟨rfl, Or.inr (by assumption)⟩)⟩ (by decide) (by decide)
    · skip
      refine z_iconst (v := 1) C dd_Q_in_10 (by decide) ?_
      refine z_goto (tgt := 15) C dd_Q_in_11 (by decide) ?_
      exact z_zret C dd_Q_in_15 rfl ⟨rfl, rfl, (by first | exact Or.inl ⟨rfl, by assumption, by assumption⟩ | exact Or.inr ⟨rfl, Or.inl (by assumption)⟩ | exact Or.inr ⟨rfl, Or.inr (by assumption)⟩)⟩ (by decide) (by decide)
