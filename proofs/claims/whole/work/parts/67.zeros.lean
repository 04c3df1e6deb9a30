abbrev yy_I_ntz : MethodName := ⟨"java/lang/Integer", "numberOfTrailingZeros", "(I)I"⟩
abbrev yy_J_ntz : MethodName := ⟨"java/lang/Long", "numberOfTrailingZeros", "(J)I"⟩
abbrev bb_I_ntz : ByteArray := prog_18_method_48_code
abbrev bb_J_ntz : ByteArray := prog_19_method_49_code
theorem dd_I_ntz_0 : decode bb_I_ntz 0 = .ok (.iload_n 0, 1) := by decide +kernel
theorem dd_I_ntz_1 : decode bb_I_ntz 1 = .ok (.iconst (-1), 1) := by decide +kernel
theorem dd_I_ntz_2 : decode bb_I_ntz 2 = .ok (.ixor, 1) := by decide +kernel
theorem dd_I_ntz_3 : decode bb_I_ntz 3 = .ok (.iload_n 0, 1) := by decide +kernel
theorem dd_I_ntz_4 : decode bb_I_ntz 4 = .ok (.iconst 1, 1) := by decide +kernel
theorem dd_I_ntz_5 : decode bb_I_ntz 5 = .ok (.isub, 1) := by decide +kernel
theorem dd_I_ntz_6 : decode bb_I_ntz 6 = .ok (.iand, 1) := by decide +kernel
theorem dd_I_ntz_7 : decode bb_I_ntz 7 = .ok (.istore_n 0, 1) := by decide +kernel
theorem dd_I_ntz_8 : decode bb_I_ntz 8 = .ok (.iload_n 0, 1) := by decide +kernel
theorem dd_I_ntz_9 : decode bb_I_ntz 9 = .ok (.ifCond .gt 8, 3) := by decide +kernel
theorem dd_I_ntz_12 : decode bb_I_ntz 12 = .ok (.iload_n 0, 1) := by decide +kernel
theorem dd_I_ntz_13 : decode bb_I_ntz 13 = .ok (.bipush 32, 2) := by decide +kernel
theorem dd_I_ntz_15 : decode bb_I_ntz 15 = .ok (.iand, 1) := by decide +kernel
theorem dd_I_ntz_16 : decode bb_I_ntz 16 = .ok (.ireturn, 1) := by decide +kernel
theorem dd_I_ntz_17 : decode bb_I_ntz 17 = .ok (.iconst 1, 1) := by decide +kernel
theorem dd_I_ntz_18 : decode bb_I_ntz 18 = .ok (.istore_n 1, 1) := by decide +kernel
theorem dd_I_ntz_19 : decode bb_I_ntz 19 = .ok (.iload_n 0, 1) := by decide +kernel
theorem dd_I_ntz_20 : decode bb_I_ntz 20 = .ok (.ldc_w 264, 3) := by decide +kernel
theorem dd_I_ntz_23 : decode bb_I_ntz 23 = .ok (.if_icmp .le 11, 3) := by decide +kernel
theorem dd_I_ntz_26 : decode bb_I_ntz 26 = .ok (.iinc 1 16, 3) := by decide +kernel
theorem dd_I_ntz_29 : decode bb_I_ntz 29 = .ok (.iload_n 0, 1) := by decide +kernel
theorem dd_I_ntz_30 : decode bb_I_ntz 30 = .ok (.bipush 16, 2) := by decide +kernel
theorem dd_I_ntz_32 : decode bb_I_ntz 32 = .ok (.iushr, 1) := by decide +kernel
theorem dd_I_ntz_33 : decode bb_I_ntz 33 = .ok (.istore_n 0, 1) := by decide +kernel
theorem dd_I_ntz_34 : decode bb_I_ntz 34 = .ok (.iload_n 0, 1) := by decide +kernel
theorem dd_I_ntz_35 : decode bb_I_ntz 35 = .ok (.sipush 256, 3) := by decide +kernel
theorem dd_I_ntz_38 : decode bb_I_ntz 38 = .ok (.if_icmp .le 11, 3) := by decide +kernel
theorem dd_I_ntz_41 : decode bb_I_ntz 41 = .ok (.iinc 1 8, 3) := by decide +kernel
theorem dd_I_ntz_44 : decode bb_I_ntz 44 = .ok (.iload_n 0, 1) := by decide +kernel
theorem dd_I_ntz_45 : decode bb_I_ntz 45 = .ok (.bipush 8, 2) := by decide +kernel
theorem dd_I_ntz_47 : decode bb_I_ntz 47 = .ok (.iushr, 1) := by decide +kernel
theorem dd_I_ntz_48 : decode bb_I_ntz 48 = .ok (.istore_n 0, 1) := by decide +kernel
theorem dd_I_ntz_49 : decode bb_I_ntz 49 = .ok (.iload_n 0, 1) := by decide +kernel
theorem dd_I_ntz_50 : decode bb_I_ntz 50 = .ok (.bipush 16, 2) := by decide +kernel
theorem dd_I_ntz_52 : decode bb_I_ntz 52 = .ok (.if_icmp .le 10, 3) := by decide +kernel
theorem dd_I_ntz_55 : decode bb_I_ntz 55 = .ok (.iinc 1 4, 3) := by decide +kernel
theorem dd_I_ntz_58 : decode bb_I_ntz 58 = .ok (.iload_n 0, 1) := by decide +kernel
theorem dd_I_ntz_59 : decode bb_I_ntz 59 = .ok (.iconst 4, 1) := by decide +kernel
theorem dd_I_ntz_60 : decode bb_I_ntz 60 = .ok (.iushr, 1) := by decide +kernel
theorem dd_I_ntz_61 : decode bb_I_ntz 61 = .ok (.istore_n 0, 1) := by decide +kernel
theorem dd_I_ntz_62 : decode bb_I_ntz 62 = .ok (.iload_n 0, 1) := by decide +kernel
theorem dd_I_ntz_63 : decode bb_I_ntz 63 = .ok (.iconst 4, 1) := by decide +kernel
theorem dd_I_ntz_64 : decode bb_I_ntz 64 = .ok (.if_icmp .le 10, 3) := by decide +kernel
theorem dd_I_ntz_67 : decode bb_I_ntz 67 = .ok (.iinc 1 2, 3) := by decide +kernel
theorem dd_I_ntz_70 : decode bb_I_ntz 70 = .ok (.iload_n 0, 1) := by decide +kernel
theorem dd_I_ntz_71 : decode bb_I_ntz 71 = .ok (.iconst 2, 1) := by decide +kernel
theorem dd_I_ntz_72 : decode bb_I_ntz 72 = .ok (.iushr, 1) := by decide +kernel
theorem dd_I_ntz_73 : decode bb_I_ntz 73 = .ok (.istore_n 0, 1) := by decide +kernel
theorem dd_I_ntz_74 : decode bb_I_ntz 74 = .ok (.iload_n 1, 1) := by decide +kernel
theorem dd_I_ntz_75 : decode bb_I_ntz 75 = .ok (.iload_n 0, 1) := by decide +kernel
theorem dd_I_ntz_76 : decode bb_I_ntz 76 = .ok (.iconst 1, 1) := by decide +kernel
theorem dd_I_ntz_77 : decode bb_I_ntz 77 = .ok (.iushr, 1) := by decide +kernel
theorem dd_I_ntz_78 : decode bb_I_ntz 78 = .ok (.iadd, 1) := by decide +kernel
theorem dd_I_ntz_79 : decode bb_I_ntz 79 = .ok (.ireturn, 1) := by decide +kernel
theorem dd_J_ntz_0 : decode bb_J_ntz 0 = .ok (.lload_n 0, 1) := by decide +kernel
theorem dd_J_ntz_1 : decode bb_J_ntz 1 = .ok (.l2i, 1) := by decide +kernel
theorem dd_J_ntz_2 : decode bb_J_ntz 2 = .ok (.istore_n 2, 1) := by decide +kernel
theorem dd_J_ntz_3 : decode bb_J_ntz 3 = .ok (.iload_n 2, 1) := by decide +kernel
theorem dd_J_ntz_4 : decode bb_J_ntz 4 = .ok (.ifCond .ne 17, 3) := by decide +kernel
theorem dd_J_ntz_7 : decode bb_J_ntz 7 = .ok (.bipush 32, 2) := by decide +kernel
theorem dd_J_ntz_9 : decode bb_J_ntz 9 = .ok (.lload_n 0, 1) := by decide +kernel
theorem dd_J_ntz_10 : decode bb_J_ntz 10 = .ok (.bipush 32, 2) := by decide +kernel
theorem dd_J_ntz_12 : decode bb_J_ntz 12 = .ok (.lushr, 1) := by decide +kernel
theorem dd_J_ntz_13 : decode bb_J_ntz 13 = .ok (.l2i, 1) := by decide +kernel
theorem dd_J_ntz_14 : decode bb_J_ntz 14 = .ok (.invokestatic 311, 3) := by decide +kernel
theorem dd_J_ntz_17 : decode bb_J_ntz 17 = .ok (.iadd, 1) := by decide +kernel
theorem dd_J_ntz_18 : decode bb_J_ntz 18 = .ok (.goto 7, 3) := by decide +kernel
theorem dd_J_ntz_21 : decode bb_J_ntz 21 = .ok (.iload_n 2, 1) := by decide +kernel
theorem dd_J_ntz_22 : decode bb_J_ntz 22 = .ok (.invokestatic 311, 3) := by decide +kernel
theorem dd_J_ntz_25 : decode bb_J_ntz 25 = .ok (.ireturn, 1) := by decide +kernel
section ZNT
variable {D : va_G} {cl : List vw_C} {tys : List (ClassId × FieldType)} {B : Nat} {tb : List Cond} {X : State → Heap → Prop} {p : Program} {l : Launch} {e : Env} {R : Room} {s : State} {m : MethodId} {args : Array Value} {below : List Frame} {meth : Method} {c : Code} {Q : State → Prop} {h : zz_H} {n cells slots : Nat} {L : List (Option Value)} {cc : ByteArray} {pc : Nat} {rest : List Value} {own : String} {ret : Option FieldType} {nm : String} {dA : Nat → ClassId}
variable {ρ : Type} {mk : ρ → Option Value} {post : ρ → zz_H → Nat → Prop}
theorem z_ldcw (C : zz_C D cl tys B tb X p s m args meth c cc own ret nm) {index : Nat} {v : Int32} (hw : Cond.constant own index v ∈ tb) (d : decode cc pc = .ok (.ldc_w index, 3)) (k : zz_W D cl B p l e R s m args below meth c Q h n cells slots L (pc + 3) (.int v :: rest)) : zz_W D cl B p l e R s m args below meth c Q h n cells slots L pc (rest) := fun H locs ls a0 a1 a2 a3 => lv_ldcw C.1 C.2.1 C.2.2.1 (C.2.2.2.1 _ hw) d (k H locs ls a0 a1 a2 a3)
theorem is_B_64 (F : zz_F B zz_tb X) (C : zz_C D zz_cl (zz_ty dA) B zz_tb X p s m args meth c cc RR_B ret nm) {rm : Room} {As st0 : List Value} {sk : ρ → List Value} (d : decode cc pc = .ok (.invokestatic 64, 3)) (hM : zz_M l D zz_cl (zz_ty dA) B zz_tb X yy_J_ntz (Cond.code yy_J_ntz prog_19_method_49_code 3 (some FieldType.int)) rm As h n mk post) (hn : As.length = 1) (hst : st0 = As.reverse ++ rest) (hR : rm.frames + 1 ≤ R.frames ∧ 8 + (3 + 11) + rm.locals ≤ R.locals) (hW : (rest.map fun v => v.category).sum ≤ 8) (hf : cells + rm.cells ≤ R.cells ∧ slots + rm.slots ≤ R.slots) (hsk : ∀ r, (mk r).toList ++ rest = sk r) (kk : ∀ (r : ρ) (h' : zz_H) (n' : Nat), post r h' n' → zz_W D zz_cl B p l e R s m args below meth c Q h' n' (cells + rm.cells) (slots + rm.slots) L (pc + 3) (sk r)) : zz_W D zz_cl B p l e R s m args below meth c Q h n cells slots L pc st0 :=
  z_callS F C wd_729 wd_21 wd_727 wd_728 ⟨by decide, by decide, by decide +kernel⟩ d hM hn hst hR hW hf hsk kk
theorem is_J_311 (F : zz_F B zz_tb X) (C : zz_C D zz_cl (zz_ty dA) B zz_tb X p s m args meth c cc "java/lang/Long" ret nm) {rm : Room} {As st0 : List Value} {sk : ρ → List Value} (d : decode cc pc = .ok (.invokestatic 311, 3)) (hM : zz_M l D zz_cl (zz_ty dA) B zz_tb X yy_I_ntz (Cond.code yy_I_ntz prog_18_method_48_code 2 (some FieldType.int)) rm As h n mk post) (hn : As.length = 1) (hst : st0 = As.reverse ++ rest) (hR : rm.frames + 1 ≤ R.frames ∧ 8 + (2 + 11) + rm.locals ≤ R.locals) (hW : (rest.map fun v => v.category).sum ≤ 8) (hf : cells + rm.cells ≤ R.cells ∧ slots + rm.slots ≤ R.slots) (hsk : ∀ r, (mk r).toList ++ rest = sk r) (kk : ∀ (r : ρ) (h' : zz_H) (n' : Nat), post r h' n' → zz_W D zz_cl B p l e R s m args below meth c Q h' n' (cells + rm.cells) (slots + rm.slots) L (pc + 3) (sk r)) : zz_W D zz_cl B p l e R s m args below meth c Q h n cells slots L pc st0 :=
  z_callS F C wd_732 wd_22 wd_730 wd_731 ⟨by decide, by decide, by decide +kernel⟩ d hM hn hst hR hW hf hsk kk
end ZNT
/-! the bits below the lowest -/
theorem bt_n (x : Int32) (i : Nat) : bt x i = x.toBitVec.toNat.testBit i := rfl
theorem nt_low {u t : Nat} (h1 : u.testBit t = true) (h2 : ∀ i, i < t → u.testBit i = false) : u = 2 ^ (t + 1) * (u / 2 ^ (t + 1)) + 2 ^ t := by
  have e : u % 2 ^ (t + 1) = 2 ^ t := by
    apply Nat.eq_of_testBit_eq
    intro i
    rw [Nat.testBit_mod_two_pow, Nat.testBit_two_pow]
    rcases Nat.lt_trichotomy i t with c | c | c
    · rw [h2 i c]
      have : ¬ t = i := by omega
      simp [this]
    · subst c
      rw [h1]
      simp
    · have h3 : ¬ i < t + 1 := by omega
      have h4 : ¬ t = i := by omega
      simp [h3, h4]
  have := Nat.div_add_mod u (2 ^ (t + 1))
  rw [e] at this
  exact this.symm
theorem nt_mask {x : Int32} {t : Nat} (ht : t < 32) (h1 : bt x t = true) (h2 : ∀ i, i < t → bt x i = false) : (x ^^^ (-1)) &&& (x - 1) = nI (2 ^ t - 1) := by
  obtain ⟨u, eu⟩ : ∃ u, x.toBitVec.toNat = u := ⟨_, rfl⟩
  have hu : u < 2 ^ 32 := by rw [← eu]; exact x.toBitVec.isLt
  have g1 : u.testBit t = true := by rw [← eu]; exact h1
  have g2 : ∀ i, i < t → u.testBit i = false := fun i hi => by rw [← eu]; exact h2 i hi
  have low := nt_low g1 g2
  obtain ⟨k, ek⟩ : ∃ k, u / 2 ^ (t + 1) = k := ⟨_, rfl⟩
  rw [ek] at low
  have hp : 0 < 2 ^ t := Nat.pow_pos (by decide)
  have e1 : (x - 1).toBitVec.toNat = u - 1 := by
    rw [Int32.toBitVec_sub, BitVec.toNat_sub, eu]
    have : (1 : Int32).toBitVec.toNat = 1 := by decide
    rw [this]
    omega
  have e2 : u - 1 = 2 ^ (t + 1) * k + (2 ^ t - 1) := by omega
  have hlt : 2 ^ t - 1 < 2 ^ (t + 1) := by rw [Nat.pow_succ]; omega
  have hlt2 : 2 ^ t < 2 ^ (t + 1) := by rw [Nat.pow_succ]; omega
  apply b_ext
  intro i hi
  rw [b_and, b_xor, b_m1 i hi, bt_n (x - 1), e1, e2, Nat.testBit_two_pow_mul_add k hlt]
  have e3 : bt (nI (2 ^ t - 1)) i = decide (i < t) := by
    rw [bt_n]
    have : (nI (2 ^ t - 1)).toBitVec.toNat = 2 ^ t - 1 := by
      refine pk_tn ?_
      have : 2 ^ t ≤ 2 ^ 31 := Nat.pow_le_pow_right (by decide) (by omega)
      omega
    rw [this, Nat.testBit_two_pow_sub_one]
  rw [e3]
  have e4 : bt x i = (2 ^ (t + 1) * k + 2 ^ t).testBit i := by rw [← low, ← eu]; rfl
  rw [e4, Nat.testBit_two_pow_mul_add k hlt2]
  by_cases c : i < t + 1
  · rw [if_pos c, if_pos c, Nat.testBit_two_pow_sub_one, Nat.testBit_two_pow]
    by_cases c2 : i < t
    · have : ¬ t = i := by omega
      simp [c2, this]
    · simp [c2]
  · rw [if_neg c, if_neg c]
    have : ¬ i < t := by omega
    simp [this]
abbrev rm_I_ntz : Room := { frames := 1, cells := 0, slots := 0, locals := 0 }
set_option maxRecDepth 20000 in
theorem cd_I_ntz (l : Launch) (D : va_G) (dA : Nat → ClassId) (B : Nat) (h : zz_H) (n : Nat) (x : Int32) (t : Nat) (ht : t < 32) (h1 : bt x t = true) (h2 : ∀ i, i < t → bt x i = false) : zz_M l D zz_cl (zz_ty dA) B zz_tb (zz_x B) yy_I_ntz (Cond.code yy_I_ntz bb_I_ntz 2 (some FieldType.int)) rm_I_ntz [.int x] h n zz_mi (fun r h' n' => n' = n ∧ h' = h ∧ r = nI t) := by
  refine zz_ofW (zz_f B) [some (.int x), none] (by decide) rfl rfl (Nat.le_of_ble_eq_true rfl) ?_
  intro p e s m below meth c C
  refine z_iload_n C dd_I_ntz_0 rfl ?_
  refine z_iconst (v := (-1)) C dd_I_ntz_1 (by decide) ?_
  refine z_ixor C dd_I_ntz_2 ?_
  refine z_iload_n C dd_I_ntz_3 rfl ?_
  refine z_iconst (v := 1) C dd_I_ntz_4 (by decide) ?_
  refine z_isub C dd_I_ntz_5 ?_
  refine z_iand C dd_I_ntz_6 ?_
  refine z_topi (y := nI (2 ^ t - 1)) (nt_mask ht h1 h2).symm ?_
  refine z_istore_n C dd_I_ntz_7 rfl ?_
  clear h1 h2
  have ht2 : t = 0 ∨ t = 1 ∨ t = 2 ∨ t = 3 ∨ t = 4 ∨ t = 5 ∨ t = 6 ∨ t = 7 ∨ t = 8 ∨ t = 9 ∨ t = 10 ∨ t = 11 ∨ t = 12 ∨ t = 13 ∨ t = 14 ∨ t = 15 ∨ t = 16 ∨ t = 17 ∨ t = 18 ∨ t = 19 ∨ t = 20 ∨ t = 21 ∨ t = 22 ∨ t = 23 ∨ t = 24 ∨ t = 25 ∨ t = 26 ∨ t = 27 ∨ t = 28 ∨ t = 29 ∨ t = 30 ∨ t = 31 := by omega
  rcases ht2 with rfl | rfl | rfl | rfl | rfl | rfl | rfl | rfl | rfl | rfl | rfl | rfl | rfl | rfl | rfl | rfl | rfl | rfl | rfl | rfl | rfl | rfl | rfl | rfl | rfl | rfl | rfl | rfl | rfl | rfl | rfl | rfl
  · skip
    refine z_iload_n C dd_I_ntz_8 rfl ?_
    refine z_topi (y := 0) (by decide) ?_
    refine z_if_gt (tgt := 17) C dd_I_ntz_9 (by decide) (fun q => absurd q (by decide)) (fun _ => ?_)
    refine z_iload_n C dd_I_ntz_12 rfl ?_
    refine z_bipush (v := 32) C dd_I_ntz_13 (by decide) ?_
    refine z_iand C dd_I_ntz_15 ?_
    refine z_topi (y := nI 0) (by decide) ?_
    exact z_iret C dd_I_ntz_16 ⟨rfl, rfl, rfl⟩ (by decide) (by decide)
  · skip
    refine z_iload_n C dd_I_ntz_8 rfl ?_
    refine z_topi (y := 1) (by decide) ?_
    refine z_if_gt (tgt := 17) C dd_I_ntz_9 (by decide) (fun _ => ?_) (fun q => absurd (by decide) q)
    refine z_iconst (v := 1) C dd_I_ntz_17 (by decide) ?_
    refine z_istore_n C dd_I_ntz_18 rfl ?_
    refine z_iload_n C dd_I_ntz_19 rfl ?_
    refine z_topi (y := 1) (by decide) ?_
    refine z_ldcw (v := 65536) C wd_733 dd_I_ntz_20 ?_
    refine z_icmp_le (tgt := 34) C dd_I_ntz_23 (by decide) (fun _ => ?_) (fun q => absurd (by decide) q)
    refine z_iload_n C dd_I_ntz_34 rfl ?_
    refine z_topi (y := 1) (by decide) ?_
    refine z_sipush (v := 256) C dd_I_ntz_35 (by decide) ?_
    refine z_icmp_le (tgt := 49) C dd_I_ntz_38 (by decide) (fun _ => ?_) (fun q => absurd (by decide) q)
    refine z_iload_n C dd_I_ntz_49 rfl ?_
    refine z_topi (y := 1) (by decide) ?_
    refine z_bipush (v := 16) C dd_I_ntz_50 (by decide) ?_
    refine z_icmp_le (tgt := 62) C dd_I_ntz_52 (by decide) (fun _ => ?_) (fun q => absurd (by decide) q)
    refine z_iload_n C dd_I_ntz_62 rfl ?_
    refine z_topi (y := 1) (by decide) ?_
    refine z_iconst (v := 4) C dd_I_ntz_63 (by decide) ?_
    refine z_icmp_le (tgt := 74) C dd_I_ntz_64 (by decide) (fun _ => ?_) (fun q => absurd (by decide) q)
    refine z_iload_n C dd_I_ntz_74 rfl ?_
    refine z_topi (y := 1) (by decide) ?_
    refine z_iload_n C dd_I_ntz_75 rfl ?_
    refine z_iconst (v := 1) C dd_I_ntz_76 (by decide) ?_
    refine z_iushr C dd_I_ntz_77 ?_
    refine z_topi (y := 0) (by decide) ?_
    refine z_iadd C dd_I_ntz_78 ?_
    refine z_topi (y := nI 1) (by decide) ?_
    exact z_iret C dd_I_ntz_79 ⟨rfl, rfl, rfl⟩ (by decide) (by decide)
  · skip
    refine z_iload_n C dd_I_ntz_8 rfl ?_
    refine z_topi (y := 3) (by decide) ?_
    refine z_if_gt (tgt := 17) C dd_I_ntz_9 (by decide) (fun _ => ?_) (fun q => absurd (by decide) q)
    refine z_iconst (v := 1) C dd_I_ntz_17 (by decide) ?_
    refine z_istore_n C dd_I_ntz_18 rfl ?_
    refine z_iload_n C dd_I_ntz_19 rfl ?_
    refine z_topi (y := 3) (by decide) ?_
    refine z_ldcw (v := 65536) C wd_733 dd_I_ntz_20 ?_
    refine z_icmp_le (tgt := 34) C dd_I_ntz_23 (by decide) (fun _ => ?_) (fun q => absurd (by decide) q)
    refine z_iload_n C dd_I_ntz_34 rfl ?_
    refine z_topi (y := 3) (by decide) ?_
    refine z_sipush (v := 256) C dd_I_ntz_35 (by decide) ?_
    refine z_icmp_le (tgt := 49) C dd_I_ntz_38 (by decide) (fun _ => ?_) (fun q => absurd (by decide) q)
    refine z_iload_n C dd_I_ntz_49 rfl ?_
    refine z_topi (y := 3) (by decide) ?_
    refine z_bipush (v := 16) C dd_I_ntz_50 (by decide) ?_
    refine z_icmp_le (tgt := 62) C dd_I_ntz_52 (by decide) (fun _ => ?_) (fun q => absurd (by decide) q)
    refine z_iload_n C dd_I_ntz_62 rfl ?_
    refine z_topi (y := 3) (by decide) ?_
    refine z_iconst (v := 4) C dd_I_ntz_63 (by decide) ?_
    refine z_icmp_le (tgt := 74) C dd_I_ntz_64 (by decide) (fun _ => ?_) (fun q => absurd (by decide) q)
    refine z_iload_n C dd_I_ntz_74 rfl ?_
    refine z_topi (y := 1) (by decide) ?_
    refine z_iload_n C dd_I_ntz_75 rfl ?_
    refine z_iconst (v := 1) C dd_I_ntz_76 (by decide) ?_
    refine z_iushr C dd_I_ntz_77 ?_
    refine z_topi (y := 1) (by decide) ?_
    refine z_iadd C dd_I_ntz_78 ?_
    refine z_topi (y := nI 2) (by decide) ?_
    exact z_iret C dd_I_ntz_79 ⟨rfl, rfl, rfl⟩ (by decide) (by decide)
  · skip
    refine z_iload_n C dd_I_ntz_8 rfl ?_
    refine z_topi (y := 7) (by decide) ?_
    refine z_if_gt (tgt := 17) C dd_I_ntz_9 (by decide) (fun _ => ?_) (fun q => absurd (by decide) q)
    refine z_iconst (v := 1) C dd_I_ntz_17 (by decide) ?_
    refine z_istore_n C dd_I_ntz_18 rfl ?_
    refine z_iload_n C dd_I_ntz_19 rfl ?_
    refine z_topi (y := 7) (by decide) ?_
    refine z_ldcw (v := 65536) C wd_733 dd_I_ntz_20 ?_
    refine z_icmp_le (tgt := 34) C dd_I_ntz_23 (by decide) (fun _ => ?_) (fun q => absurd (by decide) q)
    refine z_iload_n C dd_I_ntz_34 rfl ?_
    refine z_topi (y := 7) (by decide) ?_
    refine z_sipush (v := 256) C dd_I_ntz_35 (by decide) ?_
    refine z_icmp_le (tgt := 49) C dd_I_ntz_38 (by decide) (fun _ => ?_) (fun q => absurd (by decide) q)
    refine z_iload_n C dd_I_ntz_49 rfl ?_
    refine z_topi (y := 7) (by decide) ?_
    refine z_bipush (v := 16) C dd_I_ntz_50 (by decide) ?_
    refine z_icmp_le (tgt := 62) C dd_I_ntz_52 (by decide) (fun _ => ?_) (fun q => absurd (by decide) q)
    refine z_iload_n C dd_I_ntz_62 rfl ?_
    refine z_topi (y := 7) (by decide) ?_
    refine z_iconst (v := 4) C dd_I_ntz_63 (by decide) ?_
    refine z_icmp_le (tgt := 74) C dd_I_ntz_64 (by decide) (fun q => absurd q (by decide)) (fun _ => ?_)
    refine z_iinc C dd_I_ntz_67 rfl rfl ?_
    refine z_iload_n C dd_I_ntz_70 rfl ?_
    refine z_iconst (v := 2) C dd_I_ntz_71 (by decide) ?_
    refine z_iushr C dd_I_ntz_72 ?_
    refine z_topi (y := 1) (by decide) ?_
    refine z_istore_n C dd_I_ntz_73 rfl ?_
    refine z_iload_n C dd_I_ntz_74 rfl ?_
    refine z_topi (y := 3) (by decide) ?_
    refine z_iload_n C dd_I_ntz_75 rfl ?_
    refine z_iconst (v := 1) C dd_I_ntz_76 (by decide) ?_
    refine z_iushr C dd_I_ntz_77 ?_
    refine z_topi (y := 0) (by decide) ?_
    refine z_iadd C dd_I_ntz_78 ?_
    refine z_topi (y := nI 3) (by decide) ?_
    exact z_iret C dd_I_ntz_79 ⟨rfl, rfl, rfl⟩ (by decide) (by decide)
  · skip
    refine z_iload_n C dd_I_ntz_8 rfl ?_
    refine z_topi (y := 15) (by decide) ?_
    refine z_if_gt (tgt := 17) C dd_I_ntz_9 (by decide) (fun _ => ?_) (fun q => absurd (by decide) q)
    refine z_iconst (v := 1) C dd_I_ntz_17 (by decide) ?_
    refine z_istore_n C dd_I_ntz_18 rfl ?_
    refine z_iload_n C dd_I_ntz_19 rfl ?_
    refine z_topi (y := 15) (by decide) ?_
    refine z_ldcw (v := 65536) C wd_733 dd_I_ntz_20 ?_
    refine z_icmp_le (tgt := 34) C dd_I_ntz_23 (by decide) (fun _ => ?_) (fun q => absurd (by decide) q)
    refine z_iload_n C dd_I_ntz_34 rfl ?_
    refine z_topi (y := 15) (by decide) ?_
    refine z_sipush (v := 256) C dd_I_ntz_35 (by decide) ?_
    refine z_icmp_le (tgt := 49) C dd_I_ntz_38 (by decide) (fun _ => ?_) (fun q => absurd (by decide) q)
    refine z_iload_n C dd_I_ntz_49 rfl ?_
    refine z_topi (y := 15) (by decide) ?_
    refine z_bipush (v := 16) C dd_I_ntz_50 (by decide) ?_
    refine z_icmp_le (tgt := 62) C dd_I_ntz_52 (by decide) (fun _ => ?_) (fun q => absurd (by decide) q)
    refine z_iload_n C dd_I_ntz_62 rfl ?_
    refine z_topi (y := 15) (by decide) ?_
    refine z_iconst (v := 4) C dd_I_ntz_63 (by decide) ?_
    refine z_icmp_le (tgt := 74) C dd_I_ntz_64 (by decide) (fun q => absurd q (by decide)) (fun _ => ?_)
    refine z_iinc C dd_I_ntz_67 rfl rfl ?_
    refine z_iload_n C dd_I_ntz_70 rfl ?_
    refine z_iconst (v := 2) C dd_I_ntz_71 (by decide) ?_
    refine z_iushr C dd_I_ntz_72 ?_
    refine z_topi (y := 3) (by decide) ?_
    refine z_istore_n C dd_I_ntz_73 rfl ?_
    refine z_iload_n C dd_I_ntz_74 rfl ?_
    refine z_topi (y := 3) (by decide) ?_
    refine z_iload_n C dd_I_ntz_75 rfl ?_
    refine z_iconst (v := 1) C dd_I_ntz_76 (by decide) ?_
    refine z_iushr C dd_I_ntz_77 ?_
    refine z_topi (y := 1) (by decide) ?_
    refine z_iadd C dd_I_ntz_78 ?_
    refine z_topi (y := nI 4) (by decide) ?_
    exact z_iret C dd_I_ntz_79 ⟨rfl, rfl, rfl⟩ (by decide) (by decide)
  · skip
    refine z_iload_n C dd_I_ntz_8 rfl ?_
    refine z_topi (y := 31) (by decide) ?_
    refine z_if_gt (tgt := 17) C dd_I_ntz_9 (by decide) (fun _ => ?_) (fun q => absurd (by decide) q)
    refine z_iconst (v := 1) C dd_I_ntz_17 (by decide) ?_
    refine z_istore_n C dd_I_ntz_18 rfl ?_
    refine z_iload_n C dd_I_ntz_19 rfl ?_
    refine z_topi (y := 31) (by decide) ?_
    refine z_ldcw (v := 65536) C wd_733 dd_I_ntz_20 ?_
    refine z_icmp_le (tgt := 34) C dd_I_ntz_23 (by decide) (fun _ => ?_) (fun q => absurd (by decide) q)
    refine z_iload_n C dd_I_ntz_34 rfl ?_
    refine z_topi (y := 31) (by decide) ?_
    refine z_sipush (v := 256) C dd_I_ntz_35 (by decide) ?_
    refine z_icmp_le (tgt := 49) C dd_I_ntz_38 (by decide) (fun _ => ?_) (fun q => absurd (by decide) q)
    refine z_iload_n C dd_I_ntz_49 rfl ?_
    refine z_topi (y := 31) (by decide) ?_
    refine z_bipush (v := 16) C dd_I_ntz_50 (by decide) ?_
    refine z_icmp_le (tgt := 62) C dd_I_ntz_52 (by decide) (fun q => absurd q (by decide)) (fun _ => ?_)
    refine z_iinc C dd_I_ntz_55 rfl rfl ?_
    refine z_iload_n C dd_I_ntz_58 rfl ?_
    refine z_iconst (v := 4) C dd_I_ntz_59 (by decide) ?_
    refine z_iushr C dd_I_ntz_60 ?_
    refine z_topi (y := 1) (by decide) ?_
    refine z_istore_n C dd_I_ntz_61 rfl ?_
    refine z_iload_n C dd_I_ntz_62 rfl ?_
    refine z_topi (y := 1) (by decide) ?_
    refine z_iconst (v := 4) C dd_I_ntz_63 (by decide) ?_
    refine z_icmp_le (tgt := 74) C dd_I_ntz_64 (by decide) (fun _ => ?_) (fun q => absurd (by decide) q)
    refine z_iload_n C dd_I_ntz_74 rfl ?_
    refine z_topi (y := 5) (by decide) ?_
    refine z_iload_n C dd_I_ntz_75 rfl ?_
    refine z_iconst (v := 1) C dd_I_ntz_76 (by decide) ?_
    refine z_iushr C dd_I_ntz_77 ?_
    refine z_topi (y := 0) (by decide) ?_
    refine z_iadd C dd_I_ntz_78 ?_
    refine z_topi (y := nI 5) (by decide) ?_
    exact z_iret C dd_I_ntz_79 ⟨rfl, rfl, rfl⟩ (by decide) (by decide)
  · skip
    refine z_iload_n C dd_I_ntz_8 rfl ?_
    refine z_topi (y := 63) (by decide) ?_
    refine z_if_gt (tgt := 17) C dd_I_ntz_9 (by decide) (fun _ => ?_) (fun q => absurd (by decide) q)
    refine z_iconst (v := 1) C dd_I_ntz_17 (by decide) ?_
    refine z_istore_n C dd_I_ntz_18 rfl ?_
    refine z_iload_n C dd_I_ntz_19 rfl ?_
    refine z_topi (y := 63) (by decide) ?_
    refine z_ldcw (v := 65536) C wd_733 dd_I_ntz_20 ?_
    refine z_icmp_le (tgt := 34) C dd_I_ntz_23 (by decide) (fun _ => ?_) (fun q => absurd (by decide) q)
    refine z_iload_n C dd_I_ntz_34 rfl ?_
    refine z_topi (y := 63) (by decide) ?_
    refine z_sipush (v := 256) C dd_I_ntz_35 (by decide) ?_
    refine z_icmp_le (tgt := 49) C dd_I_ntz_38 (by decide) (fun _ => ?_) (fun q => absurd (by decide) q)
    refine z_iload_n C dd_I_ntz_49 rfl ?_
    refine z_topi (y := 63) (by decide) ?_
    refine z_bipush (v := 16) C dd_I_ntz_50 (by decide) ?_
    refine z_icmp_le (tgt := 62) C dd_I_ntz_52 (by decide) (fun q => absurd q (by decide)) (fun _ => ?_)
    refine z_iinc C dd_I_ntz_55 rfl rfl ?_
    refine z_iload_n C dd_I_ntz_58 rfl ?_
    refine z_iconst (v := 4) C dd_I_ntz_59 (by decide) ?_
    refine z_iushr C dd_I_ntz_60 ?_
    refine z_topi (y := 3) (by decide) ?_
    refine z_istore_n C dd_I_ntz_61 rfl ?_
    refine z_iload_n C dd_I_ntz_62 rfl ?_
    refine z_topi (y := 3) (by decide) ?_
    refine z_iconst (v := 4) C dd_I_ntz_63 (by decide) ?_
    refine z_icmp_le (tgt := 74) C dd_I_ntz_64 (by decide) (fun _ => ?_) (fun q => absurd (by decide) q)
    refine z_iload_n C dd_I_ntz_74 rfl ?_
    refine z_topi (y := 5) (by decide) ?_
    refine z_iload_n C dd_I_ntz_75 rfl ?_
    refine z_iconst (v := 1) C dd_I_ntz_76 (by decide) ?_
    refine z_iushr C dd_I_ntz_77 ?_
    refine z_topi (y := 1) (by decide) ?_
    refine z_iadd C dd_I_ntz_78 ?_
    refine z_topi (y := nI 6) (by decide) ?_
    exact z_iret C dd_I_ntz_79 ⟨rfl, rfl, rfl⟩ (by decide) (by decide)
  · skip
    refine z_iload_n C dd_I_ntz_8 rfl ?_
    refine z_topi (y := 127) (by decide) ?_
    refine z_if_gt (tgt := 17) C dd_I_ntz_9 (by decide) (fun _ => ?_) (fun q => absurd (by decide) q)
    refine z_iconst (v := 1) C dd_I_ntz_17 (by decide) ?_
    refine z_istore_n C dd_I_ntz_18 rfl ?_
    refine z_iload_n C dd_I_ntz_19 rfl ?_
    refine z_topi (y := 127) (by decide) ?_
    refine z_ldcw (v := 65536) C wd_733 dd_I_ntz_20 ?_
    refine z_icmp_le (tgt := 34) C dd_I_ntz_23 (by decide) (fun _ => ?_) (fun q => absurd (by decide) q)
    refine z_iload_n C dd_I_ntz_34 rfl ?_
    refine z_topi (y := 127) (by decide) ?_
    refine z_sipush (v := 256) C dd_I_ntz_35 (by decide) ?_
    refine z_icmp_le (tgt := 49) C dd_I_ntz_38 (by decide) (fun _ => ?_) (fun q => absurd (by decide) q)
    refine z_iload_n C dd_I_ntz_49 rfl ?_
    refine z_topi (y := 127) (by decide) ?_
    refine z_bipush (v := 16) C dd_I_ntz_50 (by decide) ?_
    refine z_icmp_le (tgt := 62) C dd_I_ntz_52 (by decide) (fun q => absurd q (by decide)) (fun _ => ?_)
    refine z_iinc C dd_I_ntz_55 rfl rfl ?_
    refine z_iload_n C dd_I_ntz_58 rfl ?_
    refine z_iconst (v := 4) C dd_I_ntz_59 (by decide) ?_
    refine z_iushr C dd_I_ntz_60 ?_
    refine z_topi (y := 7) (by decide) ?_
    refine z_istore_n C dd_I_ntz_61 rfl ?_
    refine z_iload_n C dd_I_ntz_62 rfl ?_
    refine z_topi (y := 7) (by decide) ?_
    refine z_iconst (v := 4) C dd_I_ntz_63 (by decide) ?_
    refine z_icmp_le (tgt := 74) C dd_I_ntz_64 (by decide) (fun q => absurd q (by decide)) (fun _ => ?_)
    refine z_iinc C dd_I_ntz_67 rfl rfl ?_
    refine z_iload_n C dd_I_ntz_70 rfl ?_
    refine z_iconst (v := 2) C dd_I_ntz_71 (by decide) ?_
    refine z_iushr C dd_I_ntz_72 ?_
    refine z_topi (y := 1) (by decide) ?_
    refine z_istore_n C dd_I_ntz_73 rfl ?_
    refine z_iload_n C dd_I_ntz_74 rfl ?_
    refine z_topi (y := 7) (by decide) ?_
    refine z_iload_n C dd_I_ntz_75 rfl ?_
    refine z_iconst (v := 1) C dd_I_ntz_76 (by decide) ?_
    refine z_iushr C dd_I_ntz_77 ?_
    refine z_topi (y := 0) (by decide) ?_
    refine z_iadd C dd_I_ntz_78 ?_
    refine z_topi (y := nI 7) (by decide) ?_
    exact z_iret C dd_I_ntz_79 ⟨rfl, rfl, rfl⟩ (by decide) (by decide)
  · skip
    refine z_iload_n C dd_I_ntz_8 rfl ?_
    refine z_topi (y := 255) (by decide) ?_
    refine z_if_gt (tgt := 17) C dd_I_ntz_9 (by decide) (fun _ => ?_) (fun q => absurd (by decide) q)
    refine z_iconst (v := 1) C dd_I_ntz_17 (by decide) ?_
    refine z_istore_n C dd_I_ntz_18 rfl ?_
    refine z_iload_n C dd_I_ntz_19 rfl ?_
    refine z_topi (y := 255) (by decide) ?_
    refine z_ldcw (v := 65536) C wd_733 dd_I_ntz_20 ?_
    refine z_icmp_le (tgt := 34) C dd_I_ntz_23 (by decide) (fun _ => ?_) (fun q => absurd (by decide) q)
    refine z_iload_n C dd_I_ntz_34 rfl ?_
    refine z_topi (y := 255) (by decide) ?_
    refine z_sipush (v := 256) C dd_I_ntz_35 (by decide) ?_
    refine z_icmp_le (tgt := 49) C dd_I_ntz_38 (by decide) (fun _ => ?_) (fun q => absurd (by decide) q)
    refine z_iload_n C dd_I_ntz_49 rfl ?_
    refine z_topi (y := 255) (by decide) ?_
    refine z_bipush (v := 16) C dd_I_ntz_50 (by decide) ?_
    refine z_icmp_le (tgt := 62) C dd_I_ntz_52 (by decide) (fun q => absurd q (by decide)) (fun _ => ?_)
    refine z_iinc C dd_I_ntz_55 rfl rfl ?_
    refine z_iload_n C dd_I_ntz_58 rfl ?_
    refine z_iconst (v := 4) C dd_I_ntz_59 (by decide) ?_
    refine z_iushr C dd_I_ntz_60 ?_
    refine z_topi (y := 15) (by decide) ?_
    refine z_istore_n C dd_I_ntz_61 rfl ?_
    refine z_iload_n C dd_I_ntz_62 rfl ?_
    refine z_topi (y := 15) (by decide) ?_
    refine z_iconst (v := 4) C dd_I_ntz_63 (by decide) ?_
    refine z_icmp_le (tgt := 74) C dd_I_ntz_64 (by decide) (fun q => absurd q (by decide)) (fun _ => ?_)
    refine z_iinc C dd_I_ntz_67 rfl rfl ?_
    refine z_iload_n C dd_I_ntz_70 rfl ?_
    refine z_iconst (v := 2) C dd_I_ntz_71 (by decide) ?_
    refine z_iushr C dd_I_ntz_72 ?_
    refine z_topi (y := 3) (by decide) ?_
    refine z_istore_n C dd_I_ntz_73 rfl ?_
    refine z_iload_n C dd_I_ntz_74 rfl ?_
    refine z_topi (y := 7) (by decide) ?_
    refine z_iload_n C dd_I_ntz_75 rfl ?_
    refine z_iconst (v := 1) C dd_I_ntz_76 (by decide) ?_
    refine z_iushr C dd_I_ntz_77 ?_
    refine z_topi (y := 1) (by decide) ?_
    refine z_iadd C dd_I_ntz_78 ?_
    refine z_topi (y := nI 8) (by decide) ?_
    exact z_iret C dd_I_ntz_79 ⟨rfl, rfl, rfl⟩ (by decide) (by decide)
  · skip
    refine z_iload_n C dd_I_ntz_8 rfl ?_
    refine z_topi (y := 511) (by decide) ?_
    refine z_if_gt (tgt := 17) C dd_I_ntz_9 (by decide) (fun _ => ?_) (fun q => absurd (by decide) q)
    refine z_iconst (v := 1) C dd_I_ntz_17 (by decide) ?_
    refine z_istore_n C dd_I_ntz_18 rfl ?_
    refine z_iload_n C dd_I_ntz_19 rfl ?_
    refine z_topi (y := 511) (by decide) ?_
    refine z_ldcw (v := 65536) C wd_733 dd_I_ntz_20 ?_
    refine z_icmp_le (tgt := 34) C dd_I_ntz_23 (by decide) (fun _ => ?_) (fun q => absurd (by decide) q)
    refine z_iload_n C dd_I_ntz_34 rfl ?_
    refine z_topi (y := 511) (by decide) ?_
    refine z_sipush (v := 256) C dd_I_ntz_35 (by decide) ?_
    refine z_icmp_le (tgt := 49) C dd_I_ntz_38 (by decide) (fun q => absurd q (by decide)) (fun _ => ?_)
    refine z_iinc C dd_I_ntz_41 rfl rfl ?_
    refine z_iload_n C dd_I_ntz_44 rfl ?_
    refine z_bipush (v := 8) C dd_I_ntz_45 (by decide) ?_
    refine z_iushr C dd_I_ntz_47 ?_
    refine z_topi (y := 1) (by decide) ?_
    refine z_istore_n C dd_I_ntz_48 rfl ?_
    refine z_iload_n C dd_I_ntz_49 rfl ?_
    refine z_topi (y := 1) (by decide) ?_
    refine z_bipush (v := 16) C dd_I_ntz_50 (by decide) ?_
    refine z_icmp_le (tgt := 62) C dd_I_ntz_52 (by decide) (fun _ => ?_) (fun q => absurd (by decide) q)
    refine z_iload_n C dd_I_ntz_62 rfl ?_
    refine z_topi (y := 1) (by decide) ?_
    refine z_iconst (v := 4) C dd_I_ntz_63 (by decide) ?_
    refine z_icmp_le (tgt := 74) C dd_I_ntz_64 (by decide) (fun _ => ?_) (fun q => absurd (by decide) q)
    refine z_iload_n C dd_I_ntz_74 rfl ?_
    refine z_topi (y := 9) (by decide) ?_
    refine z_iload_n C dd_I_ntz_75 rfl ?_
    refine z_iconst (v := 1) C dd_I_ntz_76 (by decide) ?_
    refine z_iushr C dd_I_ntz_77 ?_
    refine z_topi (y := 0) (by decide) ?_
    refine z_iadd C dd_I_ntz_78 ?_
    refine z_topi (y := nI 9) (by decide) ?_
    exact z_iret C dd_I_ntz_79 ⟨rfl, rfl, rfl⟩ (by decide) (by decide)
  · skip
    refine z_iload_n C dd_I_ntz_8 rfl ?_
    refine z_topi (y := 1023) (by decide) ?_
    refine z_if_gt (tgt := 17) C dd_I_ntz_9 (by decide) (fun _ => ?_) (fun q => absurd (by decide) q)
    refine z_iconst (v := 1) C dd_I_ntz_17 (by decide) ?_
    refine z_istore_n C dd_I_ntz_18 rfl ?_
    refine z_iload_n C dd_I_ntz_19 rfl ?_
    refine z_topi (y := 1023) (by decide) ?_
    refine z_ldcw (v := 65536) C wd_733 dd_I_ntz_20 ?_
    refine z_icmp_le (tgt := 34) C dd_I_ntz_23 (by decide) (fun _ => ?_) (fun q => absurd (by decide) q)
    refine z_iload_n C dd_I_ntz_34 rfl ?_
    refine z_topi (y := 1023) (by decide) ?_
    refine z_sipush (v := 256) C dd_I_ntz_35 (by decide) ?_
    refine z_icmp_le (tgt := 49) C dd_I_ntz_38 (by decide) (fun q => absurd q (by decide)) (fun _ => ?_)
    refine z_iinc C dd_I_ntz_41 rfl rfl ?_
    refine z_iload_n C dd_I_ntz_44 rfl ?_
    refine z_bipush (v := 8) C dd_I_ntz_45 (by decide) ?_
    refine z_iushr C dd_I_ntz_47 ?_
    refine z_topi (y := 3) (by decide) ?_
    refine z_istore_n C dd_I_ntz_48 rfl ?_
    refine z_iload_n C dd_I_ntz_49 rfl ?_
    refine z_topi (y := 3) (by decide) ?_
    refine z_bipush (v := 16) C dd_I_ntz_50 (by decide) ?_
    refine z_icmp_le (tgt := 62) C dd_I_ntz_52 (by decide) (fun _ => ?_) (fun q => absurd (by decide) q)
    refine z_iload_n C dd_I_ntz_62 rfl ?_
    refine z_topi (y := 3) (by decide) ?_
    refine z_iconst (v := 4) C dd_I_ntz_63 (by decide) ?_
    refine z_icmp_le (tgt := 74) C dd_I_ntz_64 (by decide) (fun _ => ?_) (fun q => absurd (by decide) q)
    refine z_iload_n C dd_I_ntz_74 rfl ?_
    refine z_topi (y := 9) (by decide) ?_
    refine z_iload_n C dd_I_ntz_75 rfl ?_
    refine z_iconst (v := 1) C dd_I_ntz_76 (by decide) ?_
    refine z_iushr C dd_I_ntz_77 ?_
    refine z_topi (y := 1) (by decide) ?_
    refine z_iadd C dd_I_ntz_78 ?_
    refine z_topi (y := nI 10) (by decide) ?_
    exact z_iret C dd_I_ntz_79 ⟨rfl, rfl, rfl⟩ (by decide) (by decide)
  · skip
    refine z_iload_n C dd_I_ntz_8 rfl ?_
    refine z_topi (y := 2047) (by decide) ?_
    refine z_if_gt (tgt := 17) C dd_I_ntz_9 (by decide) (fun _ => ?_) (fun q => absurd (by decide) q)
    refine z_iconst (v := 1) C dd_I_ntz_17 (by decide) ?_
    refine z_istore_n C dd_I_ntz_18 rfl ?_
    refine z_iload_n C dd_I_ntz_19 rfl ?_
    refine z_topi (y := 2047) (by decide) ?_
    refine z_ldcw (v := 65536) C wd_733 dd_I_ntz_20 ?_
    refine z_icmp_le (tgt := 34) C dd_I_ntz_23 (by decide) (fun _ => ?_) (fun q => absurd (by decide) q)
    refine z_iload_n C dd_I_ntz_34 rfl ?_
    refine z_topi (y := 2047) (by decide) ?_
    refine z_sipush (v := 256) C dd_I_ntz_35 (by decide) ?_
    refine z_icmp_le (tgt := 49) C dd_I_ntz_38 (by decide) (fun q => absurd q (by decide)) (fun _ => ?_)
    refine z_iinc C dd_I_ntz_41 rfl rfl ?_
    refine z_iload_n C dd_I_ntz_44 rfl ?_
    refine z_bipush (v := 8) C dd_I_ntz_45 (by decide) ?_
    refine z_iushr C dd_I_ntz_47 ?_
    refine z_topi (y := 7) (by decide) ?_
    refine z_istore_n C dd_I_ntz_48 rfl ?_
    refine z_iload_n C dd_I_ntz_49 rfl ?_
    refine z_topi (y := 7) (by decide) ?_
    refine z_bipush (v := 16) C dd_I_ntz_50 (by decide) ?_
    refine z_icmp_le (tgt := 62) C dd_I_ntz_52 (by decide) (fun _ => ?_) (fun q => absurd (by decide) q)
    refine z_iload_n C dd_I_ntz_62 rfl ?_
    refine z_topi (y := 7) (by decide) ?_
    refine z_iconst (v := 4) C dd_I_ntz_63 (by decide) ?_
    refine z_icmp_le (tgt := 74) C dd_I_ntz_64 (by decide) (fun q => absurd q (by decide)) (fun _ => ?_)
    refine z_iinc C dd_I_ntz_67 rfl rfl ?_
    refine z_iload_n C dd_I_ntz_70 rfl ?_
    refine z_iconst (v := 2) C dd_I_ntz_71 (by decide) ?_
    refine z_iushr C dd_I_ntz_72 ?_
    refine z_topi (y := 1) (by decide) ?_
    refine z_istore_n C dd_I_ntz_73 rfl ?_
    refine z_iload_n C dd_I_ntz_74 rfl ?_
    refine z_topi (y := 11) (by decide) ?_
    refine z_iload_n C dd_I_ntz_75 rfl ?_
    refine z_iconst (v := 1) C dd_I_ntz_76 (by decide) ?_
    refine z_iushr C dd_I_ntz_77 ?_
    refine z_topi (y := 0) (by decide) ?_
    refine z_iadd C dd_I_ntz_78 ?_
    refine z_topi (y := nI 11) (by decide) ?_
    exact z_iret C dd_I_ntz_79 ⟨rfl, rfl, rfl⟩ (by decide) (by decide)
  · skip
    refine z_iload_n C dd_I_ntz_8 rfl ?_
    refine z_topi (y := 4095) (by decide) ?_
    refine z_if_gt (tgt := 17) C dd_I_ntz_9 (by decide) (fun _ => ?_) (fun q => absurd (by decide) q)
    refine z_iconst (v := 1) C dd_I_ntz_17 (by decide) ?_
    refine z_istore_n C dd_I_ntz_18 rfl ?_
    refine z_iload_n C dd_I_ntz_19 rfl ?_
    refine z_topi (y := 4095) (by decide) ?_
    refine z_ldcw (v := 65536) C wd_733 dd_I_ntz_20 ?_
    refine z_icmp_le (tgt := 34) C dd_I_ntz_23 (by decide) (fun _ => ?_) (fun q => absurd (by decide) q)
    refine z_iload_n C dd_I_ntz_34 rfl ?_
    refine z_topi (y := 4095) (by decide) ?_
    refine z_sipush (v := 256) C dd_I_ntz_35 (by decide) ?_
    refine z_icmp_le (tgt := 49) C dd_I_ntz_38 (by decide) (fun q => absurd q (by decide)) (fun _ => ?_)
    refine z_iinc C dd_I_ntz_41 rfl rfl ?_
    refine z_iload_n C dd_I_ntz_44 rfl ?_
    refine z_bipush (v := 8) C dd_I_ntz_45 (by decide) ?_
    refine z_iushr C dd_I_ntz_47 ?_
    refine z_topi (y := 15) (by decide) ?_
    refine z_istore_n C dd_I_ntz_48 rfl ?_
    refine z_iload_n C dd_I_ntz_49 rfl ?_
    refine z_topi (y := 15) (by decide) ?_
    refine z_bipush (v := 16) C dd_I_ntz_50 (by decide) ?_
    refine z_icmp_le (tgt := 62) C dd_I_ntz_52 (by decide) (fun _ => ?_) (fun q => absurd (by decide) q)
    refine z_iload_n C dd_I_ntz_62 rfl ?_
    refine z_topi (y := 15) (by decide) ?_
    refine z_iconst (v := 4) C dd_I_ntz_63 (by decide) ?_
    refine z_icmp_le (tgt := 74) C dd_I_ntz_64 (by decide) (fun q => absurd q (by decide)) (fun _ => ?_)
    refine z_iinc C dd_I_ntz_67 rfl rfl ?_
    refine z_iload_n C dd_I_ntz_70 rfl ?_
    refine z_iconst (v := 2) C dd_I_ntz_71 (by decide) ?_
    refine z_iushr C dd_I_ntz_72 ?_
    refine z_topi (y := 3) (by decide) ?_
    refine z_istore_n C dd_I_ntz_73 rfl ?_
    refine z_iload_n C dd_I_ntz_74 rfl ?_
    refine z_topi (y := 11) (by decide) ?_
    refine z_iload_n C dd_I_ntz_75 rfl ?_
    refine z_iconst (v := 1) C dd_I_ntz_76 (by decide) ?_
    refine z_iushr C dd_I_ntz_77 ?_
    refine z_topi (y := 1) (by decide) ?_
    refine z_iadd C dd_I_ntz_78 ?_
    refine z_topi (y := nI 12) (by decide) ?_
    exact z_iret C dd_I_ntz_79 ⟨rfl, rfl, rfl⟩ (by decide) (by decide)
  · skip
    refine z_iload_n C dd_I_ntz_8 rfl ?_
    refine z_topi (y := 8191) (by decide) ?_
    refine z_if_gt (tgt := 17) C dd_I_ntz_9 (by decide) (fun _ => ?_) (fun q => absurd (by decide) q)
    refine z_iconst (v := 1) C dd_I_ntz_17 (by decide) ?_
    refine z_istore_n C dd_I_ntz_18 rfl ?_
    refine z_iload_n C dd_I_ntz_19 rfl ?_
    refine z_topi (y := 8191) (by decide) ?_
    refine z_ldcw (v := 65536) C wd_733 dd_I_ntz_20 ?_
    refine z_icmp_le (tgt := 34) C dd_I_ntz_23 (by decide) (fun _ => ?_) (fun q => absurd (by decide) q)
    refine z_iload_n C dd_I_ntz_34 rfl ?_
    refine z_topi (y := 8191) (by decide) ?_
    refine z_sipush (v := 256) C dd_I_ntz_35 (by decide) ?_
    refine z_icmp_le (tgt := 49) C dd_I_ntz_38 (by decide) (fun q => absurd q (by decide)) (fun _ => ?_)
    refine z_iinc C dd_I_ntz_41 rfl rfl ?_
    refine z_iload_n C dd_I_ntz_44 rfl ?_
    refine z_bipush (v := 8) C dd_I_ntz_45 (by decide) ?_
    refine z_iushr C dd_I_ntz_47 ?_
    refine z_topi (y := 31) (by decide) ?_
    refine z_istore_n C dd_I_ntz_48 rfl ?_
    refine z_iload_n C dd_I_ntz_49 rfl ?_
    refine z_topi (y := 31) (by decide) ?_
    refine z_bipush (v := 16) C dd_I_ntz_50 (by decide) ?_
    refine z_icmp_le (tgt := 62) C dd_I_ntz_52 (by decide) (fun q => absurd q (by decide)) (fun _ => ?_)
    refine z_iinc C dd_I_ntz_55 rfl rfl ?_
    refine z_iload_n C dd_I_ntz_58 rfl ?_
    refine z_iconst (v := 4) C dd_I_ntz_59 (by decide) ?_
    refine z_iushr C dd_I_ntz_60 ?_
    refine z_topi (y := 1) (by decide) ?_
    refine z_istore_n C dd_I_ntz_61 rfl ?_
    refine z_iload_n C dd_I_ntz_62 rfl ?_
    refine z_topi (y := 1) (by decide) ?_
    refine z_iconst (v := 4) C dd_I_ntz_63 (by decide) ?_
    refine z_icmp_le (tgt := 74) C dd_I_ntz_64 (by decide) (fun _ => ?_) (fun q => absurd (by decide) q)
    refine z_iload_n C dd_I_ntz_74 rfl ?_
    refine z_topi (y := 13) (by decide) ?_
    refine z_iload_n C dd_I_ntz_75 rfl ?_
    refine z_iconst (v := 1) C dd_I_ntz_76 (by decide) ?_
    refine z_iushr C dd_I_ntz_77 ?_
    refine z_topi (y := 0) (by decide) ?_
    refine z_iadd C dd_I_ntz_78 ?_
    refine z_topi (y := nI 13) (by decide) ?_
    exact z_iret C dd_I_ntz_79 ⟨rfl, rfl, rfl⟩ (by decide) (by decide)
  · skip
    refine z_iload_n C dd_I_ntz_8 rfl ?_
    refine z_topi (y := 16383) (by decide) ?_
    refine z_if_gt (tgt := 17) C dd_I_ntz_9 (by decide) (fun _ => ?_) (fun q => absurd (by decide) q)
    refine z_iconst (v := 1) C dd_I_ntz_17 (by decide) ?_
    refine z_istore_n C dd_I_ntz_18 rfl ?_
    refine z_iload_n C dd_I_ntz_19 rfl ?_
    refine z_topi (y := 16383) (by decide) ?_
    refine z_ldcw (v := 65536) C wd_733 dd_I_ntz_20 ?_
    refine z_icmp_le (tgt := 34) C dd_I_ntz_23 (by decide) (fun _ => ?_) (fun q => absurd (by decide) q)
    refine z_iload_n C dd_I_ntz_34 rfl ?_
    refine z_topi (y := 16383) (by decide) ?_
    refine z_sipush (v := 256) C dd_I_ntz_35 (by decide) ?_
    refine z_icmp_le (tgt := 49) C dd_I_ntz_38 (by decide) (fun q => absurd q (by decide)) (fun _ => ?_)
    refine z_iinc C dd_I_ntz_41 rfl rfl ?_
    refine z_iload_n C dd_I_ntz_44 rfl ?_
    refine z_bipush (v := 8) C dd_I_ntz_45 (by decide) ?_
    refine z_iushr C dd_I_ntz_47 ?_
    refine z_topi (y := 63) (by decide) ?_
    refine z_istore_n C dd_I_ntz_48 rfl ?_
    refine z_iload_n C dd_I_ntz_49 rfl ?_
    refine z_topi (y := 63) (by decide) ?_
    refine z_bipush (v := 16) C dd_I_ntz_50 (by decide) ?_
    refine z_icmp_le (tgt := 62) C dd_I_ntz_52 (by decide) (fun q => absurd q (by decide)) (fun _ => ?_)
    refine z_iinc C dd_I_ntz_55 rfl rfl ?_
    refine z_iload_n C dd_I_ntz_58 rfl ?_
    refine z_iconst (v := 4) C dd_I_ntz_59 (by decide) ?_
    refine z_iushr C dd_I_ntz_60 ?_
    refine z_topi (y := 3) (by decide) ?_
    refine z_istore_n C dd_I_ntz_61 rfl ?_
    refine z_iload_n C dd_I_ntz_62 rfl ?_
    refine z_topi (y := 3) (by decide) ?_
    refine z_iconst (v := 4) C dd_I_ntz_63 (by decide) ?_
    refine z_icmp_le (tgt := 74) C dd_I_ntz_64 (by decide) (fun _ => ?_) (fun q => absurd (by decide) q)
    refine z_iload_n C dd_I_ntz_74 rfl ?_
    refine z_topi (y := 13) (by decide) ?_
    refine z_iload_n C dd_I_ntz_75 rfl ?_
    refine z_iconst (v := 1) C dd_I_ntz_76 (by decide) ?_
    refine z_iushr C dd_I_ntz_77 ?_
    refine z_topi (y := 1) (by decide) ?_
    refine z_iadd C dd_I_ntz_78 ?_
    refine z_topi (y := nI 14) (by decide) ?_
    exact z_iret C dd_I_ntz_79 ⟨rfl, rfl, rfl⟩ (by decide) (by decide)
  · skip
    refine z_iload_n C dd_I_ntz_8 rfl ?_
    refine z_topi (y := 32767) (by decide) ?_
    refine z_if_gt (tgt := 17) C dd_I_ntz_9 (by decide) (fun _ => ?_) (fun q => absurd (by decide) q)
    refine z_iconst (v := 1) C dd_I_ntz_17 (by decide) ?_
    refine z_istore_n C dd_I_ntz_18 rfl ?_
    refine z_iload_n C dd_I_ntz_19 rfl ?_
    refine z_topi (y := 32767) (by decide) ?_
    refine z_ldcw (v := 65536) C wd_733 dd_I_ntz_20 ?_
    refine z_icmp_le (tgt := 34) C dd_I_ntz_23 (by decide) (fun _ => ?_) (fun q => absurd (by decide) q)
    refine z_iload_n C dd_I_ntz_34 rfl ?_
    refine z_topi (y := 32767) (by decide) ?_
    refine z_sipush (v := 256) C dd_I_ntz_35 (by decide) ?_
    refine z_icmp_le (tgt := 49) C dd_I_ntz_38 (by decide) (fun q => absurd q (by decide)) (fun _ => ?_)
    refine z_iinc C dd_I_ntz_41 rfl rfl ?_
    refine z_iload_n C dd_I_ntz_44 rfl ?_
    refine z_bipush (v := 8) C dd_I_ntz_45 (by decide) ?_
    refine z_iushr C dd_I_ntz_47 ?_
    refine z_topi (y := 127) (by decide) ?_
    refine z_istore_n C dd_I_ntz_48 rfl ?_
    refine z_iload_n C dd_I_ntz_49 rfl ?_
    refine z_topi (y := 127) (by decide) ?_
    refine z_bipush (v := 16) C dd_I_ntz_50 (by decide) ?_
    refine z_icmp_le (tgt := 62) C dd_I_ntz_52 (by decide) (fun q => absurd q (by decide)) (fun _ => ?_)
    refine z_iinc C dd_I_ntz_55 rfl rfl ?_
    refine z_iload_n C dd_I_ntz_58 rfl ?_
    refine z_iconst (v := 4) C dd_I_ntz_59 (by decide) ?_
    refine z_iushr C dd_I_ntz_60 ?_
    refine z_topi (y := 7) (by decide) ?_
    refine z_istore_n C dd_I_ntz_61 rfl ?_
    refine z_iload_n C dd_I_ntz_62 rfl ?_
    refine z_topi (y := 7) (by decide) ?_
    refine z_iconst (v := 4) C dd_I_ntz_63 (by decide) ?_
    refine z_icmp_le (tgt := 74) C dd_I_ntz_64 (by decide) (fun q => absurd q (by decide)) (fun _ => ?_)
    refine z_iinc C dd_I_ntz_67 rfl rfl ?_
    refine z_iload_n C dd_I_ntz_70 rfl ?_
    refine z_iconst (v := 2) C dd_I_ntz_71 (by decide) ?_
    refine z_iushr C dd_I_ntz_72 ?_
    refine z_topi (y := 1) (by decide) ?_
    refine z_istore_n C dd_I_ntz_73 rfl ?_
    refine z_iload_n C dd_I_ntz_74 rfl ?_
    refine z_topi (y := 15) (by decide) ?_
    refine z_iload_n C dd_I_ntz_75 rfl ?_
    refine z_iconst (v := 1) C dd_I_ntz_76 (by decide) ?_
    refine z_iushr C dd_I_ntz_77 ?_
    refine z_topi (y := 0) (by decide) ?_
    refine z_iadd C dd_I_ntz_78 ?_
    refine z_topi (y := nI 15) (by decide) ?_
    exact z_iret C dd_I_ntz_79 ⟨rfl, rfl, rfl⟩ (by decide) (by decide)
  · skip
    refine z_iload_n C dd_I_ntz_8 rfl ?_
    refine z_topi (y := 65535) (by decide) ?_
    refine z_if_gt (tgt := 17) C dd_I_ntz_9 (by decide) (fun _ => ?_) (fun q => absurd (by decide) q)
    refine z_iconst (v := 1) C dd_I_ntz_17 (by decide) ?_
    refine z_istore_n C dd_I_ntz_18 rfl ?_
    refine z_iload_n C dd_I_ntz_19 rfl ?_
    refine z_topi (y := 65535) (by decide) ?_
    refine z_ldcw (v := 65536) C wd_733 dd_I_ntz_20 ?_
    refine z_icmp_le (tgt := 34) C dd_I_ntz_23 (by decide) (fun _ => ?_) (fun q => absurd (by decide) q)
    refine z_iload_n C dd_I_ntz_34 rfl ?_
    refine z_topi (y := 65535) (by decide) ?_
    refine z_sipush (v := 256) C dd_I_ntz_35 (by decide) ?_
    refine z_icmp_le (tgt := 49) C dd_I_ntz_38 (by decide) (fun q => absurd q (by decide)) (fun _ => ?_)
    refine z_iinc C dd_I_ntz_41 rfl rfl ?_
    refine z_iload_n C dd_I_ntz_44 rfl ?_
    refine z_bipush (v := 8) C dd_I_ntz_45 (by decide) ?_
    refine z_iushr C dd_I_ntz_47 ?_
    refine z_topi (y := 255) (by decide) ?_
    refine z_istore_n C dd_I_ntz_48 rfl ?_
    refine z_iload_n C dd_I_ntz_49 rfl ?_
    refine z_topi (y := 255) (by decide) ?_
    refine z_bipush (v := 16) C dd_I_ntz_50 (by decide) ?_
    refine z_icmp_le (tgt := 62) C dd_I_ntz_52 (by decide) (fun q => absurd q (by decide)) (fun _ => ?_)
    refine z_iinc C dd_I_ntz_55 rfl rfl ?_
    refine z_iload_n C dd_I_ntz_58 rfl ?_
    refine z_iconst (v := 4) C dd_I_ntz_59 (by decide) ?_
    refine z_iushr C dd_I_ntz_60 ?_
    refine z_topi (y := 15) (by decide) ?_
    refine z_istore_n C dd_I_ntz_61 rfl ?_
    refine z_iload_n C dd_I_ntz_62 rfl ?_
    refine z_topi (y := 15) (by decide) ?_
    refine z_iconst (v := 4) C dd_I_ntz_63 (by decide) ?_
    refine z_icmp_le (tgt := 74) C dd_I_ntz_64 (by decide) (fun q => absurd q (by decide)) (fun _ => ?_)
    refine z_iinc C dd_I_ntz_67 rfl rfl ?_
    refine z_iload_n C dd_I_ntz_70 rfl ?_
    refine z_iconst (v := 2) C dd_I_ntz_71 (by decide) ?_
    refine z_iushr C dd_I_ntz_72 ?_
    refine z_topi (y := 3) (by decide) ?_
    refine z_istore_n C dd_I_ntz_73 rfl ?_
    refine z_iload_n C dd_I_ntz_74 rfl ?_
    refine z_topi (y := 15) (by decide) ?_
    refine z_iload_n C dd_I_ntz_75 rfl ?_
    refine z_iconst (v := 1) C dd_I_ntz_76 (by decide) ?_
    refine z_iushr C dd_I_ntz_77 ?_
    refine z_topi (y := 1) (by decide) ?_
    refine z_iadd C dd_I_ntz_78 ?_
    refine z_topi (y := nI 16) (by decide) ?_
    exact z_iret C dd_I_ntz_79 ⟨rfl, rfl, rfl⟩ (by decide) (by decide)
  · skip
    refine z_iload_n C dd_I_ntz_8 rfl ?_
    refine z_topi (y := 131071) (by decide) ?_
    refine z_if_gt (tgt := 17) C dd_I_ntz_9 (by decide) (fun _ => ?_) (fun q => absurd (by decide) q)
    refine z_iconst (v := 1) C dd_I_ntz_17 (by decide) ?_
    refine z_istore_n C dd_I_ntz_18 rfl ?_
    refine z_iload_n C dd_I_ntz_19 rfl ?_
    refine z_topi (y := 131071) (by decide) ?_
    refine z_ldcw (v := 65536) C wd_733 dd_I_ntz_20 ?_
    refine z_icmp_le (tgt := 34) C dd_I_ntz_23 (by decide) (fun q => absurd q (by decide)) (fun _ => ?_)
    refine z_iinc C dd_I_ntz_26 rfl rfl ?_
    refine z_iload_n C dd_I_ntz_29 rfl ?_
    refine z_bipush (v := 16) C dd_I_ntz_30 (by decide) ?_
    refine z_iushr C dd_I_ntz_32 ?_
    refine z_topi (y := 1) (by decide) ?_
    refine z_istore_n C dd_I_ntz_33 rfl ?_
    refine z_iload_n C dd_I_ntz_34 rfl ?_
    refine z_topi (y := 1) (by decide) ?_
    refine z_sipush (v := 256) C dd_I_ntz_35 (by decide) ?_
    refine z_icmp_le (tgt := 49) C dd_I_ntz_38 (by decide) (fun _ => ?_) (fun q => absurd (by decide) q)
    refine z_iload_n C dd_I_ntz_49 rfl ?_
    refine z_topi (y := 1) (by decide) ?_
    refine z_bipush (v := 16) C dd_I_ntz_50 (by decide) ?_
    refine z_icmp_le (tgt := 62) C dd_I_ntz_52 (by decide) (fun _ => ?_) (fun q => absurd (by decide) q)
    refine z_iload_n C dd_I_ntz_62 rfl ?_
    refine z_topi (y := 1) (by decide) ?_
    refine z_iconst (v := 4) C dd_I_ntz_63 (by decide) ?_
    refine z_icmp_le (tgt := 74) C dd_I_ntz_64 (by decide) (fun _ => ?_) (fun q => absurd (by decide) q)
    refine z_iload_n C dd_I_ntz_74 rfl ?_
    refine z_topi (y := 17) (by decide) ?_
    refine z_iload_n C dd_I_ntz_75 rfl ?_
    refine z_iconst (v := 1) C dd_I_ntz_76 (by decide) ?_
    refine z_iushr C dd_I_ntz_77 ?_
    refine z_topi (y := 0) (by decide) ?_
    refine z_iadd C dd_I_ntz_78 ?_
    refine z_topi (y := nI 17) (by decide) ?_
    exact z_iret C dd_I_ntz_79 ⟨rfl, rfl, rfl⟩ (by decide) (by decide)
  · skip
    refine z_iload_n C dd_I_ntz_8 rfl ?_
    refine z_topi (y := 262143) (by decide) ?_
    refine z_if_gt (tgt := 17) C dd_I_ntz_9 (by decide) (fun _ => ?_) (fun q => absurd (by decide) q)
    refine z_iconst (v := 1) C dd_I_ntz_17 (by decide) ?_
    refine z_istore_n C dd_I_ntz_18 rfl ?_
    refine z_iload_n C dd_I_ntz_19 rfl ?_
    refine z_topi (y := 262143) (by decide) ?_
    refine z_ldcw (v := 65536) C wd_733 dd_I_ntz_20 ?_
    refine z_icmp_le (tgt := 34) C dd_I_ntz_23 (by decide) (fun q => absurd q (by decide)) (fun _ => ?_)
    refine z_iinc C dd_I_ntz_26 rfl rfl ?_
    refine z_iload_n C dd_I_ntz_29 rfl ?_
    refine z_bipush (v := 16) C dd_I_ntz_30 (by decide) ?_
    refine z_iushr C dd_I_ntz_32 ?_
    refine z_topi (y := 3) (by decide) ?_
    refine z_istore_n C dd_I_ntz_33 rfl ?_
    refine z_iload_n C dd_I_ntz_34 rfl ?_
    refine z_topi (y := 3) (by decide) ?_
    refine z_sipush (v := 256) C dd_I_ntz_35 (by decide) ?_
    refine z_icmp_le (tgt := 49) C dd_I_ntz_38 (by decide) (fun _ => ?_) (fun q => absurd (by decide) q)
    refine z_iload_n C dd_I_ntz_49 rfl ?_
    refine z_topi (y := 3) (by decide) ?_
    refine z_bipush (v := 16) C dd_I_ntz_50 (by decide) ?_
    refine z_icmp_le (tgt := 62) C dd_I_ntz_52 (by decide) (fun _ => ?_) (fun q => absurd (by decide) q)
    refine z_iload_n C dd_I_ntz_62 rfl ?_
    refine z_topi (y := 3) (by decide) ?_
    refine z_iconst (v := 4) C dd_I_ntz_63 (by decide) ?_
    refine z_icmp_le (tgt := 74) C dd_I_ntz_64 (by decide) (fun _ => ?_) (fun q => absurd (by decide) q)
    refine z_iload_n C dd_I_ntz_74 rfl ?_
    refine z_topi (y := 17) (by decide) ?_
    refine z_iload_n C dd_I_ntz_75 rfl ?_
    refine z_iconst (v := 1) C dd_I_ntz_76 (by decide) ?_
    refine z_iushr C dd_I_ntz_77 ?_
    refine z_topi (y := 1) (by decide) ?_
    refine z_iadd C dd_I_ntz_78 ?_
    refine z_topi (y := nI 18) (by decide) ?_
    exact z_iret C dd_I_ntz_79 ⟨rfl, rfl, rfl⟩ (by decide) (by decide)
  · skip
    refine z_iload_n C dd_I_ntz_8 rfl ?_
    refine z_topi (y := 524287) (by decide) ?_
    refine z_if_gt (tgt := 17) C dd_I_ntz_9 (by decide) (fun _ => ?_) (fun q => absurd (by decide) q)
    refine z_iconst (v := 1) C dd_I_ntz_17 (by decide) ?_
    refine z_istore_n C dd_I_ntz_18 rfl ?_
    refine z_iload_n C dd_I_ntz_19 rfl ?_
    refine z_topi (y := 524287) (by decide) ?_
    refine z_ldcw (v := 65536) C wd_733 dd_I_ntz_20 ?_
    refine z_icmp_le (tgt := 34) C dd_I_ntz_23 (by decide) (fun q => absurd q (by decide)) (fun _ => ?_)
    refine z_iinc C dd_I_ntz_26 rfl rfl ?_
    refine z_iload_n C dd_I_ntz_29 rfl ?_
    refine z_bipush (v := 16) C dd_I_ntz_30 (by decide) ?_
    refine z_iushr C dd_I_ntz_32 ?_
    refine z_topi (y := 7) (by decide) ?_
    refine z_istore_n C dd_I_ntz_33 rfl ?_
    refine z_iload_n C dd_I_ntz_34 rfl ?_
    refine z_topi (y := 7) (by decide) ?_
    refine z_sipush (v := 256) C dd_I_ntz_35 (by decide) ?_
    refine z_icmp_le (tgt := 49) C dd_I_ntz_38 (by decide) (fun _ => ?_) (fun q => absurd (by decide) q)
    refine z_iload_n C dd_I_ntz_49 rfl ?_
    refine z_topi (y := 7) (by decide) ?_
    refine z_bipush (v := 16) C dd_I_ntz_50 (by decide) ?_
    refine z_icmp_le (tgt := 62) C dd_I_ntz_52 (by decide) (fun _ => ?_) (fun q => absurd (by decide) q)
    refine z_iload_n C dd_I_ntz_62 rfl ?_
    refine z_topi (y := 7) (by decide) ?_
    refine z_iconst (v := 4) C dd_I_ntz_63 (by decide) ?_
    refine z_icmp_le (tgt := 74) C dd_I_ntz_64 (by decide) (fun q => absurd q (by decide)) (fun _ => ?_)
    refine z_iinc C dd_I_ntz_67 rfl rfl ?_
    refine z_iload_n C dd_I_ntz_70 rfl ?_
    refine z_iconst (v := 2) C dd_I_ntz_71 (by decide) ?_
    refine z_iushr C dd_I_ntz_72 ?_
    refine z_topi (y := 1) (by decide) ?_
    refine z_istore_n C dd_I_ntz_73 rfl ?_
    refine z_iload_n C dd_I_ntz_74 rfl ?_
    refine z_topi (y := 19) (by decide) ?_
    refine z_iload_n C dd_I_ntz_75 rfl ?_
    refine z_iconst (v := 1) C dd_I_ntz_76 (by decide) ?_
    refine z_iushr C dd_I_ntz_77 ?_
    refine z_topi (y := 0) (by decide) ?_
    refine z_iadd C dd_I_ntz_78 ?_
    refine z_topi (y := nI 19) (by decide) ?_
    exact z_iret C dd_I_ntz_79 ⟨rfl, rfl, rfl⟩ (by decide) (by decide)
  · skip
    refine z_iload_n C dd_I_ntz_8 rfl ?_
    refine z_topi (y := 1048575) (by decide) ?_
    refine z_if_gt (tgt := 17) C dd_I_ntz_9 (by decide) (fun _ => ?_) (fun q => absurd (by decide) q)
    refine z_iconst (v := 1) C dd_I_ntz_17 (by decide) ?_
    refine z_istore_n C dd_I_ntz_18 rfl ?_
    refine z_iload_n C dd_I_ntz_19 rfl ?_
    refine z_topi (y := 1048575) (by decide) ?_
    refine z_ldcw (v := 65536) C wd_733 dd_I_ntz_20 ?_
    refine z_icmp_le (tgt := 34) C dd_I_ntz_23 (by decide) (fun q => absurd q (by decide)) (fun _ => ?_)
    refine z_iinc C dd_I_ntz_26 rfl rfl ?_
    refine z_iload_n C dd_I_ntz_29 rfl ?_
    refine z_bipush (v := 16) C dd_I_ntz_30 (by decide) ?_
    refine z_iushr C dd_I_ntz_32 ?_
    refine z_topi (y := 15) (by decide) ?_
    refine z_istore_n C dd_I_ntz_33 rfl ?_
    refine z_iload_n C dd_I_ntz_34 rfl ?_
    refine z_topi (y := 15) (by decide) ?_
    refine z_sipush (v := 256) C dd_I_ntz_35 (by decide) ?_
    refine z_icmp_le (tgt := 49) C dd_I_ntz_38 (by decide) (fun _ => ?_) (fun q => absurd (by decide) q)
    refine z_iload_n C dd_I_ntz_49 rfl ?_
    refine z_topi (y := 15) (by decide) ?_
    refine z_bipush (v := 16) C dd_I_ntz_50 (by decide) ?_
    refine z_icmp_le (tgt := 62) C dd_I_ntz_52 (by decide) (fun _ => ?_) (fun q => absurd (by decide) q)
    refine z_iload_n C dd_I_ntz_62 rfl ?_
    refine z_topi (y := 15) (by decide) ?_
    refine z_iconst (v := 4) C dd_I_ntz_63 (by decide) ?_
    refine z_icmp_le (tgt := 74) C dd_I_ntz_64 (by decide) (fun q => absurd q (by decide)) (fun _ => ?_)
    refine z_iinc C dd_I_ntz_67 rfl rfl ?_
    refine z_iload_n C dd_I_ntz_70 rfl ?_
    refine z_iconst (v := 2) C dd_I_ntz_71 (by decide) ?_
    refine z_iushr C dd_I_ntz_72 ?_
    refine z_topi (y := 3) (by decide) ?_
    refine z_istore_n C dd_I_ntz_73 rfl ?_
    refine z_iload_n C dd_I_ntz_74 rfl ?_
    refine z_topi (y := 19) (by decide) ?_
    refine z_iload_n C dd_I_ntz_75 rfl ?_
    refine z_iconst (v := 1) C dd_I_ntz_76 (by decide) ?_
    refine z_iushr C dd_I_ntz_77 ?_
    refine z_topi (y := 1) (by decide) ?_
    refine z_iadd C dd_I_ntz_78 ?_
    refine z_topi (y := nI 20) (by decide) ?_
    exact z_iret C dd_I_ntz_79 ⟨rfl, rfl, rfl⟩ (by decide) (by decide)
  · skip
    refine z_iload_n C dd_I_ntz_8 rfl ?_
    refine z_topi (y := 2097151) (by decide) ?_
    refine z_if_gt (tgt := 17) C dd_I_ntz_9 (by decide) (fun _ => ?_) (fun q => absurd (by decide) q)
    refine z_iconst (v := 1) C dd_I_ntz_17 (by decide) ?_
    refine z_istore_n C dd_I_ntz_18 rfl ?_
    refine z_iload_n C dd_I_ntz_19 rfl ?_
    refine z_topi (y := 2097151) (by decide) ?_
    refine z_ldcw (v := 65536) C wd_733 dd_I_ntz_20 ?_
    refine z_icmp_le (tgt := 34) C dd_I_ntz_23 (by decide) (fun q => absurd q (by decide)) (fun _ => ?_)
    refine z_iinc C dd_I_ntz_26 rfl rfl ?_
    refine z_iload_n C dd_I_ntz_29 rfl ?_
    refine z_bipush (v := 16) C dd_I_ntz_30 (by decide) ?_
    refine z_iushr C dd_I_ntz_32 ?_
    refine z_topi (y := 31) (by decide) ?_
    refine z_istore_n C dd_I_ntz_33 rfl ?_
    refine z_iload_n C dd_I_ntz_34 rfl ?_
    refine z_topi (y := 31) (by decide) ?_
    refine z_sipush (v := 256) C dd_I_ntz_35 (by decide) ?_
    refine z_icmp_le (tgt := 49) C dd_I_ntz_38 (by decide) (fun _ => ?_) (fun q => absurd (by decide) q)
    refine z_iload_n C dd_I_ntz_49 rfl ?_
    refine z_topi (y := 31) (by decide) ?_
    refine z_bipush (v := 16) C dd_I_ntz_50 (by decide) ?_
    refine z_icmp_le (tgt := 62) C dd_I_ntz_52 (by decide) (fun q => absurd q (by decide)) (fun _ => ?_)
    refine z_iinc C dd_I_ntz_55 rfl rfl ?_
    refine z_iload_n C dd_I_ntz_58 rfl ?_
    refine z_iconst (v := 4) C dd_I_ntz_59 (by decide) ?_
    refine z_iushr C dd_I_ntz_60 ?_
    refine z_topi (y := 1) (by decide) ?_
    refine z_istore_n C dd_I_ntz_61 rfl ?_
    refine z_iload_n C dd_I_ntz_62 rfl ?_
    refine z_topi (y := 1) (by decide) ?_
    refine z_iconst (v := 4) C dd_I_ntz_63 (by decide) ?_
    refine z_icmp_le (tgt := 74) C dd_I_ntz_64 (by decide) (fun _ => ?_) (fun q => absurd (by decide) q)
    refine z_iload_n C dd_I_ntz_74 rfl ?_
    refine z_topi (y := 21) (by decide) ?_
    refine z_iload_n C dd_I_ntz_75 rfl ?_
    refine z_iconst (v := 1) C dd_I_ntz_76 (by decide) ?_
    refine z_iushr C dd_I_ntz_77 ?_
    refine z_topi (y := 0) (by decide) ?_
    refine z_iadd C dd_I_ntz_78 ?_
    refine z_topi (y := nI 21) (by decide) ?_
    exact z_iret C dd_I_ntz_79 ⟨rfl, rfl, rfl⟩ (by decide) (by decide)
  · skip
    refine z_iload_n C dd_I_ntz_8 rfl ?_
    refine z_topi (y := 4194303) (by decide) ?_
    refine z_if_gt (tgt := 17) C dd_I_ntz_9 (by decide) (fun _ => ?_) (fun q => absurd (by decide) q)
    refine z_iconst (v := 1) C dd_I_ntz_17 (by decide) ?_
    refine z_istore_n C dd_I_ntz_18 rfl ?_
    refine z_iload_n C dd_I_ntz_19 rfl ?_
    refine z_topi (y := 4194303) (by decide) ?_
    refine z_ldcw (v := 65536) C wd_733 dd_I_ntz_20 ?_
    refine z_icmp_le (tgt := 34) C dd_I_ntz_23 (by decide) (fun q => absurd q (by decide)) (fun _ => ?_)
    refine z_iinc C dd_I_ntz_26 rfl rfl ?_
    refine z_iload_n C dd_I_ntz_29 rfl ?_
    refine z_bipush (v := 16) C dd_I_ntz_30 (by decide) ?_
    refine z_iushr C dd_I_ntz_32 ?_
    refine z_topi (y := 63) (by decide) ?_
    refine z_istore_n C dd_I_ntz_33 rfl ?_
    refine z_iload_n C dd_I_ntz_34 rfl ?_
    refine z_topi (y := 63) (by decide) ?_
    refine z_sipush (v := 256) C dd_I_ntz_35 (by decide) ?_
    refine z_icmp_le (tgt := 49) C dd_I_ntz_38 (by decide) (fun _ => ?_) (fun q => absurd (by decide) q)
    refine z_iload_n C dd_I_ntz_49 rfl ?_
    refine z_topi (y := 63) (by decide) ?_
    refine z_bipush (v := 16) C dd_I_ntz_50 (by decide) ?_
    refine z_icmp_le (tgt := 62) C dd_I_ntz_52 (by decide) (fun q => absurd q (by decide)) (fun _ => ?_)
    refine z_iinc C dd_I_ntz_55 rfl rfl ?_
    refine z_iload_n C dd_I_ntz_58 rfl ?_
    refine z_iconst (v := 4) C dd_I_ntz_59 (by decide) ?_
    refine z_iushr C dd_I_ntz_60 ?_
    refine z_topi (y := 3) (by decide) ?_
    refine z_istore_n C dd_I_ntz_61 rfl ?_
    refine z_iload_n C dd_I_ntz_62 rfl ?_
    refine z_topi (y := 3) (by decide) ?_
    refine z_iconst (v := 4) C dd_I_ntz_63 (by decide) ?_
    refine z_icmp_le (tgt := 74) C dd_I_ntz_64 (by decide) (fun _ => ?_) (fun q => absurd (by decide) q)
    refine z_iload_n C dd_I_ntz_74 rfl ?_
    refine z_topi (y := 21) (by decide) ?_
    refine z_iload_n C dd_I_ntz_75 rfl ?_
    refine z_iconst (v := 1) C dd_I_ntz_76 (by decide) ?_
    refine z_iushr C dd_I_ntz_77 ?_
    refine z_topi (y := 1) (by decide) ?_
    refine z_iadd C dd_I_ntz_78 ?_
    refine z_topi (y := nI 22) (by decide) ?_
    exact z_iret C dd_I_ntz_79 ⟨rfl, rfl, rfl⟩ (by decide) (by decide)
  · skip
    refine z_iload_n C dd_I_ntz_8 rfl ?_
    refine z_topi (y := 8388607) (by decide) ?_
    refine z_if_gt (tgt := 17) C dd_I_ntz_9 (by decide) (fun _ => ?_) (fun q => absurd (by decide) q)
    refine z_iconst (v := 1) C dd_I_ntz_17 (by decide) ?_
    refine z_istore_n C dd_I_ntz_18 rfl ?_
    refine z_iload_n C dd_I_ntz_19 rfl ?_
    refine z_topi (y := 8388607) (by decide) ?_
    refine z_ldcw (v := 65536) C wd_733 dd_I_ntz_20 ?_
    refine z_icmp_le (tgt := 34) C dd_I_ntz_23 (by decide) (fun q => absurd q (by decide)) (fun _ => ?_)
    refine z_iinc C dd_I_ntz_26 rfl rfl ?_
    refine z_iload_n C dd_I_ntz_29 rfl ?_
    refine z_bipush (v := 16) C dd_I_ntz_30 (by decide) ?_
    refine z_iushr C dd_I_ntz_32 ?_
    refine z_topi (y := 127) (by decide) ?_
    refine z_istore_n C dd_I_ntz_33 rfl ?_
    refine z_iload_n C dd_I_ntz_34 rfl ?_
    refine z_topi (y := 127) (by decide) ?_
    refine z_sipush (v := 256) C dd_I_ntz_35 (by decide) ?_
    refine z_icmp_le (tgt := 49) C dd_I_ntz_38 (by decide) (fun _ => ?_) (fun q => absurd (by decide) q)
    refine z_iload_n C dd_I_ntz_49 rfl ?_
    refine z_topi (y := 127) (by decide) ?_
    refine z_bipush (v := 16) C dd_I_ntz_50 (by decide) ?_
    refine z_icmp_le (tgt := 62) C dd_I_ntz_52 (by decide) (fun q => absurd q (by decide)) (fun _ => ?_)
    refine z_iinc C dd_I_ntz_55 rfl rfl ?_
    refine z_iload_n C dd_I_ntz_58 rfl ?_
    refine z_iconst (v := 4) C dd_I_ntz_59 (by decide) ?_
    refine z_iushr C dd_I_ntz_60 ?_
    refine z_topi (y := 7) (by decide) ?_
    refine z_istore_n C dd_I_ntz_61 rfl ?_
    refine z_iload_n C dd_I_ntz_62 rfl ?_
    refine z_topi (y := 7) (by decide) ?_
    refine z_iconst (v := 4) C dd_I_ntz_63 (by decide) ?_
    refine z_icmp_le (tgt := 74) C dd_I_ntz_64 (by decide) (fun q => absurd q (by decide)) (fun _ => ?_)
    refine z_iinc C dd_I_ntz_67 rfl rfl ?_
    refine z_iload_n C dd_I_ntz_70 rfl ?_
    refine z_iconst (v := 2) C dd_I_ntz_71 (by decide) ?_
    refine z_iushr C dd_I_ntz_72 ?_
    refine z_topi (y := 1) (by decide) ?_
    refine z_istore_n C dd_I_ntz_73 rfl ?_
    refine z_iload_n C dd_I_ntz_74 rfl ?_
    refine z_topi (y := 23) (by decide) ?_
    refine z_iload_n C dd_I_ntz_75 rfl ?_
    refine z_iconst (v := 1) C dd_I_ntz_76 (by decide) ?_
    refine z_iushr C dd_I_ntz_77 ?_
    refine z_topi (y := 0) (by decide) ?_
    refine z_iadd C dd_I_ntz_78 ?_
    refine z_topi (y := nI 23) (by decide) ?_
    exact z_iret C dd_I_ntz_79 ⟨rfl, rfl, rfl⟩ (by decide) (by decide)
  · skip
    refine z_iload_n C dd_I_ntz_8 rfl ?_
    refine z_topi (y := 16777215) (by decide) ?_
    refine z_if_gt (tgt := 17) C dd_I_ntz_9 (by decide) (fun _ => ?_) (fun q => absurd (by decide) q)
    refine z_iconst (v := 1) C dd_I_ntz_17 (by decide) ?_
    refine z_istore_n C dd_I_ntz_18 rfl ?_
    refine z_iload_n C dd_I_ntz_19 rfl ?_
    refine z_topi (y := 16777215) (by decide) ?_
    refine z_ldcw (v := 65536) C wd_733 dd_I_ntz_20 ?_
    refine z_icmp_le (tgt := 34) C dd_I_ntz_23 (by decide) (fun q => absurd q (by decide)) (fun _ => ?_)
    refine z_iinc C dd_I_ntz_26 rfl rfl ?_
    refine z_iload_n C dd_I_ntz_29 rfl ?_
    refine z_bipush (v := 16) C dd_I_ntz_30 (by decide) ?_
    refine z_iushr C dd_I_ntz_32 ?_
    refine z_topi (y := 255) (by decide) ?_
    refine z_istore_n C dd_I_ntz_33 rfl ?_
    refine z_iload_n C dd_I_ntz_34 rfl ?_
    refine z_topi (y := 255) (by decide) ?_
    refine z_sipush (v := 256) C dd_I_ntz_35 (by decide) ?_
    refine z_icmp_le (tgt := 49) C dd_I_ntz_38 (by decide) (fun _ => ?_) (fun q => absurd (by decide) q)
    refine z_iload_n C dd_I_ntz_49 rfl ?_
    refine z_topi (y := 255) (by decide) ?_
    refine z_bipush (v := 16) C dd_I_ntz_50 (by decide) ?_
    refine z_icmp_le (tgt := 62) C dd_I_ntz_52 (by decide) (fun q => absurd q (by decide)) (fun _ => ?_)
    refine z_iinc C dd_I_ntz_55 rfl rfl ?_
    refine z_iload_n C dd_I_ntz_58 rfl ?_
    refine z_iconst (v := 4) C dd_I_ntz_59 (by decide) ?_
    refine z_iushr C dd_I_ntz_60 ?_
    refine z_topi (y := 15) (by decide) ?_
    refine z_istore_n C dd_I_ntz_61 rfl ?_
    refine z_iload_n C dd_I_ntz_62 rfl ?_
    refine z_topi (y := 15) (by decide) ?_
    refine z_iconst (v := 4) C dd_I_ntz_63 (by decide) ?_
    refine z_icmp_le (tgt := 74) C dd_I_ntz_64 (by decide) (fun q => absurd q (by decide)) (fun _ => ?_)
    refine z_iinc C dd_I_ntz_67 rfl rfl ?_
    refine z_iload_n C dd_I_ntz_70 rfl ?_
    refine z_iconst (v := 2) C dd_I_ntz_71 (by decide) ?_
    refine z_iushr C dd_I_ntz_72 ?_
    refine z_topi (y := 3) (by decide) ?_
    refine z_istore_n C dd_I_ntz_73 rfl ?_
    refine z_iload_n C dd_I_ntz_74 rfl ?_
    refine z_topi (y := 23) (by decide) ?_
    refine z_iload_n C dd_I_ntz_75 rfl ?_
    refine z_iconst (v := 1) C dd_I_ntz_76 (by decide) ?_
    refine z_iushr C dd_I_ntz_77 ?_
    refine z_topi (y := 1) (by decide) ?_
    refine z_iadd C dd_I_ntz_78 ?_
    refine z_topi (y := nI 24) (by decide) ?_
    exact z_iret C dd_I_ntz_79 ⟨rfl, rfl, rfl⟩ (by decide) (by decide)
  · skip
    refine z_iload_n C dd_I_ntz_8 rfl ?_
    refine z_topi (y := 33554431) (by decide) ?_
    refine z_if_gt (tgt := 17) C dd_I_ntz_9 (by decide) (fun _ => ?_) (fun q => absurd (by decide) q)
    refine z_iconst (v := 1) C dd_I_ntz_17 (by decide) ?_
    refine z_istore_n C dd_I_ntz_18 rfl ?_
    refine z_iload_n C dd_I_ntz_19 rfl ?_
    refine z_topi (y := 33554431) (by decide) ?_
    refine z_ldcw (v := 65536) C wd_733 dd_I_ntz_20 ?_
    refine z_icmp_le (tgt := 34) C dd_I_ntz_23 (by decide) (fun q => absurd q (by decide)) (fun _ => ?_)
    refine z_iinc C dd_I_ntz_26 rfl rfl ?_
    refine z_iload_n C dd_I_ntz_29 rfl ?_
    refine z_bipush (v := 16) C dd_I_ntz_30 (by decide) ?_
    refine z_iushr C dd_I_ntz_32 ?_
    refine z_topi (y := 511) (by decide) ?_
    refine z_istore_n C dd_I_ntz_33 rfl ?_
    refine z_iload_n C dd_I_ntz_34 rfl ?_
    refine z_topi (y := 511) (by decide) ?_
    refine z_sipush (v := 256) C dd_I_ntz_35 (by decide) ?_
    refine z_icmp_le (tgt := 49) C dd_I_ntz_38 (by decide) (fun q => absurd q (by decide)) (fun _ => ?_)
    refine z_iinc C dd_I_ntz_41 rfl rfl ?_
    refine z_iload_n C dd_I_ntz_44 rfl ?_
    refine z_bipush (v := 8) C dd_I_ntz_45 (by decide) ?_
    refine z_iushr C dd_I_ntz_47 ?_
    refine z_topi (y := 1) (by decide) ?_
    refine z_istore_n C dd_I_ntz_48 rfl ?_
    refine z_iload_n C dd_I_ntz_49 rfl ?_
    refine z_topi (y := 1) (by decide) ?_
    refine z_bipush (v := 16) C dd_I_ntz_50 (by decide) ?_
    refine z_icmp_le (tgt := 62) C dd_I_ntz_52 (by decide) (fun _ => ?_) (fun q => absurd (by decide) q)
    refine z_iload_n C dd_I_ntz_62 rfl ?_
    refine z_topi (y := 1) (by decide) ?_
    refine z_iconst (v := 4) C dd_I_ntz_63 (by decide) ?_
    refine z_icmp_le (tgt := 74) C dd_I_ntz_64 (by decide) (fun _ => ?_) (fun q => absurd (by decide) q)
    refine z_iload_n C dd_I_ntz_74 rfl ?_
    refine z_topi (y := 25) (by decide) ?_
    refine z_iload_n C dd_I_ntz_75 rfl ?_
    refine z_iconst (v := 1) C dd_I_ntz_76 (by decide) ?_
    refine z_iushr C dd_I_ntz_77 ?_
    refine z_topi (y := 0) (by decide) ?_
    refine z_iadd C dd_I_ntz_78 ?_
    refine z_topi (y := nI 25) (by decide) ?_
    exact z_iret C dd_I_ntz_79 ⟨rfl, rfl, rfl⟩ (by decide) (by decide)
  · skip
    refine z_iload_n C dd_I_ntz_8 rfl ?_
    refine z_topi (y := 67108863) (by decide) ?_
    refine z_if_gt (tgt := 17) C dd_I_ntz_9 (by decide) (fun _ => ?_) (fun q => absurd (by decide) q)
    refine z_iconst (v := 1) C dd_I_ntz_17 (by decide) ?_
    refine z_istore_n C dd_I_ntz_18 rfl ?_
    refine z_iload_n C dd_I_ntz_19 rfl ?_
    refine z_topi (y := 67108863) (by decide) ?_
    refine z_ldcw (v := 65536) C wd_733 dd_I_ntz_20 ?_
    refine z_icmp_le (tgt := 34) C dd_I_ntz_23 (by decide) (fun q => absurd q (by decide)) (fun _ => ?_)
    refine z_iinc C dd_I_ntz_26 rfl rfl ?_
    refine z_iload_n C dd_I_ntz_29 rfl ?_
    refine z_bipush (v := 16) C dd_I_ntz_30 (by decide) ?_
    refine z_iushr C dd_I_ntz_32 ?_
    refine z_topi (y := 1023) (by decide) ?_
    refine z_istore_n C dd_I_ntz_33 rfl ?_
    refine z_iload_n C dd_I_ntz_34 rfl ?_
    refine z_topi (y := 1023) (by decide) ?_
    refine z_sipush (v := 256) C dd_I_ntz_35 (by decide) ?_
    refine z_icmp_le (tgt := 49) C dd_I_ntz_38 (by decide) (fun q => absurd q (by decide)) (fun _ => ?_)
    refine z_iinc C dd_I_ntz_41 rfl rfl ?_
    refine z_iload_n C dd_I_ntz_44 rfl ?_
    refine z_bipush (v := 8) C dd_I_ntz_45 (by decide) ?_
    refine z_iushr C dd_I_ntz_47 ?_
    refine z_topi (y := 3) (by decide) ?_
    refine z_istore_n C dd_I_ntz_48 rfl ?_
    refine z_iload_n C dd_I_ntz_49 rfl ?_
    refine z_topi (y := 3) (by decide) ?_
    refine z_bipush (v := 16) C dd_I_ntz_50 (by decide) ?_
    refine z_icmp_le (tgt := 62) C dd_I_ntz_52 (by decide) (fun _ => ?_) (fun q => absurd (by decide) q)
    refine z_iload_n C dd_I_ntz_62 rfl ?_
    refine z_topi (y := 3) (by decide) ?_
    refine z_iconst (v := 4) C dd_I_ntz_63 (by decide) ?_
    refine z_icmp_le (tgt := 74) C dd_I_ntz_64 (by decide) (fun _ => ?_) (fun q => absurd (by decide) q)
    refine z_iload_n C dd_I_ntz_74 rfl ?_
    refine z_topi (y := 25) (by decide) ?_
    refine z_iload_n C dd_I_ntz_75 rfl ?_
    refine z_iconst (v := 1) C dd_I_ntz_76 (by decide) ?_
    refine z_iushr C dd_I_ntz_77 ?_
    refine z_topi (y := 1) (by decide) ?_
    refine z_iadd C dd_I_ntz_78 ?_
    refine z_topi (y := nI 26) (by decide) ?_
    exact z_iret C dd_I_ntz_79 ⟨rfl, rfl, rfl⟩ (by decide) (by decide)
  · skip
    refine z_iload_n C dd_I_ntz_8 rfl ?_
    refine z_topi (y := 134217727) (by decide) ?_
    refine z_if_gt (tgt := 17) C dd_I_ntz_9 (by decide) (fun _ => ?_) (fun q => absurd (by decide) q)
    refine z_iconst (v := 1) C dd_I_ntz_17 (by decide) ?_
    refine z_istore_n C dd_I_ntz_18 rfl ?_
    refine z_iload_n C dd_I_ntz_19 rfl ?_
    refine z_topi (y := 134217727) (by decide) ?_
    refine z_ldcw (v := 65536) C wd_733 dd_I_ntz_20 ?_
    refine z_icmp_le (tgt := 34) C dd_I_ntz_23 (by decide) (fun q => absurd q (by decide)) (fun _ => ?_)
    refine z_iinc C dd_I_ntz_26 rfl rfl ?_
    refine z_iload_n C dd_I_ntz_29 rfl ?_
    refine z_bipush (v := 16) C dd_I_ntz_30 (by decide) ?_
    refine z_iushr C dd_I_ntz_32 ?_
    refine z_topi (y := 2047) (by decide) ?_
    refine z_istore_n C dd_I_ntz_33 rfl ?_
    refine z_iload_n C dd_I_ntz_34 rfl ?_
    refine z_topi (y := 2047) (by decide) ?_
    refine z_sipush (v := 256) C dd_I_ntz_35 (by decide) ?_
    refine z_icmp_le (tgt := 49) C dd_I_ntz_38 (by decide) (fun q => absurd q (by decide)) (fun _ => ?_)
    refine z_iinc C dd_I_ntz_41 rfl rfl ?_
    refine z_iload_n C dd_I_ntz_44 rfl ?_
    refine z_bipush (v := 8) C dd_I_ntz_45 (by decide) ?_
    refine z_iushr C dd_I_ntz_47 ?_
    refine z_topi (y := 7) (by decide) ?_
    refine z_istore_n C dd_I_ntz_48 rfl ?_
    refine z_iload_n C dd_I_ntz_49 rfl ?_
    refine z_topi (y := 7) (by decide) ?_
    refine z_bipush (v := 16) C dd_I_ntz_50 (by decide) ?_
    refine z_icmp_le (tgt := 62) C dd_I_ntz_52 (by decide) (fun _ => ?_) (fun q => absurd (by decide) q)
    refine z_iload_n C dd_I_ntz_62 rfl ?_
    refine z_topi (y := 7) (by decide) ?_
    refine z_iconst (v := 4) C dd_I_ntz_63 (by decide) ?_
    refine z_icmp_le (tgt := 74) C dd_I_ntz_64 (by decide) (fun q => absurd q (by decide)) (fun _ => ?_)
    refine z_iinc C dd_I_ntz_67 rfl rfl ?_
    refine z_iload_n C dd_I_ntz_70 rfl ?_
    refine z_iconst (v := 2) C dd_I_ntz_71 (by decide) ?_
    refine z_iushr C dd_I_ntz_72 ?_
    refine z_topi (y := 1) (by decide) ?_
    refine z_istore_n C dd_I_ntz_73 rfl ?_
    refine z_iload_n C dd_I_ntz_74 rfl ?_
    refine z_topi (y := 27) (by decide) ?_
    refine z_iload_n C dd_I_ntz_75 rfl ?_
    refine z_iconst (v := 1) C dd_I_ntz_76 (by decide) ?_
    refine z_iushr C dd_I_ntz_77 ?_
    refine z_topi (y := 0) (by decide) ?_
    refine z_iadd C dd_I_ntz_78 ?_
    refine z_topi (y := nI 27) (by decide) ?_
    exact z_iret C dd_I_ntz_79 ⟨rfl, rfl, rfl⟩ (by decide) (by decide)
  · skip
    refine z_iload_n C dd_I_ntz_8 rfl ?_
    refine z_topi (y := 268435455) (by decide) ?_
    refine z_if_gt (tgt := 17) C dd_I_ntz_9 (by decide) (fun _ => ?_) (fun q => absurd (by decide) q)
    refine z_iconst (v := 1) C dd_I_ntz_17 (by decide) ?_
    refine z_istore_n C dd_I_ntz_18 rfl ?_
    refine z_iload_n C dd_I_ntz_19 rfl ?_
    refine z_topi (y := 268435455) (by decide) ?_
    refine z_ldcw (v := 65536) C wd_733 dd_I_ntz_20 ?_
    refine z_icmp_le (tgt := 34) C dd_I_ntz_23 (by decide) (fun q => absurd q (by decide)) (fun _ => ?_)
    refine z_iinc C dd_I_ntz_26 rfl rfl ?_
    refine z_iload_n C dd_I_ntz_29 rfl ?_
    refine z_bipush (v := 16) C dd_I_ntz_30 (by decide) ?_
    refine z_iushr C dd_I_ntz_32 ?_
    refine z_topi (y := 4095) (by decide) ?_
    refine z_istore_n C dd_I_ntz_33 rfl ?_
    refine z_iload_n C dd_I_ntz_34 rfl ?_
    refine z_topi (y := 4095) (by decide) ?_
    refine z_sipush (v := 256) C dd_I_ntz_35 (by decide) ?_
    refine z_icmp_le (tgt := 49) C dd_I_ntz_38 (by decide) (fun q => absurd q (by decide)) (fun _ => ?_)
    refine z_iinc C dd_I_ntz_41 rfl rfl ?_
    refine z_iload_n C dd_I_ntz_44 rfl ?_
    refine z_bipush (v := 8) C dd_I_ntz_45 (by decide) ?_
    refine z_iushr C dd_I_ntz_47 ?_
    refine z_topi (y := 15) (by decide) ?_
    refine z_istore_n C dd_I_ntz_48 rfl ?_
    refine z_iload_n C dd_I_ntz_49 rfl ?_
    refine z_topi (y := 15) (by decide) ?_
    refine z_bipush (v := 16) C dd_I_ntz_50 (by decide) ?_
    refine z_icmp_le (tgt := 62) C dd_I_ntz_52 (by decide) (fun _ => ?_) (fun q => absurd (by decide) q)
    refine z_iload_n C dd_I_ntz_62 rfl ?_
    refine z_topi (y := 15) (by decide) ?_
    refine z_iconst (v := 4) C dd_I_ntz_63 (by decide) ?_
    refine z_icmp_le (tgt := 74) C dd_I_ntz_64 (by decide) (fun q => absurd q (by decide)) (fun _ => ?_)
    refine z_iinc C dd_I_ntz_67 rfl rfl ?_
    refine z_iload_n C dd_I_ntz_70 rfl ?_
    refine z_iconst (v := 2) C dd_I_ntz_71 (by decide) ?_
    refine z_iushr C dd_I_ntz_72 ?_
    refine z_topi (y := 3) (by decide) ?_
    refine z_istore_n C dd_I_ntz_73 rfl ?_
    refine z_iload_n C dd_I_ntz_74 rfl ?_
    refine z_topi (y := 27) (by decide) ?_
    refine z_iload_n C dd_I_ntz_75 rfl ?_
    refine z_iconst (v := 1) C dd_I_ntz_76 (by decide) ?_
    refine z_iushr C dd_I_ntz_77 ?_
    refine z_topi (y := 1) (by decide) ?_
    refine z_iadd C dd_I_ntz_78 ?_
    refine z_topi (y := nI 28) (by decide) ?_
    exact z_iret C dd_I_ntz_79 ⟨rfl, rfl, rfl⟩ (by decide) (by decide)
  · skip
    refine z_iload_n C dd_I_ntz_8 rfl ?_
    refine z_topi (y := 536870911) (by decide) ?_
    refine z_if_gt (tgt := 17) C dd_I_ntz_9 (by decide) (fun _ => ?_) (fun q => absurd (by decide) q)
    refine z_iconst (v := 1) C dd_I_ntz_17 (by decide) ?_
    refine z_istore_n C dd_I_ntz_18 rfl ?_
    refine z_iload_n C dd_I_ntz_19 rfl ?_
    refine z_topi (y := 536870911) (by decide) ?_
    refine z_ldcw (v := 65536) C wd_733 dd_I_ntz_20 ?_
    refine z_icmp_le (tgt := 34) C dd_I_ntz_23 (by decide) (fun q => absurd q (by decide)) (fun _ => ?_)
    refine z_iinc C dd_I_ntz_26 rfl rfl ?_
    refine z_iload_n C dd_I_ntz_29 rfl ?_
    refine z_bipush (v := 16) C dd_I_ntz_30 (by decide) ?_
    refine z_iushr C dd_I_ntz_32 ?_
    refine z_topi (y := 8191) (by decide) ?_
    refine z_istore_n C dd_I_ntz_33 rfl ?_
    refine z_iload_n C dd_I_ntz_34 rfl ?_
    refine z_topi (y := 8191) (by decide) ?_
    refine z_sipush (v := 256) C dd_I_ntz_35 (by decide) ?_
    refine z_icmp_le (tgt := 49) C dd_I_ntz_38 (by decide) (fun q => absurd q (by decide)) (fun _ => ?_)
    refine z_iinc C dd_I_ntz_41 rfl rfl ?_
    refine z_iload_n C dd_I_ntz_44 rfl ?_
    refine z_bipush (v := 8) C dd_I_ntz_45 (by decide) ?_
    refine z_iushr C dd_I_ntz_47 ?_
    refine z_topi (y := 31) (by decide) ?_
    refine z_istore_n C dd_I_ntz_48 rfl ?_
    refine z_iload_n C dd_I_ntz_49 rfl ?_
    refine z_topi (y := 31) (by decide) ?_
    refine z_bipush (v := 16) C dd_I_ntz_50 (by decide) ?_
    refine z_icmp_le (tgt := 62) C dd_I_ntz_52 (by decide) (fun q => absurd q (by decide)) (fun _ => ?_)
    refine z_iinc C dd_I_ntz_55 rfl rfl ?_
    refine z_iload_n C dd_I_ntz_58 rfl ?_
    refine z_iconst (v := 4) C dd_I_ntz_59 (by decide) ?_
    refine z_iushr C dd_I_ntz_60 ?_
    refine z_topi (y := 1) (by decide) ?_
    refine z_istore_n C dd_I_ntz_61 rfl ?_
    refine z_iload_n C dd_I_ntz_62 rfl ?_
    refine z_topi (y := 1) (by decide) ?_
    refine z_iconst (v := 4) C dd_I_ntz_63 (by decide) ?_
    refine z_icmp_le (tgt := 74) C dd_I_ntz_64 (by decide) (fun _ => ?_) (fun q => absurd (by decide) q)
    refine z_iload_n C dd_I_ntz_74 rfl ?_
    refine z_topi (y := 29) (by decide) ?_
    refine z_iload_n C dd_I_ntz_75 rfl ?_
    refine z_iconst (v := 1) C dd_I_ntz_76 (by decide) ?_
    refine z_iushr C dd_I_ntz_77 ?_
    refine z_topi (y := 0) (by decide) ?_
    refine z_iadd C dd_I_ntz_78 ?_
    refine z_topi (y := nI 29) (by decide) ?_
    exact z_iret C dd_I_ntz_79 ⟨rfl, rfl, rfl⟩ (by decide) (by decide)
  · skip
    refine z_iload_n C dd_I_ntz_8 rfl ?_
    refine z_topi (y := 1073741823) (by decide) ?_
    refine z_if_gt (tgt := 17) C dd_I_ntz_9 (by decide) (fun _ => ?_) (fun q => absurd (by decide) q)
    refine z_iconst (v := 1) C dd_I_ntz_17 (by decide) ?_
    refine z_istore_n C dd_I_ntz_18 rfl ?_
    refine z_iload_n C dd_I_ntz_19 rfl ?_
    refine z_topi (y := 1073741823) (by decide) ?_
    refine z_ldcw (v := 65536) C wd_733 dd_I_ntz_20 ?_
    refine z_icmp_le (tgt := 34) C dd_I_ntz_23 (by decide) (fun q => absurd q (by decide)) (fun _ => ?_)
    refine z_iinc C dd_I_ntz_26 rfl rfl ?_
    refine z_iload_n C dd_I_ntz_29 rfl ?_
    refine z_bipush (v := 16) C dd_I_ntz_30 (by decide) ?_
    refine z_iushr C dd_I_ntz_32 ?_
    refine z_topi (y := 16383) (by decide) ?_
    refine z_istore_n C dd_I_ntz_33 rfl ?_
    refine z_iload_n C dd_I_ntz_34 rfl ?_
    refine z_topi (y := 16383) (by decide) ?_
    refine z_sipush (v := 256) C dd_I_ntz_35 (by decide) ?_
    refine z_icmp_le (tgt := 49) C dd_I_ntz_38 (by decide) (fun q => absurd q (by decide)) (fun _ => ?_)
    refine z_iinc C dd_I_ntz_41 rfl rfl ?_
    refine z_iload_n C dd_I_ntz_44 rfl ?_
    refine z_bipush (v := 8) C dd_I_ntz_45 (by decide) ?_
    refine z_iushr C dd_I_ntz_47 ?_
    refine z_topi (y := 63) (by decide) ?_
    refine z_istore_n C dd_I_ntz_48 rfl ?_
    refine z_iload_n C dd_I_ntz_49 rfl ?_
    refine z_topi (y := 63) (by decide) ?_
    refine z_bipush (v := 16) C dd_I_ntz_50 (by decide) ?_
    refine z_icmp_le (tgt := 62) C dd_I_ntz_52 (by decide) (fun q => absurd q (by decide)) (fun _ => ?_)
    refine z_iinc C dd_I_ntz_55 rfl rfl ?_
    refine z_iload_n C dd_I_ntz_58 rfl ?_
    refine z_iconst (v := 4) C dd_I_ntz_59 (by decide) ?_
    refine z_iushr C dd_I_ntz_60 ?_
    refine z_topi (y := 3) (by decide) ?_
    refine z_istore_n C dd_I_ntz_61 rfl ?_
    refine z_iload_n C dd_I_ntz_62 rfl ?_
    refine z_topi (y := 3) (by decide) ?_
    refine z_iconst (v := 4) C dd_I_ntz_63 (by decide) ?_
    refine z_icmp_le (tgt := 74) C dd_I_ntz_64 (by decide) (fun _ => ?_) (fun q => absurd (by decide) q)
    refine z_iload_n C dd_I_ntz_74 rfl ?_
    refine z_topi (y := 29) (by decide) ?_
    refine z_iload_n C dd_I_ntz_75 rfl ?_
    refine z_iconst (v := 1) C dd_I_ntz_76 (by decide) ?_
    refine z_iushr C dd_I_ntz_77 ?_
    refine z_topi (y := 1) (by decide) ?_
    refine z_iadd C dd_I_ntz_78 ?_
    refine z_topi (y := nI 30) (by decide) ?_
    exact z_iret C dd_I_ntz_79 ⟨rfl, rfl, rfl⟩ (by decide) (by decide)
  · skip
    refine z_iload_n C dd_I_ntz_8 rfl ?_
    refine z_topi (y := 2147483647) (by decide) ?_
    refine z_if_gt (tgt := 17) C dd_I_ntz_9 (by decide) (fun _ => ?_) (fun q => absurd (by decide) q)
    refine z_iconst (v := 1) C dd_I_ntz_17 (by decide) ?_
    refine z_istore_n C dd_I_ntz_18 rfl ?_
    refine z_iload_n C dd_I_ntz_19 rfl ?_
    refine z_topi (y := 2147483647) (by decide) ?_
    refine z_ldcw (v := 65536) C wd_733 dd_I_ntz_20 ?_
    refine z_icmp_le (tgt := 34) C dd_I_ntz_23 (by decide) (fun q => absurd q (by decide)) (fun _ => ?_)
    refine z_iinc C dd_I_ntz_26 rfl rfl ?_
    refine z_iload_n C dd_I_ntz_29 rfl ?_
    refine z_bipush (v := 16) C dd_I_ntz_30 (by decide) ?_
    refine z_iushr C dd_I_ntz_32 ?_
    refine z_topi (y := 32767) (by decide) ?_
    refine z_istore_n C dd_I_ntz_33 rfl ?_
    refine z_iload_n C dd_I_ntz_34 rfl ?_
    refine z_topi (y := 32767) (by decide) ?_
    refine z_sipush (v := 256) C dd_I_ntz_35 (by decide) ?_
    refine z_icmp_le (tgt := 49) C dd_I_ntz_38 (by decide) (fun q => absurd q (by decide)) (fun _ => ?_)
    refine z_iinc C dd_I_ntz_41 rfl rfl ?_
    refine z_iload_n C dd_I_ntz_44 rfl ?_
    refine z_bipush (v := 8) C dd_I_ntz_45 (by decide) ?_
    refine z_iushr C dd_I_ntz_47 ?_
    refine z_topi (y := 127) (by decide) ?_
    refine z_istore_n C dd_I_ntz_48 rfl ?_
    refine z_iload_n C dd_I_ntz_49 rfl ?_
    refine z_topi (y := 127) (by decide) ?_
    refine z_bipush (v := 16) C dd_I_ntz_50 (by decide) ?_
    refine z_icmp_le (tgt := 62) C dd_I_ntz_52 (by decide) (fun q => absurd q (by decide)) (fun _ => ?_)
    refine z_iinc C dd_I_ntz_55 rfl rfl ?_
    refine z_iload_n C dd_I_ntz_58 rfl ?_
    refine z_iconst (v := 4) C dd_I_ntz_59 (by decide) ?_
    refine z_iushr C dd_I_ntz_60 ?_
    refine z_topi (y := 7) (by decide) ?_
    refine z_istore_n C dd_I_ntz_61 rfl ?_
    refine z_iload_n C dd_I_ntz_62 rfl ?_
    refine z_topi (y := 7) (by decide) ?_
    refine z_iconst (v := 4) C dd_I_ntz_63 (by decide) ?_
    refine z_icmp_le (tgt := 74) C dd_I_ntz_64 (by decide) (fun q => absurd q (by decide)) (fun _ => ?_)
    refine z_iinc C dd_I_ntz_67 rfl rfl ?_
    refine z_iload_n C dd_I_ntz_70 rfl ?_
    refine z_iconst (v := 2) C dd_I_ntz_71 (by decide) ?_
    refine z_iushr C dd_I_ntz_72 ?_
    refine z_topi (y := 1) (by decide) ?_
    refine z_istore_n C dd_I_ntz_73 rfl ?_
    refine z_iload_n C dd_I_ntz_74 rfl ?_
    refine z_topi (y := 31) (by decide) ?_
    refine z_iload_n C dd_I_ntz_75 rfl ?_
    refine z_iconst (v := 1) C dd_I_ntz_76 (by decide) ?_
    refine z_iushr C dd_I_ntz_77 ?_
    refine z_topi (y := 0) (by decide) ?_
    refine z_iadd C dd_I_ntz_78 ?_
    refine z_topi (y := nI 31) (by decide) ?_
    exact z_iret C dd_I_ntz_79 ⟨rfl, rfl, rfl⟩ (by decide) (by decide)
theorem l_lo (x : Int64) {i : Nat} (hi : i < 32) : bt x.toInt32 i = bl x i := by
  unfold bt bl
  show (x.toBitVec.signExtend 32).getLsbD i = _
  rw [BitVec.getLsbD_signExtend]
  simp [hi]
  omega
theorem l_ush32 : ((Int32.toInt64 32).toUInt64 &&& Int64.toUInt64 63).toBitVec.toNat % 64 = 32 := by decide
theorem l_hi (x : Int64) {i : Nat} (hi : i < 32) : bt ((x.toUInt64 >>> ((Int32.toInt64 32).toUInt64 &&& Int64.toUInt64 63)).toInt64.toInt32) i = bl x (32 + i) := by
  rw [l_lo _ hi]
  unfold bl
  show (x.toUInt64 >>> ((Int32.toInt64 32).toUInt64 &&& Int64.toUInt64 63)).toBitVec.getLsbD i = _
  rw [UInt64.toBitVec_shiftRight, BitVec.ushiftRight_eq']
  show (x.toBitVec >>> (((Int32.toInt64 32).toUInt64 &&& Int64.toUInt64 63).toBitVec % 64).toNat).getLsbD i = _
  have e : (((Int32.toInt64 32).toUInt64 &&& Int64.toUInt64 63).toBitVec % 64).toNat = 32 := by decide
  rw [e, BitVec.getLsbD_ushiftRight]
abbrev rm_J_ntz : Room := { frames := 3, cells := 0, slots := 0, locals := 60 }
set_option maxRecDepth 20000 in
theorem cd_J_ntz (l : Launch) (D : va_G) (dA : Nat → ClassId) (B : Nat) (h : zz_H) (n : Nat) (x : Int64) (t : Nat) (ht : t < 64) (h1 : bl x t = true) (h2 : ∀ i, i < t → bl x i = false) : zz_M l D zz_cl (zz_ty dA) B zz_tb (zz_x B) yy_J_ntz (Cond.code yy_J_ntz bb_J_ntz 3 (some FieldType.int)) rm_J_ntz [.long x] h n zz_mi (fun r h' n' => n' = n ∧ h' = h ∧ r = nI t) := by
  refine zz_ofW (zz_f B) [some (.long x), none, none] (by decide) rfl rfl (Nat.le_of_ble_eq_true rfl) ?_
  intro p e s m below meth c C
  refine z_lload_n C dd_J_ntz_0 rfl ?_
  refine z_l2i C dd_J_ntz_1 ?_
  refine z_istore_n C dd_J_ntz_2 rfl ?_
  refine z_iload_n C dd_J_ntz_3 rfl ?_
  refine z_if_ne (tgt := 21) C dd_J_ntz_4 (by decide) (fun q => ?_) (fun q => ?_)
  · have ht2 : t < 32 := by
      apply Classical.byContradiction
      intro c
      refine q (b_ext fun i hi => ?_)
      rw [l_lo x hi, b_0]
      exact h2 i (by omega)
    refine z_iload_n C dd_J_ntz_21 rfl ?_
    refine is_J_311 (sk := fun r => .int r :: []) (zz_f B) C dd_J_ntz_22 (cd_I_ntz l D dA B _ _ _ t ht2 (by rw [l_lo x ht2]; exact h1) (fun i hi => by rw [l_lo x (by omega)]; exact h2 i hi)) rfl rfl ⟨by decide, by decide⟩ (Nat.le_of_ble_eq_true rfl) ⟨by decide, by decide⟩ (fun _ => rfl) (fun r h' n' w => ?_)
    exact z_iret C dd_J_ntz_25 w (by decide) (by decide)
  · have ht2 : 32 ≤ t := by
      apply Classical.byContradiction
      intro c
      have z := l_lo x (i := t) (by omega)
      rw [q, h1, b_0] at z
      exact absurd z (by decide)
    obtain ⟨t2, rfl⟩ : ∃ t2, t = 32 + t2 := ⟨t - 32, by omega⟩
    refine z_bipush (v := 32) C dd_J_ntz_7 (by decide) ?_
    refine z_lload_n C dd_J_ntz_9 rfl ?_
    refine z_bipush (v := 32) C dd_J_ntz_10 (by decide) ?_
    refine z_lushr C dd_J_ntz_12 ?_
    refine z_l2i C dd_J_ntz_13 ?_
    refine is_J_311 (sk := fun r => .int r :: [.int 32]) (zz_f B) C dd_J_ntz_14 (cd_I_ntz l D dA B _ _ _ t2 (by omega) (by rw [l_hi x (by omega)]; exact h1) (fun i hi => by rw [l_hi x (by omega)]; exact h2 _ (by omega))) rfl rfl ⟨by decide, by decide⟩ (Nat.le_of_ble_eq_true rfl) ⟨by decide, by decide⟩ (fun _ => rfl) (fun r h' n' w => ?_)
    obtain ⟨w1, w2, w3⟩ := w
    refine z_iadd C dd_J_ntz_17 ?_
    refine z_goto (tgt := 25) C dd_J_ntz_18 (by decide) ?_
    exact z_iret C dd_J_ntz_25 ⟨w1, w2, by rw [w3, ← nI_add]; rfl⟩ (by decide) (by decide)
