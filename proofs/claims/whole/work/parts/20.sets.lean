/-! ===== Int32 by its bits: bt x i ===== -/
def bt (x : Int32) (i : Nat) : Bool := x.toBitVec.getLsbD i
theorem b_ext {x y : Int32} (h : ∀ i, i < 32 → bt x i = bt y i) : x = y := Int32.toBitVec_inj.mp (BitVec.eq_of_getLsbD_eq (fun i hi => h i hi))
theorem b_or (x y : Int32) (i : Nat) : bt (x ||| y) i = (bt x i || bt y i) := by unfold bt; rw [Int32.toBitVec_or, BitVec.getLsbD_or]
theorem b_and (x y : Int32) (i : Nat) : bt (x &&& y) i = (bt x i && bt y i) := by unfold bt; rw [Int32.toBitVec_and, BitVec.getLsbD_and]
theorem b_xor (x y : Int32) (i : Nat) : bt (x ^^^ y) i = (bt x i ^^ bt y i) := by unfold bt; rw [Int32.toBitVec_xor, BitVec.getLsbD_xor]
theorem b_big {x : Int32} {i : Nat} (h : 32 ≤ i) : bt x i = false := BitVec.getLsbD_of_ge _ _ h
theorem b_255 (i : Nat) : bt 255 i = decide (i < 8) := by
  rcases Nat.lt_or_ge i 32 with h | h
  · exact (by decide +kernel : ∀ i, i < 32 → bt 255 i = decide (i < 8)) i h
  · rw [b_big h, decide_eq_false (by omega)]
theorem b_65535 (i : Nat) : bt 65535 i = decide (i < 16) := by
  rcases Nat.lt_or_ge i 32 with h | h
  · exact (by decide +kernel : ∀ i, i < 32 → bt 65535 i = decide (i < 16)) i h
  · rw [b_big h, decide_eq_false (by omega)]
theorem b_m1 : ∀ i, i < 32 → bt (-1) i = true := by decide +kernel
theorem b_0 (i : Nat) : bt 0 i = false := BitVec.getLsbD_zero
theorem s_l : ∀ n, n < 32 → ((nI n &&& 31).toBitVec.smod 32).toNat = n := by decide +kernel
theorem s_u : ∀ n, n < 32 → (((nI n).toUInt32 &&& Int32.toUInt32 31).toBitVec % 32).toNat = n := by decide +kernel
theorem b_shl (n : Nat) (hn : n < 32) (x : Int32) {i : Nat} (hi : i < 32) : bt (x <<< (nI n &&& 31)) i = (decide (n ≤ i) && bt x (i - n)) := by
  unfold bt
  rw [Int32.toBitVec_shiftLeft]
  show (x.toBitVec <<< ((nI n &&& 31).toBitVec.smod 32).toNat).getLsbD i = _
  rw [s_l n hn, BitVec.getLsbD_shiftLeft]
  rcases Nat.lt_or_ge i n with h | h
  · simp [h, Nat.not_le.mpr h]
  · simp [hi, h, Nat.not_lt.mpr h]
theorem b_ushr (n : Nat) (hn : n < 32) (x : Int32) (i : Nat) : bt ((x.toUInt32 >>> ((nI n).toUInt32 &&& Int32.toUInt32 31)).toInt32) i = bt x (n + i) := by
  show (x.toUInt32 >>> ((nI n).toUInt32 &&& Int32.toUInt32 31)).toBitVec.getLsbD i = x.toUInt32.toBitVec.getLsbD (n + i)
  rw [UInt32.toBitVec_shiftRight]
  show (x.toUInt32.toBitVec >>> (((nI n).toUInt32 &&& Int32.toUInt32 31).toBitVec % 32).toNat).getLsbD i = _
  rw [s_u n hn, BitVec.getLsbD_ushiftRight]
theorem b_sshr (n : Nat) (hn : n < 32) (x : Int32) {i : Nat} (hi : i < 32) : bt (x >>> (nI n &&& 31)) i = if n + i < 32 then bt x (n + i) else bt x 31 := by
  unfold bt
  rw [Int32.toBitVec_shiftRight]
  show (x.toBitVec.sshiftRight ((nI n &&& 31).toBitVec.smod 32).toNat).getLsbD i = _
  rw [s_l n hn, BitVec.getLsbD_sshiftRight, BitVec.msb_eq_getLsbD_last]
  simp [hi]
theorem b_shl8 (x : Int32) {i : Nat} (hi : i < 32) : bt (x <<< ((8 : Int32) &&& 31)) i = (decide (8 ≤ i) && bt x (i - 8)) := b_shl 8 (by omega) x hi
theorem b_shl16 (x : Int32) {i : Nat} (hi : i < 32) : bt (x <<< ((16 : Int32) &&& 31)) i = (decide (16 ≤ i) && bt x (i - 16)) := b_shl 16 (by omega) x hi
theorem b_shl24 (x : Int32) {i : Nat} (hi : i < 32) : bt (x <<< ((24 : Int32) &&& 31)) i = (decide (24 ≤ i) && bt x (i - 24)) := b_shl 24 (by omega) x hi
theorem b_sshr8 (x : Int32) {i : Nat} (hi : i < 32) : bt (x >>> ((8 : Int32) &&& 31)) i = if 8 + i < 32 then bt x (8 + i) else bt x 31 := b_sshr 8 (by omega) x hi
theorem bt_one {m i : Nat} (hm : m < 32) (hi : i < 32) : bt ((1 : Int32) <<< (nI m &&& 31)) i = decide (i = m) := by
  rw [b_shl m hm 1 hi]
  have h1 : ∀ j, j < 32 → bt 1 j = decide (j = 0) := by decide +kernel
  rcases Nat.lt_or_ge i m with h | h
  · simp [Nat.not_le.mpr h, Nat.ne_of_lt h]
  · rw [h1 (i - m) (by omega)]
    by_cases e : i = m
    · subst e; simp
    · have e2 : ¬ i - m = 0 := by omega
      simp [e, e2]
theorem bt_sh {x : Int32} {m : Nat} (hm : m < 32) : (x >>> (nI m &&& 31)) &&& 1 = pu_b (bt x m) := by
  apply b_ext
  intro i hi
  have h1 : ∀ j, j < 32 → bt 1 j = decide (j = 0) := by decide +kernel
  have h0 : ∀ j, j < 32 → bt 0 j = false := by decide +kernel
  rw [b_and, b_sshr m hm x hi, h1 i hi]
  by_cases e : i = 0
  · subst e
    rw [if_pos (by omega)]
    cases hb : bt x m <;> simp [pu_b, hb, h1 0 (by decide), h0 0 (by decide)]
  · cases hb : bt x m <;> simp [pu_b, e, h1 i hi, h0 i hi]
theorem pu_b1 (b : Bool) : pu_b b = 1 ↔ b = true := by cases b <;> decide
theorem pu_b0 (b : Bool) : pu_b b = 0 ↔ b = false := by cases b <;> decide
/-- a set of methods: those k below n with f k -/
def pu_ms (f : Nat → Bool) : Nat → Int32
  | 0 => 0
  | k + 1 => if f k then pu_ms f k ||| ((1 : Int32) <<< (nI k &&& 31)) else pu_ms f k
theorem bt_ms (f : Nat → Bool) : ∀ k, k ≤ 32 → ∀ i, i < 32 → bt (pu_ms f k) i = (decide (i < k) && f i)
  | 0, _, i, _ => by rw [pu_ms, b_0]; simp
  | k + 1, hk, i, hi => by
    have ih := bt_ms f k (by omega) i hi
    rw [pu_ms]
    by_cases hf : f k = true
    · rw [if_pos hf, b_or, ih, bt_one (by omega) hi]
      by_cases e : i = k
      · subst e; simp [hf]
      · have e2 : (i < k + 1) ↔ (i < k) := by omega
        simp [e, e2]
    · rw [if_neg hf, ih]
      by_cases e : i = k
      · subst e
        have hf2 : f i = false := by simpa using hf
        simp [hf2]
      · have e2 : (i < k + 1) ↔ (i < k) := by omega
        simp [e2]
/-- some row has m and not k -/
def pu_pt (X : Nat → Int32) (m k R : Nat) : Bool := (List.range R).any fun r => bt (X r) m && !bt (X r) k
/-- the best of a set x, by what each is beyond: be -/
def pu_ot (x : Int32) (k : Nat) : Int32 := x &&& (((1 : Int32) <<< (nI k &&& 31)) ^^^ (-1))
def pu_fm (x : Int32) (be : Nat → Int32) : Nat → Int32
  | 0 => if x = 0 then -1 else -2
  | k + 1 => if bt x k = true ∧ pu_ot x k &&& be k = pu_ot x k then nI k else pu_fm x be k
abbrev rm_Q_firstMethod : Room := { frames := 1, cells := 0, slots := 0, locals := 0 }
set_option maxRecDepth 20000 in
theorem lp_Q_firstMethod {D : va_G} {dA : Nat → ClassId} {B : Nat} {p : Program} {l : Launch} {e : Env} {s : State} {m : MethodId} {args : Array Value} {below : List Frame} {meth : Method} {c : Code} {Q : State → Prop} {n : Nat} {nm : String} {ret9 : Option FieldType} {h : zz_H} (C : zz_C D zz_cl (zz_ty dA) B zz_tb (zz_x B) p s m args meth c bb_Q_firstMethod RR_Q ret9 nm) {q : Nat} {F : Nat → Int32} {I : Nat → Nat → Int32} {J : Nat → Nat → Int64} (hP : md_P dA F I J q h) {x : Int32} {nM : Nat} (hn : nM ≤ 12) (hF : F 5 = nI nM) (kx : ∀ o9, (∀ w, o9 = some w → w.category = 1) → zz_W D zz_cl B p l e rm_Q_firstMethod s m args below meth c Q h n 0 0 [some (.ref q), some (.int x), some (.int ((pu_fm x (I 13) nM))), some (.int ((nI nM))), o9] 61 []) :
    ∀ f k o9, (∀ w, o9 = some w → w.category = 1) → k + f = nM → zz_W D zz_cl B p l e rm_Q_firstMethod s m args below meth c Q h n 0 0 [some (.ref q), some (.int x), some (.int ((pu_fm x (I 13) k))), some (.int ((nI k))), o9] 13 [] := by
  intro f
  induction f with
  | zero =>
    intro k o9 ho hk
    have hk9 : k = nM := by omega
    subst hk9
    refine z_iload_n C dd_Q_firstMethod_13 rfl ?_
    refine z_aload_n C dd_Q_firstMethod_14 rfl ?_
    refine gf_Q_138 (v := .int (F 5)) C dd_Q_firstMethod_15 hP.1 rfl ?_
    refine z_topi (y := nI k) hF.symm ?_
    refine z_icmp_ge (tgt := 61) C dd_Q_firstMethod_18 (by decide) (fun _ => kx o9 ho) (fun q18 => absurd (nI_le (Nat.le_refl _) (by omega)) q18)
  | succ f ih =>
    intro k o9 ho hk
    refine z_iload_n C dd_Q_firstMethod_13 rfl ?_
    refine z_aload_n C dd_Q_firstMethod_14 rfl ?_
    refine gf_Q_138 (v := .int (F 5)) C dd_Q_firstMethod_15 hP.1 rfl ?_
    refine z_topi (y := nI nM) hF.symm ?_
    refine z_icmp_ge (tgt := 61) C dd_Q_firstMethod_18 (by decide) (fun q18 => absurd q18 (nI_ge (by omega) (by omega))) (fun _ => ?_)
    refine z_iload_n C dd_Q_firstMethod_21 rfl ?_
    refine z_iconst (v := 1) C dd_Q_firstMethod_22 (by decide) ?_
    refine z_iload_n C dd_Q_firstMethod_23 rfl ?_
    refine z_ishl C dd_Q_firstMethod_24 ?_
    refine z_iconst (v := -1) C dd_Q_firstMethod_25 (by decide) ?_
    refine z_ixor C dd_Q_firstMethod_26 ?_
    refine z_iand C dd_Q_firstMethod_27 ?_
    refine z_topi (y := pu_ot x k) rfl ?_
    refine z_istore C dd_Q_firstMethod_28 rfl ?_
    have ihk := ih (k + 1) (some (.int (pu_ot x k))) (fun w hw => by cases hw; rfl) (by omega)
    have skip : ¬ (bt x k = true ∧ pu_ot x k &&& I 13 k = pu_ot x k) → zz_W D zz_cl B p l e rm_Q_firstMethod s m args below meth c Q h n 0 0 [some (.ref q), some (.int x), some (.int (pu_fm x (I 13) k)), some (.int (nI k)), some (.int (pu_ot x k))] 55 [] := by
      intro hno
      refine z_iincN C dd_Q_firstMethod_55 rfl rfl ?_
      refine z_goto (tgt := 13) C dd_Q_firstMethod_58 (by decide) ?_
      rw [pu_fm, if_neg hno] at ihk
      exact ihk
    refine z_iload_n C dd_Q_firstMethod_30 rfl ?_
    refine z_iload_n C dd_Q_firstMethod_31 rfl ?_
    refine z_ishr C dd_Q_firstMethod_32 ?_
    refine z_iconst (v := 1) C dd_Q_firstMethod_33 (by decide) ?_
    refine z_iand C dd_Q_firstMethod_34 ?_
    refine z_topi (y := pu_b (bt x k)) (bt_sh (by omega)).symm ?_
    refine z_iconst (v := 1) C dd_Q_firstMethod_35 (by decide) ?_
    refine z_icmp_ne (tgt := 55) C dd_Q_firstMethod_36 (by decide) (fun q36 => skip (fun z => q36 ((pu_b1 _).mpr z.1))) (fun q36 => ?_)
    refine z_iload C dd_Q_firstMethod_39 rfl ?_
    refine z_aload_n C dd_Q_firstMethod_41 rfl ?_
    refine gf_Q_54 (v := .ref (q + 1 + 13)) C dd_Q_firstMethod_42 hP.1 rfl ?_
    refine z_iload_n C dd_Q_firstMethod_45 rfl ?_
    refine z_iald (t0 := 0) (N := 12) (f := I 13) C rfl dd_Q_firstMethod_46 (hP.2 13 (by decide)) (vp_in_nI (by omega) (by decide)) ?_
    refine z_topi (y := I 13 k) (by rw [nI_clamp (by omega)]) ?_
    refine z_iand C dd_Q_firstMethod_47 ?_
    refine z_iload C dd_Q_firstMethod_48 rfl ?_
    refine z_icmp_ne (tgt := 55) C dd_Q_firstMethod_50 (by decide) (fun q50 => skip (fun z => q50 z.2)) (fun q50 => ?_)
    refine z_iload_n C dd_Q_firstMethod_53 rfl ?_
    refine z_istore_n C dd_Q_firstMethod_54 rfl ?_
    refine z_iincN C dd_Q_firstMethod_55 rfl rfl ?_
    refine z_goto (tgt := 13) C dd_Q_firstMethod_58 (by decide) ?_
    rw [pu_fm, if_pos ⟨(pu_b1 _).mp q36, q50⟩] at ihk
    exact ihk
set_option maxRecDepth 20000 in
/-- firstMethod -/
theorem cc_Q_firstMethod (l : Launch) (D : va_G) (dA : Nat → ClassId) (B : Nat) (h : zz_H) (n : Nat) (q : Nat) (F : Nat → Int32) (I : Nat → Nat → Int32) (J : Nat → Nat → Int64) (hP0 : md_P dA F I J q h) (x : Int32) (nM : Nat) (hn : nM ≤ 12) (hF : F 5 = nI nM) : zz_M l D zz_cl (zz_ty dA) B zz_tb (zz_x B) yy_Q_firstMethod (Cond.code yy_Q_firstMethod bb_Q_firstMethod 5 (some FieldType.int)) rm_Q_firstMethod [.ref q, .int x] h n zz_mi (fun r h' n' => h' = h ∧ n' = n ∧ r = pu_fm x (I 13) nM) := by
  refine zz_ofW (zz_f B) [some (.ref q), some (.int x), none, none, none] (by decide) rfl rfl (Nat.le_of_ble_eq_true rfl) ?_
  intro p e s m below meth c C
  have go : ∀ v : Int32, v = pu_fm x (I 13) 0 → zz_W D zz_cl B p l e rm_Q_firstMethod s m [Value.ref q, Value.int x].toArray below meth c (MQ below (zz_Q D zz_cl B zz_mi (fun r h' n' => h' = h ∧ n' = n ∧ r = pu_fm x (I 13) nM)) [Value.ref q, Value.int x].toArray s rm_Q_firstMethod.cells rm_Q_firstMethod.slots (fun q => B ≤ q)) h n 0 0 [some (.ref q), some (.int x), none, none, none] 10 [.int v] := by
    intro v hv
    subst hv
    refine z_istore_n C dd_Q_firstMethod_10 rfl ?_
    refine z_iconst (v := nI 0) C dd_Q_firstMethod_11 (by decide) ?_
    refine z_istore_n C dd_Q_firstMethod_12 rfl ?_
    refine lp_Q_firstMethod C hP0 hn hF (fun o9 ho => ?_) nM 0 none (fun w hw => by cases hw) (by omega)
    refine z_iload_n C dd_Q_firstMethod_61 rfl ?_
    exact z_iret C dd_Q_firstMethod_62 ⟨rfl, rfl, rfl⟩ (by decide) (by decide)
  refine z_iload_n C dd_Q_firstMethod_0 rfl ?_
  refine z_if_ne (tgt := 8) C dd_Q_firstMethod_1 (by decide) (fun q1 => ?_) (fun q1 => ?_)
  · refine z_bipush (v := -2) C dd_Q_firstMethod_8 (by decide) ?_
    exact go _ (by rw [pu_fm, if_neg q1])
  · refine z_iconst (v := -1) C dd_Q_firstMethod_4 (by decide) ?_
    refine z_goto (tgt := 10) C dd_Q_firstMethod_5 (by decide) ?_
    exact go _ (by rw [pu_fm, if_pos q1])
abbrev rm_Q_bestAt : Room := { frames := 3, cells := 0, slots := 0, locals := 60 }
set_option maxRecDepth 20000 in
/-- bestAt -/
theorem cc_Q_bestAt (l : Launch) (D : va_G) (dA : Nat → ClassId) (B : Nat) (h : zz_H) (n : Nat) (q : Nat) (F : Nat → Int32) (I : Nat → Nat → Int32) (J : Nat → Nat → Int64) (hP0 : md_P dA F I J q h) (g0 r0 nM : Nat) (hg : g0 < 4) (hr : r0 < 4096) (hn : nM ≤ 12) (hF : F 5 = nI nM) : zz_M l D zz_cl (zz_ty dA) B zz_tb (zz_x B) yy_Q_bestAt (Cond.code yy_Q_bestAt bb_Q_bestAt 3 (some FieldType.int)) rm_Q_bestAt [.ref q, .int ((nI g0)), .int ((nI r0))] h n zz_mi (fun r h' n' => h' = h ∧ n' = n ∧ r = pu_fm (I 12 (4096 * g0 + r0)) (I 13) nM) := by
  refine zz_ofW (zz_f B) [some (.ref q), some (.int ((nI g0))), some (.int ((nI r0)))] (by decide) rfl rfl (Nat.le_of_ble_eq_true rfl) ?_
  intro p e s m below meth c C
  refine z_aload_n C dd_Q_bestAt_0 rfl ?_
  refine z_aload_n C dd_Q_bestAt_1 rfl ?_
  refine gf_Q_51 (v := .ref (q + 1 + 12)) C dd_Q_bestAt_2 (md_rf hP0).1.1 rfl ?_
  refine z_sipush (v := 4096) C dd_Q_bestAt_5 (by decide) ?_
  refine z_iload_n C dd_Q_bestAt_8 rfl ?_
  refine z_imul C dd_Q_bestAt_9 ?_
  refine z_topi (y := nI (4096 * g0)) (by first | exact (pk_mul _ _).symm | (rw [← pk_mul]; rfl)) ?_
  refine z_iload_n C dd_Q_bestAt_10 rfl ?_
  refine z_iadd C dd_Q_bestAt_11 ?_
  refine z_topi (y := nI ((4096 * g0) + r0)) (by first | exact (nI_add _ _).symm | (rw [← nI_add]; rfl)) ?_
  refine z_iald (t0 := 0) (N := 16384) (f := (I 12)) C rfl dd_Q_bestAt_12 ((md_rf hP0).1.2 12 (by decide)) (vp_in_nI (by omega) (by decide)) ?_
  refine z_topi (y := ((I 12) ((4096 * g0) + r0))) (by rw [nI_clamp (by omega)]) ?_
  refine iv_Q_170 (sk := fun r => .int r :: []) (zz_f B) C dd_Q_bestAt_13 (cc_Q_firstMethod l D dA B _ _ q F I J hP0 _ nM hn hF) hP0.1 rfl rfl ⟨by decide, by decide⟩ (Nat.le_of_ble_eq_true rfl) ⟨by decide, by decide⟩ (fun _ => rfl) (fun r1 h1 n1 p1 => ?_)
  obtain ⟨rfl, rfl, rfl⟩ := p1
  exact z_iret C dd_Q_bestAt_16 ⟨rfl, rfl, rfl⟩ (by decide) (by decide)
