/-! Int64 by its bits -/
def bl (x : Int64) (i : Nat) : Bool := x.toBitVec.getLsbD i
theorem l_ext {x y : Int64} (h : ∀ i, i < 64 → bl x i = bl y i) : x = y := Int64.toBitVec_inj.mp (BitVec.eq_of_getLsbD_eq (fun i hi => h i hi))
theorem l_or (x y : Int64) (i : Nat) : bl (x ||| y) i = (bl x i || bl y i) := by unfold bl; rw [Int64.toBitVec_or, BitVec.getLsbD_or]
theorem l_and (x y : Int64) (i : Nat) : bl (x &&& y) i = (bl x i && bl y i) := by unfold bl; rw [Int64.toBitVec_and, BitVec.getLsbD_and]
theorem l_0 (i : Nat) : bl 0 i = false := BitVec.getLsbD_zero
theorem l_1 : ∀ i, i < 64 → bl 1 i = decide (i = 0) := by decide +kernel
theorem l_sl : ∀ n, n < 64 → (((nI n).toInt64 &&& 63).toBitVec.smod 64).toNat = n := by decide +kernel
theorem l_shl (n : Nat) (hn : n < 64) (x : Int64) {i : Nat} (hi : i < 64) : bl (x <<< ((nI n).toInt64 &&& 63)) i = (decide (n ≤ i) && bl x (i - n)) := by
  unfold bl
  rw [Int64.toBitVec_shiftLeft]
  show (x.toBitVec <<< (((nI n).toInt64 &&& 63).toBitVec.smod 64).toNat).getLsbD i = _
  rw [l_sl n hn, BitVec.getLsbD_shiftLeft]
  rcases Nat.lt_or_ge i n with h | h
  · simp [h, Nat.not_le.mpr h]
  · simp [hi, h, Nat.not_lt.mpr h]
theorem l_shr (n : Nat) (hn : n < 64) (x : Int64) {i : Nat} (hi : i < 64) : bl (x >>> ((nI n).toInt64 &&& 63)) i = if n + i < 64 then bl x (n + i) else bl x 63 := by
  unfold bl
  rw [Int64.toBitVec_shiftRight]
  show (x.toBitVec.sshiftRight (((nI n).toInt64 &&& 63).toBitVec.smod 64).toNat).getLsbD i = _
  rw [l_sl n hn, BitVec.getLsbD_sshiftRight, BitVec.msb_eq_getLsbD_last]
  simp [hi]
theorem l_one {n i : Nat} (hn : n < 64) (hi : i < 64) : bl ((1 : Int64) <<< ((nI n).toInt64 &&& 63)) i = decide (i = n) := by
  rw [l_shl n hn 1 hi]
  rcases Nat.lt_or_ge i n with h | h
  · simp [Nat.not_le.mpr h, Nat.ne_of_lt h]
  · rw [l_1 (i - n) (by omega)]
    by_cases e : i = n
    · subst e; simp
    · have e2 : ¬ i - n = 0 := by omega
      simp [e, e2]
theorem l_lb {x : Int64} {t : Nat} (ht : t < 64) : pu_lb x t = if bl x t then 1 else 0 := by
  unfold pu_lb
  apply l_ext
  intro i hi
  rw [l_and, l_shr t ht x hi, l_1 i hi]
  by_cases e : i = 0
  · subst e
    rw [if_pos (by omega)]
    cases hb : bl x t <;> simp [hb, l_1 0 (by decide), l_0]
  · cases hb : bl x t <;> simp [e, l_1 i hi, l_0]
theorem l_lb1 {x : Int64} {t : Nat} (ht : t < 64) : pu_lb x t = 1 ↔ bl x t = true := by
  rw [l_lb ht]
  cases bl x t <;> simp <;> decide
theorem l_lb0 {x : Int64} {t : Nat} (ht : t < 64) : pu_lb x t = 0 ↔ bl x t = false := by
  rw [l_lb ht]
  cases bl x t <;> simp <;> decide
theorem l_ls (f : Nat → Bool) : ∀ k, k ≤ 64 → ∀ i, i < 64 → bl (pu_ls f k) i = (decide (i < k) && f i)
  | 0, _, i, _ => by rw [pu_ls, l_0]; simp
  | k + 1, hk, i, hi => by
    have ih := l_ls f k (by omega) i hi
    rw [pu_ls]
    by_cases hf : f k = true
    · rw [if_pos hf, l_or, ih, l_one (by omega) hi]
      by_cases e : i = k
      · subst e; simp [hf]
      · have e2 : (i < k + 1) ↔ (i < k) := by omega
        simp [e, e2]
    · rw [if_neg hf, ih]
      by_cases e : i = k
      · subst e
        have hf2 : f i = false := by simpa using hf
        simp [hf2]
      · have e2 : (i < k + 1) ↔ (i < k) := by omega
        simp [e2]
/-! every atom of a generic's methods is among its tests -/
def pu_hs (X : Nat → Nat → Int32) (g k : Nat) : Prop := ∃ t, t < (X 18 g).toNatClampNeg ∧ pu_tq X (48 * g + t) k = true
theorem pu_hs_keep {I X : Nat → Nat → Int32} {g c k k' : Nat} (h : pu_gI I X g c) (hc : c < 48) (hh : pu_hs X g k') : pu_hs (pu_g1 X g k) g k' := by
  obtain ⟨e, T, hT, eT, hs⟩ := h
  obtain ⟨t, h1, h2⟩ := hh
  rw [eT, nI_clamp (by omega)] at h1
  unfold pu_g1
  rw [eT, nI_clamp (by omega)]
  unfold pu_g0
  split
  · exact ⟨t, by rw [eT, nI_clamp (by omega)]; exact h1, h2⟩
  · refine ⟨t, ?_, ?_⟩
    · show t < (upd (X 18) g (nI (T + 1)) g).toNatClampNeg
      rw [pk_us, nI_clamp (by omega)]
      omega
    · unfold pu_tq
      show (decide (upd (X 19) (48 * g + T) (X 4 k) (48 * g + t) = X 4 k') && (decide (upd (X 20) (48 * g + T) (X 5 k) (48 * g + t) = X 5 k') && decide (upd (X 21) (48 * g + T) (X 6 k) (48 * g + t) = X 6 k'))) = true
      rw [pk_un (by omega), pk_un (by omega), pk_un (by omega)]
      exact h2
theorem pu_hs_new {I X : Nat → Nat → Int32} {g c k : Nat} (h : pu_gI I X g c) (hc : c < 48) : pu_hs (pu_g1 X g k) g k := by
  obtain ⟨e, T, hT, eT, hs⟩ := h
  unfold pu_g1
  rw [eT, nI_clamp (by omega)]
  unfold pu_g0
  split
  · rename_i ha
    obtain ⟨t, h1, h2⟩ := List.any_eq_true.mp ha
    exact ⟨t, by rw [eT, nI_clamp (by omega)]; exact List.mem_range.mp h1, h2⟩
  · refine ⟨T, ?_, ?_⟩
    · show T < (upd (X 18) g (nI (T + 1)) g).toNatClampNeg
      rw [pk_us, nI_clamp (by omega)]
      omega
    · unfold pu_tq
      show (decide (upd (X 19) (48 * g + T) (X 4 k) (48 * g + T) = X 4 k) && (decide (upd (X 20) (48 * g + T) (X 5 k) (48 * g + T) = X 5 k) && decide (upd (X 21) (48 * g + T) (X 6 k) (48 * g + T) = X 6 k))) = true
      rw [pk_us, pk_us, pk_us]
      simp
theorem pu_hs_2 {I X : Nat → Nat → Int32} {g m c : Nat} (h : pu_gI I X g c) : ∀ j, c + j ≤ 48 → (∀ i, i < j → pu_wa I (4 * m + i)) → (∀ k', pu_hs X g k' → pu_hs (pu_g2 X g m j) g k') ∧ ∀ i, i < j → pu_hs (pu_g2 X g m j) g (4 * m + i) := by
  intro j
  induction j with
  | zero => intro _ _; exact ⟨fun _ z => z, fun i hi => absurd hi (by omega)⟩
  | succ j ih =>
    intro hc hw
    obtain ⟨i1, i2⟩ := ih (by omega) (fun i hi => hw i (by omega))
    have hI := pu_g2_inv h j (by omega) (fun i hi => hw i (by omega))
    refine ⟨fun k' z => pu_hs_keep (c := c + j) hI (by omega) (i1 k' z), fun i hi => ?_⟩
    by_cases e : i = j
    · subst e
      exact pu_hs_new (c := c + i) hI (by omega)
    · exact pu_hs_keep (c := c + j) hI (by omega) (i2 i (by omega))
theorem pu_hs_3 {F : Nat → Int32} {I : Nat → Nat → Int32} {nc ng nM g : Nat} (W : pu_W F I nc ng nM) : ∀ m, m ≤ nM → ∀ m', m' < m → I 2 m' = nI g → ∀ i, i < (I 3 m').toNatClampNeg → pu_hs (pu_g3 I g m) g (4 * m' + i) := by
  intro m
  have h12 := W.m12
  induction m with
  | zero => intro _ m' h; exact absurd h (by omega)
  | succ m ih =>
    intro hm m' hm' e2 i hi
    obtain ⟨b, h1, h2, h3⟩ := W.ats m (by omega)
    have hI := pu_g3_inv (g := g) W m (by omega)
    rw [pu_g3]
    by_cases e : m' = m
    · subst e
      rw [if_pos e2, h2, nI_clamp (by omega)]
      rw [h2, nI_clamp (by omega)] at hi
      exact (pu_hs_2 hI b (by omega) h3).2 i hi
    · have hh := ih (by omega) m' (by omega) e2 i hi
      split
      · rw [h2, nI_clamp (by omega)]
        exact (pu_hs_2 hI b (by omega) h3).1 _ hh
      · exact hh
theorem pu_ms_cg {f f' : Nat → Bool} : ∀ k, (∀ i, i < k → f i = f' i) → pu_ms f k = pu_ms f' k
  | 0, _ => rfl
  | k + 1, h => by
    rw [pu_ms, pu_ms, h k (by omega), pu_ms_cg k (fun i hi => h i (by omega))]
theorem pu_all_cg {f f' : Nat → Bool} : ∀ k, (∀ i, i < k → f i = f' i) → (List.range k).all f = (List.range k).all f'
  | 0, _ => rfl
  | k + 1, h => by
    rw [pu_all, pu_all, h k (by omega), pu_all_cg k (fun i hi => h i (by omega))]
/-- rows that pass the same tests have the same methods -/
theorem pu_A_same {F : Nat → Int32} {I : Nat → Nat → Int32} {nc ng nM g ar r r' : Nat} (W : pu_W F I nc ng nM) (hz : ∀ t, t < pu_gT I g nM → pu_pz (pu_g3 I g nM) g nc ar r t = pu_pz (pu_g3 I g nM) g nc ar r' t) : pu_A I nc nM g ar r = pu_A I nc nM g ar r' := by
  have h12 := W.m12
  obtain ⟨e, T, hT, eT, hs⟩ := pu_g3_inv (g := g) W nM (Nat.le_refl _)
  unfold pu_A
  refine pu_ms_cg nM (fun m hm => ?_)
  unfold pu_ap
  by_cases eo : I 2 m = nI g
  · rw [decide_eq_true eo, Bool.true_and, Bool.true_and]
    unfold pu_app
    refine pu_all_cg _ (fun i hi => ?_)
    obtain ⟨t, h1, h2⟩ := pu_hs_3 (g := g) W nM (Nat.le_refl _) m hm eo i hi
    have hp := hz t h1
    unfold pu_tq at h2
    rw [Bool.and_eq_true, Bool.and_eq_true, decide_eq_true_eq, decide_eq_true_eq, decide_eq_true_eq] at h2
    obtain ⟨z1, z2, z3⟩ := h2
    unfold pu_pz at hp
    rw [z1, z2, z3, e 0 (by decide), e 4 (by decide), e 5 (by decide), e 6 (by decide)] at hp
    unfold pu_at
    rw [hp]
  · rw [decide_eq_false eo, Bool.false_and, Bool.false_and]
