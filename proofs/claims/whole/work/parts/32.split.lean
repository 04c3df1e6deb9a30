/-! the rows of a tree: those whose tests in ma are as in va -/
def pu_S (Pz : Nat → Int64) (R : Nat) (ma va : Int64) : List Nat := (List.range R).filter fun r => decide (Pz r &&& ma = va)
theorem l_eq {x m v : Int64} : x &&& m = v ↔ ∀ i, i < 64 → (bl x i && bl m i) = bl v i := by
  constructor
  · intro h i _
    rw [← h, l_and]
  · intro h
    apply l_ext
    intro i hi
    rw [l_and]
    exact h i hi
theorem pu_pass {x ma va : Int64} {t : Nat} (ht : t < 64) (hm : bl ma t = false) (hv : bl va t = false) : x &&& (ma ||| ((1 : Int64) <<< ((nI t).toInt64 &&& 63))) = va ||| ((1 : Int64) <<< ((nI t).toInt64 &&& 63)) ↔ (x &&& ma = va ∧ bl x t = true) := by
  rw [l_eq, l_eq]
  constructor
  · intro h
    refine ⟨fun i hi => ?_, ?_⟩
    · have z := h i hi
      rw [l_or, l_or, l_one ht hi] at z
      by_cases e : i = t
      · subst e
        rw [hm, hv]
        simp
      · simpa [e] using z
    · have z := h t ht
      rw [l_or, l_or, l_one ht ht] at z
      simpa [hm, hv] using z
  · rintro ⟨h1, h2⟩ i hi
    rw [l_or, l_or, l_one ht hi]
    by_cases e : i = t
    · subst e
      simp [h2]
    · simpa [e] using h1 i hi
theorem pu_fails {x ma va : Int64} {t : Nat} (ht : t < 64) (hm : bl ma t = false) (hv : bl va t = false) : x &&& (ma ||| ((1 : Int64) <<< ((nI t).toInt64 &&& 63))) = va ↔ (x &&& ma = va ∧ bl x t = false) := by
  rw [l_eq, l_eq]
  constructor
  · intro h
    refine ⟨fun i hi => ?_, ?_⟩
    · have z := h i hi
      rw [l_or, l_one ht hi] at z
      by_cases e : i = t
      · subst e
        rw [hm, hv]
        simp
      · simpa [e] using z
    · have z := h t ht
      rw [l_or, l_one ht ht] at z
      simpa [hm, hv] using z
  · rintro ⟨h1, h2⟩ i hi
    rw [l_or, l_one ht hi]
    by_cases e : i = t
    · subst e
      simp [h2, hv]
    · simpa [e] using h1 i hi
theorem pu_S_pass {Pz : Nat → Int64} {R : Nat} {ma va : Int64} {t : Nat} (ht : t < 64) (hm : bl ma t = false) (hv : bl va t = false) : pu_S Pz R (ma ||| ((1 : Int64) <<< ((nI t).toInt64 &&& 63))) (va ||| ((1 : Int64) <<< ((nI t).toInt64 &&& 63))) = (pu_S Pz R ma va).filter fun r => bl (Pz r) t := by
  unfold pu_S
  rw [List.filter_filter]
  congr 1
  funext r
  rw [Bool.eq_iff_iff, decide_eq_true_eq, pu_pass ht hm hv, Bool.and_eq_true, decide_eq_true_eq]
  exact And.comm
theorem pu_S_fail {Pz : Nat → Int64} {R : Nat} {ma va : Int64} {t : Nat} (ht : t < 64) (hm : bl ma t = false) (hv : bl va t = false) : pu_S Pz R (ma ||| ((1 : Int64) <<< ((nI t).toInt64 &&& 63))) va = (pu_S Pz R ma va).filter fun r => !bl (Pz r) t := by
  unfold pu_S
  rw [List.filter_filter]
  congr 1
  funext r
  rw [Bool.eq_iff_iff, decide_eq_true_eq, pu_fails ht hm hv, Bool.and_eq_true, decide_eq_true_eq, Bool.not_eq_true']
  exact And.comm
theorem tg_one_t {be : Nat → Int32} {r0 : Nat} {S : List Nat} : tg_one be (r0 :: S) = true ↔ ∀ r, r ∈ S → be r = be r0 := by
  unfold tg_one
  rw [List.all_eq_true]
  constructor
  · intro h r hr
    have z := List.all_eq_true.mp (h r (List.mem_cons_of_mem _ hr)) r0 (List.mem_cons_self ..)
    exact of_decide_eq_true z
  · intro h r hr
    rw [List.all_eq_true]
    intro r2 hr2
    have e : ∀ r, r ∈ r0 :: S → be r = be r0 := fun r hr => by
      rcases List.mem_cons.mp hr with z | z
      · rw [z]
      · exact h r z
    exact decide_eq_true ((e r hr).trans (e r2 hr2).symm)
theorem tg_one_app {be : Nat → Int32} {r0 k : Nat} {S : List Nat} : tg_one be (r0 :: (S ++ [k])) = (tg_one be (r0 :: S) && decide (be k = be r0)) := by
  rw [Bool.eq_iff_iff, Bool.and_eq_true, tg_one_t, tg_one_t, decide_eq_true_eq]
  constructor
  · intro h
    exact ⟨fun r hr => h r (List.mem_append_left _ hr), h k (List.mem_append_right _ (List.mem_singleton.mpr rfl))⟩
  · rintro ⟨h1, h2⟩ r hr
    rcases List.mem_append.mp hr with z | z
    · exact h1 r z
    · rw [List.mem_singleton.mp z]
      exact h2
theorem pu_cm_eq {J : Nat → Nat → Int64} {be : Nat → Int32} {f : Nat} (hb : ∀ r, ¬ be r = -3 ∧ ¬ be r = -4) : ∀ k, ((List.range k).filter (pu_in3 J f) = [] → pu_cm J be f k = -4) ∧ ∀ r0 S, (List.range k).filter (pu_in3 J f) = r0 :: S → pu_cm J be f k = if tg_one be (r0 :: S) = true then be r0 else -3 := by
  intro k
  induction k with
  | zero => exact ⟨fun _ => rfl, fun r0 S h => by simp at h⟩
  | succ k ih =>
    rw [List.range_succ, List.filter_append, pu_cm]
    cases hk : pu_in3 J f k with
    | false =>
      have e : List.filter (pu_in3 J f) [k] = [] := by simp [hk]
      rw [e, List.append_nil, if_neg (by decide)]
      exact ih
    | true =>
      have e : List.filter (pu_in3 J f) [k] = [k] := by simp [hk]
      rw [e, if_pos rfl]
      refine ⟨fun h => by simp at h, fun r0 S h => ?_⟩
      cases hS : (List.range k).filter (pu_in3 J f) with
      | nil =>
        rw [hS] at h
        have h2 : k = r0 ∧ [] = S := by simpa using h
        obtain ⟨rfl, rfl⟩ := h2
        rw [ih.1 hS, if_pos (Or.inl rfl), if_pos (tg_one_t.mpr (fun r hr => by cases hr))]
      | cons r1 S1 =>
        rw [hS] at h
        have h2 : r1 = r0 ∧ S1 ++ [k] = S := by simpa using h
        obtain ⟨rfl, rfl⟩ := h2
        rw [ih.2 r1 S1 hS, tg_one_app]
        by_cases ho : tg_one be (r1 :: S1) = true
        · rw [if_pos ho, ho, Bool.true_and]
          by_cases e : be k = be r1
          · rw [if_pos (Or.inr e.symm), decide_eq_true e, if_pos rfl, e]
          · rw [decide_eq_false e, if_neg (fun z => z.elim (hb r1).2 (fun z => e z.symm)), if_neg (by decide)]
        · have ho2 : tg_one be (r1 :: S1) = false := by simpa using ho
          rw [if_neg ho, ho2, Bool.false_and, if_neg (fun z => z.elim (by decide) (fun z => (hb k).1 z.symm)), if_neg (by decide)]
/-- where not all rows of a tree have one best, some test parts them -/
theorem tg_parts {pas : Nat → Nat → Bool} {be : Nat → Int32} {T fr : Nat} {S : List Nat} (hA : ∀ r r', r ∈ S → r' ∈ S → (∀ t, t < T → pas r t = pas r' t) → be r = be r') (hl : ∀ r r', r ∈ S → r' ∈ S → ∀ t, t < fr → pas r t = pas r' t) (ho : ¬ tg_one be S = true) : ∃ t, fr ≤ t ∧ t < T ∧ tg_sep pas S t = true := by
  have h1 : ∃ r r', r ∈ S ∧ r' ∈ S ∧ ¬ be r = be r' := by
    apply Classical.byContradiction
    intro hn
    apply ho
    unfold tg_one
    rw [List.all_eq_true]
    intro r hr
    rw [List.all_eq_true]
    intro r2 hr2
    apply decide_eq_true
    apply Classical.byContradiction
    intro z
    exact hn ⟨r, r2, hr, hr2, z⟩
  obtain ⟨r, r', hr, hr', hne⟩ := h1
  have h2 : ∃ t, t < T ∧ ¬ pas r t = pas r' t := by
    apply Classical.byContradiction
    intro hn
    apply hne
    refine hA r r' hr hr' (fun t ht => ?_)
    apply Classical.byContradiction
    intro z
    exact hn ⟨t, ht, z⟩
  obtain ⟨t, ht, hz⟩ := h2
  refine ⟨t, ?_, ht, ?_⟩
  · rcases Nat.lt_or_ge t fr with c | c
    · exact absurd (hl r r' hr hr' t c) hz
    · exact c
  · unfold tg_sep
    rw [Bool.and_eq_true, List.any_eq_true, List.any_eq_true]
    cases e1 : pas r t <;> cases e2 : pas r' t
    · exact absurd (e1.trans e2.symm) hz
    · exact ⟨⟨r', hr', e2⟩, ⟨r, hr, by rw [e1]; rfl⟩⟩
    · exact ⟨⟨r, hr, e1⟩, ⟨r', hr', by rw [e2]; rfl⟩⟩
    · exact absurd (e1.trans e2.symm) hz
theorem tg_sep_lo {pas : Nat → Nat → Bool} {S : List Nat} {t : Nat} (hl : ∀ r r', r ∈ S → r' ∈ S → pas r t = pas r' t) : tg_sep pas S t = false := by
  cases h : tg_sep pas S t with
  | false => rfl
  | true =>
    unfold tg_sep at h
    rw [Bool.and_eq_true, List.any_eq_true, List.any_eq_true] at h
    obtain ⟨⟨r, hr, e⟩, ⟨r', hr', e'⟩⟩ := h
    rw [← hl r r' hr hr', e] at e'
    cases e'
theorem tg_first {p : Nat → Bool} {T t0 : Nat} (h1 : t0 < T) (h2 : p t0 = true) (h3 : ∀ t, t < t0 → p t = false) : (List.range T).find? p = some t0 := by
  rw [List.find?_range_eq_some]
  exact ⟨h2, List.mem_range.mpr h1, fun j hj => by rw [h3 j hj]; rfl⟩
theorem pu_sep_t {J : Nat → Nat → Int64} {f R t : Nat} (ht : t < 64) : pu_sep J f R t = tg_sep (fun r t => bl (J 22 r) t) (pu_S (J 22) R (J 23 f) (J 24 f)) t := by
  unfold pu_sep tg_sep pu_sm pu_S
  congr 1
  · rw [Bool.eq_iff_iff, List.any_eq_true, List.any_eq_true]
    constructor
    · rintro ⟨r, h1, h2⟩
      rw [Bool.and_eq_true, decide_eq_true_eq, l_lb1 ht] at h2
      exact ⟨r, List.mem_filter.mpr ⟨h1, h2.1⟩, h2.2⟩
    · rintro ⟨r, h1, h2⟩
      obtain ⟨a, b⟩ := List.mem_filter.mp h1
      refine ⟨r, a, ?_⟩
      rw [Bool.and_eq_true, decide_eq_true_eq, l_lb1 ht]
      exact ⟨b, h2⟩
  · rw [Bool.eq_iff_iff, List.any_eq_true, List.any_eq_true]
    constructor
    · rintro ⟨r, h1, h2⟩
      rw [Bool.and_eq_true, decide_eq_true_eq, l_lb0 ht] at h2
      exact ⟨r, List.mem_filter.mpr ⟨h1, h2.1⟩, by simpa using h2.2⟩
    · rintro ⟨r, h1, h2⟩
      obtain ⟨a, b⟩ := List.mem_filter.mp h1
      refine ⟨r, a, ?_⟩
      rw [Bool.and_eq_true, decide_eq_true_eq, l_lb0 ht]
      exact ⟨b, by simpa using h2⟩
