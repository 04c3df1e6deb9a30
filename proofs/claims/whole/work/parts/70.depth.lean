/-! a tree is not deeper than 30: each test takes a class or a number away, or is one of two -/
def dp_cn (fp : Nat → Nat) (S : List Nat) : Nat := ((List.range 8).filter fun c => S.any fun r => decide (fp r = c)).length
theorem dp_cn_le {fp : Nat → Nat} {S S' : List Nat} (h : ∀ r, r ∈ S' → r ∈ S) : dp_cn fp S' ≤ dp_cn fp S := by
  refine (flt_lt (fun c hc => ?_) _).1
  obtain ⟨r, r1, r2⟩ := List.any_eq_true.mp hc
  exact List.any_eq_true.mpr ⟨r, h r r1, r2⟩
theorem dp_cn_lt {fp : Nat → Nat} {S S' : List Nat} (h : ∀ r, r ∈ S' → r ∈ S) {r1 : Nat} (h1 : r1 ∈ S) (h8 : fp r1 < 8) (hn : ∀ r, r ∈ S' → ¬ fp r = fp r1) : dp_cn fp S' < dp_cn fp S := by
  refine (flt_lt (fun c hc => ?_) _).2 (fp r1) (List.mem_range.mpr h8) ?_ ?_
  · obtain ⟨r, q1, q2⟩ := List.any_eq_true.mp hc
    exact List.any_eq_true.mpr ⟨r, h r q1, q2⟩
  · exact List.any_eq_true.mpr ⟨r1, h1, by simp⟩
  · rw [List.any_eq_false]
    intro r hr
    simp [hn r hr]
theorem dp_cn_8 {fp : Nat → Nat} {S : List Nat} : dp_cn fp S ≤ 8 := by
  unfold dp_cn
  have := List.length_filter_le (fun c => S.any fun r => decide (fp r = c)) (List.range 8)
  simpa using this
theorem dp_cn_1 {fp : Nat → Nat} {S : List Nat} {r : Nat} (hr : r ∈ S) (h8 : fp r < 8) : 1 ≤ dp_cn fp S := by
  have := dp_cn_lt (fp := fp) (S := S) (S' := []) (fun r h => by cases h) hr h8 (fun r h => by cases h)
  omega
def dp_sp (kd : Nat → Nat) (pas : Nat → Nat → Bool) (T k : Nat) (S : List Nat) : Nat := if ((List.range T).any fun t => decide (kd t = k) && tg_sep pas S t) = true then 1 else 0
theorem dp_sp_1 {kd : Nat → Nat} {pas : Nat → Nat → Bool} {T k : Nat} {S : List Nat} : dp_sp kd pas T k S ≤ 1 := by
  unfold dp_sp
  split <;> omega
theorem dp_sp_le {kd : Nat → Nat} {pas : Nat → Nat → Bool} {T k : Nat} {S S' : List Nat} (h : ∀ r, r ∈ S' → r ∈ S) : dp_sp kd pas T k S' ≤ dp_sp kd pas T k S := by
  unfold dp_sp
  by_cases c : ((List.range T).any fun t => decide (kd t = k) && tg_sep pas S' t) = true
  · obtain ⟨t, t1, t2⟩ := List.any_eq_true.mp c
    rw [Bool.and_eq_true] at t2
    rw [if_pos c, if_pos (List.any_eq_true.mpr ⟨t, t1, by rw [Bool.and_eq_true]; exact ⟨t2.1, tg_sep_sub h t t2.2⟩⟩)]
    exact Nat.le_refl _
  · rw [if_neg c]
    exact Nat.zero_le _
theorem dp_sp_lt {kd : Nat → Nat} {pas : Nat → Nat → Bool} {T k t0 : Nat} {S S' : List Nat} (ht : t0 < T) (hk : kd t0 = k) (hs : tg_sep pas S t0 = true) (hn : ∀ t, t < T → kd t = k → tg_sep pas S' t = false) : dp_sp kd pas T k S' < dp_sp kd pas T k S := by
  unfold dp_sp
  rw [if_neg, if_pos (List.any_eq_true.mpr ⟨t0, List.mem_range.mpr ht, by rw [Bool.and_eq_true, decide_eq_true_iff]; exact ⟨hk, hs⟩⟩)]
  · exact Nat.zero_lt_one
  · intro c
    obtain ⟨t, t1, t2⟩ := List.any_eq_true.mp c
    rw [Bool.and_eq_true, decide_eq_true_iff] at t2
    rw [hn t (List.mem_range.mp t1) t2.1] at t2
    exact absurd t2.2 (by decide)
def dp_su (a b kd : Nat → Nat) (pas : Nat → Nat → Bool) (T : Nat) (S : List Nat) : Nat := dp_cn (fun r => a r / 8) S + dp_cn (fun r => a r % 8) S + dp_cn (fun r => b r / 8) S + dp_cn (fun r => b r % 8) S + dp_sp kd pas T 4 S + dp_sp kd pas T 5 S
def dp_mu (a b kd : Nat → Nat) (pas : Nat → Nat → Bool) (T : Nat) (S : List Nat) : Nat := dp_su a b kd pas T S - 4
theorem dp_mu_30 {a b kd : Nat → Nat} {pas : Nat → Nat → Bool} {T : Nat} {S : List Nat} : dp_mu a b kd pas T S ≤ 30 := by
  unfold dp_mu dp_su
  have h1 := dp_cn_8 (fp := fun r => a r / 8) (S := S)
  have h2 := dp_cn_8 (fp := fun r => a r % 8) (S := S)
  have h3 := dp_cn_8 (fp := fun r => b r / 8) (S := S)
  have h4 := dp_cn_8 (fp := fun r => b r % 8) (S := S)
  have h5 := dp_sp_1 (kd := kd) (pas := pas) (T := T) (k := 4) (S := S)
  have h6 := dp_sp_1 (kd := kd) (pas := pas) (T := T) (k := 5) (S := S)
  omega
theorem ph_cls {par : Nat → Int32} {wh a b a1 b1 : Nat} {x : Int32} (h : (if wh = 0 then a else b) / 8 = (if wh = 0 then a1 else b1) / 8) : pu_holds par 0 wh x a b = pu_holds par 0 wh x a1 b1 := by
  unfold pu_holds
  rw [if_pos rfl, if_pos rfl, h]
theorem ph_num {par : Nat → Int32} {kd wh a b a1 b1 : Nat} {x : Int32} (hk : kd = 1 ∨ kd = 2 ∨ kd = 3) (h : (if wh = 0 then a else b) % 8 = (if wh = 0 then a1 else b1) % 8) : pu_holds par kd wh x a b = pu_holds par kd wh x a1 b1 := by
  unfold pu_holds
  generalize (if wh = 0 then a else b) = v at h ⊢
  generalize (if wh = 0 then a1 else b1) = v1 at h ⊢
  rcases hk with rfl | rfl | rfl
  · show decide (nI (v % 8) - 4 < x) = decide (nI (v1 % 8) - 4 < x)
    rw [h]
  · show decide (nI (v % 8) - 4 = x) = decide (nI (v1 % 8) - 4 = x)
    rw [h]
  · show decide (v % 2 = 0) = decide (v1 % 2 = 0)
    have e : v % 2 = v1 % 2 := by omega
    rw [e]
theorem ph_two {par : Nat → Int32} {kd wh wh2 a b : Nat} {x x2 : Int32} (hk : kd = 4 ∨ kd = 5) : pu_holds par kd wh x a b = pu_holds par kd wh2 x2 a b := by
  rcases hk with rfl | rfl
  · show decide (a % 8 < b % 8) = decide (a % 8 < b % 8)
    rfl
  · show decide (a / 8 = b / 8) = decide (a / 8 = b / 8)
    rfl
theorem dp_nsep {pas : Nat → Nat → Bool} {S' : List Nat} {t : Nat} {v : Bool} (hv : ∀ r, r ∈ S' → pas r t = v) : tg_sep pas S' t = false := by
  unfold tg_sep
  cases v
  · rw [Bool.and_eq_false_iff]
    left
    rw [List.any_eq_false]
    intro r hr
    simp [hv r hr]
  · rw [Bool.and_eq_false_iff]
    right
    rw [List.any_eq_false]
    intro r hr
    simp [hv r hr]
theorem dp_sum {x1 x2 x3 x4 x5 x6 y1 y2 y3 y4 y5 y6 : Nat} (c1 : x1 ≤ y1) (c2 : x2 ≤ y2) (c3 : x3 ≤ y3) (c4 : x4 ≤ y4) (c5 : x5 ≤ y5) (c6 : x6 ≤ y6) (h : x1 < y1 ∨ x2 < y2 ∨ x3 < y3 ∨ x4 < y4 ∨ x5 < y5 ∨ x6 < y6) : x1 + x2 + x3 + x4 + x5 + x6 < y1 + y2 + y3 + y4 + y5 + y6 := by omega
theorem dp_su_lt {a b kd wh : Nat → Nat} {nu : Nat → Int32} {par : Nat → Int32} {T t0 : Nat} {S S' : List Nat} (hab : ∀ r, r ∈ S → a r < 64 ∧ b r < 64) (hk : ∀ t, t < T → kd t < 6 ∧ wh t < 2) (ht : t0 < T) (hsub : ∀ r, r ∈ S' → r ∈ S) (v : Bool) (hv : ∀ r, r ∈ S' → pu_holds par (kd t0) (wh t0) (nu t0) (a r) (b r) = v) {r1 : Nat} (h1 : r1 ∈ S) (hr1 : ¬ pu_holds par (kd t0) (wh t0) (nu t0) (a r1) (b r1) = v) (hs : tg_sep (fun r t => pu_holds par (kd t) (wh t) (nu t) (a r) (b r)) S t0 = true) : dp_su a b kd (fun r t => pu_holds par (kd t) (wh t) (nu t) (a r) (b r)) T S' < dp_su a b kd (fun r t => pu_holds par (kd t) (wh t) (nu t) (a r) (b r)) T S := by
  obtain ⟨k6, w2⟩ := hk t0 ht
  obtain ⟨a64, b64⟩ := hab r1 h1
  refine dp_sum (dp_cn_le hsub) (dp_cn_le hsub) (dp_cn_le hsub) (dp_cn_le hsub) (dp_sp_le hsub) (dp_sp_le hsub) ?_
  have two : ∀ k, (k = 4 ∨ k = 5) → kd t0 = k → dp_sp kd (fun r t => pu_holds par (kd t) (wh t) (nu t) (a r) (b r)) T k S' < dp_sp kd (fun r t => pu_holds par (kd t) (wh t) (nu t) (a r) (b r)) T k S := by
    intro k hk4 e
    refine dp_sp_lt ht e hs (fun t _ hkt => dp_nsep (v := v) (fun r hr => ?_))
    have q := hv r hr
    rw [e] at q
    show pu_holds par (kd t) (wh t) (nu t) (a r) (b r) = v
    rw [hkt, ph_two (wh2 := wh t0) (x2 := nu t0) hk4]
    exact q
  have hkk : kd t0 = 0 ∨ (kd t0 = 1 ∨ kd t0 = 2 ∨ kd t0 = 3) ∨ kd t0 = 4 ∨ kd t0 = 5 := by omega
  have hw : wh t0 = 0 ∨ wh t0 = 1 := by omega
  rcases hkk with e | e | e | e
  · rcases hw with w | w
    · left
      refine dp_cn_lt hsub h1 (by omega) (fun r hr z => hr1 ?_)
      rw [← hv r hr, e]
      exact ph_cls (by rw [if_pos w, if_pos w]; exact z.symm)
    · right; right; left
      refine dp_cn_lt hsub h1 (by omega) (fun r hr z => hr1 ?_)
      rw [← hv r hr, e]
      exact ph_cls (by rw [if_neg (by omega), if_neg (by omega)]; exact z.symm)
  · rcases hw with w | w
    · right; left
      refine dp_cn_lt hsub h1 (by omega) (fun r hr z => hr1 ?_)
      rw [← hv r hr]
      exact ph_num e (by rw [if_pos w, if_pos w]; exact z.symm)
    · right; right; right; left
      refine dp_cn_lt hsub h1 (by omega) (fun r hr z => hr1 ?_)
      rw [← hv r hr]
      exact ph_num e (by rw [if_neg (by omega), if_neg (by omega)]; exact z.symm)
  · right; right; right; right; left
    exact two 4 (Or.inl rfl) e
  · right; right; right; right; right
    exact two 5 (Or.inr rfl) e
theorem dp_mu_lt {a b kd wh : Nat → Nat} {nu : Nat → Int32} {par : Nat → Int32} {T t0 : Nat} {S : List Nat} (hab : ∀ r, r ∈ S → a r < 64 ∧ b r < 64) (hk : ∀ t, t < T → kd t < 6 ∧ wh t < 2) (ht : t0 < T) (hs : tg_sep (fun r t => pu_holds par (kd t) (wh t) (nu t) (a r) (b r)) S t0 = true) : dp_mu a b kd (fun r t => pu_holds par (kd t) (wh t) (nu t) (a r) (b r)) T (S.filter fun r => pu_holds par (kd t0) (wh t0) (nu t0) (a r) (b r)) < dp_mu a b kd (fun r t => pu_holds par (kd t) (wh t) (nu t) (a r) (b r)) T S ∧ dp_mu a b kd (fun r t => pu_holds par (kd t) (wh t) (nu t) (a r) (b r)) T (S.filter fun r => !pu_holds par (kd t0) (wh t0) (nu t0) (a r) (b r)) < dp_mu a b kd (fun r t => pu_holds par (kd t) (wh t) (nu t) (a r) (b r)) T S := by
  have hs2 := hs
  unfold tg_sep at hs2
  rw [Bool.and_eq_true, List.any_eq_true, List.any_eq_true] at hs2
  obtain ⟨⟨r1, q1, q2⟩, r2, q3, q4⟩ := hs2
  have f4 : ∀ S' : List Nat, (∀ r, r ∈ S' → r ∈ S) → (∃ r, r ∈ S') → 4 ≤ dp_su a b kd (fun r t => pu_holds par (kd t) (wh t) (nu t) (a r) (b r)) T S' := by
    intro S' hsub hne
    obtain ⟨r, hr⟩ := hne
    obtain ⟨x1, x2⟩ := hab r (hsub r hr)
    have h1 := dp_cn_1 (fp := fun r => a r / 8) hr (by omega)
    have h2 := dp_cn_1 (fp := fun r => a r % 8) hr (by omega)
    have h3 := dp_cn_1 (fp := fun r => b r / 8) hr (by omega)
    have h4 := dp_cn_1 (fp := fun r => b r % 8) hr (by omega)
    unfold dp_su
    omega
  have g1 := dp_su_lt (par := par) (nu := nu) hab hk ht (S' := S.filter fun r => pu_holds par (kd t0) (wh t0) (nu t0) (a r) (b r)) (fun r hr => (List.mem_filter.mp hr).1) true (fun r hr => (List.mem_filter.mp hr).2) q3 (by simpa using q4) hs
  have g2 := dp_su_lt (par := par) (nu := nu) hab hk ht (S' := S.filter fun r => !pu_holds par (kd t0) (wh t0) (nu t0) (a r) (b r)) (fun r hr => (List.mem_filter.mp hr).1) false (fun r hr => by simpa using (List.mem_filter.mp hr).2) q1 (fun z => absurd (z.symm.trans q2) (by decide)) hs
  have n1 := f4 (S.filter fun r => pu_holds par (kd t0) (wh t0) (nu t0) (a r) (b r)) (fun r hr => (List.mem_filter.mp hr).1) ⟨r1, List.mem_filter.mpr ⟨q1, q2⟩⟩
  have n2 := f4 (S.filter fun r => !pu_holds par (kd t0) (wh t0) (nu t0) (a r) (b r)) (fun r hr => (List.mem_filter.mp hr).1) ⟨r2, List.mem_filter.mpr ⟨q3, q4⟩⟩
  unfold dp_mu
  omega
