/-! the class's tree: its rows from f to t are those of S -/
def dk_sg (y : Nat → Int64) (f t : Nat) (S : List Nat) (rv : Nat → Int64) : Prop := (∀ j, f ≤ j → j < t → ∃ r, r ∈ S ∧ y j = rv r) ∧ ∀ r, r ∈ S → ∃ j, f ≤ j ∧ j < t ∧ y j = rv r
abbrev l48 (x : Int64) : Int64 := (x.toUInt64 >>> ((Int32.toInt64 48).toUInt64 &&& Int64.toUInt64 63)).toInt64
/-- what a row's number says: its tests below 48, its best above -/
def dk_vo (rv : Nat → Int64) (pas : Nat → Nat → Bool) (be : Nat → Int32) (hb : Int32 → Nat → Bool) (T : Nat) (P : Nat → Prop) : Prop := T ≤ 48 ∧ ∀ r, P r → (∀ i, i < 48 → bl (rv r) i = (decide (i < T) && pas r i)) ∧ (l48 (rv r)).toInt32 + (-2) = be r ∧ ∀ i, 48 ≤ i → i < 64 → bl (rv r) i = hb (be r) i
theorem l_ush48 (x : Int64) {i : Nat} (hi : i < 64) : bl (l48 x) i = bl x (48 + i) := by
  unfold bl l48
  show (x.toUInt64 >>> ((Int32.toInt64 48).toUInt64 &&& Int64.toUInt64 63)).toBitVec.getLsbD i = _
  rw [UInt64.toBitVec_shiftRight, BitVec.ushiftRight_eq']
  show (x.toBitVec >>> (((Int32.toInt64 48).toUInt64 &&& Int64.toUInt64 63).toBitVec % 64).toNat).getLsbD i = _
  have e : (((Int32.toInt64 48).toUInt64 &&& Int64.toUInt64 63).toBitVec % 64).toNat = 48 := by decide
  rw [e, BitVec.getLsbD_ushiftRight]
theorem l48_0 {x : Int64} : l48 x = 0 ↔ ∀ i, 48 ≤ i → i < 64 → bl x i = false := by
  constructor
  · intro h i h1 h2
    have := l_ush48 x (i := i - 48) (by omega)
    rw [h, l_0, show 48 + (i - 48) = i by omega] at this
    exact this.symm
  · intro h
    apply l_ext
    intro i hi
    rw [l_ush48 x hi, l_0]
    rcases Nat.lt_or_ge (48 + i) 64 with c | c
    · exact h _ (by omega) c
    · exact BitVec.getLsbD_of_ge _ _ c
section DTR
variable {rv : Nat → Int64} {pas : Nat → Nat → Bool} {be : Nat → Int32} {hb : Int32 → Nat → Bool} {T : Nat} {P : Nat → Prop} {y : Nat → Int64} {f t : Nat} {S : List Nat}
theorem dk_one (V : dk_vo rv pas be hb T P) (hS : ∀ r, r ∈ S → P r) (sg : dk_sg y f t S rv) (hft : f ≤ t) : l48 (dk_df y f t) = 0 ↔ tg_one be S = true := by
  rw [l48_0]
  unfold tg_one
  rw [List.all_eq_true]
  constructor
  · intro h r hr
    rw [List.all_eq_true]
    intro r2 hr2
    rw [decide_eq_true_iff]
    have e : ∀ i, 48 ≤ i → i < 64 → bl (rv r) i = bl (rv r2) i := by
      intro i h1 h2
      have hn := h i h1 h2
      obtain ⟨j, j1, j2, j3⟩ := sg.2 r hr
      obtain ⟨k, k1, k2, k3⟩ := sg.2 r2 hr2
      cases c : bl (rv r) i <;> cases c2 : bl (rv r2) i
      · rfl
      · exfalso
        have := (dk_df_b (y := y) hft h2).mpr ⟨⟨k, k1, k2, by rw [k3]; exact c2⟩, j, j1, j2, by rw [j3]; exact c⟩
        rw [hn] at this
        cases this
      · exfalso
        have := (dk_df_b (y := y) hft h2).mpr ⟨⟨j, j1, j2, by rw [j3]; exact c⟩, k, k1, k2, by rw [k3]; exact c2⟩
        rw [hn] at this
        cases this
      · rfl
    have e2 : l48 (rv r) = l48 (rv r2) := by
      apply l_ext
      intro i hi
      rw [l_ush48 _ hi, l_ush48 _ hi]
      rcases Nat.lt_or_ge (48 + i) 64 with c | c
      · exact e _ (by omega) c
      · unfold bl
        rw [BitVec.getLsbD_of_ge _ _ c, BitVec.getLsbD_of_ge _ _ c]
    rw [← (V.2 r (hS r hr)).2.1, ← (V.2 r2 (hS r2 hr2)).2.1, e2]
  · intro h i h1 h2
    cases c : bl (dk_df y f t) i
    · rfl
    · exfalso
      obtain ⟨⟨j, j1, j2, j3⟩, k, k1, k2, k3⟩ := (dk_df_b hft h2).mp c
      obtain ⟨r, r1, r2⟩ := sg.1 j j1 j2
      obtain ⟨q, q1, q2⟩ := sg.1 k k1 k2
      have e := List.all_eq_true.mp (h r r1) q q1
      rw [decide_eq_true_iff] at e
      rw [r2, (V.2 r (hS r r1)).2.2 i h1 h2, e, ← (V.2 q (hS q q1)).2.2 i h1 h2, ← q2, k3] at j3
      cases j3
theorem dk_leaf (V : dk_vo rv pas be hb T P) (hS : ∀ r, r ∈ S → P r) (sg : dk_sg y f t S rv) (hft : f < t) (h1 : tg_one be S = true) {r0 : Nat} (h0 : r0 ∈ S) : (l48 (y f)).toInt32 + (-2) = be r0 := by
  obtain ⟨r, r1, r2⟩ := sg.1 f (Nat.le_refl _) hft
  rw [r2, (V.2 r (hS r r1)).2.1]
  unfold tg_one at h1
  have := List.all_eq_true.mp (List.all_eq_true.mp h1 r r1) r0 h0
  exact decide_eq_true_iff.mp this
theorem dk_sep (V : dk_vo rv pas be hb T P) (hS : ∀ r, r ∈ S → P r) (sg : dk_sg y f t S rv) (hft : f ≤ t) {i : Nat} (hi : i < T) : bl (dk_df y f t) i = tg_sep pas S i := by
  have hT := V.1
  rw [Bool.eq_iff_iff, dk_df_b hft (by omega)]
  unfold tg_sep
  rw [Bool.and_eq_true, List.any_eq_true, List.any_eq_true]
  have e : ∀ r, P r → bl (rv r) i = pas r i := by
    intro r hr
    rw [(V.2 r hr).1 i (by omega), decide_eq_true hi]
    rfl
  constructor
  · rintro ⟨⟨j, j1, j2, j3⟩, k, k1, k2, k3⟩
    obtain ⟨r, r1, r2⟩ := sg.1 j j1 j2
    obtain ⟨q, q1, q2⟩ := sg.1 k k1 k2
    refine ⟨⟨r, r1, ?_⟩, q, q1, ?_⟩
    · rw [← e r (hS r r1), ← r2]; exact j3
    · rw [← e q (hS q q1), ← q2, k3]; rfl
  · rintro ⟨⟨r, r1, r2⟩, q, q1, q2⟩
    obtain ⟨j, j1, j2, j3⟩ := sg.2 r r1
    obtain ⟨k, k1, k2, k3⟩ := sg.2 q q1
    refine ⟨⟨j, j1, j2, ?_⟩, k, k1, k2, ?_⟩
    · rw [j3, e r (hS r r1)]; exact r2
    · rw [k3, e q (hS q q1)]; simpa using q2
theorem dk_low (V : dk_vo rv pas be hb T P) (hS : ∀ r, r ∈ S → P r) (sg : dk_sg y f t S rv) (hft : f ≤ t) {i : Nat} (h1 : T ≤ i) (h2 : i < 48) : bl (dk_df y f t) i = false := by
  cases c : bl (dk_df y f t) i
  · rfl
  · exfalso
    obtain ⟨⟨j, j1, j2, j3⟩, _⟩ := (dk_df_b hft (by omega)).mp c
    obtain ⟨r, r1, r2⟩ := sg.1 j j1 j2
    rw [r2, (V.2 r (hS r r1)).1 i h2, decide_eq_false (by omega)] at j3
    cases j3
/-- the lowest test in which the rows differ -/
theorem dk_first (V : dk_vo rv pas be hb T P) (hS : ∀ r, r ∈ S → P r) (sg : dk_sg y f t S rv) (hft : f ≤ t) (det : ∀ r q, P r → P q → (∀ i, i < T → pas r i = pas q i) → be r = be q) (h1 : ¬ tg_one be S = true) : ∃ t0, t0 < T ∧ (List.range T).find? (tg_sep pas S) = some t0 ∧ tg_sep pas S t0 = true ∧ bl (dk_df y f t) t0 = true ∧ ∀ i, i < t0 → bl (dk_df y f t) i = false := by
  have hex : ∃ i, i < T ∧ tg_sep pas S i = true := by
    apply Classical.byContradiction
    intro hn
    refine h1 ?_
    unfold tg_one
    rw [List.all_eq_true]
    intro r hr
    rw [List.all_eq_true]
    intro q hq
    rw [decide_eq_true_iff]
    refine det r q (hS r hr) (hS q hq) (fun i hi => ?_)
    cases c1 : pas r i <;> cases c2 : pas q i
    · rfl
    · exfalso
      exact hn ⟨i, hi, by unfold tg_sep; rw [Bool.and_eq_true]; exact ⟨List.any_eq_true.mpr ⟨q, hq, c2⟩, List.any_eq_true.mpr ⟨r, hr, by rw [c1]; rfl⟩⟩⟩
    · exfalso
      exact hn ⟨i, hi, by unfold tg_sep; rw [Bool.and_eq_true]; exact ⟨List.any_eq_true.mpr ⟨r, hr, c1⟩, List.any_eq_true.mpr ⟨q, hq, by rw [c2]; rfl⟩⟩⟩
    · rfl
  cases hf : (List.range T).find? (tg_sep pas S) with
  | none =>
    exfalso
    obtain ⟨i, i1, i2⟩ := hex
    have := List.find?_eq_none.mp hf i (List.mem_range.mpr i1)
    exact this i2
  | some t0 =>
    have hs := List.find?_some hf
    have hm := List.mem_range.mp (List.mem_of_find?_eq_some hf)
    refine ⟨t0, hm, rfl, hs, by rw [dk_sep V hS sg hft hm]; exact hs, fun i hi => ?_⟩
    rw [dk_sep V hS sg hft (by omega)]
    cases c : tg_sep pas S i
    · rfl
    · exfalso
      obtain ⟨_, as, bs, e1, e2⟩ := List.find?_eq_some_iff_append.mp hf
      have hlen : as.length = t0 := by
        have h3 := congrArg (fun L : List Nat => L[as.length]?) e1
        simp at h3
        have h4 : (List.range T)[as.length]? = some t0 := by rw [e1]; simp
        rw [List.getElem?_range] at h4
        · exact Option.some.inj h4
        · have := congrArg List.length e1
          simp at this
          omega
      have hin : i ∈ as := by
        have h5 : (List.range T)[i]? = some i := by rw [List.getElem?_range (by omega)]
        rw [e1, List.getElem?_append_left (by omega)] at h5
        exact List.mem_of_getElem? h5
      have := e2 i hin
      rw [c] at this
      cases this
theorem l_bit {x : Int64} {i : Nat} (hi : i < 64) : x &&& lg1 i = 0 ↔ bl x i = false := by
  constructor
  · intro h
    have h2 : bl (x &&& lg1 i) i = false := by rw [h, l_0]
    rw [l_and, l_one hi hi] at h2
    simpa using h2
  · intro h
    apply l_ext
    intro j hj
    rw [l_and, l_one hi hj, l_0]
    by_cases c : j = i
    · subst c; rw [h]; rfl
    · simp [c]
/-- brought forward: those with the test, then those without -/
theorem dk_split {y2 : Nat → Int64} {mi t0 : Nat} (V : dk_vo rv pas be hb T P) (hS : ∀ r, r ∈ S → P r) (sg : dk_sg y f t S rv) (ht0 : t0 < T) (bf : dk_bf y y2 f t mi (lg1 t0)) : dk_sg y2 f mi (S.filter fun r => pas r t0) rv ∧ dk_sg y2 mi t (S.filter fun r => !pas r t0) rv := by
  have hT := V.1
  obtain ⟨⟨b1, b2⟩, b3, b4, b5, b6, b7⟩ := bf
  have e : ∀ r, P r → bl (rv r) t0 = pas r t0 := by
    intro r hr
    rw [(V.2 r hr).1 t0 (by omega), decide_eq_true ht0]
    rfl
  have wh : ∀ j, f ≤ j → j < t → ∃ r, r ∈ S ∧ y2 j = rv r := by
    intro j h1 h2
    obtain ⟨i, i1, i2, i3⟩ := b6 j h1 h2
    obtain ⟨r, r1, r2⟩ := sg.1 i i1 i2
    exact ⟨r, r1, i3.trans r2⟩
  have hw : ∀ r, r ∈ S → ∃ j, f ≤ j ∧ j < t ∧ y2 j = rv r := by
    intro r hr
    obtain ⟨i, i1, i2, i3⟩ := sg.2 r hr
    obtain ⟨j, j1, j2, j3⟩ := b7 i i1 i2
    exact ⟨j, j1, j2, j3.trans i3⟩
  refine ⟨⟨fun j h1 h2 => ?_, fun r hr => ?_⟩, fun j h1 h2 => ?_, fun r hr => ?_⟩
  · obtain ⟨r, r1, r2⟩ := wh j h1 (by omega)
    refine ⟨r, List.mem_filter.mpr ⟨r1, ?_⟩, r2⟩
    have q := b4 j h1 h2
    rw [l_bit (by omega), r2, e r (hS r r1)] at q
    simpa using q
  · obtain ⟨r1, r2⟩ := List.mem_filter.mp hr
    obtain ⟨j, j1, j2, j3⟩ := hw r r1
    refine ⟨j, j1, ?_, j3⟩
    apply Classical.byContradiction
    intro c
    have q := b5 j (by omega) j2
    rw [l_bit (by omega), j3, e r (hS r r1), r2] at q
    cases q
  · obtain ⟨r, r1, r2⟩ := wh j (by omega) h2
    refine ⟨r, List.mem_filter.mpr ⟨r1, ?_⟩, r2⟩
    have q := b5 j h1 h2
    rw [l_bit (by omega), r2, e r (hS r r1)] at q
    rw [q]
    rfl
  · obtain ⟨r1, r2⟩ := List.mem_filter.mp hr
    obtain ⟨j, j1, j2, j3⟩ := hw r r1
    refine ⟨j, ?_, j2, j3⟩
    apply Classical.byContradiction
    intro c
    have q := b4 j j1 (by omega)
    rw [l_bit (by omega), j3, e r (hS r r1)] at q
    exact q (by simpa using r2)
theorem flt_lt {p q : Nat → Bool} (hpq : ∀ x, p x = true → q x = true) : ∀ L : List Nat, (L.filter p).length ≤ (L.filter q).length ∧ ∀ x, x ∈ L → q x = true → p x = false → (L.filter p).length < (L.filter q).length
  | [] => ⟨Nat.le_refl _, fun x hx => by cases hx⟩
  | a :: L => by
    obtain ⟨i1, i2⟩ := flt_lt hpq L
    rw [List.filter_cons, List.filter_cons]
    cases cp : p a
    · cases cq : q a
      · refine ⟨by simpa using i1, fun x hx h1 h2 => ?_⟩
        rcases List.mem_cons.mp hx with e | e
        · rw [e, cq] at h1; cases h1
        · simpa using i2 x e h1 h2
      · refine ⟨by simp; omega, fun x hx h1 h2 => by simp; omega⟩
    · have cq := hpq a cp
      rw [cq]
      refine ⟨by simpa using i1, fun x hx h1 h2 => ?_⟩
      rcases List.mem_cons.mp hx with e | e
      · rw [e, cp] at h2; cases h2
      · have := i2 x e h1 h2
        simp
        omega
/-- how many tests part the rows -/
def tg_sc (pas : Nat → Nat → Bool) (T : Nat) (S : List Nat) : Nat := ((List.range T).filter (tg_sep pas S)).length
theorem tg_sep_sub {S S' : List Nat} (h : ∀ r, r ∈ S' → r ∈ S) (i : Nat) (hs : tg_sep pas S' i = true) : tg_sep pas S i = true := by
  unfold tg_sep at hs ⊢
  rw [Bool.and_eq_true, List.any_eq_true, List.any_eq_true] at hs ⊢
  obtain ⟨⟨r, r1, r2⟩, q, q1, q2⟩ := hs
  exact ⟨⟨r, h r r1, r2⟩, q, h q q1, q2⟩
theorem tg_sc_lt {t0 : Nat} (ht : t0 < T) (hs : tg_sep pas S t0 = true) : tg_sc pas T (S.filter fun r => pas r t0) < tg_sc pas T S ∧ tg_sc pas T (S.filter fun r => !pas r t0) < tg_sc pas T S := by
  unfold tg_sc
  constructor
  · refine (flt_lt (fun i => tg_sep_sub (fun r hr => (List.mem_filter.mp hr).1) i) _).2 t0 (List.mem_range.mpr ht) hs ?_
    unfold tg_sep
    rw [Bool.and_eq_false_iff]
    right
    rw [List.any_eq_false]
    intro r hr
    rw [(List.mem_filter.mp hr).2]
    decide
  · refine (flt_lt (fun i => tg_sep_sub (fun r hr => (List.mem_filter.mp hr).1) i) _).2 t0 (List.mem_range.mpr ht) hs ?_
    unfold tg_sep
    rw [Bool.and_eq_false_iff]
    left
    rw [List.any_eq_false]
    intro r hr
    have := (List.mem_filter.mp hr).2
    simpa using this
theorem tg_tree_leaf {fu r0 : Nat} {G : List tg_N} (h1 : tg_one be (r0 :: S) = true) : tg_tree pas be T (fu + 1) (r0 :: S) G = tg_add G (-1, be r0, -1) := by rw [tg_tree, if_pos h1]
theorem tg_tree_split {fu r0 t0 : Nat} {G : List tg_N} (h1 : ¬ tg_one be (r0 :: S) = true) (hf : (List.range T).find? (tg_sep pas (r0 :: S)) = some t0) : tg_tree pas be T (fu + 1) (r0 :: S) G = (if (tg_tree pas be T fu ((r0 :: S).filter fun r => pas r t0) G).2 = -1 then ((tg_tree pas be T fu ((r0 :: S).filter fun r => pas r t0) G).1, -1) else
      if (tg_tree pas be T fu ((r0 :: S).filter fun r => !pas r t0) (tg_tree pas be T fu ((r0 :: S).filter fun r => pas r t0) G).1).2 = -1 then ((tg_tree pas be T fu ((r0 :: S).filter fun r => !pas r t0) (tg_tree pas be T fu ((r0 :: S).filter fun r => pas r t0) G).1).1, -1) else
      tg_add (tg_tree pas be T fu ((r0 :: S).filter fun r => !pas r t0) (tg_tree pas be T fu ((r0 :: S).filter fun r => pas r t0) G).1).1 (nI t0, (tg_tree pas be T fu ((r0 :: S).filter fun r => pas r t0) G).2, (tg_tree pas be T fu ((r0 :: S).filter fun r => !pas r t0) (tg_tree pas be T fu ((r0 :: S).filter fun r => pas r t0) G).1).2)) := by
  rw [tg_tree, if_neg h1, hf]
end DTR
