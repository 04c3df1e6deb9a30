/-! the graph of a generic as a list of nodes, and the tree that is compiled into it: both sides are held against this -/
abbrev tg_N := Int32 × Int32 × Int32
def tg_ix (x : tg_N) : List tg_N → Nat → Option Nat
  | [], _ => none
  | y :: G, k => if y = x then some k else tg_ix x G (k + 1)
def tg_add (G : List tg_N) (x : tg_N) : List tg_N × Int32 := match tg_ix x G 0 with
  | some k => (G, nI k)
  | none => if 80 ≤ G.length then (G, -1) else (G ++ [x], nI G.length)
def tg_one (be : Nat → Int32) (S : List Nat) : Bool := S.all fun r => S.all fun r2 => decide (be r = be r2)
def tg_sep (pas : Nat → Nat → Bool) (S : List Nat) (t : Nat) : Bool := (S.any fun r => pas r t) && (S.any fun r => !pas r t)
/-- fuel, rows, nodes so far: nodes then and the tree's node, -1 where there was no room -/
def tg_tree (pas : Nat → Nat → Bool) (be : Nat → Int32) (T : Nat) : Nat → List Nat → List tg_N → List tg_N × Int32
  | 0, _, G => (G, -1)
  | _ + 1, [], G => (G, -1)
  | f + 1, r0 :: S, G => if tg_one be (r0 :: S) = true then tg_add G (-1, be r0, -1) else
    match (List.range T).find? (tg_sep pas (r0 :: S)) with
    | none => (G, -1)
    | some t => if (tg_tree pas be T f ((r0 :: S).filter fun r => pas r t) G).2 = -1 then ((tg_tree pas be T f ((r0 :: S).filter fun r => pas r t) G).1, -1) else
      if (tg_tree pas be T f ((r0 :: S).filter fun r => !pas r t) (tg_tree pas be T f ((r0 :: S).filter fun r => pas r t) G).1).2 = -1 then ((tg_tree pas be T f ((r0 :: S).filter fun r => !pas r t) (tg_tree pas be T f ((r0 :: S).filter fun r => pas r t) G).1).1, -1) else
      tg_add (tg_tree pas be T f ((r0 :: S).filter fun r => !pas r t) (tg_tree pas be T f ((r0 :: S).filter fun r => pas r t) G).1).1 (nI t, (tg_tree pas be T f ((r0 :: S).filter fun r => pas r t) G).2, (tg_tree pas be T f ((r0 :: S).filter fun r => !pas r t) (tg_tree pas be T f ((r0 :: S).filter fun r => pas r t) G).1).2)
/-- two rows that are alike; two lists of rows with the same rows but for order and number -/
def tg_al (pas pas' : Nat → Nat → Bool) (be be' : Nat → Int32) (T r r' : Nat) : Prop := be r = be' r' ∧ ∀ t, t < T → pas r t = pas' r' t
def tg_sm (pas pas' : Nat → Nat → Bool) (be be' : Nat → Int32) (T : Nat) (S S' : List Nat) : Prop := (∀ r, r ∈ S → ∃ r', r' ∈ S' ∧ tg_al pas pas' be be' T r r') ∧ (∀ r', r' ∈ S' → ∃ r, r ∈ S ∧ tg_al pas pas' be be' T r r')
theorem tg_find {p p' : Nat → Bool} : ∀ L : List Nat, (∀ t, t ∈ L → p t = p' t) → L.find? p = L.find? p'
  | [], _ => rfl
  | a :: L, h => by
    rw [List.find?_cons, List.find?_cons, h a (List.mem_cons_self ..), tg_find L (fun t ht => h t (List.mem_cons_of_mem _ ht))]
theorem tg_one_cg {pas pas' : Nat → Nat → Bool} {be be' : Nat → Int32} {T : Nat} {S S' : List Nat} (h : tg_sm pas pas' be be' T S S') : tg_one be S = tg_one be' S' := by
  unfold tg_one
  rw [Bool.eq_iff_iff, List.all_eq_true, List.all_eq_true]
  constructor
  · intro z r' hr'
    obtain ⟨r, hr, e, _⟩ := h.2 r' hr'
    rw [List.all_eq_true]
    intro r2' hr2'
    obtain ⟨r2, hr2, e2, _⟩ := h.2 r2' hr2'
    have := List.all_eq_true.mp (z r hr) r2 hr2
    rw [← e, ← e2]
    exact this
  · intro z r hr
    obtain ⟨r', hr', e, _⟩ := h.1 r hr
    rw [List.all_eq_true]
    intro r2 hr2
    obtain ⟨r2', hr2', e2, _⟩ := h.1 r2 hr2
    have := List.all_eq_true.mp (z r' hr') r2' hr2'
    rw [e, e2]
    exact this
theorem tg_any_cg {p p' : Nat → Bool} {S S' : List Nat} (h1 : ∀ r, r ∈ S → ∃ r', r' ∈ S' ∧ p r = p' r') (h2 : ∀ r', r' ∈ S' → ∃ r, r ∈ S ∧ p r = p' r') : S.any p = S'.any p' := by
  rw [Bool.eq_iff_iff, List.any_eq_true, List.any_eq_true]
  constructor
  · rintro ⟨r, hr, z⟩
    obtain ⟨r', hr', e⟩ := h1 r hr
    exact ⟨r', hr', e ▸ z⟩
  · rintro ⟨r', hr', z⟩
    obtain ⟨r, hr, e⟩ := h2 r' hr'
    exact ⟨r, hr, e ▸ z⟩
theorem tg_sep_cg {pas pas' : Nat → Nat → Bool} {be be' : Nat → Int32} {T : Nat} {S S' : List Nat} (h : tg_sm pas pas' be be' T S S') {t : Nat} (ht : t < T) : tg_sep pas S t = tg_sep pas' S' t := by
  unfold tg_sep
  rw [tg_any_cg (p := fun r => pas r t) (p' := fun r => pas' r t) (S := S) (S' := S') (fun r hr => ?_) (fun r hr => ?_), tg_any_cg (p := fun r => !pas r t) (p' := fun r => !pas' r t) (S := S) (S' := S') (fun r hr => ?_) (fun r hr => ?_)]
  · obtain ⟨r', a, b, c⟩ := h.1 r hr
    exact ⟨r', a, by rw [c t ht]⟩
  · obtain ⟨r', a, b, c⟩ := h.2 r hr
    exact ⟨r', a, by rw [c t ht]⟩
  · obtain ⟨r', a, b, c⟩ := h.1 r hr
    exact ⟨r', a, c t ht⟩
  · obtain ⟨r', a, b, c⟩ := h.2 r hr
    exact ⟨r', a, c t ht⟩
theorem tg_fil_cg {pas pas' : Nat → Nat → Bool} {be be' : Nat → Int32} {T : Nat} {S S' : List Nat} {p p' : Nat → Bool} (h : tg_sm pas pas' be be' T S S') (hp : ∀ r r', tg_al pas pas' be be' T r r' → p r = p' r') : tg_sm pas pas' be be' T (S.filter p) (S'.filter p') := by
  constructor
  · intro r hr
    obtain ⟨a, b⟩ := List.mem_filter.mp hr
    obtain ⟨r', hr', e⟩ := h.1 r a
    exact ⟨r', List.mem_filter.mpr ⟨hr', by rw [← hp r r' e]; exact b⟩, e⟩
  · intro r' hr'
    obtain ⟨a, b⟩ := List.mem_filter.mp hr'
    obtain ⟨r, hr, e⟩ := h.2 r' a
    exact ⟨r, List.mem_filter.mpr ⟨hr, by rw [hp r r' e]; exact b⟩, e⟩
/-- the tree asks only which rows there are -/
theorem tg_tree_cg {pas pas' : Nat → Nat → Bool} {be be' : Nat → Int32} {T : Nat} : ∀ f S S' G, tg_sm pas pas' be be' T S S' → tg_tree pas be T f S G = tg_tree pas' be' T f S' G := by
  intro f
  induction f with
  | zero => intro S S' G _; rfl
  | succ f ih =>
    intro S S' G h
    match S, S', h with
    | [], [], _ => rfl
    | [], r' :: S', h =>
      obtain ⟨r, hr, _⟩ := h.2 r' (List.mem_cons_self ..)
      cases hr
    | r :: S, [], h =>
      obtain ⟨r', hr', _⟩ := h.1 r (List.mem_cons_self ..)
      cases hr'
    | r0 :: S, r0' :: S', h =>
      rw [tg_tree, tg_tree, tg_one_cg h]
      by_cases ho : tg_one be' (r0' :: S') = true
      · rw [if_pos ho, if_pos ho]
        obtain ⟨r', hr', e, _⟩ := h.1 r0 (List.mem_cons_self ..)
        have z := List.all_eq_true.mp (List.all_eq_true.mp ho r' hr') r0' (List.mem_cons_self ..)
        have z2 : be' r' = be' r0' := of_decide_eq_true z
        rw [e, z2]
      · rw [if_neg ho, if_neg ho, tg_find (p := tg_sep pas (r0 :: S)) (p' := tg_sep pas' (r0' :: S')) (List.range T) (fun t ht => tg_sep_cg h (List.mem_range.mp ht))]
        cases hf : (List.range T).find? (tg_sep pas' (r0' :: S')) with
        | none => rfl
        | some t =>
          have ht : t < T := List.mem_range.mp (List.mem_of_find?_eq_some hf)
          have e1 := fun G => ih _ _ G (tg_fil_cg (p := fun r => pas r t) (p' := fun r => pas' r t) h (fun r r' z => z.2 t ht))
          have e2 := fun G => ih _ _ G (tg_fil_cg (p := fun r => !pas r t) (p' := fun r => !pas' r t) h (fun r r' z => by rw [z.2 t ht]))
          simp only [e1, e2]
