/-! the reference's nodes of generic g are the list G -/
def pu_gr (X : Nat → Nat → Int32) (g : Nat) (G : List tg_N) : Prop := G.length ≤ 80 ∧ X 14 g = nI G.length ∧ ∀ k x, G[k]? = some x → X 15 (80 * g + k) = x.1 ∧ X 16 (80 * g + k) = x.2.1 ∧ X 17 (80 * g + k) = x.2.2
theorem tg_ix_some {x : tg_N} : ∀ (G : List tg_N) (k b : Nat), G[k]? = some x → (∀ j, j < k → ¬ G[j]? = some x) → tg_ix x G b = some (b + k)
  | [], k, b, h, _ => by simp at h
  | y :: G, 0, b, h, _ => by
    have e : y = x := by simpa using h
    rw [tg_ix, if_pos e, Nat.add_zero]
  | y :: G, k + 1, b, h, hn => by
    have e : ¬ y = x := fun z => hn 0 (by omega) (by simp [z])
    rw [tg_ix, if_neg e, tg_ix_some G k (b + 1) (by simpa using h) (fun j hj => by have := hn (j + 1) (by omega); simpa using this)]
    congr 1
    omega
theorem tg_ix_none {x : tg_N} : ∀ (G : List tg_N) (b : Nat), (∀ j : Nat, ¬ G[j]? = some x) → tg_ix x G b = none
  | [], _, _ => rfl
  | y :: G, b, hn => by
    have e : ¬ y = x := fun z => hn 0 (by simp [z])
    rw [tg_ix, if_neg e, tg_ix_none G (b + 1) (fun j => by have := hn (j + 1); simpa using this)]
theorem pu_nq_t {X : Nat → Nat → Int32} {g k : Nat} {G : List tg_N} {t p o : Int32} (h : pu_gr X g G) (hk : k < G.length) : pu_nq X (80 * g + k) t p o = true ↔ G[k]? = some (t, p, o) := by
  have e := h.2.2 k G[k] (List.getElem?_eq_getElem hk)
  unfold pu_nq
  rw [e.1, e.2.1, e.2.2, List.getElem?_eq_getElem hk, Bool.and_eq_true, Bool.and_eq_true, decide_eq_true_eq, decide_eq_true_eq, decide_eq_true_eq]
  constructor
  · rintro ⟨a, b, c⟩
    rw [← a, ← b, ← c]
  · intro z
    have z2 : G[k] = (t, p, o) := by simpa using z
    rw [z2]
    exact ⟨rfl, rfl, rfl⟩
theorem tg_add_old {X : Nat → Nat → Int32} {g k0 : Nat} {G : List tg_N} {t p o : Int32} (h : pu_gr X g G) (hk : k0 < G.length) (h1 : pu_nq X (80 * g + k0) t p o = true) (h2 : ∀ k, k < k0 → pu_nq X (80 * g + k) t p o = false) : tg_add G (t, p, o) = (G, nI k0) := by
  unfold tg_add
  rw [tg_ix_some G k0 0 ((pu_nq_t h hk).mp h1) (fun j hj z => by
    have z3 := (pu_nq_t h (by omega)).mpr z
    rw [h2 j hj] at z3
    cases z3), Nat.zero_add]
theorem tg_no {X : Nat → Nat → Int32} {g : Nat} {G : List tg_N} {t p o : Int32} (h : pu_gr X g G) (h2 : ∀ k, k < G.length → pu_nq X (80 * g + k) t p o = false) : tg_ix (t, p, o) G 0 = none := by
  refine tg_ix_none G 0 (fun j z => ?_)
  rcases Nat.lt_or_ge j G.length with c | c
  · have z3 := (pu_nq_t h c).mpr z
    rw [h2 j c] at z3
    cases z3
  · rw [List.getElem?_eq_none c] at z
    cases z
theorem tg_add_full {X : Nat → Nat → Int32} {g : Nat} {G : List tg_N} {t p o : Int32} (h : pu_gr X g G) (h2 : ∀ k, k < G.length → pu_nq X (80 * g + k) t p o = false) (hl : G.length = 80) : tg_add G (t, p, o) = (G, -1) := by
  unfold tg_add
  rw [tg_no h h2]
  exact if_pos (by omega)
theorem tg_add_new {X : Nat → Nat → Int32} {g : Nat} {G : List tg_N} {t p o : Int32} (h : pu_gr X g G) (h2 : ∀ k, k < G.length → pu_nq X (80 * g + k) t p o = false) (hl : G.length < 80) : tg_add G (t, p, o) = (G ++ [(t, p, o)], nI G.length) ∧ pu_gr (pu_mk X g G.length t p o) g (G ++ [(t, p, o)]) := by
  constructor
  · unfold tg_add
    rw [tg_no h h2]
    exact if_neg (by omega)
  · refine ⟨by simp; omega, ?_, fun k x hx => ?_⟩
    · show upd (X 14) g (nI (G.length + 1)) g = _
      rw [pk_us]
      simp
    · show upd (X 15) (80 * g + G.length) t (80 * g + k) = x.1 ∧ upd (X 16) (80 * g + G.length) p (80 * g + k) = x.2.1 ∧ upd (X 17) (80 * g + G.length) o (80 * g + k) = x.2.2
      rcases Nat.lt_trichotomy k G.length with c | c | c
      · rw [List.getElem?_append_left c] at hx
        have e := h.2.2 k x hx
        rw [pk_un (by omega), pk_un (by omega), pk_un (by omega)]
        exact e
      · subst c
        rw [List.getElem?_append_right (Nat.le_refl _), Nat.sub_self] at hx
        have e : (t, p, o) = x := by simpa using hx
        subst e
        rw [pk_us, pk_us, pk_us]
        exact ⟨rfl, rfl, rfl⟩
      · rw [List.getElem?_eq_none (by simp; omega)] at hx
        cases hx
/-- all but the nodes of g and what build works with -/
def pu_oth (X X' : Nat → Nat → Int32) (g : Nat) : Prop := (∀ k, (k < 14 ∨ (17 < k ∧ k < 25) ∨ 28 < k) → X' k = X k) ∧ (∀ j, ¬ j = g → X' 14 j = X 14 j) ∧ ∀ k, (k = 15 ∨ k = 16 ∨ k = 17) → ∀ j, (j < 80 * g ∨ 80 * g + 80 ≤ j) → X' k j = X k j
theorem pu_oth_rf (X : Nat → Nat → Int32) (g : Nat) : pu_oth X X g := ⟨fun _ _ => rfl, fun _ _ => rfl, fun _ _ _ _ => rfl⟩
theorem pu_oth_tr {X Y Z : Nat → Nat → Int32} {g : Nat} (h1 : pu_oth X Y g) (h2 : pu_oth Y Z g) : pu_oth X Z g := ⟨fun k hk => (h2.1 k hk).trans (h1.1 k hk), fun j hj => (h2.2.1 j hj).trans (h1.2.1 j hj), fun k hk j hj => (h2.2.2 k hk j hj).trans (h1.2.2 k hk j hj)⟩
theorem pu_oth_mk {X : Nat → Nat → Int32} {g N : Nat} (hN : N < 80) (t p o : Int32) : pu_oth X (pu_mk X g N t p o) g := by
  refine ⟨fun k hk => ?_, fun j hj => ?_, fun k hk j hj => ?_⟩
  · unfold pu_mk md_is
    rw [if_neg (by omega), if_neg (by omega), if_neg (by omega), if_neg (by omega)]
  · show upd (X 14) g (nI (N + 1)) j = _
    exact pk_un hj
  · rcases hk with rfl | rfl | rfl
    · show upd (X 15) (80 * g + N) t j = _
      exact pk_un (by omega)
    · show upd (X 16) (80 * g + N) p j = _
      exact pk_un (by omega)
    · show upd (X 17) (80 * g + N) o j = _
      exact pk_un (by omega)
theorem pu_oth_sc {X : Nat → Nat → Int32} {g k : Nat} {f : Nat → Int32} (hk : 25 ≤ k ∧ k ≤ 28) : pu_oth X (md_is X k f) g := by
  refine ⟨fun j hj => ?_, fun j hj => ?_, fun i hi j hj => ?_⟩
  · unfold md_is
    rw [if_neg (by omega)]
  · unfold md_is
    rw [if_neg (by omega)]
  · unfold md_is
    rw [if_neg (by omega)]
theorem pu_gr_oth {X X' : Nat → Nat → Int32} {g : Nat} {G : List tg_N} (h : pu_gr X g G) (e : ∀ k, (k = 14 ∨ k = 15 ∨ k = 16 ∨ k = 17) → X' k = X k) : pu_gr X' g G := by
  refine ⟨h.1, ?_, fun k x hx => ?_⟩
  · rw [e 14 (by omega)]
    exact h.2.1
  · rw [e 15 (by omega), e 16 (by omega), e 17 (by omega)]
    exact h.2.2 k x hx
