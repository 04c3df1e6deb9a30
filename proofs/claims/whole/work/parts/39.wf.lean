/-! the compiled graph is in order -/
theorem tg_ix_lt {x : tg_N} : ∀ (L : List tg_N) (b k : Nat), tg_ix x L b = some k → k < b + L.length := by
  intro L
  induction L with
  | nil => intro b k h; cases h
  | cons y L ih =>
    intro b k h
    rw [tg_ix] at h
    split at h
    · have : b = k := by simpa using h
      simp
      omega
    · have := ih (b + 1) k h
      simp
      omega
theorem tg_add_wf {G : List tg_N} {T : Nat} {x : tg_N} (hG : tg_wf G T) (hx : x.1 < 0 ∨ ∃ t a b, t < T ∧ x = (nI t, nI a, nI b) ∧ a < G.length ∧ b < G.length) : tg_wf (tg_add G x).1 T ∧ G.length ≤ (tg_add G x).1.length ∧ ((tg_add G x).2 = -1 ∨ ∃ k, k < (tg_add G x).1.length ∧ (tg_add G x).2 = nI k) := by
  unfold tg_add
  split
  · rename_i k hk
    exact ⟨hG, Nat.le_refl _, Or.inr ⟨k, by have := tg_ix_lt G 0 k hk; show k < G.length; omega, rfl⟩⟩
  · split
    · exact ⟨hG, Nat.le_refl _, Or.inl rfl⟩
    · refine ⟨fun k y hy => ?_, by simp, Or.inr ⟨G.length, by simp, rfl⟩⟩
      rcases Nat.lt_trichotomy k G.length with c | c | c
      · exact hG k y (by rw [← hy]; exact (List.getElem?_append_left c).symm)
      · subst c
        have hy2 : (G ++ [x])[G.length]? = some y := hy
        rw [List.getElem?_append_right (Nat.le_refl _), Nat.sub_self] at hy2
        have e : x = y := by simpa using hy2
        subst e
        exact hx
      · have hy2 : (G ++ [x])[k]? = some y := hy
        rw [List.getElem?_eq_none (by simp; omega)] at hy2
        cases hy2
theorem tg_tree_wf {pas : Nat → Nat → Bool} {be : Nat → Int32} {T : Nat} : ∀ f S G, tg_wf G T → tg_wf (tg_tree pas be T f S G).1 T ∧ G.length ≤ (tg_tree pas be T f S G).1.length ∧ ((tg_tree pas be T f S G).2 = -1 ∨ ∃ k, k < (tg_tree pas be T f S G).1.length ∧ (tg_tree pas be T f S G).2 = nI k) := by
  intro f
  induction f with
  | zero => intro S G h; exact ⟨h, Nat.le_refl _, Or.inl rfl⟩
  | succ f ih =>
    intro S G h
    match S with
    | [] => exact ⟨h, Nat.le_refl _, Or.inl rfl⟩
    | r0 :: S =>
      rw [tg_tree]
      split
      · exact tg_add_wf h (Or.inl (by show (-1 : Int32) < 0; decide))
      · split
        · exact ⟨h, Nat.le_refl _, Or.inl rfl⟩
        · rename_i t hf
          have ht : t < T := List.mem_range.mp (List.mem_of_find?_eq_some hf)
          obtain ⟨w1, l1, n1⟩ := ih ((r0 :: S).filter fun r => pas r t) G h
          obtain ⟨w2, l2, n2⟩ := ih ((r0 :: S).filter fun r => !pas r t) _ w1
          split
          · exact ⟨w1, l1, Or.inl rfl⟩
          · rename_i z1
            split
            · exact ⟨w2, Nat.le_trans l1 l2, Or.inl rfl⟩
            · rename_i z2
              obtain ⟨a, ha, ea⟩ := n1.resolve_left z1
              obtain ⟨b, hb, eb⟩ := n2.resolve_left z2
              obtain ⟨q1, q2, q3⟩ := tg_add_wf (x := (nI t, (tg_tree pas be T f ((r0 :: S).filter fun r => pas r t) G).2, (tg_tree pas be T f ((r0 :: S).filter fun r => !pas r t) (tg_tree pas be T f ((r0 :: S).filter fun r => pas r t) G).1).2)) w2 (Or.inr ⟨t, a, b, ht, by rw [ea, eb], by omega, hb⟩)
              exact ⟨q1, by omega, q3⟩
theorem pu_tre_wf (X : Nat → Nat → Int32) (Pz : Nat → Int64) (nM g T R : Nat) : tg_wf (pu_tre X Pz nM g T R).1 T := (tg_tree_wf (T + 1) (List.range R) [] (fun k x hx => by simp at hx)).1
