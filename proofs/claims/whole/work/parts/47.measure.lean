/-! a run comes to its end -/
theorem mq_go_stop {I : mq_M} {nc nM : Nat} {z : mq_S} (h : z.2.2.1.length = 0 ∨ ¬ z.2.2.2.1 = 0) : ∀ k, mq_go I nc nM k z = z
  | 0 => rfl
  | k + 1 => by
    rw [mq_go, if_pos h]
def mq_mu (z : mq_S) (k : Nat) : Prop := ¬ z.2.2.2.1 = 0 ∨ 2 * z.1 + z.2.2.1.length ≤ k
theorem mq_mu_enter {c : Int32 × Nat} {x y fu th re : Nat} {fs : List mq_F} : mq_mu (mq_enter c x y fu th fs re) (2 * fu + fs.length) := by
  unfold mq_enter mq_mu
  split
  · exact Or.inl (show ¬ (-5 : Int32) = 0 by decide)
  · split
    · exact Or.inl (show ¬ (-3 : Int32) = 0 by decide)
    · split
      · rename_i z
        refine Or.inl (fun e => ?_)
        rw [show c.1 = 0 from e] at z
        exact absurd z (by decide)
      · right
        simp
        omega
theorem mq_mu_push {v fu th m x y a re : Nat} {st : List Nat} {fs : List mq_F} : mq_mu (mq_push v fu th m x y a st fs re) (2 * fu + fs.length + 1) := by
  unfold mq_push mq_mu
  split
  · exact Or.inl (show ¬ (-4 : Int32) = 0 by decide)
  · right
    simp
    omega
theorem mq_mu_le {z : mq_S} {j k : Nat} (h : mq_mu z j) (hj : j ≤ k) : mq_mu z k := h.elim Or.inl (fun q => Or.inr (by omega))
theorem mq_mu_do {I : mq_M} {nc nM o : Nat} {n : Int32} {fu th m x y a re : Nat} {st : List Nat} {fs : List mq_F} : mq_mu (mq_do I nc nM o n fu th m x y a st fs re) (2 * fu + fs.length + 1) := by
  unfold mq_do
  split
  · exact mq_mu_push
  · exact mq_mu_push
  · split
    · right; simp; omega
    · exact Or.inl (show ¬ (-4 : Int32) = 0 by decide)
  · split
    · right; simp; omega
    · exact Or.inl (show ¬ (-4 : Int32) = 0 by decide)
  · split
    · right; simp; omega
    · exact Or.inl (show ¬ (-4 : Int32) = 0 by decide)
  · split
    · split
      · exact mq_mu_le mq_mu_enter (by simp; omega)
      · exact Or.inl (show ¬ (-4 : Int32) = 0 by decide)
    · split
      · exact mq_mu_le mq_mu_enter (by simp; omega)
      · exact Or.inl (show ¬ (-4 : Int32) = 0 by decide)
  · exact mq_mu_le mq_mu_enter (by simp; omega)
theorem mq_mu_back {v fu th : Nat} : ∀ fs : List mq_F, mq_mu (mq_back v fu th fs) (2 * fu + fs.length)
  | [] => Or.inr (by simp [mq_back])
  | f :: fs => mq_mu_le mq_mu_push (by simp; omega)
theorem mq_head_lt {nc x : Nat} {st : List Nat} (hx : x < 8 * nc) (hs : ∀ v : Nat, v ∈ st → v < 8 * nc) : st.headD x < 8 * nc := by
  cases st with
  | nil => exact hx
  | cons v t => exact hs v (List.mem_cons_self ..)
theorem mq_enter_re {c : Int32 × Nat} {x y fu th re : Nat} {fs : List mq_F} : (mq_enter c x y fu th fs re).2.2.2.2 = re := by
  unfold mq_enter
  split
  · rfl
  · split
    · rfl
    · split <;> rfl
theorem mq_push_re {v fu th m x y a re : Nat} {st : List Nat} {fs : List mq_F} : (mq_push v fu th m x y a st fs re).2.2.2.2 = re := by
  unfold mq_push
  split <;> rfl
theorem mq_do_re {I : mq_M} {nc nM o : Nat} {n : Int32} {fu th m x y a re : Nat} {st : List Nat} {fs : List mq_F} : (mq_do I nc nM o n fu th m x y a st fs re).2.2.2.2 = re := by
  unfold mq_do
  split
  · exact mq_push_re
  · exact mq_push_re
  · split <;> rfl
  · split <;> rfl
  · split <;> rfl
  · split
    · split
      · exact mq_enter_re
      · rfl
    · split
      · exact mq_enter_re
      · rfl
  · exact mq_enter_re
theorem pu_iv_200 {v : Int32} : pu_iv v 0 200 = true ↔ ∃ f, f ≤ 200 ∧ v = nI f := by
  have e : (200 : Int32) = nI 201 - 1 := by decide
  rw [e, pu_iv_0 (by decide)]
  constructor
  · rintro ⟨k, h1, h2⟩
    exact ⟨k, by omega, h2⟩
  · rintro ⟨k, h1, h2⟩
    exact ⟨k, by omega, h2⟩
