/-! what is known stands right -/
def pu_kn (I : Nat → Nat → Int32) (nc ng nM : Nat) : Prop := (∀ g ar, g < ng → ar ≤ 2 → I 1 g = nI ar → I 11 g = 0 ∨ ((∀ r, r < pu_R nc ar → I 12 (4096 * g + r) = pu_A I nc nM g ar r) ∧ ∀ m, m < nM → I 2 m = nI g → I 13 m = pu_B I nc nM g ar m)) ∧ ∀ g, ng ≤ g → g < 4 → I 11 g = 0
theorem pu_know_12 {I : Nat → Nat → Int32} {nc nM g ar r : Nat} (h : I 11 g = 0) (hr : r < pu_R nc ar) : pu_know I nc nM g ar 12 (4096 * g + r) = pu_A I nc nM g ar r := by
  unfold pu_know
  rw [if_pos h]
  show pu_fill (I 12) (pu_A I nc nM g ar) (4096 * g) (pu_R nc ar) (4096 * g + r) = _
  unfold pu_fill
  rw [if_pos (by omega), Nat.add_sub_cancel_left]
theorem pu_know_13 {I : Nat → Nat → Int32} {nc nM g ar m : Nat} (h : I 11 g = 0) (hm : m < nM) (eo : I 2 m = nI g) : pu_know I nc nM g ar 13 m = pu_B I nc nM g ar m := by
  unfold pu_know
  rw [if_pos h]
  show pu_fb (I 13) (pu_B I nc nM g ar) (I 2) g nM m = _
  unfold pu_fb
  rw [if_pos ⟨hm, eo⟩]
theorem pu_kn_kr {I : Nat → Nat → Int32} {nc ng nM : Nat} (h : pu_kn I nc ng nM) : pu_kr I nc ng nM := by
  intro g ar hg ha har r hr
  rcases h.1 g ar hg ha har with z | z
  · exact pu_know_12 z hr
  · by_cases c : I 11 g = 0
    · exact pu_know_12 c hr
    · unfold pu_know
      rw [if_neg c]
      exact z.1 r hr
theorem pu_kn_13 {I : Nat → Nat → Int32} {nc ng nM g ar m : Nat} (h : pu_kn I nc ng nM) (hg : g < ng) (ha : ar ≤ 2) (har : I 1 g = nI ar) (hm : m < nM) (eo : I 2 m = nI g) : pu_know I nc nM g ar 13 m = pu_B I nc nM g ar m := by
  rcases h.1 g ar hg ha har with z | z
  · exact pu_know_13 z hm eo
  · by_cases c : I 11 g = 0
    · exact pu_know_13 c hm eo
    · unfold pu_know
      rw [if_neg c]
      exact z.2 m hm eo
theorem pu_B_cg {I I' : Nat → Nat → Int32} (e : ∀ k, k < 8 → I' k = I k) (nc nM g ar m : Nat) : pu_B I' nc nM g ar m = pu_B I nc nM g ar m := by
  unfold pu_B
  rw [pu_bp_cg e]
