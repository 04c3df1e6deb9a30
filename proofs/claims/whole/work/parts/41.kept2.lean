/-! .. and by atom -/
def pu_aA (I : Nat → Nat → Int32) (m0 a kd : Nat) (i x b : Int32) : Nat → Nat → Int32 := md_is (md_is (md_is (md_is (md_is I 4 (upd (I 4) (4 * m0 + a) (nI kd))) 5 (upd (I 5) (4 * m0 + a) (if 3 < kd then 0 else i))) 6 (upd (I 6) (4 * m0 + a) (if 2 < kd then 0 else x))) 7 (upd (I 7) (4 * m0 + a) b)) 3 (upd (I 3) m0 (nI (a + 1)))
theorem pu_wa_un {I : Nat → Nat → Int32} {m0 a kd k : Nat} {i x b : Int32} (hk : ¬ k = 4 * m0 + a) (h : pu_wa I k) : pu_wa (pu_aA I m0 a kd i x b) k := by
  obtain ⟨k1, w1, a1, a2, a3, a4, a5, a6⟩ := h
  refine ⟨k1, w1, a1, a2, (pk_un hk).trans a3, (pk_un hk).trans a4, fun z => ?_, ?_⟩
  · obtain ⟨xd, c1, c2⟩ := a5 z
    exact ⟨xd, c1, (pk_un hk).trans c2⟩
  · show upd (I 7) (4 * m0 + a) b k = 0 ∨ upd (I 7) (4 * m0 + a) b k = 1
    rw [pk_un hk]
    exact a6
theorem pu_ain_w {nc ar kd : Nat} {i x : Int32} (ha : ar = 1 ∨ ar = 2) (h8 : nc ≤ 8) (h : pu_ain nc ar kd i x = true) : (∃ wh, wh < 2 ∧ (if 3 < kd then (0 : Int32) else i) = nI wh) ∧ (kd = 0 → ∃ xd, xd < nc ∧ x = nI xd) := by
  unfold pu_ain at h
  rw [Bool.and_eq_true] at h
  obtain ⟨h1, h2⟩ := h
  constructor
  · by_cases c : 3 < kd
    · exact ⟨0, by omega, by rw [if_pos c]; rfl⟩
    · rw [if_neg c] at h1 ⊢
      obtain ⟨k, hk, e⟩ := (pu_iv_0 (by omega)).mp h1
      exact ⟨k, by omega, e⟩
  · intro z
    subst z
    have h3 : pu_iv x 0 (nI nc - 1) = true := h2
    obtain ⟨k, hk, e⟩ := (pu_iv_0 (by omega)).mp h3
    exact ⟨k, hk, e⟩
theorem pu_W_atom {F : Nat → Int32} {I : Nat → Nat → Int32} {nc ng nM m0 a kd ar g0 : Nat} {i x b : Int32} (W : pu_W F I nc ng nM) (hm : m0 < nM) (ea : I 3 m0 = nI a) (h4 : a < 4) (hk : kd < 6) (ha : ar = 1 ∨ ar = 2) (hin : pu_ain nc ar kd i x = true) (hb : b = 0 ∨ b = 1) : pu_W F (pu_addA I m0 a kd i x b g0) nc ng nM := by
  show pu_W F (pu_fg (pu_aA I m0 a kd i x b) g0) nc ng nM
  refine pu_W_fg ?_ g0
  have hc8 := W.c8
  obtain ⟨⟨wh, hwh, ew⟩, hx⟩ := pu_ain_w ha hc8 hin
  obtain ⟨a1, a2, a3, a4, a5, a6, a7, a8, a9, b1, b2⟩ := W
  refine ⟨a1, a2, a3, a4, a5, a6, a7, a8, a9, b1, ?_⟩
  intro m hm'
  obtain ⟨a', q1, q2, q3⟩ := b2 m hm'
  by_cases e : m = m0
  · subst e
    have e2 : a' = a := (nI_eq (by omega) (by omega)).mp (q2.symm.trans ea)
    subst e2
    refine ⟨a' + 1, by omega, pk_us, fun j hj => ?_⟩
    by_cases ej : j = a'
    · subst ej
      refine ⟨kd, wh, hk, hwh, pk_us, pk_us.trans ew, fun z => ?_, ?_⟩
      · obtain ⟨xd, c1, c2⟩ := hx z
        refine ⟨xd, by omega, pk_us.trans ?_⟩
        rw [if_neg (by omega)]
        exact c2
      · show upd (I 7) (4 * m + j) b (4 * m + j) = 0 ∨ upd (I 7) (4 * m + j) b (4 * m + j) = 1
        rw [pk_us]
        exact hb
    · exact pu_wa_un (by omega) (q3 j (by omega))
  · exact ⟨a', q1, (pk_un e).trans q2, fun j hj => pu_wa_un (by omega) (q3 j hj)⟩
