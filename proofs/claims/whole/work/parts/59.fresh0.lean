/-! the own methods of g are all its methods, in their order -/
def dk_en (I : mq_M) (g nM oc : Nat) (ow : Nat → Nat) : Prop := (∀ k, k < oc → ow k < nM ∧ I 2 (ow k) = nI g) ∧ (∀ j k, j < k → k < oc → ow j < ow k) ∧ ∀ m, m < nM → I 2 m = nI g → ∃ k, k < oc ∧ ow k = m
theorem pu_g3_lo {I : mq_M} {g : Nat} (j : Nat) (hj : j < 18) : ∀ m, pu_g3 I g m j = I j
  | 0 => by
    rw [pu_g3]
    exact if_neg (by omega)
  | m + 1 => by
    rw [pu_g3]
    split
    · rw [pu_g2_lo j hj]
      exact pu_g3_lo j hj m
    · exact pu_g3_lo j hj m
theorem pu_g3_sk {I : mq_M} {g a : Nat} : ∀ d, (∀ m, a ≤ m → m < a + d → ¬ I 2 m = nI g) → pu_g3 I g (a + d) = pu_g3 I g a
  | 0, _ => rfl
  | d + 1, h => by
    show pu_g3 I g ((a + d) + 1) = _
    rw [pu_g3, if_neg (h (a + d) (by omega) (by omega))]
    exact pu_g3_sk d (fun m h1 h2 => h m h1 (by omega))
def dk_nx (ow : Nat → Nat) (nM oc k : Nat) : Nat := if k < oc then ow k else nM
theorem dk_nx_0 {I : mq_M} {g nM oc : Nat} {ow : Nat → Nat} (E : dk_en I g nM oc ow) : pu_g3 I g (dk_nx ow nM oc 0) = pu_g3 I g 0 := by
  have := pu_g3_sk (I := I) (g := g) (a := 0) (dk_nx ow nM oc 0) (fun m h1 h2 z => ?_)
  · rw [Nat.zero_add] at this
    exact this
  · unfold dk_nx at h2
    have hm : m < nM := by
      split at h2
      · have := (E.1 0 (by assumption)).1
        omega
      · omega
    obtain ⟨k, k1, k2⟩ := E.2.2 m hm z
    rw [if_pos (by omega)] at h2
    by_cases c : k = 0
    · subst c
      omega
    · have := E.2.1 0 k (by omega) k1
      omega
theorem dk_nx_s {I : mq_M} {g nM oc k : Nat} {ow : Nat → Nat} (E : dk_en I g nM oc ow) (hk : k < oc) : pu_g3 I g (dk_nx ow nM oc (k + 1)) = pu_g2 (pu_g3 I g (dk_nx ow nM oc k)) g (ow k) (I 3 (ow k)).toNatClampNeg := by
  obtain ⟨e1, e2⟩ := E.1 k hk
  have hx : dk_nx ow nM oc k = ow k := if_pos hk
  have h1 : pu_g3 I g (ow k + 1) = pu_g2 (pu_g3 I g (ow k)) g (ow k) (I 3 (ow k)).toNatClampNeg := by
    rw [pu_g3, if_pos e2]
  have hge : ow k + 1 ≤ dk_nx ow nM oc (k + 1) := by
    unfold dk_nx
    split
    · exact E.2.1 k (k + 1) (by omega) (by assumption)
    · omega
  obtain ⟨d, hd⟩ : ∃ d, dk_nx ow nM oc (k + 1) = ow k + 1 + d := ⟨dk_nx ow nM oc (k + 1) - (ow k + 1), by omega⟩
  rw [hx, ← h1, hd]
  refine pu_g3_sk d (fun m h3 h4 z => ?_)
  rw [← hd] at h4
  have hm : m < nM := by
    unfold dk_nx at h4
    split at h4
    · have := (E.1 (k + 1) (by assumption)).1
      omega
    · exact h4
  obtain ⟨j, j1, j2⟩ := E.2.2 m hm z
  have hj : k < j := by
    rcases Nat.lt_trichotomy j k with q | q | q
    · have := E.2.1 j k q hk
      omega
    · subst q
      omega
    · exact q
  by_cases c : j = k + 1
  · subst c
    unfold dk_nx at h4
    rw [if_pos j1] at h4
    omega
  · have := E.2.1 (k + 1) j (by omega) j1
    unfold dk_nx at h4
    rw [if_pos (by omega)] at h4
    omega
theorem dk_nx_e {ow : Nat → Nat} {nM oc : Nat} : dk_nx ow nM oc oc = nM := if_neg (by omega)
/-- methods, atoms and classes of the desk stand as in I -/
def dk_BS (ad : Nat → Nat → Nat) (nM : Nat) (na : Nat → Nat) (X : dk_X) (Z : dk_Z) (I : mq_M) (nc : Nat) : Prop := dk_hi X (I 0) nc ∧ nM ≤ 12 ∧ nc ≤ 8 ∧ 1 ≤ nc ∧ ∀ m, m < nM → X 30 m 0 = nI m ∧ X 30 m 3 = nI (na m) ∧ na m ≤ 4 ∧ I 3 m = nI (na m) ∧ ∀ k, k < na m → Z 31 m k = some (ad 33 (4 * m + k)) ∧ dk_ao X I nc (4 * m + k) ∧ X 33 (4 * m + k) 3 = I 7 (4 * m + k)
theorem dk_ao_cg {X X' : dk_X} {I I' : mq_M} {nc a : Nat} (h : dk_ao X I nc a) (e : X' 33 a = X 33 a) (e4 : I' 4 = I 4) (e5 : I' 5 = I 5) (e6 : I' 6 = I 6) : dk_ao X' I' nc a := by
  unfold dk_ao
  rw [e, e4, e5, e6]
  exact h
/-- what learning leaves as it was -/
def dk_f7 (g oc : Nat) (ow : Nat → Nat) (X X' : dk_X) (Y Y' : dk_Y) (Z Z' : dk_Z) : Prop := (∀ k i, ¬ (k = 26 ∧ i = g) → X' k i = X k i) ∧ (∀ k i, ¬ ((k = 26 ∨ k = 28 ∨ k = 29) ∧ i = g) → ¬ (k = 30 ∧ ∃ j, j < oc ∧ i = ow j) → Y' k i = Y k i) ∧ ∀ k i, ¬ (k = 27 ∧ i = g) → Z' k i = Z k i
theorem dk_f7_1 {g oc j : Nat} {ow : Nat → Nat} {X X' X2 : dk_X} {Y Y' Y2 : dk_Y} {Z Z' Z2 : dk_Z} (a : dk_f7 g oc ow X X' Y Y' Z Z') (hj : j < oc) (b : dk_f1 g (ow j) X' X2 Y' Y2 Z' Z2) : dk_f7 g oc ow X X2 Y Y2 Z Z2 := ⟨fun k i h => (b.1 k i h).trans (a.1 k i h), fun k i h h2 => (b.2.1 k i h (fun z => h2 ⟨z.1, j, hj, z.2⟩)).trans (a.2.1 k i h h2), fun k i h => (b.2.2 k i h).trans (a.2.2 k i h)⟩
theorem dk_f7_BS {ad : Nat → Nat → Nat} {nM : Nat} {na : Nat → Nat} {g oc nc : Nat} {ow : Nat → Nat} {X X' : dk_X} {Y Y' : dk_Y} {Z Z' : dk_Z} {I : mq_M} (a : dk_f7 g oc ow X X' Y Y' Z Z') (B : dk_BS ad nM na X Z I nc) : dk_BS ad nM na X' Z' I nc := by
  obtain ⟨b1, b2, b3, b4, b5⟩ := B
  refine ⟨dk_hi_cg b1 (a.1 1 0 (by omega)) (a.1 2 0 (by omega)), b2, b3, b4, fun m hm => ?_⟩
  obtain ⟨c1, c2, c3, c4, c5⟩ := b5 m hm
  rw [a.1 30 m (by omega), a.2.2 31 m (by omega)]
  exact ⟨c1, c2, c3, c4, fun k hk => ⟨(c5 k hk).1, dk_ao_cg (c5 k hk).2.1 (a.1 33 _ (by omega)) rfl rfl rfl, by rw [a.1 33 _ (by omega)]; exact (c5 k hk).2.2⟩⟩
theorem dk_T_le {F : Nat → Int32} {I : mq_M} {nc ng nM g m : Nat} (W : pu_W F I nc ng nM) (hm : m ≤ nM) : dk_T (pu_g3 I g m) g ≤ 4 * m := by
  obtain ⟨_, T, h1, h2, _⟩ := pu_g3_inv (g := g) W m hm
  have := W.m12
  unfold dk_T
  rw [h2, nI_clamp (by omega)]
  exact h1
