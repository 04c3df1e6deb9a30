/-! a method's condition by the tests -/
def dk_WM (X : dk_X) (Y : dk_Y) (T : Nat) (tf : Nat → Nat) (m k : Nat) : Prop :=
  ((∀ t, t < 64 → bl (Y 30 m 6) t = true → t < T ∧ ∃ j, j < k ∧ X 33 (4 * m + j) 3 = 0 ∧ dk_sm X (tf t) (4 * m + j) = true) ∧ ∀ j, j < k → X 33 (4 * m + j) 3 = 0 → ∃ t, t < T ∧ dk_sm X (tf t) (4 * m + j) = true ∧ bl (Y 30 m 6) t = true) ∧
  (∀ t, t < 64 → bl (Y 30 m 7) t = true → t < T ∧ ∃ j, j < k ∧ ¬ X 33 (4 * m + j) 3 = 0 ∧ dk_sm X (tf t) (4 * m + j) = true) ∧ ∀ j, j < k → ¬ X 33 (4 * m + j) 3 = 0 → ∃ t, t < T ∧ dk_sm X (tf t) (4 * m + j) = true ∧ bl (Y 30 m 7) t = true
theorem dk_WM_0 {X : dk_X} {Y : dk_Y} {T : Nat} {tf : Nat → Nat} {m : Nat} (e6 : Y 30 m 6 = 0) (e7 : Y 30 m 7 = 0) : dk_WM X Y T tf m 0 := by
  refine ⟨⟨fun t _ z => ?_, fun j hj => absurd hj (by omega)⟩, fun t _ z => ?_, fun j hj => absurd hj (by omega)⟩
  · rw [e6, l_0] at z
    exact absurd z (by decide)
  · rw [e7, l_0] at z
    exact absurd z (by decide)
theorem dk_sm_cg {X X' : dk_X} (h : ∀ i, X' 33 i = X 33 i) (b a : Nat) : dk_sm X' b a = dk_sm X b a := by
  unfold dk_sm
  rw [h, h]
theorem dk_WM_mono {X X' : dk_X} {Y Y' : dk_Y} {T T' : Nat} {tf tf' : Nat → Nat} {m k : Nat} (W : dk_WM X Y T tf m k) (hX : ∀ i, X' 33 i = X 33 i) (hT : T ≤ T') (ht : ∀ t, t < T → tf' t = tf t) (hY : Y' 30 m = Y 30 m) : dk_WM X' Y' T' tf' m k := by
  obtain ⟨⟨a1, a2⟩, a3, a4⟩ := W
  unfold dk_WM
  rw [hY]
  simp only [hX, dk_sm_cg hX]
  refine ⟨⟨fun t h1 h2 => ?_, fun j h1 h2 => ?_⟩, fun t h1 h2 => ?_, fun j h1 h2 => ?_⟩
  · obtain ⟨b1, b2⟩ := a1 t h1 h2
    rw [ht t b1]
    exact ⟨by omega, b2⟩
  · obtain ⟨t, b1, b2⟩ := a2 j h1 h2
    exact ⟨t, by omega, by rw [ht t b1]; exact b2⟩
  · obtain ⟨b1, b2⟩ := a3 t h1 h2
    rw [ht t b1]
    exact ⟨by omega, b2⟩
  · obtain ⟨t, b1, b2⟩ := a4 j h1 h2
    exact ⟨t, by omega, by rw [ht t b1]; exact b2⟩
theorem dk_WM_w {X : dk_X} {Y : dk_Y} {T : Nat} {tf : Nat → Nat} {m k t : Nat} (W : dk_WM X Y T tf m k) (hT : T ≤ 48) (ht : t < T) (hs : dk_sm X (tf t) (4 * m + k) = true) (hn : X 33 (4 * m + k) 3 = 0) : dk_WM X (dk_is Y 30 m (vp_updL (Y 30 m) 6 (Y 30 m 6 ||| lg1 t))) T tf m (k + 1) := by
  obtain ⟨⟨a1, a2⟩, a3, a4⟩ := W
  unfold dk_WM
  rw [dk_s, pk_uLs, pk_uLn (by decide)]
  refine ⟨⟨fun u h1 h2 => ?_, fun j h1 h2 => ?_⟩, fun u h1 h2 => ?_, fun j h1 h2 => ?_⟩
  · rw [l_or, l_one (by omega) h1] at h2
    by_cases c : bl (Y 30 m 6) u = true
    · obtain ⟨b1, j, b2, b3⟩ := a1 u h1 c
      exact ⟨b1, j, by omega, b3⟩
    · have c2 : u = t := by simpa [c] using h2
      subst c2
      exact ⟨ht, k, by omega, hn, hs⟩
  · by_cases c : j = k
    · subst c
      exact ⟨t, ht, hs, by rw [l_or, l_one (by omega) (by omega)]; simp⟩
    · obtain ⟨u, b1, b2, b3⟩ := a2 j (by omega) h2
      exact ⟨u, b1, b2, by rw [l_or, b3]; rfl⟩
  · obtain ⟨b1, j, b2, b3⟩ := a3 u h1 h2
    exact ⟨b1, j, by omega, b3⟩
  · by_cases c : j = k
    · subst c
      exact absurd hn h2
    · exact a4 j (by omega) h2
theorem dk_WM_u {X : dk_X} {Y : dk_Y} {T : Nat} {tf : Nat → Nat} {m k t : Nat} (W : dk_WM X Y T tf m k) (hT : T ≤ 48) (ht : t < T) (hs : dk_sm X (tf t) (4 * m + k) = true) (hn : ¬ X 33 (4 * m + k) 3 = 0) : dk_WM X (dk_is Y 30 m (vp_updL (Y 30 m) 7 (Y 30 m 7 ||| lg1 t))) T tf m (k + 1) := by
  obtain ⟨⟨a1, a2⟩, a3, a4⟩ := W
  unfold dk_WM
  rw [dk_s, pk_uLs, pk_uLn (by decide)]
  refine ⟨⟨fun u h1 h2 => ?_, fun j h1 h2 => ?_⟩, fun u h1 h2 => ?_, fun j h1 h2 => ?_⟩
  · obtain ⟨b1, j, b2, b3⟩ := a1 u h1 h2
    exact ⟨b1, j, by omega, b3⟩
  · by_cases c : j = k
    · subst c
      exact absurd h2 hn
    · exact a2 j (by omega) h2
  · rw [l_or, l_one (by omega) h1] at h2
    by_cases c : bl (Y 30 m 7) u = true
    · obtain ⟨b1, j, b2, b3⟩ := a3 u h1 c
      exact ⟨b1, j, by omega, b3⟩
    · have c2 : u = t := by simpa [c] using h2
      subst c2
      exact ⟨ht, k, by omega, hn, hs⟩
  · by_cases c : j = k
    · subst c
      exact ⟨t, ht, hs, by rw [l_or, l_one (by omega) (by omega)]; simp⟩
    · obtain ⟨u, b1, b2, b3⟩ := a4 j (by omega) h2
      exact ⟨u, b1, b2, by rw [l_or, b3]; rfl⟩
/-- what learn leaves as it was, of a generic g; mm: the method whose condition is learned -/
def dk_f1 (g mm : Nat) (X X' : dk_X) (Y Y' : dk_Y) (Z Z' : dk_Z) : Prop := (∀ k i, ¬ (k = 26 ∧ i = g) → X' k i = X k i) ∧ (∀ k i, ¬ ((k = 26 ∨ k = 28 ∨ k = 29) ∧ i = g) → ¬ (k = 30 ∧ i = mm) → Y' k i = Y k i) ∧ ∀ k i, ¬ (k = 27 ∧ i = g) → Z' k i = Z k i
theorem dk_f1_rf {g mm : Nat} {X : dk_X} {Y : dk_Y} {Z : dk_Z} : dk_f1 g mm X X Y Y Z Z := ⟨fun _ _ _ => rfl, fun _ _ _ _ => rfl, fun _ _ _ => rfl⟩
theorem dk_f1_tr {g mm : Nat} {X X' X2 : dk_X} {Y Y' Y2 : dk_Y} {Z Z' Z2 : dk_Z} (a : dk_f1 g mm X X' Y Y' Z Z') (b : dk_f1 g mm X' X2 Y' Y2 Z' Z2) : dk_f1 g mm X X2 Y Y2 Z Z2 := ⟨fun k i h => (b.1 k i h).trans (a.1 k i h), fun k i h h2 => (b.2.1 k i h h2).trans (a.2.1 k i h h2), fun k i h => (b.2.2 k i h).trans (a.2.2 k i h)⟩
/-- the tests that Xr holds of g are in order -/
def dk_zt (Xr : mq_M) (g : Nat) : Prop := ∀ t, t < dk_T Xr g → pu_nz (Xr 19 (48 * g + t)) (Xr 20 (48 * g + t)) (Xr 21 (48 * g + t))
theorem dk_g1_any {ad : Nat → Nat → Nat} {ng nM : Nat} {na no : Nat → Nat} {X : dk_X} {Y : dk_Y} {Z : dk_Z} {Xr : mq_M} {g nc a t : Nat} {tf : Nat → Nat} (A : dk_FI ad ng nM na no X Y Z Xr g nc tf) (e0 : X 33 a 0 = Xr 4 a) (e1 : X 33 a 1 = Xr 5 a) (e2 : X 33 a 2 = Xr 6 a) (ht : t < dk_T Xr g) (hs : dk_sm X (tf t) a = true) : pu_g1 Xr g a = Xr := by
  unfold pu_g1 pu_g0
  rw [if_pos]
  refine List.any_eq_true.mpr ⟨t, List.mem_range.mpr ht, ?_⟩
  obtain ⟨b0, b1, b2⟩ := A.2.1 t ht
  unfold pu_tq
  unfold dk_sm at hs
  rw [b0, b1, b2, e0, e1, e2] at hs
  exact hs
/-- what learn makes -/
theorem dk_learn_ok {dA : Nat → ClassId} {ad : Nat → Nat → Nat} {ng nM : Nat} {na no : Nat → Nat} {X : dk_X} {Y : dk_Y} {Z : dk_Z} {Xr : mq_M} {g nc a kd wh mm : Nat} {tf : Nat → Nat} {r : Int64} {h h' : zz_H} (hP : dk_P dA ad (dk_lv ng nM na no) X Y Z h) (A : dk_FI ad ng nM na no X Y Z Xr g nc tf) (hT : dk_T Xr g < 48) (hg : g < 4) (e0 : X 33 a 0 = Xr 4 a) (e1 : X 33 a 1 = Xr 5 a) (e2 : X 33 a 2 = Xr 6 a) (hkd : kd < 6) (hwh : wh < 2) (ek : X 33 a 0 = nI kd) (ew : X 33 a 1 = nI wh) (ha : dk_lv ng nM na no 33 a) (hz : pu_nz (Xr 4 a) (Xr 5 a) (Xr 6 a)) (hzt : dk_zt Xr g)
    (pp : (∃ t, t < dk_T Xr g ∧ dk_sm X (tf t) a = true ∧ (∀ t9, t9 < t → dk_sm X (tf t9) a = false) ∧ r = lg1 t ∧ h' = h) ∨ ((∀ t9, t9 < dk_T Xr g → dk_sm X (tf t9) a = false) ∧ r = lg1 (dk_T Xr g) ∧ dk_K dA ad (dk_lv ng nM na no) (dk_is X 26 g (upd (X 26 g) 2 (nI (dk_T Xr g + 1)))) (dk_note X Y (Xr 0) g a kd wh nc (lg1 (dk_T Xr g))) (dk_is Z 27 g (va_up (Z 27 g) (dk_T Xr g) (some (ad 33 a)))) h h')) :
    ∃ t tf' X' Y' Z', r = lg1 t ∧ t < dk_T (pu_g1 Xr g a) g ∧ dk_sm X (tf' t) a = true ∧ dk_FI ad ng nM na no X' Y' Z' (pu_g1 Xr g a) g nc tf' ∧ dk_K dA ad (dk_lv ng nM na no) X' Y' Z' h h' ∧ dk_T Xr g ≤ dk_T (pu_g1 Xr g a) g ∧ dk_T (pu_g1 Xr g a) g ≤ dk_T Xr g + 1 ∧ (∀ t9, t9 < dk_T Xr g → tf' t9 = tf t9) ∧ dk_f1 g mm X X' Y Y' Z Z' ∧ Y' 30 = Y 30 ∧ dk_zt (pu_g1 Xr g a) g := by
  rcases pp with ⟨t, h1, h2, h3, rfl, rfl⟩ | ⟨h1, rfl, h3⟩
  · have eg := dk_g1_any A e0 e1 e2 h1 h2
    rw [eg]
    exact ⟨t, tf, X, Y, Z, rfl, h1, h2, A, dk_rf hP, Nat.le_refl _, by omega, fun _ _ => rfl, dk_f1_rf, rfl, hzt⟩
  · have F := dk_FI_new A hT hg e0 e1 e2 hkd hwh ek ew ha hz hzt h1
    have eT : dk_T (pu_g1 Xr g a) g = dk_T Xr g + 1 := by
      have q := F.1.1
      rw [dk_s, pk_us] at q
      have hle : dk_T (pu_g1 Xr g a) g < 2 ^ 31 := by
        unfold dk_T
        exact Int32.toNatClampNeg_lt _
      exact ((nI_eq (by omega) hle).mp q).symm
    refine ⟨dk_T Xr g, _, _, _, _, rfl, by omega, ?_, F, h3, by omega, by omega, fun t9 h9 => if_neg (by omega), ⟨fun k i c => dk_n c, fun k i c c2 => ?_, fun k i c => dk_n c⟩, ?_, ?_⟩
    · show dk_sm X (if dk_T Xr g = dk_T Xr g then a else tf (dk_T Xr g)) a = true
      rw [if_pos rfl]
      unfold dk_sm
      simp
    · unfold dk_note
      split
      · exact dk_n (fun z => c ⟨Or.inl z.1, z.2⟩)
      · split
        · exact dk_n (fun z => c ⟨Or.inl z.1, z.2⟩)
        · split
          · exact dk_n (fun z => c ⟨Or.inr (Or.inl z.1), z.2⟩)
          · exact dk_n (fun z => c ⟨Or.inr (Or.inr z.1), z.2⟩)
    · unfold dk_note
      split
      · rfl
      · split
        · rfl
        · split <;> rfl
    · intro t ht
      by_cases c : t = dk_T Xr g
      · obtain ⟨b0, b1, b2⟩ := F.2.1 t ht
        rw [← b0, ← b1, ← b2]
        show pu_nz (X 33 (if t = dk_T Xr g then a else tf t) 0) (X 33 (if t = dk_T Xr g then a else tf t) 1) (X 33 (if t = dk_T Xr g then a else tf t) 2)
        rw [if_pos c, e0, e1, e2]
        exact hz
      · obtain ⟨b0, b1, b2⟩ := F.2.1 t ht
        obtain ⟨c0, c1, c2⟩ := A.2.1 t (by omega)
        rw [← b0, ← b1, ← b2]
        show pu_nz (X 33 (if t = dk_T Xr g then a else tf t) 0) (X 33 (if t = dk_T Xr g then a else tf t) 1) (X 33 (if t = dk_T Xr g then a else tf t) 2)
        rw [if_neg c, c0, c1, c2]
        exact hzt t (by omega)
theorem dk_FI_Y {ad : Nat → Nat → Nat} {ng nM : Nat} {na no : Nat → Nat} {X : dk_X} {Y Y' : dk_Y} {Z : dk_Z} {Xr : mq_M} {g nc : Nat} {tf : Nat → Nat} (A : dk_FI ad ng nM na no X Y Z Xr g nc tf) (h1 : Y' 28 g = Y 28 g) (h2 : Y' 29 g = Y 29 g) (h3 : Y' 26 g = Y 26 g) : dk_FI ad ng nM na no X Y' Z Xr g nc tf := by
  unfold dk_FI
  rw [h1, h2, h3]
  exact A
