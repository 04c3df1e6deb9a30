/-! what the class's facts mean -/
theorem dk_qz {Xr : mq_M} {g t : Nat} (hw : pu_wt Xr (48 * g + t)) (a b : Nat) : pu_qz Xr g a b t = (dk_fq Xr g 0 a t || dk_fq Xr g 1 b t || (decide (a % 8 < b % 8) && dk_kq Xr g 4 t) || (decide (a / 8 = b / 8) && dk_kq Xr g 5 t)) := by
  obtain ⟨kd, wh, a1, a2, a3, a4, a5⟩ := hw
  have k4 : dk_kq Xr g 4 t = decide (kd = 4) := by
    unfold dk_kq
    rw [a3]
    by_cases z : kd = 4
    · rw [z, decide_eq_true rfl, decide_eq_true rfl]
    · rw [decide_eq_false z, decide_eq_false (fun q => z ((nI_eq (by omega) (by omega)).mp q))]
  have k5 : dk_kq Xr g 5 t = decide (kd = 5) := by
    unfold dk_kq
    rw [a3]
    by_cases z : kd = 5
    · rw [z, decide_eq_true rfl, decide_eq_true rfl]
    · rw [decide_eq_false z, decide_eq_false (fun q => z ((nI_eq (by omega) (by omega)).mp q))]
  rw [k4, k5]
  unfold pu_qz dk_fq
  rw [a3, a4, nI_clamp (by omega), nI_clamp (by omega)]
  have hk : kd = 0 ∨ kd = 1 ∨ kd = 2 ∨ kd = 3 ∨ kd = 4 ∨ kd = 5 := by omega
  have hwh : wh = 0 ∨ wh = 1 := by omega
  rcases hk with rfl | rfl | rfl | rfl | rfl | rfl <;> rcases hwh with rfl | rfl <;> simp [pu_holds]
theorem dk_of_b {ad : Nat → Nat → Nat} {ng nM : Nat} {na no : Nat → Nat} {X : dk_X} {Y : dk_Y} {Z : dk_Z} {Xr : mq_M} {g nc a b i : Nat} {tf : Nat → Nat} (A : dk_FI ad ng nM na no X Y Z Xr g nc tf) (hT : dk_T Xr g ≤ 48) (hw : ∀ t, t < dk_T Xr g → pu_wt Xr (48 * g + t)) (ha : a < 8 * nc) (hb : b < 8 * nc) (hi : i < 64) : bl (dk_of Y g a b) i = (decide (i < dk_T Xr g) && pu_qz Xr g a b i) := by
  have e1 : bl (Y 28 g a) i = (decide (i < dk_T Xr g) && dk_fq Xr g 0 a i) := by rw [(A.2.2.1 a ha).1, l_ls _ _ (by omega) i hi]
  have e2 : bl (Y 29 g b) i = (decide (i < dk_T Xr g) && dk_fq Xr g 1 b i) := by rw [(A.2.2.1 b hb).2, l_ls _ _ (by omega) i hi]
  have e3 : bl (Y 26 g 5) i = (decide (i < dk_T Xr g) && dk_kq Xr g 4 i) := by rw [A.2.2.2.1, l_ls _ _ (by omega) i hi]
  have e4 : bl (Y 26 g 6) i = (decide (i < dk_T Xr g) && dk_kq Xr g 5 i) := by rw [A.2.2.2.2, l_ls _ _ (by omega) i hi]
  by_cases c : i < dk_T Xr g
  · rw [dk_qz (hw i c)]
    rw [decide_eq_true c] at e1 e2 e3 e4 ⊢
    simp only [Bool.true_and] at e1 e2 e3 e4 ⊢
    unfold dk_of
    by_cases c1 : a / 8 = b / 8 <;> by_cases c2 : a % 8 < b % 8
    · rw [if_pos c1, if_pos c2, l_or, l_or, l_or, e1, e2, e3, e4, decide_eq_true c1, decide_eq_true c2]
      simp
    · rw [if_pos c1, if_neg c2, l_or, l_or, e1, e2, e4, decide_eq_true c1, decide_eq_false c2]
      simp
    · rw [if_neg c1, if_pos c2, l_or, l_or, e1, e2, e3, decide_eq_false c1, decide_eq_true c2]
      simp
    · rw [if_neg c1, if_neg c2, l_or, e1, e2, decide_eq_false c1, decide_eq_false c2]
      simp
  · rw [decide_eq_false c] at e1 e2 e3 e4 ⊢
    simp only [Bool.false_and] at e1 e2 e3 e4 ⊢
    unfold dk_of
    split <;> split <;> simp only [l_or, e1, e2, e3, e4, Bool.or_false]
theorem dk_of_ls {ad : Nat → Nat → Nat} {ng nM : Nat} {na no : Nat → Nat} {X : dk_X} {Y : dk_Y} {Z : dk_Z} {Xr : mq_M} {g nc a b : Nat} {tf : Nat → Nat} (A : dk_FI ad ng nM na no X Y Z Xr g nc tf) (hT : dk_T Xr g ≤ 48) (hw : ∀ t, t < dk_T Xr g → pu_wt Xr (48 * g + t)) (ha : a < 8 * nc) (hb : b < 8 * nc) : dk_of Y g a b = pu_ls (pu_qz Xr g a b) (dk_T Xr g) := by
  apply l_ext
  intro i hi
  rw [dk_of_b A hT hw ha hb hi, l_ls _ _ (by omega) i hi]
theorem l_sub {w x : Int64} : w &&& x = x ↔ ∀ i, i < 64 → bl x i = true → bl w i = true := by
  constructor
  · intro h i hi hx
    rw [← h, l_and] at hx
    simp at hx
    exact hx.1
  · intro h
    apply l_ext
    intro i hi
    rw [l_and]
    cases c : bl x i
    · simp
    · rw [h i hi c]; rfl
theorem l_dis {w x : Int64} : w &&& x = 0 ↔ ∀ i, i < 64 → bl x i = true → bl w i = false := by
  constructor
  · intro h i hi hx
    have h2 : bl (w &&& x) i = false := by rw [h, l_0]
    rw [l_and, hx] at h2
    simpa using h2
  · intro h
    apply l_ext
    intro i hi
    rw [l_and, l_0]
    cases c : bl x i
    · simp
    · rw [h i hi c]; rfl
theorem dk_hl_app {ad : Nat → Nat → Nat} {ng nM : Nat} {na no : Nat → Nat} {X : dk_X} {Y : dk_Y} {Z : dk_Z} {I Xr : mq_M} {g nc a b m : Nat} {tf : Nat → Nat} (A : dk_FI ad ng nM na no X Y Z Xr g nc tf) (hT : dk_T Xr g ≤ 48) (hw : ∀ t, t < dk_T Xr g → pu_wt Xr (48 * g + t)) (ha : a < 8 * nc) (hb : b < 8 * nc) (W : dk_WM X Y (dk_T Xr g) tf m (na m)) (e0 : Xr 0 = I 0) (h4 : na m ≤ 4) (e3 : I 3 m = nI (na m)) (ao : ∀ j, j < na m → dk_ao X I nc (4 * m + j) ∧ X 33 (4 * m + j) 3 = I 7 (4 * m + j)) : dk_hl Y m (dk_of Y g a b) = pu_app I m a b := by
  -- what an atom says is what its test says
  have hat : ∀ j t, j < na m → t < dk_T Xr g → dk_sm X (tf t) (4 * m + j) = true → pu_qz Xr g a b t = pu_holds (I 0) (I 4 (4 * m + j)).toNatClampNeg (I 5 (4 * m + j)).toNatClampNeg (I 6 (4 * m + j)) a b := by
    intro j t hj ht hs
    obtain ⟨b0, b1, b2⟩ := A.2.1 t ht
    obtain ⟨⟨c0, c1, c2, _⟩, _⟩ := ao j hj
    unfold dk_sm at hs
    simp at hs
    unfold pu_qz
    rw [← b0, ← b1, ← b2, hs.1, hs.2.1, hs.2.2, c0, c1, c2, e0]
  have hbt : ∀ t, t < dk_T Xr g → bl (dk_of Y g a b) t = pu_qz Xr g a b t := by
    intro t ht
    rw [dk_of_b A hT hw ha hb (by omega), decide_eq_true ht]
    rfl
  obtain ⟨⟨w1, w2⟩, u1, u2⟩ := W
  have main : (dk_of Y g a b &&& Y 30 m 6 = Y 30 m 6 ∧ dk_of Y g a b &&& Y 30 m 7 = 0) ↔ ∀ j, j < na m → pu_at I (4 * m + j) a b = true := by
    rw [l_sub, l_dis]
    constructor
    · rintro ⟨h1, h2⟩ j hj
      obtain ⟨⟨_, _, _, hb3, _⟩, e7⟩ := ao j hj
      unfold pu_at
      by_cases c : X 33 (4 * m + j) 3 = 0
      · obtain ⟨t, t1, t2, t3⟩ := w2 j hj c
        have q := h1 t (by omega) t3
        rw [hbt t t1, hat j t hj t1 t2] at q
        rw [q, ← e7, c]
        rfl
      · obtain ⟨t, t1, t2, t3⟩ := u2 j hj c
        have q := h2 t (by omega) t3
        rw [hbt t t1, hat j t hj t1 t2] at q
        have c1 : X 33 (4 * m + j) 3 = 1 := hb3.elim (fun z => absurd z c) id
        rw [q, ← e7, c1]
        rfl
    · intro h
      refine ⟨fun t ht hs => ?_, fun t ht hs => ?_⟩
      · obtain ⟨t1, j, j1, j2, j3⟩ := w1 t ht hs
        have q := h j j1
        unfold pu_at at q
        rw [← (ao j j1).2, j2] at q
        rw [hbt t t1, hat j t j1 t1 j3]
        cases c : pu_holds (I 0) (I 4 (4 * m + j)).toNatClampNeg (I 5 (4 * m + j)).toNatClampNeg (I 6 (4 * m + j)) a b
        · rw [c] at q; exact absurd q (by decide)
        · rfl
      · obtain ⟨t1, j, j1, j2, j3⟩ := u1 t ht hs
        have q := h j j1
        obtain ⟨⟨_, _, _, hb3, _⟩, e7⟩ := ao j j1
        have c1 : X 33 (4 * m + j) 3 = 1 := hb3.elim (fun z => absurd z j2) id
        unfold pu_at at q
        rw [← e7, c1] at q
        rw [hbt t t1, hat j t j1 t1 j3]
        cases c : pu_holds (I 0) (I 4 (4 * m + j)).toNatClampNeg (I 5 (4 * m + j)).toNatClampNeg (I 6 (4 * m + j)) a b
        · rfl
        · rw [c] at q; exact absurd q (by decide)
  rw [Bool.eq_iff_iff]
  unfold dk_hl pu_app
  rw [Bool.and_eq_true, decide_eq_true_iff, decide_eq_true_iff, main, List.all_eq_true, e3, nI_clamp (by omega)]
  constructor
  · intro h j hj
    exact h j (List.mem_range.mp hj)
  · intro h j hj
    exact h j (List.mem_range.mpr hj)
theorem bt_ap {Y : dk_Y} {ow : Nat → Nat} {w : Int64} {i : Nat} (hi : i < 32) : ∀ k, (∀ j, j < k → ow j < 32) → bt (dk_ap Y ow w k) i = ((List.range k).any fun j => decide (ow j = i) && dk_hl Y (ow j) w)
  | 0, _ => by rw [dk_ap, b_0]; rfl
  | k + 1, h => by
    have ih := bt_ap (Y := Y) (w := w) hi k (fun j hj => h j (by omega))
    rw [dk_ap, z_loopAny]
    by_cases c : dk_hl Y (ow k) w = true
    · rw [if_pos c, b_or, ih, bt_one (h k (by omega)) hi, c]
      by_cases e : ow k = i
      · subst e; simp
      · have e2 : ¬ i = ow k := fun z => e z.symm
        simp [e, e2]
    · rw [if_neg c, ih]
      simp [c]
