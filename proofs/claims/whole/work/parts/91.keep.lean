/-! what a call leaves of a generic it doesn't touch -/
section DKP
variable {F : Nat → Int32} {ad ad' : Nat → Nat → Nat} {ng ng' nM nM' : Nat} {na na' no no' : Nat → Nat} {X X' : dk_X} {Y Y' : dk_Y} {Z Z' : dk_Z} {I I' : mq_M} {nc g oc9 : Nat} {ow9 : Nat → Nat}
theorem dk_ap_o {w : Int64} (y30 : ∀ k, k < oc9 → Y' 30 (ow9 k) = Y 30 (ow9 k)) : ∀ k, k ≤ oc9 → dk_ap Y' ow9 w k = dk_ap Y ow9 w k := by
  intro k
  induction k with
  | zero => intro _; rfl
  | succ k ih =>
    intro hk
    rw [dk_ap, dk_ap, ih (by omega)]
    unfold dk_hl
    rw [y30 k (by omega)]
theorem dk_ch_o (h : dk_ch X Y ow9 g oc9) (e20 : X' 20 g = X 20 g) (y20 : Y' 20 g = Y 20 g) (h30 : ∀ k, k < oc9 → X' 30 (ow9 k) 9 = X 30 (ow9 k) 9) (y30 : ∀ k, k < oc9 → Y' 30 (ow9 k) = Y 30 (ow9 k)) : dk_ch X' Y' ow9 g oc9 := by
  rcases h with z | z
  · exact Or.inl (by rw [e20]; exact z)
  · refine Or.inr ?_
    have hpf : ∀ x f k, k + f ≤ oc9 → dk_pf X' ow9 x f k = dk_pf X ow9 x f k := by
      intro x f
      induction f with
      | zero => intro k _; rfl
      | succ f ih =>
        intro k hk
        rw [dk_pf, dk_pf, ih (k + 1) (by omega), h30 k (by omega)]
    rw [e20, y20, z, dk_ap_o y30 oc9 (Nat.le_refl _)]
    unfold dk_pk
    rw [hpf _ oc9 0 (by omega)]
theorem dk_FR_gr {ar : Nat} {tf : Nat → Nat} (W : pu_W F I nc ng nM) (S : pu_sg I I' nM nM' g) (K : dk_FR ad ng nM na no X Y Z I g nc ar oc9 ow9 tf) (hna4 : ∀ k, k < oc9 → ow9 k < nM ∧ na (ow9 k) ≤ 4) (hna : ∀ k, k < oc9 → na' (ow9 k) = na (ow9 k)) (h26 : X' 26 g = X 26 g) (h33 : ∀ i, dk_lv ng nM na no 33 i → X' 33 i = X 33 i ∧ ad' 33 i = ad 33 i ∧ dk_lv ng' nM' na' no' 33 i) (h30 : ∀ k, k < oc9 → X' 30 (ow9 k) 8 = X 30 (ow9 k) 8 ∧ X' 30 (ow9 k) 9 = X 30 (ow9 k) 9) (h6 : X' 20 g 6 = X 20 g 6) (y26 : Y' 26 g = Y 26 g) (y28 : Y' 28 g = Y 28 g) (y29 : Y' 29 g = Y 29 g) (y30 : ∀ k, k < oc9 → Y' 30 (ow9 k) = Y 30 (ow9 k)) (z27 : Z' 27 g = Z 27 g) : dk_FR ad' ng' nM' na' no' X' Y' Z' I' g nc ar oc9 ow9 tf := by
  obtain ⟨f1, f2, f3, f4⟩ := K
  obtain ⟨t1, t2⟩ := S.g3 W
  have eT : dk_T (pu_g3 I' g nM') g = dk_T (pu_g3 I g nM) g := by
    unfold dk_T
    rw [t1]
  have e0 : pu_g3 I' g nM' 0 = pu_g3 I g nM 0 := by
    rw [pu_g3_lo 0 (by decide), pu_g3_lo 0 (by decide)]
    exact S.1
  have lvt : ∀ t, t < dk_T (pu_g3 I g nM) g → dk_lv ng nM na no 33 (tf t) := fun t ht => (f1.1.2 t ht).2
  have hof : ∀ a b, dk_of Y' g a b = dk_of Y g a b := by
    intro a b
    unfold dk_of
    rw [y28, y29, y26]
  have hby : ∀ k n, k < oc9 → n ≤ oc9 → dk_by X' ow9 (ow9 k) n = dk_by X ow9 (ow9 k) n := by
    intro k n hk
    induction n with
    | zero => intro _; rfl
    | succ n ih =>
      intro hn
      rw [dk_by, dk_by, ih (by omega), (h30 k hk).1, (h30 n (by omega)).1]
  refine ⟨?_, fun k hk => ?_, ?_, fun k hk => ?_⟩
  · obtain ⟨⟨a1, a2⟩, a3, a4, a5, a6⟩ := f1
    unfold dk_FI dk_ts
    rw [eT, h26, z27, y26, y28, y29]
    refine ⟨⟨a1, fun t ht => ?_⟩, fun t ht => ?_, fun v hv => ?_, ?_, ?_⟩
    · obtain ⟨b1, b2⟩ := a2 t ht
      obtain ⟨c1, c2, c3⟩ := h33 _ b2
      rw [c2]
      exact ⟨b1, c3⟩
    · obtain ⟨b1, b2, b3⟩ := t2 t ht
      rw [(h33 _ (lvt t ht)).1, b1, b2, b3]
      exact a3 t ht
    · rw [(a4 v hv).1, (a4 v hv).2]
      constructor
      · refine pu_ls_cg _ (fun t ht => ?_)
        obtain ⟨b1, b2, b3⟩ := t2 t ht
        unfold dk_fq
        rw [b1, b2, b3, e0]
      · refine pu_ls_cg _ (fun t ht => ?_)
        obtain ⟨b1, b2, b3⟩ := t2 t ht
        unfold dk_fq
        rw [b1, b2, b3, e0]
    · rw [a5]
      refine pu_ls_cg _ (fun t ht => ?_)
      unfold dk_kq
      rw [(t2 t ht).1]
    · rw [a6]
      refine pu_ls_cg _ (fun t ht => ?_)
      unfold dk_kq
      rw [(t2 t ht).1]
  · have la : ∀ j, j < na (ow9 k) → X' 33 (4 * ow9 k + j) = X 33 (4 * ow9 k + j) := by
      intro j hj
      obtain ⟨q1, q2⟩ := hna4 k hk
      refine (h33 _ ?_).1
      show (4 * ow9 k + j) / 4 < nM ∧ (4 * ow9 k + j) % 4 < na ((4 * ow9 k + j) / 4)
      rw [show (4 * ow9 k + j) / 4 = ow9 k by omega]
      omega
    have sm : ∀ t j, t < dk_T (pu_g3 I g nM) g → j < na (ow9 k) → dk_sm X' (tf t) (4 * ow9 k + j) = dk_sm X (tf t) (4 * ow9 k + j) := by
      intro t j ht hj
      unfold dk_sm
      rw [(h33 _ (lvt t ht)).1, la j hj]
    obtain ⟨⟨a1, a2⟩, a3, a4⟩ := f2 k hk
    rw [eT, hna k hk]
    unfold dk_WM
    rw [y30 k hk]
    refine ⟨⟨fun t h1 h2 => ?_, fun j h1 h2 => ?_⟩, fun t h1 h2 => ?_, fun j h1 h2 => ?_⟩
    · obtain ⟨b1, j, b2, b3, b4⟩ := a1 t h1 h2
      exact ⟨b1, j, b2, by rw [la j b2]; exact b3, by rw [sm t j b1 b2]; exact b4⟩
    · rw [la j h1] at h2
      obtain ⟨t, b1, b2, b3⟩ := a2 j h1 h2
      exact ⟨t, b1, by rw [sm t j b1 h1]; exact b2, b3⟩
    · obtain ⟨b1, j, b2, b3, b4⟩ := a3 t h1 h2
      exact ⟨b1, j, b2, by rw [la j b2]; exact b3, by rw [sm t j b1 b2]; exact b4⟩
    · rw [la j h1] at h2
      obtain ⟨t, b1, b2, b3⟩ := a4 j h1 h2
      exact ⟨t, b1, by rw [sm t j b1 h1]; exact b2, b3⟩
  · rw [h6]
    intro j hj i hi
    rw [(h30 j hj).1]
    unfold dk_AP
    simp only [hof, dk_ap_o y30 oc9 (Nat.le_refl _)]
    exact f3 j hj i hi
  · rw [(h30 k hk).2, hby k oc9 hk (Nat.le_refl _)]
    exact f4 k hk
/-- the own methods stand -/
theorem dk_en_sg (S : pu_sg I I' nM nM' g) (E : dk_en I g nM oc9 ow9) : dk_en I' g nM' oc9 ow9 := by
  obtain ⟨a1, a2, a3⟩ := E
  have h4 := S.2.2.2.2.1
  refine ⟨fun k hk => ⟨by have := (a1 k hk).1; omega, by rw [S.2.2.1 _ (a1 k hk).1]; exact (a1 k hk).2⟩, a2, fun m hm ho => ?_⟩
  by_cases c : m < nM
  · rw [S.2.2.1 m c] at ho
    exact a3 m c ho
  · exact absurd ho (S.2.2.2.2.2 m (by omega) hm)
theorem dk_bits_sg {x : Int32} (S : pu_sg I I' nM nM' g) (h : ∀ i, i < 32 → bt x i = (decide (i < nM) && decide (I 2 i = nI g))) : ∀ i, i < 32 → bt x i = (decide (i < nM') && decide (I' 2 i = nI g)) := by
  intro i hi
  have h4 := S.2.2.2.2.1
  rw [h i hi]
  by_cases c : i < nM
  · rw [S.2.2.1 i c, decide_eq_true c, decide_eq_true (show i < nM' by omega)]
  · rw [decide_eq_false c]
    by_cases c2 : i < nM'
    · rw [decide_eq_false (S.2.2.2.2.2 i (by omega) c2)]
      simp
    · rw [decide_eq_false c2]
      simp
theorem dk_IG_gr {oc : Nat → Nat} {ow : Nat → Nat → Nat} (W : pu_W F I nc ng nM) (hBS : ∀ m, m < nM → na m ≤ 4) (S : pu_sg I I' nM nM' g) (G : dk_IG ad ng nM na no X Y Z I nc oc ow g) (h12 : nM' ≤ 12) (hna : ∀ k, k < oc g → na' (ow g k) = na (ow g k)) (hX : ∀ k, 20 ≤ k → k ≤ 29 → X' k g = X k g) (hY : ∀ k, 20 ≤ k → k ≤ 29 → Y' k g = Y k g) (hZ : ∀ k, 20 ≤ k → k ≤ 29 → Z' k g = Z k g) (h33 : ∀ i, dk_lv ng nM na no 33 i → X' 33 i = X 33 i ∧ ad' 33 i = ad 33 i ∧ dk_lv ng' nM' na' no' 33 i) (h30 : ∀ k, k < oc g → X' 30 (ow g k) 0 = X 30 (ow g k) 0 ∧ X' 30 (ow g k) 8 = X 30 (ow g k) 8 ∧ X' 30 (ow g k) 9 = X 30 (ow g k) 9 ∧ Y' 30 (ow g k) = Y 30 (ow g k) ∧ ad' 30 (ow g k) = ad 30 (ow g k)) (h14 : I' 14 g = I 14 g) (h15 : ∀ j, j < 80 → I' 15 (80 * g + j) = I 15 (80 * g + j) ∧ I' 16 (80 * g + j) = I 16 (80 * g + j) ∧ I' 17 (80 * g + j) = I 17 (80 * g + j)) (h18 : I' 18 g = I 18 g) (h19 : ∀ t, t < 48 → I' 19 (48 * g + t) = I 19 (48 * g + t) ∧ I' 20 (48 * g + t) = I 20 (48 * g + t) ∧ I' 21 (48 * g + t) = I 21 (48 * g + t)) : dk_IG ad' ng' nM' na' no' X' Y' Z' I' nc oc ow g := by
  obtain ⟨⟨⟨o1, o2, o3, o4⟩, g2, g3, g5, g6⟩, g7, g8, g9'⟩ := G
  have ear : mq_ar I' g = mq_ar I g := by unfold mq_ar; rw [S.2.1]
  have eG : mq_G I' g = mq_G I g := by
    have hl := g8.1
    unfold mq_G at hl ⊢
    rw [List.length_map, List.length_range] at hl
    rw [h14]
    refine List.map_congr_left (fun k hk => ?_)
    obtain ⟨b1, b2, b3⟩ := h15 k (by have := List.mem_range.mp hk; omega)
    rw [b1, b2, b3]
  have T48 := (pu_T48 (g := g) W).1
  have e20 := hX 20 (by decide) (by decide)
  have h4 := S.2.2.2.2.1
  obtain ⟨t1, t2⟩ := S.g3 W
  have eT : dk_T (pu_g3 I' g nM') g = dk_T (pu_g3 I g nM) g := by
    unfold dk_T
    rw [t1]
  refine ⟨⟨⟨by rw [e20]; exact o1, o2, h12, fun k hk => ?_⟩, dk_en_sg S g2, by rw [e20, ear]; exact g3, by rw [ear]; exact g5, by rw [e20]; exact dk_bits_sg S g6⟩, ?_, ?_, fun hne => ?_⟩
  · obtain ⟨q1, q2, q3⟩ := o4 k hk
    obtain ⟨r1, r2, r3, r4, r5⟩ := h30 k hk
    rw [hZ 25 (by decide) (by decide), r5, r1]
    exact ⟨q1, by omega, q3⟩
  · rw [e20, ear]
    rcases g7 with z | ⟨z1, ⟨tf9, z2⟩, z3⟩
    · exact Or.inl z
    · refine Or.inr ⟨z1, ⟨tf9, dk_FR_gr W S z2 (fun k hk => ⟨(o4 k hk).2.1, hBS _ (o4 k hk).2.1⟩) hna (hX 26 (by decide) (by decide)) h33 (fun k hk => ⟨(h30 k hk).2.1, (h30 k hk).2.2.1⟩) (by rw [e20]) (hY 26 (by decide) (by decide)) (hY 28 (by decide) (by decide)) (hY 29 (by decide) (by decide)) (fun k hk => (h30 k hk).2.2.2.1) (hZ 27 (by decide) (by decide))⟩, dk_ch_o z3 e20 (hY 20 (by decide) (by decide)) (fun k hk => (h30 k hk).2.2.1) (fun k hk => (h30 k hk).2.2.2.1)⟩
  · rw [eG]
    unfold dk_gr
    rw [hX 21 (by decide) (by decide), hX 22 (by decide) (by decide), hX 23 (by decide) (by decide), hX 24 (by decide) (by decide)]
    exact g8
  · rw [eG] at hne ⊢
    obtain ⟨n1, n2, n3, n4, n5, n6⟩ := g9' hne
    rw [e20, eT, h18]
    refine ⟨n1, n2, n3, fun k x hk hx => ?_, fun t ht => ?_, n6⟩
    · rcases n4 k x hk hx with z | ⟨m, ⟨z1, z2⟩, z3⟩
      · exact Or.inl z
      · exact Or.inr ⟨m, ⟨by omega, by rw [S.2.2.1 m z1]; exact z2⟩, z3⟩
    · obtain ⟨b1, b2, b3⟩ := t2 t ht
      obtain ⟨d1, d2, d3⟩ := h19 t (by omega)
      rw [b1, b2, b3, d1, d2, d3]
      exact n5 t ht
/-- a generic that is out of date, without a graph -/
theorem dk_IG_out {oc : Nat → Nat} {ow : Nat → Nat → Nat} (a1 : dk_ow ad X Z nM g (oc g) (ow g)) (a2 : dk_en I g nM (oc g) (ow g)) (a3 : X 20 g 0 = nI (mq_ar I g)) (a4 : mq_ar I g = 1 ∨ mq_ar I g = 2) (a5 : ∀ i, i < 32 → bt (X 20 g 6) i = (decide (i < nM) && decide (I 2 i = nI g))) (h7 : X 20 g 7 = 0) (h14 : I 14 g = 0) (h21 : X 21 g 3 = 0) : dk_IG ad ng nM na no X Y Z I nc oc ow g := by
  have eG : mq_G I g = [] := by
    unfold mq_G
    rw [h14]
    rfl
  refine ⟨⟨a1, a2, a3, a4, a5⟩, Or.inl h7, ?_, fun hne => absurd (by rw [eG]; rfl) hne⟩
  rw [eG]
  exact ⟨Nat.zero_le _, h21, fun k x hk => by simp at hk⟩
end DKP
