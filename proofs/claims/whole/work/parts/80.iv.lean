/-! the desk against the reference's program I: what always stands -/
def dk_IG (ad : Nat → Nat → Nat) (ng nM : Nat) (na no : Nat → Nat) (X : dk_X) (Y : dk_Y) (Z : dk_Z) (I : mq_M) (nc : Nat) (oc : Nat → Nat) (ow : Nat → Nat → Nat) (g : Nat) : Prop :=
  (dk_ow ad X Z nM g (oc g) (ow g) ∧ dk_en I g nM (oc g) (ow g) ∧ X 20 g 0 = nI (mq_ar I g) ∧ (mq_ar I g = 1 ∨ mq_ar I g = 2) ∧ ∀ i, i < 32 → bt (X 20 g 6) i = (decide (i < nM) && decide (I 2 i = nI g))) ∧
  (X 20 g 7 = 0 ∨ (X 20 g 7 = 1 ∧ (∃ tf, dk_FR ad ng nM na no X Y Z I g nc (mq_ar I g) (oc g) (ow g) tf) ∧ dk_ch X Y (ow g) g (oc g))) ∧ dk_gr X g (mq_G I g) ∧
  (¬ (mq_G I g).length = 0 → X 20 g 7 = 1 ∧ tg_wf (mq_G I g) (dk_T (pu_g3 I g nM) g) ∧ (∀ (k : Nat) (x : tg_N), (mq_G I g)[k]? = some x → x.1 < 0 → x.1 = -1) ∧ (∀ (k : Nat) (x : tg_N), (mq_G I g)[k]? = some x → x.1 < 0 → (x.2.1 < 0 ∨ ∃ m, (m < nM ∧ I 2 m = nI g) ∧ x.2.1 = nI m)) ∧ (∀ t, t < dk_T (pu_g3 I g nM) g → I 19 (48 * g + t) = pu_g3 I g nM 19 (48 * g + t) ∧ I 20 (48 * g + t) = pu_g3 I g nM 20 (48 * g + t) ∧ I 21 (48 * g + t) = pu_g3 I g nM 21 (48 * g + t)) ∧ I 18 g = nI (dk_T (pu_g3 I g nM) g))
def dk_IV (F : Nat → Int32) (ad : Nat → Nat → Nat) (ng nM : Nat) (na no : Nat → Nat) (X : dk_X) (Y : dk_Y) (Z : dk_Z) (I : mq_M) (nc : Nat) (oc : Nat → Nat) (ow : Nat → Nat → Nat) : Prop :=
  (pu_W F I nc ng nM ∧ dk_BS ad nM na X Z I nc ∧ pu_ow I nc ng nM) ∧ (∀ g, g < ng → dk_IG ad ng nM na no X Y Z I nc oc ow g) ∧
  (X 0 0 2 = nI ng ∧ X 0 0 4 = nI nM ∧ (∀ g, g < ng → Z 3 0 g = some (ad 20 g)) ∧ (∀ m, m < nM → Z 4 0 m = some (ad 30 m)) ∧ ∀ j, j < 8 → Z 8 0 j = some (ad 9 j)) ∧
  ∀ m, m < nM → Z 30 m 1 = some (ad 20 (mq_of I m)) ∧ X 30 m 5 = nI (no m) ∧ I 8 m = nI (no m) ∧ no m ≤ 8 ∧ ∀ k, k < no m → Z 32 m k = some (ad 34 (8 * m + k)) ∧ X 34 (8 * m + k) 0 = I 9 (8 * m + k) ∧ X 34 (8 * m + k) 1 = I 10 (8 * m + k)
section DIV
variable {F : Nat → Int32} {ad : Nat → Nat → Nat} {ng nM : Nat} {na no : Nat → Nat} {X : dk_X} {Y : dk_Y} {Z : dk_Z} {I : mq_M} {nc : Nat} {oc : Nat → Nat} {ow : Nat → Nat → Nat}
/-- a fresh generic is in order -/
theorem dk_IV.ok (V : dk_IV F ad ng nM na no X Y Z I nc oc ow) {g : Nat} (hg : g < ng) (h7 : X 20 g 7 = 1) : ∃ tf, dk_OK F ad ng nM na no X Y Z I g nc (mq_ar I g) (oc g) (ow g) tf ∧ dk_ch X Y (ow g) g (oc g) := by
  obtain ⟨⟨v1, v2, _⟩, v4, _⟩ := V
  obtain ⟨⟨g1, g2, g3, g4, g5⟩, g6, _⟩ := v4 g hg
  rcases g6 with z | ⟨_, ⟨tf, z⟩, ch⟩
  · rw [h7] at z
    exact absurd z (by decide)
  · exact ⟨tf, ⟨v1, z, v2, g2, g4, g5⟩, ch⟩
theorem dk_FR_cg {X' : dk_X} {Y' : dk_Y} {Z' : dk_Z} {g ar oc9 : Nat} {ow9 tf : Nat → Nat} (K : dk_FR ad ng nM na no X Y Z I g nc ar oc9 ow9 tf) (h26 : X' 26 g = X 26 g) (h33 : ∀ i, X' 33 i = X 33 i) (h30 : ∀ k, k < oc9 → X' 30 (ow9 k) = X 30 (ow9 k)) (h6 : X' 20 g 6 = X 20 g 6) (y26 : Y' 26 g = Y 26 g) (y28 : Y' 28 g = Y 28 g) (y29 : Y' 29 g = Y 29 g) (y30 : ∀ k, k < oc9 → Y' 30 (ow9 k) = Y 30 (ow9 k)) (z27 : Z' 27 g = Z 27 g) : dk_FR ad ng nM na no X' Y' Z' I g nc ar oc9 ow9 tf := by
  obtain ⟨f1, f2, f3, f4⟩ := K
  have hof : ∀ a b, dk_of Y' g a b = dk_of Y g a b := by
    intro a b
    unfold dk_of
    rw [y28, y29, y26]
  have hap : ∀ w k, k ≤ oc9 → dk_ap Y' ow9 w k = dk_ap Y ow9 w k := by
    intro w k
    induction k with
    | zero => intro _; rfl
    | succ k ih =>
      intro hk
      rw [dk_ap, dk_ap, ih (by omega)]
      unfold dk_hl
      rw [y30 k (by omega)]
  have hby : ∀ k n, k < oc9 → n ≤ oc9 → dk_by X' ow9 (ow9 k) n = dk_by X ow9 (ow9 k) n := by
    intro k n hk
    induction n with
    | zero => intro _; rfl
    | succ n ih =>
      intro hn
      rw [dk_by, dk_by, ih (by omega), h30 k hk, h30 n (by omega)]
  refine ⟨?_, fun k hk => ?_, ?_, fun k hk => ?_⟩
  · have q := dk_FI_X (dk_FI_Y f1 y28 y29 y26) h26 h33
    unfold dk_FI dk_ts at q ⊢
    rw [z27]
    exact q
  · exact dk_WM_mono (f2 k hk) h33 (Nat.le_refl _) (fun _ _ => rfl) (y30 k hk)
  · rw [h6]
    intro j hj i hi
    rw [h30 j hj]
    unfold dk_AP
    simp only [hof, hap _ oc9 (Nat.le_refl _)]
    exact f3 j hj i hi
  · rw [h30 k hk, hby k oc9 hk (Nat.le_refl _)]
    exact f4 k hk
/-- a refresh keeps all, and g is fresh -/
theorem dk_IV.fresh {X' : dk_X} {Y' : dk_Y} {Z' : dk_Z} {g : Nat} {tf : Nat → Nat} (V : dk_IV F ad ng nM na no X Y Z I nc oc ow) (hg : g < ng) (a : dk_f6 g (oc g) (ow g) X X' Y Y' Z Z') (h7 : X' 20 g 7 = 1) (h8 : X' 20 g 8 = 0) (K : dk_FR ad ng nM na no X' Y' Z' I g nc (mq_ar I g) (oc g) (ow g) tf) (h0 : X 20 g 7 = 0) : dk_IV F ad ng nM na no X' Y' Z' I nc oc ow := by
  obtain ⟨⟨v1, v2, v3⟩, v4, ⟨v5, v6, v7, v8, v9⟩, v10⟩ := V
  obtain ⟨a1, a2, a3, a4, a5⟩ := a
  have g4 := v1.g4
  have x0 : ∀ k i, ¬ (k = 20 ∨ k = 26) → ¬ k = 30 → X' k i = X k i := fun k i c1 c2 => a1 k i (fun z => c1 z.1) (fun z => c2 z.1)
  refine ⟨⟨v1, ?_, v3⟩, fun g9 hg9 => ?_, ⟨?_, ?_, ?_, ?_, ?_⟩, fun m hm => ?_⟩
  · obtain ⟨b1, b2, b3, b4, b5⟩ := v2
    refine ⟨dk_hi_cg b1 (x0 1 0 (by omega) (by omega)) (x0 2 0 (by omega) (by omega)), b2, b3, b4, fun m hm => ?_⟩
    obtain ⟨c1, c2, c3, c4, c5⟩ := b5 m hm
    rw [a3 m 0 (by decide), a3 m 3 (by decide), a5 31 m (by omega)]
    exact ⟨c1, c2, c3, c4, fun k hk => ⟨(c5 k hk).1, dk_ao_cg (c5 k hk).2.1 (x0 33 _ (by omega) (by omega)) rfl rfl rfl, by rw [x0 33 _ (by omega) (by omega)]; exact (c5 k hk).2.2⟩⟩
  · obtain ⟨⟨g1, g2, g3, g5, g6⟩, g7, g8, g9'⟩ := v4 g9 hg9
    have gr : dk_gr X' g9 (mq_G I g9) := by
      unfold dk_gr
      rw [x0 21 g9 (by omega) (by omega), x0 22 g9 (by omega) (by omega), x0 23 g9 (by omega) (by omega), x0 24 g9 (by omega) (by omega)]
      exact g8
    have p20 : ∀ p, p < 7 → X' 20 g9 p = X 20 g9 p := by
      intro p hp
      by_cases c : g9 = g
      · subst c; exact a2 p hp
      · rw [a1 20 g9 (fun z => c z.2) (by omega)]
    have ow' : dk_ow ad X' Z' nM g9 (oc g9) (ow g9) := by
      obtain ⟨o1, o2, o3, o4⟩ := g1
      refine ⟨by rw [p20 5 (by decide)]; exact o1, o2, o3, fun k hk => ?_⟩
      rw [a3 _ 0 (by decide), a5 25 g9 (by omega)]
      exact o4 k hk
    refine ⟨⟨ow', g2, by rw [p20 0 (by decide)]; exact g3, g5, by rw [p20 6 (by decide)]; exact g6⟩, ?_, gr, fun hne => ?_⟩
    · by_cases c : g9 = g
      · subst c
        exact Or.inr ⟨h7, ⟨tf, K⟩, Or.inl h8⟩
      · have e20 : X' 20 g9 = X 20 g9 := a1 20 g9 (fun z => c z.2) (by omega)
        have nown : ∀ k, k < oc g9 → ¬ ∃ j, j < oc g ∧ ow g9 k = ow g j := by
          rintro k hk ⟨j, hj, e⟩
          have q1 := (g2.1 k hk).2
          obtain ⟨⟨_, q3, _⟩, _⟩ := v4 g hg
          have q2 := (q3.1 j hj).2
          rw [e] at q1
          exact c ((nI_eq (by omega) (by omega)).mp (q1.symm.trans q2))
        rw [e20]
        rcases g7 with z | ⟨z1, ⟨tf9, z2⟩, z3⟩
        · exact Or.inl z
        · refine Or.inr ⟨z1, ⟨tf9, dk_FR_cg z2 (a1 26 g9 (fun z => c z.2) (by omega)) (fun i => x0 33 i (by omega) (by omega)) (fun k hk => a1 30 _ (by omega) (fun z => nown k hk z.2)) (by rw [e20]) (a4 26 g9 (fun z => c z.2) (by omega)) (a4 28 g9 (fun z => c z.2) (by omega)) (a4 29 g9 (fun z => c z.2) (by omega)) (fun k hk => a4 30 _ (by omega) (fun z => nown k hk z.2)) (a5 27 g9 (fun z => c z.2))⟩, ?_⟩
          rcases z3 with z | z
          · exact Or.inl (by rw [e20]; exact z)
          · refine Or.inr ?_
            rw [e20, a4 20 g9 (by omega) (by omega), z]
            have hap : ∀ w k, k ≤ oc g9 → dk_ap Y' (ow g9) w k = dk_ap Y (ow g9) w k := by
              intro w k
              induction k with
              | zero => intro _; rfl
              | succ k ih =>
                intro hk
                rw [dk_ap, dk_ap, ih (by omega)]
                unfold dk_hl
                rw [a4 30 _ (by omega) (fun z => nown k (by omega) z.2)]
            have hpf : ∀ x f k, k + f ≤ oc g9 → dk_pf X' (ow g9) x f k = dk_pf X (ow g9) x f k := by
              intro x f
              induction f with
              | zero => intro k _; rfl
              | succ f ih =>
                intro k hk
                rw [dk_pf, dk_pf, ih (k + 1) (by omega), a1 30 _ (by omega) (fun z => nown k (by omega) z.2)]
            rw [hap _ _ (Nat.le_refl _)]
            unfold dk_pk
            rw [hpf _ (oc g9) 0 (by omega)]
    · obtain ⟨n1, n2⟩ := g9' hne
      refine ⟨?_, n2⟩
      by_cases c : g9 = g
      · subst c; exact h7
      · rw [a1 20 g9 (fun z => c z.2) (by omega)]; exact n1
  · rw [x0 0 0 (by omega) (by omega)]; exact v5
  · rw [x0 0 0 (by omega) (by omega)]; exact v6
  · rw [a5 3 0 (by omega)]; exact v7
  · rw [a5 4 0 (by omega)]; exact v8
  · rw [a5 8 0 (by omega)]; exact v9
  · obtain ⟨m1, m2, m3, m4, m5⟩ := v10 m hm
    rw [a5 30 m (by omega), a3 m 5 (by decide), a5 32 m (by omega)]
    refine ⟨m1, m2, m3, m4, fun k hk => ?_⟩
    rw [x0 34 _ (by omega) (by omega)]
    exact m5 k hk
end DIV
