/-! a generic whose part of the program stands as it was: its sets, its tests -/
def pu_sg (I I' : mq_M) (nM nM' g : Nat) : Prop := I' 0 = I 0 ∧ I' 1 g = I 1 g ∧ (∀ m, m < nM → I' 2 m = I 2 m) ∧ (∀ m, m < nM → I 2 m = nI g → I' 3 m = I 3 m ∧ ∀ k, k < (I 3 m).toNatClampNeg → I' 4 (4 * m + k) = I 4 (4 * m + k) ∧ I' 5 (4 * m + k) = I 5 (4 * m + k) ∧ I' 6 (4 * m + k) = I 6 (4 * m + k) ∧ I' 7 (4 * m + k) = I 7 (4 * m + k)) ∧ nM ≤ nM' ∧ ∀ m, nM ≤ m → m < nM' → ¬ I' 2 m = nI g
theorem pu_sg_rw {I I' : mq_M} {nM g : Nat} (e : ∀ k, k < 8 → I' k = I k) : pu_sg I I' nM nM g := ⟨e 0 (by decide), by rw [e 1 (by decide)], fun m _ => by rw [e 2 (by decide)], fun m _ _ => ⟨by rw [e 3 (by decide)], fun k _ => ⟨by rw [e 4 (by decide)], by rw [e 5 (by decide)], by rw [e 6 (by decide)], by rw [e 7 (by decide)]⟩⟩, Nat.le_refl _, fun m h1 h2 => absurd h1 (by omega)⟩
theorem pu_ms_ext {f : Nat → Bool} {k : Nat} : ∀ d, (∀ m, k ≤ m → m < k + d → f m = false) → pu_ms f (k + d) = pu_ms f k
  | 0, _ => rfl
  | d + 1, h => by
    show pu_ms f ((k + d) + 1) = _
    rw [pu_ms, h (k + d) (by omega) (by omega)]
    exact pu_ms_ext d (fun m h1 h2 => h m h1 (by omega))
theorem pu_sg.app {I I' : mq_M} {nM nM' g m : Nat} (S : pu_sg I I' nM nM' g) (hm : m < nM) (ho : I 2 m = nI g) (p q : Nat) : pu_app I' m p q = pu_app I m p q := by
  obtain ⟨s0, s1, s2, s3, s4, s5⟩ := S
  obtain ⟨a1, a2⟩ := s3 m hm ho
  unfold pu_app
  rw [a1]
  refine pu_all_cg _ (fun k hk => ?_)
  obtain ⟨b1, b2, b3, b4⟩ := a2 k hk
  unfold pu_at
  rw [s0, b1, b2, b3, b4]
theorem pu_sg.ap {I I' : mq_M} {nM nM' g m : Nat} (S : pu_sg I I' nM nM' g) (hm : m < nM) (nc ar r : Nat) : pu_ap I' nc g ar r m = pu_ap I nc g ar r m := by
  unfold pu_ap
  rw [S.2.2.1 m hm]
  by_cases c : I 2 m = nI g
  · rw [S.app hm c]
  · rw [decide_eq_false c, Bool.false_and, Bool.false_and]
theorem pu_sg.A {I I' : mq_M} {nM nM' g : Nat} (S : pu_sg I I' nM nM' g) (nc ar r : Nat) : pu_A I' nc nM' g ar r = pu_A I nc nM g ar r := by
  unfold pu_A
  have h4 := S.2.2.2.2.1
  have h5 := S.2.2.2.2.2
  obtain ⟨d, rfl⟩ := Nat.exists_eq_add_of_le h4
  rw [pu_ms_ext d (fun m h1 h2 => by
    unfold pu_ap
    rw [decide_eq_false (h5 m h1 h2)]
    rfl)]
  exact pu_ms_cg nM (fun m hm => S.ap hm nc ar r)
theorem pu_sg.B {I I' : mq_M} {nM nM' g : Nat} (S : pu_sg I I' nM nM' g) (nc ar m : Nat) : pu_B I' nc nM' g ar m = pu_B I nc nM g ar m := by
  unfold pu_B
  have h4 := S.2.2.2.2.1
  have h5 := S.2.2.2.2.2
  have eA : pu_A I' nc nM' g ar = pu_A I nc nM g ar := funext (fun r => S.A nc ar r)
  obtain ⟨d, rfl⟩ := Nat.exists_eq_add_of_le h4
  rw [pu_ms_ext d (fun m h1 h2 => by
    unfold pu_bp
    rw [decide_eq_false (h5 m h1 h2)]
    rfl)]
  refine pu_ms_cg nM (fun k hk => ?_)
  unfold pu_bp
  rw [eA, S.2.2.1 k hk]
/-- the known of one generic stands right -/
def pu_kg (I : mq_M) (nc nM g : Nat) : Prop := ∀ ar, ar ≤ 2 → I 1 g = nI ar → I 11 g = 0 ∨ ((∀ r, r < pu_R nc ar → I 12 (4096 * g + r) = pu_A I nc nM g ar r) ∧ ∀ m, m < nM → I 2 m = nI g → I 13 m = pu_B I nc nM g ar m)
theorem pu_kn_kg {I : mq_M} {nc ng nM : Nat} (h : ∀ g, g < ng → pu_kg I nc nM g) (h2 : ∀ g, ng ≤ g → g < 4 → I 11 g = 0) : pu_kn I nc ng nM := ⟨fun g ar hg ha har => h g hg ar ha har, h2⟩
theorem pu_kg.s {I I' : mq_M} {nc nM nM' g : Nat} (K : pu_kg I nc nM g) (S : pu_sg I I' nM nM' g) (h11 : I' 11 g = I 11 g) (h12 : I' 12 = I 12) (h13 : I' 13 = I 13) : pu_kg I' nc nM' g := by
  intro ar ha har
  rw [S.2.1] at har
  rcases K ar ha har with z | ⟨z1, z2⟩
  · exact Or.inl (h11.trans z)
  · refine Or.inr ⟨fun r hr => by rw [h12, z1 r hr, S.A], fun m hm ho => ?_⟩
    have hm2 : m < nM := by
      by_cases c : m < nM
      · exact c
      · exact absurd ho (S.2.2.2.2.2 m (by omega) hm)
    rw [S.2.2.1 m hm2] at ho
    rw [h13, z2 m hm2 ho, S.B]
/-! the tests -/
def pu_ge (X X' : mq_M) (g : Nat) : Prop := X' 18 g = X 18 g ∧ ∀ t, t < (X 18 g).toNatClampNeg → X' 19 (48 * g + t) = X 19 (48 * g + t) ∧ X' 20 (48 * g + t) = X 20 (48 * g + t) ∧ X' 21 (48 * g + t) = X 21 (48 * g + t)
theorem pu_ge_1 {X X' : mq_M} {g k : Nat} (h : pu_ge X X' g) (hT : (X 18 g).toNatClampNeg < 48) (e4 : X' 4 k = X 4 k) (e5 : X' 5 k = X 5 k) (e6 : X' 6 k = X 6 k) : pu_ge (pu_g1 X g k) (pu_g1 X' g k) g := by
  obtain ⟨h1, h2⟩ := h
  unfold pu_g1
  rw [h1]
  have h2b := h2
  generalize eT : (X 18 g).toNatClampNeg = T at hT h2 ⊢
  have ea : ((List.range T).any fun t => pu_tq X' (48 * g + t) k) = ((List.range T).any fun t => pu_tq X (48 * g + t) k) := by
    have eq : ∀ t, t ∈ List.range T → pu_tq X' (48 * g + t) k = pu_tq X (48 * g + t) k := by
      intro t ht
      obtain ⟨b1, b2, b3⟩ := h2 t (List.mem_range.mp ht)
      unfold pu_tq
      rw [b1, b2, b3, e4, e5, e6]
    exact tg_any_cg (fun t ht => ⟨t, ht, eq t ht⟩) (fun t ht => ⟨t, ht, eq t ht⟩)
  unfold pu_g0
  rw [ea]
  split
  · exact ⟨h1, h2b⟩
  · have f : ∀ (Z : mq_M), (md_is (md_is (md_is (md_is Z 19 (upd (Z 19) (48 * g + T) (Z 4 k))) 20 (upd (Z 20) (48 * g + T) (Z 5 k))) 21 (upd (Z 21) (48 * g + T) (Z 6 k))) 18 (upd (Z 18) g (nI (T + 1)))) 18 g = nI (T + 1) := fun Z => pk_us
    refine ⟨(f X').trans (f X).symm, fun t ht => ?_⟩
    rw [f X, nI_clamp (by omega)] at ht
    show upd (X' 19) (48 * g + T) (X' 4 k) (48 * g + t) = upd (X 19) (48 * g + T) (X 4 k) (48 * g + t) ∧ upd (X' 20) (48 * g + T) (X' 5 k) (48 * g + t) = upd (X 20) (48 * g + T) (X 5 k) (48 * g + t) ∧ upd (X' 21) (48 * g + T) (X' 6 k) (48 * g + t) = upd (X 21) (48 * g + T) (X 6 k) (48 * g + t)
    by_cases c : t = T
    · rw [c, pk_us, pk_us, pk_us, pk_us, pk_us, pk_us]
      exact ⟨e4, e5, e6⟩
    · rw [pk_un (by omega), pk_un (by omega), pk_un (by omega), pk_un (by omega), pk_un (by omega), pk_un (by omega)]
      exact h2 t (by omega)
theorem pu_gI_T {I X : mq_M} {g c : Nat} (h : pu_gI I X g c) (hc : c ≤ 48) : (X 18 g).toNatClampNeg ≤ c := by
  obtain ⟨_, T, hT, eT, _⟩ := h
  rw [eT, nI_clamp (by omega)]
  exact hT
theorem pu_sg.g3 {F : Nat → Int32} {I I' : mq_M} {nc ng nM nM' g : Nat} (W : pu_W F I nc ng nM) (S : pu_sg I I' nM nM' g) : pu_ge (pu_g3 I g nM) (pu_g3 I' g nM') g := by
  have h12 := W.m12
  obtain ⟨s0, s1, s2, s3, s4, s5⟩ := S
  obtain ⟨d, rfl⟩ := Nat.exists_eq_add_of_le s4
  rw [pu_g3_sk d s5]
  have key : ∀ m, m ≤ nM → pu_ge (pu_g3 I g m) (pu_g3 I' g m) g := by
    intro m
    induction m with
    | zero =>
      intro _
      have f : ∀ J : mq_M, pu_g3 J g 0 18 g = 0 := fun J => pk_us
      refine ⟨(f I').trans (f I).symm, fun t ht => ?_⟩
      rw [f I] at ht
      exact absurd ht (Nat.not_lt_zero t)
    | succ m ih =>
      intro hm
      have ih := ih (by omega)
      rw [pu_g3, pu_g3, s2 m (by omega)]
      by_cases c : I 2 m = nI g
      · rw [if_pos c, if_pos c]
        obtain ⟨a1, a2⟩ := s3 m (by omega) c
        obtain ⟨a, ha4, ea, hwa⟩ := W.ats m (by omega)
        rw [a1]
        have hin := pu_g3_inv (g := g) W m (by omega)
        have key2 : ∀ j, j ≤ (I 3 m).toNatClampNeg → pu_ge (pu_g2 (pu_g3 I g m) g m j) (pu_g2 (pu_g3 I' g m) g m j) g := by
          intro j
          induction j with
          | zero => intro _; exact ih
          | succ j ihj =>
            intro hj
            have hj4 : j < a := by rw [ea, nI_clamp (by omega)] at hj; omega
            have hi2 := pu_g2_inv (m := m) hin j (by omega) (fun i hi => hwa i (by omega))
            have hT := pu_gI_T hi2 (by omega)
            obtain ⟨b1, b2, b3, b4⟩ := a2 j (by omega)
            refine pu_ge_1 (ihj (by omega)) (by omega) ?_ ?_ ?_
            · rw [pu_g2_lo 4 (by decide), pu_g2_lo 4 (by decide), pu_g3_lo 4 (by decide), pu_g3_lo 4 (by decide)]; exact b1
            · rw [pu_g2_lo 5 (by decide), pu_g2_lo 5 (by decide), pu_g3_lo 5 (by decide), pu_g3_lo 5 (by decide)]; exact b2
            · rw [pu_g2_lo 6 (by decide), pu_g2_lo 6 (by decide), pu_g3_lo 6 (by decide), pu_g3_lo 6 (by decide)]; exact b3
        exact key2 _ (Nat.le_refl _)
      · rw [if_neg c, if_neg c]
        exact ih
  exact key nM (Nat.le_refl _)
/-- each test is an atom of a method of g -/
theorem pu_g3_at {F : Nat → Int32} {I : mq_M} {nc ng nM g : Nat} (W : pu_W F I nc ng nM) : ∀ t, t < dk_T (pu_g3 I g nM) g → ∃ m j, m < nM ∧ I 2 m = nI g ∧ j < (I 3 m).toNatClampNeg ∧ pu_g3 I g nM 19 (48 * g + t) = I 4 (4 * m + j) ∧ pu_g3 I g nM 20 (48 * g + t) = I 5 (4 * m + j) ∧ pu_g3 I g nM 21 (48 * g + t) = I 6 (4 * m + j) := by
  have h12 := W.m12
  have key : ∀ n, n ≤ nM → ∀ t, t < dk_T (pu_g3 I g n) g → ∃ m j, m < nM ∧ I 2 m = nI g ∧ j < (I 3 m).toNatClampNeg ∧ pu_g3 I g n 19 (48 * g + t) = I 4 (4 * m + j) ∧ pu_g3 I g n 20 (48 * g + t) = I 5 (4 * m + j) ∧ pu_g3 I g n 21 (48 * g + t) = I 6 (4 * m + j) := by
    intro n
    induction n with
    | zero =>
      intro _ t ht
      unfold dk_T at ht
      rw [show pu_g3 I g 0 18 g = 0 from pk_us] at ht
      exact absurd ht (Nat.not_lt_zero t)
    | succ n ih =>
      intro hn
      have ih := ih (by omega)
      rw [pu_g3]
      by_cases c : I 2 n = nI g
      · rw [if_pos c]
        obtain ⟨a, ha4, ea, hwa⟩ := W.ats n (by omega)
        have hin := pu_g3_inv (g := g) W n (by omega)
        have key2 : ∀ j, j ≤ (I 3 n).toNatClampNeg → ∀ t, t < dk_T (pu_g2 (pu_g3 I g n) g n j) g → ∃ m i, m < nM ∧ I 2 m = nI g ∧ i < (I 3 m).toNatClampNeg ∧ pu_g2 (pu_g3 I g n) g n j 19 (48 * g + t) = I 4 (4 * m + i) ∧ pu_g2 (pu_g3 I g n) g n j 20 (48 * g + t) = I 5 (4 * m + i) ∧ pu_g2 (pu_g3 I g n) g n j 21 (48 * g + t) = I 6 (4 * m + i) := by
          intro j
          induction j with
          | zero => intro _; exact ih
          | succ j ihj =>
            intro hj
            have hj4 : j < a := by rw [ea, nI_clamp (by omega)] at hj; omega
            have hi2 := pu_g2_inv (m := n) hin j (by omega) (fun i hi => hwa i (by omega))
            have hT := pu_gI_T hi2 (by omega)
            have ihj := ihj (by omega)
            have e4 : pu_g2 (pu_g3 I g n) g n j 4 (4 * n + j) = I 4 (4 * n + j) := by rw [pu_g2_lo 4 (by decide), pu_g3_lo 4 (by decide)]
            have e5 : pu_g2 (pu_g3 I g n) g n j 5 (4 * n + j) = I 5 (4 * n + j) := by rw [pu_g2_lo 5 (by decide), pu_g3_lo 5 (by decide)]
            have e6 : pu_g2 (pu_g3 I g n) g n j 6 (4 * n + j) = I 6 (4 * n + j) := by rw [pu_g2_lo 6 (by decide), pu_g3_lo 6 (by decide)]
            rw [pu_g2]
            generalize pu_g2 (pu_g3 I g n) g n j = Z at hT ihj e4 e5 e6 ⊢
            unfold pu_g1
            unfold dk_T at ihj ⊢
            generalize eT : (Z 18 g).toNatClampNeg = T at hT ihj ⊢
            unfold pu_g0
            split
            · rw [eT]
              exact ihj
            · intro t ht
              have f : (md_is (md_is (md_is (md_is Z 19 (upd (Z 19) (48 * g + T) (Z 4 (4 * n + j)))) 20 (upd (Z 20) (48 * g + T) (Z 5 (4 * n + j)))) 21 (upd (Z 21) (48 * g + T) (Z 6 (4 * n + j)))) 18 (upd (Z 18) g (nI (T + 1)))) 18 g = nI (T + 1) := pk_us
              rw [f, nI_clamp (by omega)] at ht
              show ∃ m i, _ ∧ _ ∧ _ ∧ upd (Z 19) (48 * g + T) (Z 4 (4 * n + j)) (48 * g + t) = _ ∧ upd (Z 20) (48 * g + T) (Z 5 (4 * n + j)) (48 * g + t) = _ ∧ upd (Z 21) (48 * g + T) (Z 6 (4 * n + j)) (48 * g + t) = _
              by_cases ct : t = T
              · rw [ct, pk_us, pk_us, pk_us]
                exact ⟨n, j, by omega, c, by omega, e4, e5, e6⟩
              · rw [pk_un (by omega), pk_un (by omega), pk_un (by omega)]
                exact ihj t (by omega)
        exact key2 _ (Nat.le_refl _)
      · rw [if_neg c]
        exact ih
  exact key nM (Nat.le_refl _)
theorem pu_T48 {F : Nat → Int32} {I : mq_M} {nc ng nM g : Nat} (W : pu_W F I nc ng nM) : dk_T (pu_g3 I g nM) g ≤ 48 ∧ pu_g3 I g nM 18 g = nI (dk_T (pu_g3 I g nM) g) := by
  have h12 := W.m12
  obtain ⟨_, T, hT, eT, _⟩ := pu_g3_inv (g := g) W nM (Nat.le_refl _)
  unfold dk_T
  rw [eT, nI_clamp (by omega)]
  exact ⟨by omega, rfl⟩
