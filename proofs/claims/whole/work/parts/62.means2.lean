theorem pu_r1_rw {nc ar a b : Nat} (hb : b < 8 * nc) : pu_r1 nc ar (pu_rw nc ar a b) = a := by
  unfold pu_r1 pu_rw
  by_cases c : ar = 1
  · rw [if_pos c, if_pos c]
  · rw [if_neg c, if_neg c, Nat.mul_comm, Nat.mul_add_div (by omega), Nat.div_eq_of_lt hb, Nat.add_zero]
theorem pu_r2_rw {nc ar a b : Nat} (hb : b < 8 * nc) (h1 : ar = 1 → b = 0) : pu_r2 nc ar (pu_rw nc ar a b) = b := by
  unfold pu_r2 pu_rw
  by_cases c : ar = 1
  · rw [if_pos c, h1 c]
  · rw [if_neg c, if_neg c, Nat.mul_comm, Nat.mul_add_mod, Nat.mod_eq_of_lt hb]
theorem pu_rw_r {nc ar r : Nat} (h1 : 1 ≤ nc) : pu_rw nc ar (pu_r1 nc ar r) (pu_r2 nc ar r) = r := by
  unfold pu_r1 pu_r2 pu_rw
  by_cases c : ar = 1
  · rw [if_pos c, if_pos c]
  · rw [if_neg c, if_neg c, if_neg c, Nat.mul_comm]
    exact Nat.div_add_mod r (8 * nc)
/-- all that is wanted of a fresh generic -/
def dk_OK (F : Nat → Int32) (ad : Nat → Nat → Nat) (ng nM : Nat) (na no : Nat → Nat) (X : dk_X) (Y : dk_Y) (Z : dk_Z) (I : mq_M) (g nc ar oc : Nat) (ow tf : Nat → Nat) : Prop := pu_W F I nc ng nM ∧ dk_FR ad ng nM na no X Y Z I g nc ar oc ow tf ∧ dk_BS ad nM na X Z I nc ∧ dk_en I g nM oc ow ∧ (ar = 1 ∨ ar = 2) ∧ ∀ i, i < 32 → bt (X 20 g 6) i = (decide (i < nM) && decide (I 2 i = nI g))
section DOK
variable {F : Nat → Int32} {ad : Nat → Nat → Nat} {ng nM : Nat} {na no : Nat → Nat} {X : dk_X} {Y : dk_Y} {Z : dk_Z} {I : mq_M} {g nc ar oc : Nat} {ow tf : Nat → Nat}
theorem dk_OK.T (K : dk_OK F ad ng nM na no X Y Z I g nc ar oc ow tf) : dk_T (pu_g3 I g nM) g ≤ 48 := by
  have h1 := dk_T_le (g := g) K.1 (Nat.le_refl nM)
  have h2 := K.1.m12
  omega
theorem dk_OK.wt (K : dk_OK F ad ng nM na no X Y Z I g nc ar oc ow tf) (t : Nat) (ht : t < dk_T (pu_g3 I g nM) g) : pu_wt (pu_g3 I g nM) (48 * g + t) := by
  obtain ⟨_, T, h1, h2, h3⟩ := pu_g3_inv (g := g) K.1 nM (Nat.le_refl _)
  have h4 := K.1.m12
  unfold dk_T at ht
  rw [h2, nI_clamp (by omega)] at ht
  exact h3 t ht
theorem dk_OK.of (K : dk_OK F ad ng nM na no X Y Z I g nc ar oc ow tf) {a b : Nat} (ha : a < 8 * nc) (hb : b < 8 * nc) : dk_of Y g a b = pu_ls (pu_qz (pu_g3 I g nM) g a b) (dk_T (pu_g3 I g nM) g) := dk_of_ls K.2.1.1 K.T K.wt ha hb
theorem dk_OK.hl (K : dk_OK F ad ng nM na no X Y Z I g nc ar oc ow tf) {a b k : Nat} (ha : a < 8 * nc) (hb : b < 8 * nc) (hk : k < oc) : dk_hl Y (ow k) (dk_of Y g a b) = pu_app I (ow k) a b := by
  obtain ⟨_, _, c3, c4, c5⟩ := K.2.2.1.2.2.2.2 (ow k) (K.2.2.2.1.1 k hk).1
  exact dk_hl_app K.2.1.1 K.T K.wt ha hb (K.2.1.2.1 k hk) (pu_g3_lo 0 (by omega) nM) c3 c4 (fun j hj => (c5 j hj).2)
theorem dk_OK.A (K : dk_OK F ad ng nM na no X Y Z I g nc ar oc ow tf) {a b : Nat} (ha : a < 8 * nc) (hb : b < 8 * nc) (h1 : ar = 1 → b = 0) : dk_AP Y ow g oc a b = pu_A I nc nM g ar (pu_rw nc ar a b) := by
  have h12 := K.1.m12
  have E := K.2.2.2.1
  apply b_ext
  intro i hi
  unfold dk_AP pu_A
  rw [bt_ap hi oc (fun j hj => by have := (E.1 j hj).1; omega), bt_ms _ nM (by omega) i hi]
  unfold pu_ap
  rw [pu_r1_rw hb, pu_r2_rw hb h1, Bool.eq_iff_iff, List.any_eq_true]
  simp only [List.mem_range, Bool.and_eq_true, decide_eq_true_iff]
  constructor
  · rintro ⟨j, hj, rfl, h⟩
    rw [K.hl ha hb hj] at h
    exact ⟨(E.1 j hj).1, (E.1 j hj).2, h⟩
  · rintro ⟨h2, h3, h4⟩
    obtain ⟨k, k1, rfl⟩ := E.2.2 i h2 h3
    exact ⟨k, k1, rfl, by rw [K.hl ha hb k1]; exact h4⟩
theorem dk_OK.im (K : dk_OK F ad ng nM na no X Y Z I g nc ar oc ow tf) {j i : Nat} (hj : j < oc) (hi : i < 32) : bt (X 30 (ow j) 8) i = (decide (i < nM) && decide (I 2 i = nI g) && !pu_pt (pu_A I nc nM g ar) (ow j) i (pu_R nc ar)) := by
  have h := K.2.1.2.2.1 j hj i hi
  have hc1 := K.1.c1
  rw [K.2.2.2.2.2 i hi] at h
  rw [Bool.eq_iff_iff, h, Bool.and_eq_true (a := decide (i < nM) && decide (I 2 i = nI g))]
  refine and_congr_right (fun _ => ?_)
  rw [Bool.not_eq_true', ← Bool.not_eq_true]
  unfold pu_pt
  rw [List.any_eq_true]
  constructor
  · rintro q ⟨r, r1, r2⟩
    have hr := List.mem_range.mp r1
    have ha := pu_r1_lt hr
    have hb := pu_r2_lt (ar := ar) (r := r) hc1
    have h1 : ar = 1 → pu_r2 nc ar r = 0 := fun z => if_pos z
    have e := K.A ha hb h1
    rw [pu_rw_r hc1] at e
    rw [Bool.and_eq_true, Bool.not_eq_true'] at r2
    have q2 := q (pu_r1 nc ar r) (pu_r2 nc ar r) (Or.inl ⟨ha, by
      split
      · exact hb
      · rw [h1 (by have := K.2.2.2.2.1; omega)]; decide⟩) (by rw [e]; exact r2.1)
    rw [e, r2.2] at q2
    exact absurd q2 (by decide)
  · intro q a b hb hm
    have hab : a < 8 * nc ∧ b < (if ar = 2 then 8 * nc else 1) := by
      unfold dk_be at hb
      omega
    have hb8 : b < 8 * nc := by
      have := hab.2
      split at this
      · exact this
      · omega
    have h1 : ar = 1 → b = 0 := by
      intro z
      have := hab.2
      rw [if_neg (by omega)] at this
      omega
    rw [K.A hab.1 hb8 h1] at hm ⊢
    cases c : bt (pu_A I nc nM g ar (pu_rw nc ar a b)) i
    · refine absurd ⟨pu_rw nc ar a b, List.mem_range.mpr (pu_rw_lt hab.1 hb8), ?_⟩ q
      rw [hm, c]
      rfl
    · rfl
theorem bt_by {X : dk_X} {ow : Nat → Nat} {m i : Nat} (hi : i < 32) (hm : m < 32) : ∀ k, (∀ j, j < k → ow j < 32) → bt (dk_by X ow m k) i = ((List.range k).any fun j => decide (ow j = i) && (bt (X 30 m 8) (ow j) && !bt (X 30 (ow j) 8) m))
  | 0, _ => by rw [dk_by, b_0]; rfl
  | k + 1, h => by
    have ih := bt_by (X := X) hi hm k (fun j hj => h j (by omega))
    rw [dk_by, z_loopAny]
    have hk := h k (by omega)
    have e : (¬ X 30 m 8 &&& i1 (ow k) = 0 ∧ X 30 (ow k) 8 &&& i1 m = 0) ↔ (bt (X 30 m 8) (ow k) && !bt (X 30 (ow k) 8) m) = true := by
      rw [dk_i1 hk, dk_i1 hm, Bool.and_eq_true, Bool.not_eq_true']
      simp
    by_cases c : (bt (X 30 m 8) (ow k) && !bt (X 30 (ow k) 8) m) = true
    · rw [if_pos (e.mpr c), b_or, ih, bt_one hk hi, c]
      by_cases e2 : ow k = i
      · subst e2; simp
      · have e3 : ¬ i = ow k := fun z => e2 z.symm
        simp [e2, e3]
    · rw [if_neg (fun z => c (e.mp z)), ih]
      have c2 : (bt (X 30 m 8) (ow k) && !bt (X 30 (ow k) 8) m) = false := by simpa using c
      rw [c2]
      simp
theorem dk_OK.B (K : dk_OK F ad ng nM na no X Y Z I g nc ar oc ow tf) {k : Nat} (hk : k < oc) : X 30 (ow k) 9 = pu_B I nc nM g ar (ow k) := by
  have h12 := K.1.m12
  have E := K.2.2.2.1
  have hk2 := E.1 k hk
  rw [K.2.1.2.2.2 k hk]
  apply b_ext
  intro i hi
  unfold pu_B
  rw [bt_by hi (by omega) oc (fun j hj => by have := (E.1 j hj).1; omega), bt_ms _ nM (by omega) i hi]
  unfold pu_bp
  rw [Bool.eq_iff_iff, List.any_eq_true]
  simp only [List.mem_range, Bool.and_eq_true, decide_eq_true_iff, Bool.not_eq_true']
  constructor
  · rintro ⟨j, hj, rfl, h1, h2⟩
    have hj2 := E.1 j hj
    rw [K.im hk (by omega)] at h1
    rw [K.im hj (by omega), decide_eq_true hk2.1, decide_eq_true hk2.2] at h2
    simp at h1 h2
    exact ⟨hj2.1, hj2.2, h1.2, h2⟩
  · rintro ⟨h1, h2, h3, h4⟩
    obtain ⟨j, hj, rfl⟩ := E.2.2 i h1 h2
    refine ⟨j, hj, rfl, ?_, ?_⟩
    · rw [K.im hk (by omega), decide_eq_true h1, decide_eq_true h2, h3]
      rfl
    · rw [K.im hj (by omega), decide_eq_true hk2.1, decide_eq_true hk2.2, h4]
      rfl
end DOK
/-! the one best -/
abbrev pu_gd (x : Int32) (be : Nat → Int32) (m : Nat) : Prop := bt x m = true ∧ pu_ot x m &&& be m = pu_ot x m
theorem pu_fm_no {x : Int32} {be : Nat → Int32} : ∀ n, (∀ m, m < n → ¬ pu_gd x be m) → pu_fm x be n = if x = 0 then -1 else -2
  | 0, _ => rfl
  | n + 1, h => by
    rw [pu_fm, if_neg (h n (by omega))]
    exact pu_fm_no n (fun m hm => h m (by omega))
theorem pu_fm_one {x : Int32} {be : Nat → Int32} {m : Nat} (hg : pu_gd x be m) : ∀ n, m < n → (∀ m', m' < n → pu_gd x be m' → m' = m) → pu_fm x be n = nI m
  | 0, h, _ => by omega
  | n + 1, h, hu => by
    rw [pu_fm]
    by_cases c : pu_gd x be n
    · rw [if_pos c, hu n (by omega) c]
    · rw [if_neg c]
      exact pu_fm_one hg n (by have : m ≠ n := fun e => c (e ▸ hg); omega) (fun m' h1 h2 => hu m' (by omega) h2)
theorem dk_pf_no {X : dk_X} {ow : Nat → Nat} {x : Int32} : ∀ f k, (∀ j, k ≤ j → j < k + f → ¬ dk_pc X x (ow j)) → dk_pf X ow x f k = -2
  | 0, _, _ => rfl
  | f + 1, k, h => by
    rw [dk_pf, if_neg (h k (by omega) (by omega))]
    exact dk_pf_no f (k + 1) (fun j h1 h2 => h j (by omega) (by omega))
theorem dk_pf_one {X : dk_X} {ow : Nat → Nat} {x : Int32} {m j0 : Nat} (e0 : ow j0 = m) (hg : dk_pc X x m) : ∀ f k, k ≤ j0 → j0 < k + f → (∀ j, k ≤ j → j < k + f → dk_pc X x (ow j) → ow j = m) → dk_pf X ow x f k = nI m
  | 0, k, h1, h2, _ => by omega
  | f + 1, k, h1, h2, hu => by
    rw [dk_pf]
    by_cases c : dk_pc X x (ow k)
    · have e := hu k (by omega) (by omega) c
      rw [if_pos c, e]
    · rw [if_neg c]
      exact dk_pf_one e0 hg f (k + 1) (by have : k ≠ j0 := fun e => c (by rw [e, e0]; exact hg); omega) (by omega) (fun j h3 h4 => hu j (by omega) (by omega))
theorem pu_ot_b {x : Int32} {m i : Nat} (hm : m < 32) (hi : i < 32) : bt (pu_ot x m) i = (bt x i && !decide (i = m)) := by
  unfold pu_ot
  rw [b_and, b_xor, bt_one hm hi, b_m1 i hi]
  cases bt x i <;> simp
theorem dk_pc_gd {X : dk_X} {x : Int32} {be : Nat → Int32} {m : Nat} (hm : m < 32) (e : X 30 m 9 = be m) : dk_pc X x m ↔ pu_gd x be m := by
  unfold dk_pc pu_gd
  rw [e]
  have h1 : (¬ x &&& (i1 m ^^^ (-1)) = x) ↔ bt x m = true := by
    constructor
    · intro h
      cases c : bt x m
      · refine absurd (b_ext fun i hi => ?_) h
        have := pu_ot_b (x := x) hm hi
        unfold pu_ot at this
        rw [this]
        by_cases z : i = m
        · subst z; rw [c]; rfl
        · simp [z]
      · rfl
    · intro h z
      have := pu_ot_b (x := x) hm hm
      unfold pu_ot at this
      rw [z, h] at this
      simp at this
  have h2 : ((x &&& (i1 m ^^^ (-1))) &&& (be m ^^^ (-1)) = 0) ↔ pu_ot x m &&& be m = pu_ot x m := by
    show (pu_ot x m &&& (be m ^^^ (-1)) = 0) ↔ _
    constructor
    · intro h
      apply b_ext
      intro i hi
      have h3 : bt (pu_ot x m &&& (be m ^^^ (-1))) i = false := by rw [h, b_0]
      rw [b_and, b_xor, b_m1 i hi] at h3
      rw [b_and]
      cases c : bt (pu_ot x m) i
      · rfl
      · rw [c] at h3
        simp at h3
        rw [h3]
        rfl
    · intro h
      apply b_ext
      intro i hi
      have h3 : bt (pu_ot x m &&& be m) i = bt (pu_ot x m) i := by rw [h]
      rw [b_and] at h3
      rw [b_and, b_xor, b_m1 i hi, b_0]
      cases c : bt (pu_ot x m) i
      · rfl
      · rw [c] at h3
        simp at h3
        rw [h3]
        rfl
  exact and_congr h1 h2
/-- the class's first best is the reference's last: there is one at most -/
theorem dk_pk_fm {X : dk_X} {ow : Nat → Nat} {oc nM : Nat} {x : Int32} {be : Nat → Int32} (hn : nM ≤ 12) (ho : ∀ k, k < oc → ow k < nM) (hx : ∀ m, m < nM → bt x m = true → ∃ k, k < oc ∧ ow k = m) (hbe : ∀ k, k < oc → X 30 (ow k) 9 = be (ow k)) (has : ∀ m k, m < nM → k < nM → bt (be m) k = true → bt (be k) m = true → False) : dk_pk X ow oc x = pu_fm x be nM := by
  have hu : ∀ m k, m < nM → k < nM → pu_gd x be m → pu_gd x be k → m = k := by
    intro m k hm hk g1 g2
    by_cases c : m = k
    · exact c
    · exfalso
      refine has m k hm hk ?_ ?_
      · have h1 : bt (pu_ot x m &&& be m) k = bt (pu_ot x m) k := by rw [g1.2]
        rw [b_and, pu_ot_b (by omega) (by omega), g2.1] at h1
        have c2 : ¬ k = m := fun z => c z.symm
        simpa [c2] using h1
      · have h1 : bt (pu_ot x k &&& be k) m = bt (pu_ot x k) m := by rw [g2.2]
        rw [b_and, pu_ot_b (by omega) (by omega), g1.1] at h1
        simpa [c] using h1
  unfold dk_pk
  by_cases c : ∃ m, m < nM ∧ pu_gd x be m
  · obtain ⟨m, hm, hg⟩ := c
    obtain ⟨k, hk, rfl⟩ := hx m hm hg.1
    have hx0 : ¬ x = 0 := by
      intro z
      have := hg.1
      rw [z, b_0] at this
      exact absurd this (by decide)
    rw [if_neg hx0, pu_fm_one hg nM hm (fun m' h1 h2 => hu m' _ h1 hm h2 hg)]
    exact dk_pf_one rfl ((dk_pc_gd (by omega) (hbe k hk)).mpr hg) oc 0 (by omega) (by omega) (fun j h1 h2 h3 => hu _ _ (ho j (by omega)) hm ((dk_pc_gd (by have := ho j (by omega); omega) (hbe j (by omega))).mp h3) hg)
  · rw [pu_fm_no nM (fun m hm hg => c ⟨m, hm, hg⟩)]
    by_cases hx0 : x = 0
    · rw [if_pos hx0, if_pos hx0]
    · rw [if_neg hx0, if_neg hx0]
      exact dk_pf_no oc 0 (fun j h1 h2 h3 => c ⟨ow j, ho j (by omega), (dk_pc_gd (by have := ho j (by omega); omega) (hbe j (by omega))).mp h3⟩)
