/-! atom keeps desk and reference alike -/
section DAT
variable {F : Nat → Int32} {ad : Nat → Nat → Nat} {ng nM : Nat} {na no : Nat → Nat} {X : dk_X} {Y : dk_Y} {Z : dk_Z} {I : mq_M} {nc : Nat} {oc : Nat → Nat} {ow : Nat → Nat → Nat}
theorem dk_od20 {g : Nat} : dk_od X g 20 g = upd (X 20 g) 7 0 := by
  unfold dk_od
  rw [dk_n (by omega), dk_s]
theorem dk_od21 {g : Nat} : dk_od X g 21 g = upd (X 21 g) 3 0 := by
  unfold dk_od
  rw [dk_s]
theorem dk_odi {g k i : Nat} (h : ¬ i = g) : dk_od X g k i = X k i := by
  unfold dk_od
  rw [dk_n (fun z => h z.2), dk_n (fun z => h z.2)]
theorem pu_ain_1 {kd : Nat} {i x : Int32} (h : pu_ain nc 1 kd i x = true) : kd < 4 ∧ i = 0 := by
  unfold pu_ain at h
  rw [Bool.and_eq_true] at h
  obtain ⟨h1, _⟩ := h
  by_cases c : 3 < kd
  · rw [if_pos c] at h1
    exact absurd h1 (by decide)
  · rw [if_neg c] at h1
    obtain ⟨k, hk, e⟩ := (pu_iv_0 (by omega)).mp h1
    refine ⟨by omega, ?_⟩
    rw [e, show k = 0 by omega]
    rfl
theorem dk_ST.atm (T : dk_ST F ad ng nM na no X Y Z I nc oc ow) {m kd g ar n : Nat} {x3 x4 x5 : Int32} (hm : m < nM) (hk : kd < 6) (ho : I 2 m = nI g) (hg : g < ng) (har : I 1 g = nI ar) (ha : ar = 1 ∨ ar = 2) (hin : pu_ain nc ar kd x3 x4 = true) (hb : x5 = 0 ∨ x5 = 1) (h4 : na m < 4) : dk_ST (md_fs (md_fs F 0 0) 18 0) (dk_a1 ad 33 (4 * m + na m) n) ng nM (dk_inc na m) no (dk_xa X m g (na m) (dk_fa (nI kd) (if 3 < kd then 0 else x3) (if 2 < kd then 0 else x4) x5)) Y (dk_is Z 31 m (va_up (Z 31 m) (na m) (some n))) (pu_addA I m (na m) kd x3 x4 x5 g) nc oc ow := by
  obtain ⟨⟨⟨v1, v2, v3⟩, v4, ⟨v5, v6, v7, v8, v9⟩, v10⟩, RI, WI⟩ := T
  have g4 := v1.g4
  have m12 := v1.m12
  have h8 := v1.c8
  have lvm : ∀ i, dk_lv ng nM na no 33 i → dk_lv ng nM (dk_inc na m) no 33 i := by
    intro i hl
    refine ⟨hl.1, ?_⟩
    have h2 : i % 4 < na (i / 4) := hl.2
    show i % 4 < dk_inc na m (i / 4)
    unfold dk_inc
    split
    · rename_i z
      rw [z] at h2
      omega
    · exact h2
  have lvn : ∀ i, dk_lv ng nM na no 33 i → ¬ i = 4 * m + na m := fun i hl z => dk_lv_nA h4 hl ⟨rfl, z⟩
  obtain ⟨y1, y2, y3, y4, y5⟩ := v2.2.2.2.2 m hm
  have na4 : ∀ i, i < nM → na i ≤ 4 := fun i hi => (v2.2.2.2.2 i hi).2.2.1
  have nac : ∀ i, i < nM → (I 3 i).toNatClampNeg = na i := fun i hi => by
    obtain ⟨_, _, z3, z4, _⟩ := v2.2.2.2.2 i hi
    rw [z4, nI_clamp (by omega)]
  have W0 := pu_W_atom (g0 := g) v1 hm y4 h4 hk ha hin hb
  generalize ea : na m = a at h4 lvn y2 y4 y5 W0 ⊢
  obtain ⟨fa, hfa⟩ : ∃ fa, dk_fa (nI kd) (if 3 < kd then 0 else x3) (if 2 < kd then 0 else x4) x5 = fa := ⟨_, rfl⟩
  have fa0 : fa 0 = nI kd := by rw [← hfa]; rfl
  have fa1 : fa 1 = (if 3 < kd then 0 else x3) := by rw [← hfa]; rfl
  have fa2 : fa 2 = (if 2 < kd then 0 else x4) := by rw [← hfa]; rfl
  have fa3 : fa 3 = x5 := by rw [← hfa]; rfl
  rw [hfa]
  have eI : ∀ k, (k < 3 ∨ (7 < k ∧ k < 11) ∨ k = 12 ∨ k = 13 ∨ 14 < k) → pu_addA I m a kd x3 x4 x5 g k = I k := by
    intro k c
    unfold pu_addA pu_fg md_is
    rw [if_neg (by omega), if_neg (by omega), if_neg (by omega), if_neg (by omega), if_neg (by omega), if_neg (by omega), if_neg (by omega)]
  have e11s : pu_addA I m a kd x3 x4 x5 g 11 g = 0 := pk_us
  have e11n : ∀ i, ¬ i = g → pu_addA I m a kd x3 x4 x5 g 11 i = I 11 i := fun i hi => pk_un hi
  have e14s : pu_addA I m a kd x3 x4 x5 g 14 g = 0 := pk_us
  have e14n : ∀ i, ¬ i = g → pu_addA I m a kd x3 x4 x5 g 14 i = I 14 i := fun i hi => pk_un hi
  have e3s : pu_addA I m a kd x3 x4 x5 g 3 m = nI (a + 1) := pk_us
  have e3n : ∀ i, ¬ i = m → pu_addA I m a kd x3 x4 x5 g 3 i = I 3 i := fun i hi => pk_un hi
  have e4s : pu_addA I m a kd x3 x4 x5 g 4 (4 * m + a) = nI kd := pk_us
  have e4n : ∀ i, ¬ i = 4 * m + a → pu_addA I m a kd x3 x4 x5 g 4 i = I 4 i := fun i hi => pk_un hi
  have e5s : pu_addA I m a kd x3 x4 x5 g 5 (4 * m + a) = (if 3 < kd then 0 else x3) := pk_us
  have e5n : ∀ i, ¬ i = 4 * m + a → pu_addA I m a kd x3 x4 x5 g 5 i = I 5 i := fun i hi => pk_un hi
  have e6s : pu_addA I m a kd x3 x4 x5 g 6 (4 * m + a) = (if 2 < kd then 0 else x4) := pk_us
  have e6n : ∀ i, ¬ i = 4 * m + a → pu_addA I m a kd x3 x4 x5 g 6 i = I 6 i := fun i hi => pk_un hi
  have e7s : pu_addA I m a kd x3 x4 x5 g 7 (4 * m + a) = x5 := pk_us
  have e7n : ∀ i, ¬ i = 4 * m + a → pu_addA I m a kd x3 x4 x5 g 7 i = I 7 i := fun i hi => pk_un hi
  generalize pu_addA I m a kd x3 x4 x5 g = I' at *
  have hx : ∀ k i, ¬ k = 0 → ¬ k = 20 → ¬ k = 21 → ¬ k = 30 → ¬ k = 33 → dk_xa X m g a fa k i = X k i := by
    intro k i c1 c2 c3 c4 c5
    unfold dk_xa
    rw [dk_n (fun z => c4 z.1), dk_n (fun z => c5 z.1), dk_n (fun z => c1 z.1), dk_od_n (by omega)]
  have hx0 : dk_xa X m g a fa 0 0 = upd (X 0 0) 7 0 := by
    unfold dk_xa
    rw [dk_n (by omega), dk_n (by omega), dk_s, dk_od_n (by omega)]
  have hx20 : ∀ k, (k = 20 ∨ k = 21) → ∀ i, ¬ i = g → dk_xa X m g a fa k i = X k i := by
    intro k hk i c
    unfold dk_xa
    rw [dk_n (by omega), dk_n (by omega), dk_n (by omega), dk_odi c]
  have hx20g : dk_xa X m g a fa 20 g = upd (X 20 g) 7 0 := by
    unfold dk_xa
    rw [dk_n (by omega), dk_n (by omega), dk_n (by omega), dk_od20]
  have hx21g : dk_xa X m g a fa 21 g = upd (X 21 g) 3 0 := by
    unfold dk_xa
    rw [dk_n (by omega), dk_n (by omega), dk_n (by omega), dk_od21]
  have hx30n : ∀ i, ¬ i = m → dk_xa X m g a fa 30 i = X 30 i := by
    intro i c
    unfold dk_xa
    rw [dk_ni c, dk_n (by omega), dk_n (by omega), dk_od_n (by omega)]
  have hx30m : dk_xa X m g a fa 30 m = upd (X 30 m) 3 (nI (a + 1)) := by
    unfold dk_xa
    rw [dk_s]
  have hx30 : ∀ i p, ¬ p = 3 → dk_xa X m g a fa 30 i p = X 30 i p := by
    intro i p c
    by_cases ci : i = m
    · rw [ci, hx30m, pk_un c]
    · rw [hx30n i ci]
  have hx33s : dk_xa X m g a fa 33 (4 * m + a) = fa := by
    unfold dk_xa
    rw [dk_n (by omega), dk_s]
  have hx33n : ∀ i, ¬ i = 4 * m + a → dk_xa X m g a fa 33 i = X 33 i := by
    intro i c
    unfold dk_xa
    rw [dk_n (by omega), dk_ni c, dk_n (by omega), dk_od_n (by omega)]
  generalize dk_xa X m g a fa = X' at *
  have had : ∀ k i, ¬ k = 33 → dk_a1 ad 33 (4 * m + a) n k i = ad k i := fun k i c => if_neg (fun z => c z.1)
  have had33s : dk_a1 ad 33 (4 * m + a) n 33 (4 * m + a) = n := if_pos ⟨rfl, rfl⟩
  have had33n : ∀ i, ¬ i = 4 * m + a → dk_a1 ad 33 (4 * m + a) n 33 i = ad 33 i := fun i c => if_neg (fun z => c z.2)
  have hz : ∀ k i, ¬ k = 31 → dk_is Z 31 m (va_up (Z 31 m) a (some n)) k i = Z k i := fun k i c => dk_n (fun z => c z.1)
  have eof : ∀ i, mq_of I' i = mq_of I i := fun i => by unfold mq_of; rw [eI 2 (by omega)]
  have ear : ∀ i, mq_ar I' i = mq_ar I i := fun i => by unfold mq_ar; rw [eI 1 (by omega)]
  have earg : mq_ar I (mq_of I m) = ar := by
    unfold mq_ar mq_of
    rw [ho, nI_clamp (by omega), har, nI_clamp (by omega)]
  have own : ∀ g9 i, g9 < ng → ¬ g9 = g → I 2 i = nI g9 → ¬ i = m := by
    intro g9 i h1 h2 h3 h5
    rw [h5, ho] at h3
    exact h2 ((nI_eq (by omega) (by omega)).mp h3).symm
  have SG : ∀ g9, g9 < ng → ¬ g9 = g → pu_sg I I' nM nM g9 := by
    intro g9 h1 h2
    refine ⟨eI 0 (by omega), by rw [eI 1 (by omega)], fun i _ => by rw [eI 2 (by omega)], fun i hi h3 => ?_, Nat.le_refl _, fun i h5 h6 => absurd h5 (by omega)⟩
    have c := own g9 i h1 h2 h3
    rw [nac i hi]
    have q4 := na4 i hi
    refine ⟨e3n i c, fun k hk => ⟨e4n _ (by omega), e5n _ (by omega), e6n _ (by omega), e7n _ (by omega)⟩⟩
  refine ⟨⟨⟨pu_W_cf W0 rfl rfl rfl, ?_, ?_⟩, fun g9 hg9 => ?_, ⟨?_, ?_, ?_, ?_, ?_⟩, fun m9 hm9 => ?_⟩, ?_, ?_⟩
  · obtain ⟨b1, b2, b3, b4, b5⟩ := v2
    refine ⟨by rw [eI 0 (by omega)]; exact dk_hi_cg b1 (hx 1 0 (by decide) (by decide) (by decide) (by decide) (by decide)) (hx 2 0 (by decide) (by decide) (by decide) (by decide) (by decide)), b2, b3, b4, fun m9 hm9 => ?_⟩
    obtain ⟨c1, c2, c3, c4, c5⟩ := b5 m9 hm9
    rw [hx30 m9 0 (by decide)]
    by_cases c : m9 = m
    · subst c
      rw [dk_inc_s, hx30m, pk_us, e3s, ea, dk_s]
      refine ⟨c1, rfl, by omega, rfl, fun k hkk => ?_⟩
      by_cases ck : k = a
      · subst ck
        obtain ⟨⟨wh, hwh, ew⟩, hxd⟩ := pu_ain_w ha h8 hin
        rw [va_us, had33s, hx33s, e7s, fa3]
        refine ⟨rfl, ⟨?_, ?_, ?_, ?_, ?_, kd, wh, hk, hwh, ?_, ?_, fun z => ?_⟩, rfl⟩
        · rw [hx33s, e4s, fa0]
        · rw [hx33s, e5s, fa1]
        · rw [hx33s, e6s, fa2]
        · rw [hx33s, fa3]; exact hb
        · rw [e4s, e5s, e6s]
          exact ⟨kd, rfl, hk, fun z => if_pos z, fun z => if_pos z⟩
        · rw [hx33s, fa0]
        · rw [hx33s, fa1]; exact ew
        · obtain ⟨xd, q1, q2⟩ := hxd z
          rw [hx33s, fa2, if_neg (by omega)]
          exact ⟨xd, q1, q2⟩
      · have hk2 : k < na m9 := by omega
        rw [va_un ck, had33n _ (by omega), hx33n _ (by omega), e7n _ (by omega)]
        refine ⟨(c5 k hk2).1, ?_, (c5 k hk2).2.2⟩
        have q := (c5 k hk2).2.1
        unfold dk_ao at q ⊢
        rw [hx33n _ (by omega), e4n _ (by omega), e5n _ (by omega), e6n _ (by omega)]
        exact q
    · rw [dk_inc_n c, hx30n m9 c, e3n m9 c, dk_ni c]
      refine ⟨c1, c2, c3, c4, fun k hk => ?_⟩
      rw [had33n _ (by omega), hx33n _ (by omega), e7n _ (by omega)]
      refine ⟨(c5 k hk).1, ?_, (c5 k hk).2.2⟩
      have q := (c5 k hk).2.1
      unfold dk_ao at q ⊢
      rw [hx33n _ (by omega), e4n _ (by omega), e5n _ (by omega), e6n _ (by omega)]
      exact q
  · intro m9 hm9
    have q := v3 m9 hm9
    unfold mq_no mq_kd at q ⊢
    rw [eI 8 (by omega), eI 9 (by omega), eI 10 (by omega), eof, ear]
    exact q
  · by_cases c : g9 = g
    · subst c
      obtain ⟨⟨⟨o1, o2, o3, o4⟩, q2, q3, q5, q6⟩, _⟩ := v4 g9 hg9
      refine dk_IG_out ⟨by rw [hx20g, pk_un (by decide)]; exact o1, o2, o3, fun k hk => ?_⟩ ?_ (by rw [hx20g, pk_un (by decide), ear]; exact q3) (by rw [ear]; exact q5) (by rw [hx20g, pk_un (by decide), eI 2 (by omega)]; exact q6) (by rw [hx20g]; exact pk_us) e14s (by rw [hx21g]; exact pk_us)
      · rw [hz 25 _ (by decide), had 30 _ (by decide), hx30 _ 0 (by decide)]
        exact o4 k hk
      · unfold dk_en at q2 ⊢
        rw [eI 2 (by omega)]
        exact q2
    · have en := (v4 g9 hg9).1.2.1
      exact dk_IG_gr v1 na4 (SG g9 hg9 c) (v4 g9 hg9) m12 (fun k hk => dk_inc_n (own g9 _ hg9 c (en.1 k hk).2)) (fun k h1 h2 => by
        by_cases ck : k = 20 ∨ k = 21
        · exact hx20 k ck g9 c
        · exact hx k _ (by omega) (by omega) (by omega) (by omega) (by omega)) (fun _ _ _ => rfl) (fun k h1 h2 => hz k _ (by omega)) (fun i hl => ⟨hx33n i (lvn i hl), had33n i (lvn i hl), lvm i hl⟩) (fun k hk => ⟨hx30 _ 0 (by decide), hx30 _ 8 (by decide), hx30 _ 9 (by decide), rfl, had 30 _ (by decide)⟩) (e14n g9 c) (fun j _ => ⟨by rw [eI 15 (by omega)], by rw [eI 16 (by omega)], by rw [eI 17 (by omega)]⟩) (by rw [eI 18 (by omega)]) (fun j _ => ⟨by rw [eI 19 (by omega)], by rw [eI 20 (by omega)], by rw [eI 21 (by omega)]⟩)
  · rw [hx0, pk_un (by decide)]; exact v5
  · rw [hx0, pk_un (by decide)]; exact v6
  · intro g9 hg9
    rw [hz 3 0 (by decide), had 20 _ (by decide)]; exact v7 g9 hg9
  · intro m9 hm9
    rw [hz 4 0 (by decide), had 30 _ (by decide)]; exact v8 m9 hm9
  · intro j hj
    rw [hz 8 0 (by decide), had 9 _ (by decide)]; exact v9 j hj
  · obtain ⟨q1, q2, q3, q4, q5⟩ := v10 m9 hm9
    rw [hz 30 m9 (by decide), eof, had 20 _ (by decide), hx30 m9 5 (by decide), eI 8 (by omega), hz 32 m9 (by decide)]
    refine ⟨q1, q2, q3, q4, fun k hk => ?_⟩
    rw [had 34 _ (by decide), hx 34 _ (by decide) (by decide) (by decide) (by decide) (by decide), eI 9 (by omega), eI 10 (by omega)]
    exact q5 k hk
  · obtain ⟨r1, r2, r3, r4, r5, r6⟩ := RI
    refine ⟨?_, fun i h1 h2 => ?_, fun g9 h1 h2 => ?_, fun g9 hg9 => ?_, ?_, ?_⟩
    · refine pu_kn_kg (fun g9 hg9 => ?_) (fun g9 h1 h2 => by rw [e11n g9 (by omega)]; exact r1.2 g9 h1 h2)
      by_cases c : g9 = g
      · subst c
        exact fun ar9 ha9 har9 => Or.inl e11s
      · exact pu_kg.s (I := I) (fun ar9 ha9 har9 => r1.1 g9 ar9 hg9 ha9 har9) (SG g9 hg9 c) (e11n g9 c) (eI 12 (by omega)) (eI 13 (by omega))
    · rw [e3n i (by omega), eI 8 (by omega)]
      exact r2 i h1 h2
    · rw [e14n g9 (by omega)]; exact r3 g9 h1 h2
    · by_cases c : g9 = g
      · subst c
        exact ⟨0, by decide, e14s⟩
      · rw [e14n g9 c]; exact r4 g9 hg9
    · rw [eI 18 (by omega)]; exact r5
    · intro m9 hm9 h1 j hj
      rw [eof, ear] at h1
      by_cases c : m9 = m
      · subst c
        rw [e3s, nI_clamp (by omega)] at hj
        by_cases cj : j = a
        · subst cj
          rw [earg] at h1
          subst h1
          obtain ⟨z1, z2⟩ := pu_ain_1 hin
          rw [e5s, e4s, if_neg (by omega), z2]
          exact ⟨rfl, kd, z1, rfl⟩
        · rw [e5n _ (by omega), e4n _ (by omega)]
          exact r6 m9 hm9 h1 j (by rw [nac m9 hm9]; omega)
      · rw [e3n m9 c] at hj
        have q4 := na4 m9 hm9
        have hj2 := hj
        rw [nac m9 hm9] at hj2
        rw [e5n _ (by omega), e4n _ (by omega)]
        exact r6 m9 hm9 h1 j hj
  · unfold dk_WI at WI ⊢
    rw [hx0, hx 7 0 (by decide) (by decide) (by decide) (by decide) (by decide)]
    exact ⟨pk_us, Or.inl rfl, WI.2.2⟩
end DAT
