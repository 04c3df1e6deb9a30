/-! operation keeps desk and reference alike -/
section DOP
variable {F : Nat → Int32} {ad : Nat → Nat → Nat} {ng nM : Nat} {na no : Nat → Nat} {X : dk_X} {Y : dk_Y} {Z : dk_Z} {I : mq_M} {nc : Nat} {oc : Nat → Nat} {ow : Nat → Nat → Nat}
theorem va_us {f : Nat → Option Nat} {p : Nat} {v : Option Nat} : va_up f p v p = v := if_pos rfl
theorem va_un {f : Nat → Option Nat} {p k : Nat} {v : Option Nat} (h : ¬ k = p) : va_up f p v k = f k := if_neg h
theorem dk_inc_s {f : Nat → Nat} {m : Nat} : dk_inc f m m = f m + 1 := if_pos rfl
theorem dk_inc_n {f : Nat → Nat} {m i : Nat} (h : ¬ i = m) : dk_inc f m i = f i := if_neg h
theorem dk_ST.opn (T : dk_ST F ad ng nM na no X Y Z I nc oc ow) {m kd g ar n : Nat} {x : Int32} (hm : m < nM) (hk : kd < 7) (ho : I 2 m = nI g) (hg : g < ng) (har : I 1 g = nI ar) (ha : ar = 1 ∨ ar = 2) (hin : pu_oin nc ng ar kd x = true) (h8 : no m < 8) : dk_ST (md_fs F 0 0) (dk_a1 ad 34 (8 * m + no m) n) ng nM na (dk_inc no m) (dk_xo X m (no m) (dk_fa (nI kd) x 0 0)) Y (dk_is Z 32 m (va_up (Z 32 m) (no m) (some n))) (pu_addO I m (no m) kd x) nc oc ow := by
  obtain ⟨⟨⟨v1, v2, v3⟩, v4, ⟨v5, v6, v7, v8, v9⟩, v10⟩, RI, WI⟩ := T
  have g4 := v1.g4
  have m12 := v1.m12
  generalize ea : no m = a at h8 ⊢
  have eI : ∀ k, ¬ k = 8 → ¬ k = 9 → ¬ k = 10 → pu_addO I m a kd x k = I k := by
    intro k c1 c2 c3
    unfold pu_addO md_is
    rw [if_neg c1, if_neg c3, if_neg c2]
  have e8s : pu_addO I m a kd x 8 m = nI (a + 1) := pk_us
  have e8n : ∀ i, ¬ i = m → pu_addO I m a kd x 8 i = I 8 i := fun i hi => pk_un hi
  have e9s : pu_addO I m a kd x 9 (8 * m + a) = nI kd := pk_us
  have e9n : ∀ i, ¬ i = 8 * m + a → pu_addO I m a kd x 9 i = I 9 i := fun i hi => pk_un hi
  have e10s : pu_addO I m a kd x 10 (8 * m + a) = x := pk_us
  have e10n : ∀ i, ¬ i = 8 * m + a → pu_addO I m a kd x 10 i = I 10 i := fun i hi => pk_un hi
  have hx : ∀ k i, ¬ k = 34 → ¬ k = 30 → dk_xo X m a (dk_fa (nI kd) x 0 0) k i = X k i := by
    intro k i c1 c2
    unfold dk_xo
    rw [dk_n (fun z => c2 z.1), dk_n (fun z => c1 z.1)]
  have hx30n : ∀ i, ¬ i = m → dk_xo X m a (dk_fa (nI kd) x 0 0) 30 i = X 30 i := by
    intro i c
    unfold dk_xo
    rw [dk_ni c, dk_n (by omega)]
  have hx30m : dk_xo X m a (dk_fa (nI kd) x 0 0) 30 m = upd (X 30 m) 5 (nI (a + 1)) := by
    unfold dk_xo
    rw [dk_s]
  have hx30 : ∀ i p, ¬ p = 5 → dk_xo X m a (dk_fa (nI kd) x 0 0) 30 i p = X 30 i p := by
    intro i p c
    by_cases ci : i = m
    · rw [ci, hx30m, pk_un c]
    · rw [hx30n i ci]
  have hx34s : dk_xo X m a (dk_fa (nI kd) x 0 0) 34 (8 * m + a) = dk_fa (nI kd) x 0 0 := by
    unfold dk_xo
    rw [dk_n (by omega), dk_s]
  have hx34n : ∀ i, ¬ i = 8 * m + a → dk_xo X m a (dk_fa (nI kd) x 0 0) 34 i = X 34 i := by
    intro i c
    unfold dk_xo
    rw [dk_n (by omega), dk_ni c]
  have had : ∀ k i, ¬ k = 34 → dk_a1 ad 34 (8 * m + a) n k i = ad k i := fun k i c => if_neg (fun z => c z.1)
  have had34s : dk_a1 ad 34 (8 * m + a) n 34 (8 * m + a) = n := if_pos ⟨rfl, rfl⟩
  have had34n : ∀ i, ¬ i = 8 * m + a → dk_a1 ad 34 (8 * m + a) n 34 i = ad 34 i := fun i c => if_neg (fun z => c z.2)
  have hz : ∀ k i, ¬ k = 32 → dk_is Z 32 m (va_up (Z 32 m) a (some n)) k i = Z k i := fun k i c => dk_n (fun z => c z.1)
  have eof : ∀ i, mq_of (pu_addO I m a kd x) i = mq_of I i := fun i => by unfold mq_of; rw [eI 2 (by decide) (by decide) (by decide)]
  have ear : ∀ i, mq_ar (pu_addO I m a kd x) i = mq_ar I i := fun i => by unfold mq_ar; rw [eI 1 (by decide) (by decide) (by decide)]
  have earg : mq_ar I (mq_of I m) = ar := by
    unfold mq_ar mq_of
    rw [ho, nI_clamp (by omega), har, nI_clamp (by omega)]
  obtain ⟨w1, w2, w3, w4, w5⟩ := v10 m hm
  rw [ea] at w2 w3 w4 w5
  have enoI : mq_no I m = a := by unfold mq_no; rw [w3, nI_clamp (by omega)]
  refine ⟨⟨⟨pu_W_cf (pu_W_op v1) rfl rfl rfl, ?_, ?_⟩, fun g9 hg9 => ?_, ⟨?_, ?_, ?_, ?_, ?_⟩, fun m9 hm9 => ?_⟩, ?_, ?_⟩
  · obtain ⟨b1, b2, b3, b4, b5⟩ := v2
    refine ⟨by rw [eI 0 (by decide) (by decide) (by decide)]; exact dk_hi_cg b1 (hx 1 0 (by decide) (by decide)) (hx 2 0 (by decide) (by decide)), b2, b3, b4, fun m9 hm9 => ?_⟩
    obtain ⟨c1, c2, c3, c4, c5⟩ := b5 m9 hm9
    rw [hx30 m9 0 (by decide), hx30 m9 3 (by decide), eI 3 (by decide) (by decide) (by decide), hz 31 m9 (by decide)]
    refine ⟨c1, c2, c3, c4, fun k hk => ?_⟩
    rw [had 33 _ (by decide), hx 33 _ (by decide) (by decide), eI 7 (by decide) (by decide) (by decide)]
    exact ⟨(c5 k hk).1, dk_ao_cg (c5 k hk).2.1 (hx 33 _ (by decide) (by decide)) (eI 4 (by decide) (by decide) (by decide)) (eI 5 (by decide) (by decide) (by decide)) (eI 6 (by decide) (by decide) (by decide)), (c5 k hk).2.2⟩
  · intro m9 hm9
    obtain ⟨q1, q2, q3⟩ := v3 m9 hm9
    rw [eof, ear]
    by_cases c : m9 = m
    · subst c
      have e1 : mq_no (pu_addO I m9 a kd x) m9 = a + 1 := by unfold mq_no; rw [e8s, nI_clamp (by omega)]
      rw [e1]
      refine ⟨by omega, e8s, fun j hj => ?_⟩
      by_cases cj : j = a
      · subst cj
        have ek : mq_kd (pu_addO I m9 j kd x) m9 j = kd := by unfold mq_kd; rw [e9s, nI_clamp (by omega)]
        rw [ek, e9s, e10s, earg]
        exact ⟨hk, rfl, hin⟩
      · have ek : mq_kd (pu_addO I m9 a kd x) m9 j = mq_kd I m9 j := by unfold mq_kd; rw [e9n _ (by omega)]
        rw [ek, e9n _ (by omega), e10n _ (by omega)]
        exact q3 j (by rw [enoI]; omega)
    · have e1 : mq_no (pu_addO I m a kd x) m9 = mq_no I m9 := by unfold mq_no; rw [e8n m9 c]
      rw [e1, e8n m9 c]
      refine ⟨q1, q2, fun j hj => ?_⟩
      have ek : mq_kd (pu_addO I m a kd x) m9 j = mq_kd I m9 j := by unfold mq_kd; rw [e9n _ (by omega)]
      rw [ek, e9n _ (by omega), e10n _ (by omega)]
      exact q3 j hj
  · exact dk_IG_gr v1 (fun m hm => (v2.2.2.2.2 m hm).2.2.1) (pu_sg_rw (fun k hk => eI k (by omega) (by omega) (by omega))) (v4 g9 hg9) m12 (fun _ _ => rfl) (fun k h1 h2 => hx k _ (by omega) (by omega)) (fun _ _ _ => rfl) (fun k h1 h2 => hz k _ (by omega)) (fun i hl => ⟨hx 33 i (by decide) (by decide), had 33 i (by decide), hl⟩) (fun k hk => ⟨hx30 _ 0 (by decide), hx30 _ 8 (by decide), hx30 _ 9 (by decide), rfl, had 30 _ (by decide)⟩) (by rw [eI 14 (by decide) (by decide) (by decide)]) (fun j _ => ⟨by rw [eI 15 (by decide) (by decide) (by decide)], by rw [eI 16 (by decide) (by decide) (by decide)], by rw [eI 17 (by decide) (by decide) (by decide)]⟩) (by rw [eI 18 (by decide) (by decide) (by decide)]) (fun j _ => ⟨by rw [eI 19 (by decide) (by decide) (by decide)], by rw [eI 20 (by decide) (by decide) (by decide)], by rw [eI 21 (by decide) (by decide) (by decide)]⟩)
  · rw [hx 0 0 (by decide) (by decide)]; exact v5
  · rw [hx 0 0 (by decide) (by decide)]; exact v6
  · intro g9 hg9
    rw [hz 3 0 (by decide), had 20 _ (by decide)]; exact v7 g9 hg9
  · intro m9 hm9
    rw [hz 4 0 (by decide), had 30 _ (by decide)]; exact v8 m9 hm9
  · intro j hj
    rw [hz 8 0 (by decide), had 9 _ (by decide)]; exact v9 j hj
  · obtain ⟨q1, q2, q3, q4, q5⟩ := v10 m9 hm9
    rw [hz 30 m9 (by decide), eof, had 20 _ (by decide)]
    by_cases c : m9 = m
    · subst c
      rw [dk_inc_s, hx30m, pk_us, e8s, ea]
      refine ⟨q1, rfl, rfl, by omega, fun k hk => ?_⟩
      rw [dk_s]
      by_cases ck : k = a
      · subst ck
        rw [va_us, had34s, hx34s, e9s, e10s]
        exact ⟨rfl, rfl, rfl⟩
      · rw [va_un ck, had34n _ (by omega), hx34n _ (by omega), e9n _ (by omega), e10n _ (by omega)]
        exact q5 k (by omega)
    · rw [dk_inc_n c, hx30n m9 c, e8n m9 c, dk_ni c]
      refine ⟨q1, q2, q3, q4, fun k hk => ?_⟩
      rw [had34n _ (by omega), hx34n _ (by omega), e9n _ (by omega), e10n _ (by omega)]
      exact q5 k hk
  · obtain ⟨r1, r2, r3, r4, r5, r6⟩ := RI
    refine ⟨?_, fun i h1 h2 => ?_, ?_, ?_, ?_, ?_⟩
    · exact pu_kn_kg (fun g9 hg9 => pu_kg.s (I := I) (fun ar9 ha9 har9 => r1.1 g9 ar9 hg9 ha9 har9) (pu_sg_rw (fun k hk => eI k (by omega) (by omega) (by omega))) (by rw [eI 11 (by decide) (by decide) (by decide)]) (eI 12 (by decide) (by decide) (by decide)) (eI 13 (by decide) (by decide) (by decide))) (fun g9 h1 h2 => by rw [eI 11 (by decide) (by decide) (by decide)]; exact r1.2 g9 h1 h2)
    · rw [eI 3 (by decide) (by decide) (by decide), e8n i (by omega)]
      exact r2 i h1 h2
    · rw [eI 14 (by decide) (by decide) (by decide)]; exact r3
    · rw [eI 14 (by decide) (by decide) (by decide)]; exact r4
    · rw [eI 18 (by decide) (by decide) (by decide)]; exact r5
    · intro m9 hm9
      rw [eof, ear, eI 3 (by decide) (by decide) (by decide), eI 4 (by decide) (by decide) (by decide), eI 5 (by decide) (by decide) (by decide)]
      exact r6 m9 hm9
  · unfold dk_WI at WI ⊢
    rw [hx 0 0 (by decide) (by decide), hx 7 0 (by decide) (by decide)]
    exact WI
end DOP
