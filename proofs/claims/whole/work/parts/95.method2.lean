/-! method keeps desk and reference alike -/
section DME
variable {F : Nat → Int32} {ad : Nat → Nat → Nat} {ng nM : Nat} {na no : Nat → Nat} {X : dk_X} {Y : dk_Y} {Z : dk_Z} {I : mq_M} {nc : Nat} {oc : Nat → Nat} {ow : Nat → Nat → Nat}
theorem dk_IG_oc {oc' : Nat → Nat} {ow' : Nat → Nat → Nat} {g : Nat} (e1 : oc' g = oc g) (e2 : ow' g = ow g) (h : dk_IG ad ng nM na no X Y Z I nc oc ow g) : dk_IG ad ng nM na no X Y Z I nc oc' ow' g := by
  unfold dk_IG at h ⊢
  rw [e1, e2]
  exact h
theorem dk_0s {f : Nat → Nat} {m : Nat} : dk_0 f m m = 0 := if_pos rfl
theorem dk_0n {f : Nat → Nat} {m i : Nat} (h : ¬ i = m) : dk_0 f m i = f i := if_neg h
def dk_owm (ow : Nat → Nat → Nat) (g o nM : Nat) : Nat → Nat → Nat := fun i k => if i = g ∧ k = o then nM else ow i k
theorem dk_ST.met (T : dk_ST F ad ng nM na no X Y Z I nc oc ow) {g n : Nat} (hg : g < ng) (h12 : nM < 12) : dk_ST (md_fs (md_fs (md_fs F 0 0) 18 0) 5 (nI (nM + 1))) (dk_aM ad nM n) ng (nM + 1) (dk_0 na nM) (dk_0 no nM) (dk_xm X nM g (oc g)) (dk_yM Y nM) (dk_zm ad Z nM g (oc g) n) (pu_fg (md_is I 2 (upd (I 2) nM (nI g))) g) nc (dk_inc oc g) (dk_owm ow g (oc g) nM) := by
  obtain ⟨⟨⟨v1, v2, v3⟩, v4, ⟨v5, v6, v7, v8, v9⟩, v10⟩, RI, WI⟩ := T
  have g4 := v1.g4
  have W0 := pu_W_fg (pu_W_method v1 hg h12 RI.2.1) g
  obtain ⟨fr3, fr8⟩ := RI.2.1 nM (Nat.le_refl _) h12
  have na4 : ∀ i, i < nM → na i ≤ 4 := fun i hi => (v2.2.2.2.2 i hi).2.2.1
  have eI : ∀ k, ¬ k = 2 → ¬ k = 11 → ¬ k = 14 → pu_fg (md_is I 2 (upd (I 2) nM (nI g))) g k = I k := by
    intro k c1 c2 c3
    unfold pu_fg md_is
    rw [if_neg c3, if_neg c2, if_neg c1]
  have e2s : pu_fg (md_is I 2 (upd (I 2) nM (nI g))) g 2 nM = nI g := pk_us
  have e2n : ∀ i, ¬ i = nM → pu_fg (md_is I 2 (upd (I 2) nM (nI g))) g 2 i = I 2 i := fun i hi => pk_un hi
  have e11s : pu_fg (md_is I 2 (upd (I 2) nM (nI g))) g 11 g = 0 := pk_us
  have e11n : ∀ i, ¬ i = g → pu_fg (md_is I 2 (upd (I 2) nM (nI g))) g 11 i = I 11 i := fun i hi => pk_un hi
  have e14s : pu_fg (md_is I 2 (upd (I 2) nM (nI g))) g 14 g = 0 := pk_us
  have e14n : ∀ i, ¬ i = g → pu_fg (md_is I 2 (upd (I 2) nM (nI g))) g 14 i = I 14 i := fun i hi => pk_un hi
  generalize pu_fg (md_is I 2 (upd (I 2) nM (nI g))) g = I' at *
  have xM : ∀ k i, ¬ dk_NM nM k i → dk_xM X nM (nI nM) k i = X k i := fun k i c => if_neg c
  have hx : ∀ k i, ¬ k = 0 → ¬ k = 20 → ¬ k = 21 → ¬ dk_NM nM k i → dk_xm X nM g (oc g) k i = X k i := by
    intro k i c1 c2 c3 c4
    unfold dk_xm
    rw [dk_n (fun z => c1 z.1), dk_n (fun z => c1 z.1), dk_od_n (by omega), dk_n (fun z => c2 z.1), xM k i c4]
  have hx0 : dk_xm X nM g (oc g) 0 0 = upd (upd (X 0 0) 7 0) 4 (nI (nM + 1)) := by
    unfold dk_xm
    rw [dk_s, dk_od_n (by omega), dk_n (by omega), xM 0 0 (by omega)]
  have hx20 : ∀ k, (k = 20 ∨ k = 21) → ∀ i, ¬ i = g → dk_xm X nM g (oc g) k i = X k i := by
    intro k hk i c
    unfold dk_xm
    rw [dk_n (by omega), dk_n (by omega), dk_odi c, dk_n (fun z => c z.2), xM k i (by omega)]
  have hx20g : dk_xm X nM g (oc g) 20 g = upd (upd (upd (X 20 g) 5 (nI (oc g + 1))) 6 (X 20 g 6 ||| i1 nM)) 7 0 := by
    unfold dk_xm
    rw [dk_n (by omega), dk_n (by omega), dk_od20, dk_s, xM 20 g (by omega)]
  have hx21g : dk_xm X nM g (oc g) 21 g = upd (X 21 g) 3 0 := by
    unfold dk_xm
    rw [dk_n (by omega), dk_n (by omega), dk_od21, dk_n (by omega), xM 21 g (by omega)]
  have hx30s : dk_xm X nM g (oc g) 30 nM = upd (fun _ => 0) 0 (nI nM) := by
    unfold dk_xm
    rw [dk_n (by omega), dk_n (by omega), dk_od_n (by omega), dk_n (by omega)]
    unfold dk_xM
    rw [if_pos ⟨by omega, rfl⟩, if_pos rfl]
  generalize dk_xm X nM g (oc g) = X' at *
  have zM : ∀ k i, ¬ dk_NM nM k i → dk_zM Z nM (ad 20 g) k i = Z k i := fun k i c => if_neg c
  have had : ∀ k i, ¬ dk_NM nM k i → dk_aM ad nM n k i = ad k i := fun k i c => if_neg c
  have hz : ∀ k i, ¬ k = 4 → ¬ k = 25 → ¬ dk_NM nM k i → dk_zm ad Z nM g (oc g) n k i = Z k i := by
    intro k i c1 c2 c3
    unfold dk_zm
    rw [dk_n (fun z => c2 z.1), dk_n (fun z => c1 z.1), zM k i c3]
  have hz4 : dk_zm ad Z nM g (oc g) n 4 0 = va_up (Z 4 0) nM (some (dk_aM ad nM n 30 nM)) := by
    unfold dk_zm
    rw [dk_n (by omega), dk_s, zM 4 0 (by omega)]
  have hz25n : ∀ i, ¬ i = g → dk_zm ad Z nM g (oc g) n 25 i = Z 25 i := by
    intro i c
    unfold dk_zm
    rw [dk_ni c, dk_n (by omega), zM 25 i (by omega)]
  have hz25g : dk_zm ad Z nM g (oc g) n 25 g = va_up (Z 25 g) (oc g) (some (dk_aM ad nM n 30 nM)) := by
    unfold dk_zm
    rw [dk_s, dk_n (by omega), zM 25 g (by omega)]
  have hz30 : dk_zm ad Z nM g (oc g) n 30 nM = va_up (fun _ => none) 1 (some (ad 20 g)) := by
    unfold dk_zm
    rw [dk_n (by omega), dk_n (by omega)]
    unfold dk_zM
    rw [if_pos ⟨by omega, rfl⟩, if_pos rfl]
  generalize dk_zm ad Z nM g (oc g) n = Z' at *
  have hy : ∀ k i, ¬ dk_NM nM k i → dk_yM Y nM k i = Y k i := fun k i c => if_neg c
  generalize dk_aM ad nM n = ad' at *
  generalize dk_yM Y nM = Y' at *
  have ear : ∀ i, mq_ar I' i = mq_ar I i := fun i => by unfold mq_ar; rw [eI 1 (by decide) (by decide) (by decide)]
  have eof : ∀ i, i < nM → mq_of I' i = mq_of I i := fun i hi => by unfold mq_of; rw [e2n i (by omega)]
  have eofs : mq_of I' nM = g := by unfold mq_of; rw [e2s, nI_clamp (by omega)]
  have SG : ∀ g9, g9 < ng → ¬ g9 = g → pu_sg I I' nM (nM + 1) g9 := by
    intro g9 h1 h2
    refine ⟨eI 0 (by decide) (by decide) (by decide), by rw [eI 1 (by decide) (by decide) (by decide)], fun i hi => e2n i (by omega), fun i hi h3 => ⟨by rw [eI 3 (by decide) (by decide) (by decide)], fun k _ => ⟨by rw [eI 4 (by decide) (by decide) (by decide)], by rw [eI 5 (by decide) (by decide) (by decide)], by rw [eI 6 (by decide) (by decide) (by decide)], by rw [eI 7 (by decide) (by decide) (by decide)]⟩⟩, by omega, fun i h5 h6 => ?_⟩
    rw [show i = nM by omega, e2s]
    exact fun z => h2 ((nI_eq (by omega) (by omega)).mp z).symm
  have lvm : ∀ i, dk_lv ng nM na no 33 i → dk_lv ng (nM + 1) (dk_0 na nM) (dk_0 no nM) 33 i := by
    intro i hl
    have h1 : i / 4 < nM := hl.1
    have h2 : i % 4 < na (i / 4) := hl.2
    refine ⟨by omega, ?_⟩
    show i % 4 < dk_0 na nM (i / 4)
    rw [dk_0n (by omega)]
    exact h2
  refine ⟨⟨⟨pu_W_cf W0 rfl rfl rfl, ?_, ?_⟩, fun g9 hg9 => ?_, ⟨?_, ?_, ?_, ?_, ?_⟩, fun m9 hm9 => ?_⟩, ?_, ?_⟩
  · obtain ⟨b1, b2, b3, b4, b5⟩ := v2
    refine ⟨by rw [eI 0 (by decide) (by decide) (by decide)]; exact dk_hi_cg b1 (hx 1 0 (by decide) (by decide) (by decide) (by omega)) (hx 2 0 (by decide) (by decide) (by decide) (by omega)), by omega, b3, b4, fun m9 hm9 => ?_⟩
    by_cases c : m9 = nM
    · subst c
      rw [hx30s, dk_0s, eI 3 (by decide) (by decide) (by decide)]
      exact ⟨pk_us, rfl, by omega, fr3, fun k hk => absurd hk (by omega)⟩
    · obtain ⟨c1, c2, c3, c4, c5⟩ := b5 m9 (by omega)
      rw [hx 30 m9 (by decide) (by decide) (by decide) (by omega), dk_0n c, eI 3 (by decide) (by decide) (by decide), hz 31 m9 (by decide) (by decide) (by omega)]
      refine ⟨c1, c2, c3, c4, fun k hk => ?_⟩
      rw [had 33 _ (by omega), hx 33 _ (by decide) (by decide) (by decide) (by omega), eI 7 (by decide) (by decide) (by decide)]
      exact ⟨(c5 k hk).1, dk_ao_cg (c5 k hk).2.1 (hx 33 _ (by decide) (by decide) (by decide) (by omega)) (eI 4 (by decide) (by decide) (by decide)) (eI 5 (by decide) (by decide) (by decide)) (eI 6 (by decide) (by decide) (by decide)), (c5 k hk).2.2⟩
  · intro m9 hm9
    by_cases c : m9 = nM
    · subst c
      have e0 : mq_no I' m9 = 0 := by unfold mq_no; rw [eI 8 (by decide) (by decide) (by decide), fr8]; rfl
      rw [e0, eI 8 (by decide) (by decide) (by decide)]
      exact ⟨by omega, fr8, fun j hj => absurd hj (by omega)⟩
    · have q := v3 m9 (by omega)
      unfold mq_no mq_kd at q ⊢
      rw [eI 8 (by decide) (by decide) (by decide), eI 9 (by decide) (by decide) (by decide), eI 10 (by decide) (by decide) (by decide), eof m9 (by omega), ear]
      exact q
  · by_cases c : g9 = g
    · subst c
      obtain ⟨⟨⟨o1, o2, o3, o4⟩, q2, q3, q5, q6⟩, _⟩ := v4 g9 hg9
      have ole := dk_en_le q2
      have ows : dk_owm ow g9 (oc g9) nM g9 (oc g9) = nM := if_pos ⟨rfl, rfl⟩
      have own : ∀ k, ¬ k = oc g9 → dk_owm ow g9 (oc g9) nM g9 k = ow g9 k := fun k ck => if_neg (fun z => ck z.2)
      refine dk_IG_out ?_ ?_ ?_ ?_ ?_ ?_ e14s ?_
      · rw [dk_inc_s]
        refine ⟨by rw [hx20g, pk_un (by decide), pk_un (by decide), pk_us], by omega, by omega, fun k hk => ?_⟩
        rw [hz25g]
        by_cases ck : k = oc g9
        · rw [ck, va_us, ows, hx30s]
          exact ⟨rfl, by omega, pk_us⟩
        · obtain ⟨w1, w2, w3⟩ := o4 k (by omega)
          rw [va_un ck, own k ck, had 30 _ (by omega), hx 30 _ (by decide) (by decide) (by decide) (by omega)]
          exact ⟨w1, by omega, w3⟩
      · rw [dk_inc_s]
        refine ⟨fun k hk => ?_, fun j k hjk hk => ?_, fun m9 hm9 ho => ?_⟩
        · by_cases ck : k = oc g9
          · rw [ck, ows]
            exact ⟨by omega, e2s⟩
          · have w := q2.1 k (by omega)
            rw [own k ck, e2n _ (by omega)]
            exact ⟨by omega, w.2⟩
        · by_cases ck : k = oc g9
          · rw [ck, ows, own j (by omega)]
            exact (q2.1 j (by omega)).1
          · rw [own k ck, own j (by omega)]
            exact q2.2.1 j k hjk (by omega)
        · by_cases cm : m9 = nM
          · exact ⟨oc g9, by omega, by rw [ows]; exact cm.symm⟩
          · rw [e2n m9 cm] at ho
            obtain ⟨k, k1, k2⟩ := q2.2.2 m9 (by omega) ho
            exact ⟨k, by omega, by rw [own k (by omega)]; exact k2⟩
      · rw [hx20g, pk_un (by decide), pk_un (by decide), pk_un (by decide), ear]; exact q3
      · rw [ear]; exact q5
      · rw [hx20g, pk_un (by decide), pk_us]
        intro i hi
        rw [b_or, bt_one (by omega) hi, q6 i hi]
        by_cases ci : i = nM
        · rw [ci, e2s]
          simp
        · rw [e2n i ci, decide_eq_false ci, Bool.or_false, show decide (i < nM + 1) = decide (i < nM) from decide_eq_decide.mpr (by omega)]
      · rw [hx20g]; exact pk_us
      · rw [hx21g]; exact pk_us
    · have en := (v4 g9 hg9).1.2.1
      have q := dk_IG_gr (ad' := ad') (ng' := ng) (na' := dk_0 na nM) (no' := dk_0 no nM) (X' := X') (Y' := Y') (Z' := Z') v1 na4 (SG g9 hg9 c) (v4 g9 hg9) (by omega) (fun k hk => dk_0n (by have := (en.1 k hk).1; omega)) (fun k h1 h2 => by
        by_cases ck : k = 20 ∨ k = 21
        · exact hx20 k ck g9 c
        · exact hx k _ (by omega) (by omega) (by omega) (by omega)) (fun k h1 h2 => hy k _ (by omega)) (fun k h1 h2 => by
        by_cases ck : k = 25
        · rw [ck]; exact hz25n g9 c
        · exact hz k _ (by omega) ck (by omega)) (fun i hl => ⟨hx 33 i (by decide) (by decide) (by decide) (by omega), had 33 i (by omega), lvm i hl⟩) (fun k hk => by
        have w := (en.1 k hk).1
        rw [hx 30 _ (by decide) (by decide) (by decide) (by omega)]
        exact ⟨rfl, rfl, rfl, hy 30 _ (by omega), had 30 _ (by omega)⟩) (e14n g9 c) (fun j _ => ⟨by rw [eI 15 (by decide) (by decide) (by decide)], by rw [eI 16 (by decide) (by decide) (by decide)], by rw [eI 17 (by decide) (by decide) (by decide)]⟩) (by rw [eI 18 (by decide) (by decide) (by decide)]) (fun j _ => ⟨by rw [eI 19 (by decide) (by decide) (by decide)], by rw [eI 20 (by decide) (by decide) (by decide)], by rw [eI 21 (by decide) (by decide) (by decide)]⟩)
      exact dk_IG_oc (dk_inc_n c) (funext (fun k => if_neg (fun z => c z.1))) q
  · rw [hx0, pk_un (by decide), pk_un (by decide)]; exact v5
  · rw [hx0]; exact pk_us
  · intro g9 hg9
    rw [hz 3 0 (by decide) (by decide) (by omega), had 20 _ (by omega)]; exact v7 g9 hg9
  · intro m9 hm9
    rw [hz4]
    by_cases c : m9 = nM
    · rw [c, va_us]
    · rw [va_un c, had 30 _ (by omega)]; exact v8 m9 (by omega)
  · intro j hj
    rw [hz 8 0 (by decide) (by decide) (by omega), had 9 _ (by omega)]; exact v9 j hj
  · by_cases c : m9 = nM
    · subst c
      rw [hz30, eofs, had 20 g (by omega), hx30s, dk_0s, eI 8 (by decide) (by decide) (by decide)]
      exact ⟨va_us, pk_un (by decide), fr8, by omega, fun k hk => absurd hk (by omega)⟩
    · obtain ⟨q1, q2, q3, q4, q5⟩ := v10 m9 (by omega)
      rw [hz 30 m9 (by decide) (by decide) (by omega), eof m9 (by omega), had 20 _ (by omega), hx 30 m9 (by decide) (by decide) (by decide) (by omega), dk_0n c, eI 8 (by decide) (by decide) (by decide), hz 32 m9 (by decide) (by decide) (by omega)]
      refine ⟨q1, q2, q3, q4, fun k hk => ?_⟩
      rw [had 34 _ (by omega), hx 34 _ (by decide) (by decide) (by decide) (by omega), eI 9 (by decide) (by decide) (by decide), eI 10 (by decide) (by decide) (by decide)]
      exact q5 k hk
  · obtain ⟨r1, r2, r3, r4, r5, r6⟩ := RI
    refine ⟨?_, fun i h1 h2 => ?_, fun g9 h1 h2 => ?_, fun g9 hg9 => ?_, ?_, ?_⟩
    · refine pu_kn_kg (fun g9 hg9 => ?_) (fun g9 h1 h2 => by rw [e11n g9 (by omega)]; exact r1.2 g9 h1 h2)
      by_cases c : g9 = g
      · subst c
        exact fun ar9 ha9 har9 => Or.inl e11s
      · exact pu_kg.s (I := I) (fun ar9 ha9 har9 => r1.1 g9 ar9 hg9 ha9 har9) (SG g9 hg9 c) (e11n g9 c) (eI 12 (by decide) (by decide) (by decide)) (eI 13 (by decide) (by decide) (by decide))
    · rw [eI 3 (by decide) (by decide) (by decide), eI 8 (by decide) (by decide) (by decide)]
      exact r2 i (by omega) h2
    · rw [e14n g9 (by omega)]; exact r3 g9 h1 h2
    · by_cases c : g9 = g
      · subst c
        exact ⟨0, by decide, e14s⟩
      · rw [e14n g9 c]; exact r4 g9 hg9
    · rw [eI 18 (by decide) (by decide) (by decide)]; exact r5
    · intro m9 hm9 h1 j hj
      rw [eI 3 (by decide) (by decide) (by decide)] at hj
      rw [eI 4 (by decide) (by decide) (by decide), eI 5 (by decide) (by decide) (by decide)]
      by_cases c : m9 = nM
      · subst c
        rw [fr3] at hj
        exact absurd hj (Nat.not_lt_zero j)
      · rw [eof m9 (by omega), ear] at h1
        exact r6 m9 (by omega) h1 j hj
  · unfold dk_WI at WI ⊢
    rw [hx0, hx 7 0 (by decide) (by decide) (by decide) (by omega)]
    exact ⟨(pk_un (by decide)).trans pk_us, Or.inl rfl, WI.2.2⟩
end DME
