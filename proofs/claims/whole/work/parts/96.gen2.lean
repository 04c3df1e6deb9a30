/-! generic and klass keep desk and reference alike -/
section DGE
variable {F : Nat → Int32} {ad : Nat → Nat → Nat} {ng nM : Nat} {na no : Nat → Nat} {X : dk_X} {Y : dk_Y} {Z : dk_Z} {I : mq_M} {nc : Nat} {oc : Nat → Nat} {ow : Nat → Nat → Nat}
theorem b_z (i : Nat) : bt 0 i = false := b_0 i
theorem dk_ST.gen (T : dk_ST F ad ng nM na no X Y Z I nc oc ow) {k n : Nat} (hk : k = 1 ∨ k = 2) (h4 : ng < 4) : dk_ST (md_fs (md_fs F 0 0) 3 (nI (ng + 1))) (dk_aG ad ng n) (ng + 1) nM na no (dk_is (dk_xG X ng (nI k)) 0 0 (upd (dk_xG X ng (nI k) 0 0) 2 (nI (ng + 1)))) (dk_yG Y ng) (dk_is (dk_zG Z ng) 3 0 (va_up (dk_zG Z ng 3 0) ng (some (dk_aG ad ng n 20 ng)))) (md_is I 1 (upd (I 1) ng (nI k))) nc (dk_0 oc ng) ow := by
  obtain ⟨⟨⟨v1, v2, v3⟩, v4, ⟨v5, v6, v7, v8, v9⟩, v10⟩, RI, WI⟩ := T
  have m12 := v1.m12
  have W0 := pu_W_generic v1 hk h4
  have na4 : ∀ i, i < nM → na i ≤ 4 := fun i hi => (v2.2.2.2.2 i hi).2.2.1
  have eI : ∀ j, ¬ j = 1 → md_is I 1 (upd (I 1) ng (nI k)) j = I j := fun j c => if_neg c
  have e1s : md_is I 1 (upd (I 1) ng (nI k)) 1 ng = nI k := pk_us
  have e1n : ∀ i, ¬ i = ng → md_is I 1 (upd (I 1) ng (nI k)) 1 i = I 1 i := fun i hi => pk_un hi
  generalize md_is I 1 (upd (I 1) ng (nI k)) = I' at *
  have xG : ∀ j i, ¬ dk_NG ng j i → dk_xG X ng (nI k) j i = X j i := fun j i c => if_neg c
  have zG : ∀ j i, ¬ dk_NG ng j i → dk_zG Z ng j i = Z j i := fun j i c => if_neg c
  have hx : ∀ j i, ¬ j = 0 → ¬ dk_NG ng j i → dk_is (dk_xG X ng (nI k)) 0 0 (upd (dk_xG X ng (nI k) 0 0) 2 (nI (ng + 1))) j i = X j i := fun j i c1 c2 => (dk_n (fun z => c1 z.1)).trans (xG j i c2)
  have hx0 : dk_is (dk_xG X ng (nI k)) 0 0 (upd (dk_xG X ng (nI k) 0 0) 2 (nI (ng + 1))) 0 0 = upd (X 0 0) 2 (nI (ng + 1)) := by rw [dk_s, xG 0 0 (by omega)]
  have hx20 : dk_is (dk_xG X ng (nI k)) 0 0 (upd (dk_xG X ng (nI k) 0 0) 2 (nI (ng + 1))) 20 ng = upd (fun _ => 0) 0 (nI k) := by
    rw [dk_n (by omega)]
    unfold dk_xG
    rw [if_pos ⟨by omega, rfl⟩, if_pos rfl]
  have hx21 : dk_is (dk_xG X ng (nI k)) 0 0 (upd (dk_xG X ng (nI k) 0 0) 2 (nI (ng + 1))) 21 ng = fun _ => 0 := by
    rw [dk_n (by omega)]
    unfold dk_xG
    rw [if_pos ⟨by omega, rfl⟩, if_neg (by decide)]
  generalize dk_is (dk_xG X ng (nI k)) 0 0 (upd (dk_xG X ng (nI k) 0 0) 2 (nI (ng + 1))) = X' at *
  have had : ∀ j i, ¬ dk_NG ng j i → dk_aG ad ng n j i = ad j i := fun j i c => if_neg c
  have hz : ∀ j i, ¬ j = 3 → ¬ dk_NG ng j i → dk_is (dk_zG Z ng) 3 0 (va_up (dk_zG Z ng 3 0) ng (some (dk_aG ad ng n 20 ng))) j i = Z j i := fun j i c1 c2 => (dk_n (fun z => c1 z.1)).trans (zG j i c2)
  have hz3 : dk_is (dk_zG Z ng) 3 0 (va_up (dk_zG Z ng 3 0) ng (some (dk_aG ad ng n 20 ng))) 3 0 = va_up (Z 3 0) ng (some (dk_aG ad ng n 20 ng)) := by rw [dk_s, zG 3 0 (by omega)]
  generalize dk_is (dk_zG Z ng) 3 0 (va_up (dk_zG Z ng 3 0) ng (some (dk_aG ad ng n 20 ng))) = Z' at *
  have hy : ∀ j i, ¬ dk_NG ng j i → dk_yG Y ng j i = Y j i := fun j i c => if_neg c
  generalize dk_yG Y ng = Y' at *
  generalize dk_aG ad ng n = ad' at *
  have eof : ∀ i, mq_of I' i = mq_of I i := fun i => by unfold mq_of; rw [eI 2 (by decide)]
  have eofl : ∀ i, i < nM → mq_of I i < ng := by
    intro i hi
    obtain ⟨g9, q1, q2⟩ := v1.own i hi
    unfold mq_of
    rw [q2, nI_clamp (by omega)]
    exact q1
  have ear : ∀ i, ¬ i = ng → mq_ar I' i = mq_ar I i := fun i c => by unfold mq_ar; rw [e1n i c]
  have ears : mq_ar I' ng = k := by unfold mq_ar; rw [e1s, nI_clamp (by omega)]
  have nown : ∀ m9, m9 < nM → ¬ I 2 m9 = nI ng := by
    intro m9 hm9 z
    obtain ⟨g9, q1, q2⟩ := v1.own m9 hm9
    have := (nI_eq (by omega) (by omega)).mp (q2.symm.trans z)
    omega
  have SG : ∀ g9, g9 < ng → pu_sg I I' nM nM g9 := by
    intro g9 h1
    refine ⟨eI 0 (by decide), e1n g9 (by omega), fun i hi => by rw [eI 2 (by decide)], fun i hi h3 => ⟨by rw [eI 3 (by decide)], fun k _ => ⟨by rw [eI 4 (by decide)], by rw [eI 5 (by decide)], by rw [eI 6 (by decide)], by rw [eI 7 (by decide)]⟩⟩, Nat.le_refl _, fun i h5 h6 => absurd h5 (by omega)⟩
  refine ⟨⟨⟨pu_W_cf W0 rfl rfl rfl, ?_, ?_⟩, fun g9 hg9 => ?_, ⟨?_, ?_, ?_, ?_, ?_⟩, fun m9 hm9 => ?_⟩, ?_, ?_⟩
  · obtain ⟨b1, b2, b3, b4, b5⟩ := v2
    refine ⟨by rw [eI 0 (by decide)]; exact dk_hi_cg b1 (hx 1 0 (by decide) (by omega)) (hx 2 0 (by decide) (by omega)), b2, b3, b4, fun m9 hm9 => ?_⟩
    obtain ⟨c1, c2, c3, c4, c5⟩ := b5 m9 hm9
    rw [hx 30 m9 (by decide) (by omega), eI 3 (by decide), hz 31 m9 (by decide) (by omega)]
    refine ⟨c1, c2, c3, c4, fun j hj => ?_⟩
    rw [had 33 _ (by omega), hx 33 _ (by decide) (by omega), eI 7 (by decide)]
    exact ⟨(c5 j hj).1, dk_ao_cg (c5 j hj).2.1 (hx 33 _ (by decide) (by omega)) (eI 4 (by decide)) (eI 5 (by decide)) (eI 6 (by decide)), (c5 j hj).2.2⟩
  · intro m9 hm9
    have q0 := v3 m9 hm9
    unfold mq_no mq_kd at q0 ⊢
    obtain ⟨q1, q2, q3⟩ := q0
    have hl := eofl m9 hm9
    rw [eI 8 (by decide), eI 9 (by decide), eI 10 (by decide), eof, ear _ (by omega)]
    refine ⟨q1, q2, fun j hj => ?_⟩
    obtain ⟨w1, w2, w3⟩ := q3 j hj
    refine ⟨w1, w2, ?_⟩
    unfold pu_oin at w3 ⊢
    split
    · rename_i c; rw [if_pos c] at w3; exact w3
    · rename_i c
      rw [if_neg c] at w3
      split
      · rename_i c2; rw [if_pos c2] at w3; exact w3
      · rename_i c2
        rw [if_neg c2] at w3
        split
        · rename_i c3; rw [if_pos c3] at w3; exact w3
        · rename_i c3
          rw [if_neg c3] at w3
          split
          · rename_i c5
            rw [if_pos c5] at w3
            obtain ⟨t, t1, t2⟩ := (pu_iv_0 (by omega)).mp w3
            exact (pu_iv_0 (by omega)).mpr ⟨t, by omega, t2⟩
          · rfl
  · by_cases c : g9 = ng
    · subst c
      refine dk_IG_out ?_ ?_ (by rw [hx20, ears]; exact pk_us) (by rw [ears]; exact hk) (fun i hi => ?_) (by rw [hx20]; exact pk_un (by decide)) (by rw [eI 14 (by decide)]; exact RI.2.2.1 g9 (Nat.le_refl _) h4) (by rw [hx21])
      · rw [dk_0s]
        exact ⟨by rw [hx20]; exact pk_un (by decide), by omega, m12, fun j hj => absurd hj (by omega)⟩
      · rw [dk_0s]
        refine ⟨fun j hj => absurd hj (by omega), fun i j _ hj => absurd hj (by omega), fun m9 hm9 z => ?_⟩
        rw [eI 2 (by decide)] at z
        exact absurd z (nown m9 hm9)
      · rw [hx20, pk_un (by decide), b_z, eI 2 (by decide)]
        by_cases ci : i < nM
        · rw [decide_eq_false (nown i ci), Bool.and_false]
        · rw [decide_eq_false ci, Bool.false_and]
    · have q := dk_IG_gr (ad' := ad') (ng' := ng + 1) (na' := na) (no' := no) (X' := X') (Y' := Y') (Z' := Z') v1 na4 (SG g9 (by omega)) (v4 g9 (by omega)) m12 (fun _ _ => rfl) (fun j h1 h2 => hx j _ (by omega) (by omega)) (fun j h1 h2 => hy j _ (by omega)) (fun j h1 h2 => hz j _ (by omega) (by omega)) (fun i hl => ⟨hx 33 i (by decide) (by omega), had 33 i (by omega), hl⟩) (fun j hj => by
        rw [hx 30 _ (by decide) (by omega)]
        exact ⟨rfl, rfl, rfl, hy 30 _ (by omega), had 30 _ (by omega)⟩) (by rw [eI 14 (by decide)]) (fun j _ => ⟨by rw [eI 15 (by decide)], by rw [eI 16 (by decide)], by rw [eI 17 (by decide)]⟩) (by rw [eI 18 (by decide)]) (fun j _ => ⟨by rw [eI 19 (by decide)], by rw [eI 20 (by decide)], by rw [eI 21 (by decide)]⟩)
      exact dk_IG_oc (dk_0n c) rfl q
  · rw [hx0]; exact pk_us
  · rw [hx0, pk_un (by decide)]; exact v6
  · intro g9 hg9
    rw [hz3]
    by_cases c : g9 = ng
    · rw [c, va_us]
    · rw [va_un c, had 20 _ (by omega)]; exact v7 g9 (by omega)
  · intro m9 hm9
    rw [hz 4 0 (by decide) (by omega), had 30 _ (by omega)]; exact v8 m9 hm9
  · intro j hj
    rw [hz 8 0 (by decide) (by omega), had 9 _ (by omega)]; exact v9 j hj
  · obtain ⟨q1, q2, q3, q4, q5⟩ := v10 m9 hm9
    have hl := eofl m9 hm9
    rw [hz 30 m9 (by decide) (by omega), eof, had 20 _ (by omega), hx 30 m9 (by decide) (by omega), eI 8 (by decide), hz 32 m9 (by decide) (by omega)]
    refine ⟨q1, q2, q3, q4, fun j hj => ?_⟩
    rw [had 34 _ (by omega), hx 34 _ (by decide) (by omega), eI 9 (by decide), eI 10 (by decide)]
    exact q5 j hj
  · obtain ⟨r1, r2, r3, r4, r5, r6⟩ := RI
    refine ⟨?_, fun i h1 h2 => ?_, fun g9 h1 h2 => ?_, fun g9 hg9 => ?_, ?_, ?_⟩
    · refine pu_kn_kg (fun g9 hg9 => ?_) (fun g9 h1 h2 => by rw [eI 11 (by decide)]; exact r1.2 g9 (by omega) h2)
      by_cases c : g9 = ng
      · exact fun ar9 ha9 har9 => Or.inl (by rw [eI 11 (by decide)]; exact r1.2 g9 (by omega) (by omega))
      · exact pu_kg.s (I := I) (fun ar9 ha9 har9 => r1.1 g9 ar9 (by omega) ha9 har9) (SG g9 (by omega)) (by rw [eI 11 (by decide)]) (eI 12 (by decide)) (eI 13 (by decide))
    · rw [eI 3 (by decide), eI 8 (by decide)]
      exact r2 i h1 h2
    · rw [eI 14 (by decide)]; exact r3 g9 (by omega) h2
    · rw [eI 14 (by decide)]
      by_cases c : g9 = ng
      · exact ⟨0, by decide, r3 g9 (by omega) (by omega)⟩
      · exact r4 g9 (by omega)
    · rw [eI 18 (by decide)]; exact r5
    · intro m9 hm9 h1 j hj
      have hl := eofl m9 hm9
      rw [eof, ear _ (by omega)] at h1
      rw [eI 3 (by decide)] at hj
      rw [eI 4 (by decide), eI 5 (by decide)]
      exact r6 m9 hm9 h1 j hj
  · unfold dk_WI at WI ⊢
    rw [hx0, hx 7 0 (by decide) (by omega), pk_un (by decide), pk_un (by decide), pk_un (by decide)]
    exact WI
/-! klass -/
theorem pu_is_up {par : Nat → Int32} {d : Nat} {v : Int32} (w : pu_wp par nc) (h8 : nc ≤ 8) : ∀ f c, c < nc → pu_is (upd par nc v) f c d = pu_is par f c d := by
  intro f
  induction f with
  | zero => intro c _; rfl
  | succ f ih =>
    intro c hc
    rw [pu_is, pu_is, pk_un (by omega)]
    by_cases c0 : 0 < c
    · obtain ⟨p, hp, ep⟩ := w c c0 hc
      rw [ep, nI_clamp (by omega), ih p (by omega)]
    · rw [decide_eq_false c0, Bool.false_and, Bool.false_and]
theorem pu_is_fu {par : Nat → Int32} {d : Nat} (w : pu_wp par nc) (h8 : nc ≤ 8) : ∀ f c, c ≤ f → c < nc → pu_is par (f + 1) c d = pu_is par f c d := by
  intro f
  induction f with
  | zero =>
    intro c hc _
    rw [show c = 0 by omega, pu_is, pu_is, decide_eq_false (Nat.lt_irrefl 0), Bool.false_and, Bool.or_false]
  | succ f ih =>
    intro c hc hn
    rw [pu_is, show pu_is par (f + 1) c d = (decide (c = d) || (decide (0 < c) && pu_is par f (par c).toNatClampNeg d)) from rfl]
    by_cases c0 : 0 < c
    · obtain ⟨p, hp, ep⟩ := w c c0 hn
      rw [ep, nI_clamp (by omega), ih p (by omega) (by omega)]
    · rw [decide_eq_false c0, Bool.false_and, Bool.false_and]
theorem dk_odn_s {g : Nat} : ∀ j, g < j → dk_odn X j 20 g = upd (X 20 g) 7 0 ∧ dk_odn X j 21 g = upd (X 21 g) 3 0
  | 0, h => absurd h (Nat.not_lt_zero g)
  | j + 1, h => by
    have hge : ∀ i, i ≤ g → ∀ k, dk_odn X i k g = X k g := by
      intro i
      induction i with
      | zero => intro _ k; rfl
      | succ i ih => intro hi k; rw [dk_odn, dk_odi (by omega)]; exact ih (by omega) k
    rw [dk_odn]
    by_cases c : g = j
    · subst c
      rw [dk_od20, dk_od21, hge g (Nat.le_refl _), hge g (Nat.le_refl _)]
      exact ⟨rfl, rfl⟩
    · rw [dk_odi c, dk_odi c]
      exact dk_odn_s j (by omega)
theorem dk_ST.kls (T : dk_ST F ad ng nM na no X Y Z I nc oc ow) {k : Nat} (hk : k < nc) (h8 : nc < 8) : dk_ST (md_fs (md_fs (md_fs F 0 0) 1 (nI (nc + 1))) 18 0) ad ng nM na no (dk_xk X ng nc k) Y Z (pu_fg (pu_fg (pu_fg (pu_fg (md_is I 0 (upd (I 0) nc (nI k))) 0) 1) 2) 3) (nc + 1) oc ow := by
  obtain ⟨⟨⟨v1, v2, v3⟩, v4, ⟨v5, v6, v7, v8, v9⟩, v10⟩, RI, WI⟩ := T
  have g4 := v1.g4
  have m12 := v1.m12
  have W0 := pu_W_fg (pu_W_fg (pu_W_fg (pu_W_fg (pu_W_klass v1 hk h8) 0) 1) 2) 3
  have eI : ∀ j, ¬ j = 0 → ¬ j = 11 → ¬ j = 14 → pu_fg (pu_fg (pu_fg (pu_fg (md_is I 0 (upd (I 0) nc (nI k))) 0) 1) 2) 3 j = I j := by
    intro j c1 c2 c3
    unfold pu_fg md_is
    simp only [if_neg c1, if_neg c2, if_neg c3]
  have e0 : pu_fg (pu_fg (pu_fg (pu_fg (md_is I 0 (upd (I 0) nc (nI k))) 0) 1) 2) 3 0 = upd (I 0) nc (nI k) := rfl
  have ez : ∀ j, (j = 11 ∨ j = 14) → ∀ g, g < 4 → pu_fg (pu_fg (pu_fg (pu_fg (md_is I 0 (upd (I 0) nc (nI k))) 0) 1) 2) 3 j g = 0 := by
    intro j hj g hg
    rcases hj with rfl | rfl
    · show upd (upd (upd (upd (I 11) 0 0) 1 0) 2 0) 3 0 g = 0
      unfold upd
      split
      · rfl
      · split
        · rfl
        · split
          · rfl
          · split
            · rfl
            · omega
    · show upd (upd (upd (upd (I 14) 0 0) 1 0) 2 0) 3 0 g = 0
      unfold upd
      split
      · rfl
      · split
        · rfl
        · split
          · rfl
          · split
            · rfl
            · omega
  generalize pu_fg (pu_fg (pu_fg (pu_fg (md_is I 0 (upd (I 0) nc (nI k))) 0) 1) 2) 3 = I' at *
  have hx : ∀ j i, ¬ j = 0 → ¬ j = 1 → ¬ j = 2 → ¬ j = 20 → ¬ j = 21 → dk_xk X ng nc k j i = X j i := by
    intro j i c1 c2 c3 c4 c5
    unfold dk_xk
    rw [dk_n (fun z => c2 z.1), dk_n (fun z => c3 z.1), dk_n (fun z => c1 z.1), dk_odn_n (by omega)]
  have hx0 : dk_xk X ng nc k 0 0 = upd (X 0 0) 7 0 := by
    unfold dk_xk
    rw [dk_n (by omega), dk_n (by omega), dk_s, dk_odn_n (by omega)]
  have hx1 : dk_xk X ng nc k 1 0 = upd (X 1 0) 1 (nI (nc + 1)) := by
    unfold dk_xk
    rw [dk_s]
  have hx2 : dk_xk X ng nc k 2 0 = upd (X 2 0) nc (X 2 0 k ||| i1 nc) := by
    unfold dk_xk
    rw [dk_n (by omega), dk_s]
  have hx20 : ∀ g, g < ng → dk_xk X ng nc k 20 g = upd (X 20 g) 7 0 := by
    intro g hg
    unfold dk_xk
    rw [dk_n (by omega), dk_n (by omega), dk_n (by omega)]
    exact (dk_odn_s ng hg).1
  have hx21 : ∀ g, g < ng → dk_xk X ng nc k 21 g = upd (X 21 g) 3 0 := by
    intro g hg
    unfold dk_xk
    rw [dk_n (by omega), dk_n (by omega), dk_n (by omega)]
    exact (dk_odn_s ng hg).2
  generalize dk_xk X ng nc k = X' at *
  have eof : ∀ i, mq_of I' i = mq_of I i := fun i => by unfold mq_of; rw [eI 2 (by decide) (by decide) (by decide)]
  have ear : ∀ i, mq_ar I' i = mq_ar I i := fun i => by unfold mq_ar; rw [eI 1 (by decide) (by decide) (by decide)]
  have h30 : ∀ i, X' 30 i = X 30 i := fun i => hx 30 i (by decide) (by decide) (by decide) (by decide) (by decide)
  have h33 : ∀ i, X' 33 i = X 33 i := fun i => hx 33 i (by decide) (by decide) (by decide) (by decide) (by decide)
  refine ⟨⟨⟨pu_W_cf W0 rfl rfl rfl, ?_, ?_⟩, fun g9 hg9 => ?_, ⟨?_, ?_, v7, v8, v9⟩, fun m9 hm9 => ?_⟩, ?_, ?_⟩
  · obtain ⟨b1, b2, b3, b4, b5⟩ := v2
    refine ⟨⟨by rw [hx1]; exact pk_us, fun c d hc hd => ?_⟩, b2, by omega, by omega, fun m9 hm9 => ?_⟩
    · rw [hx2, e0]
      by_cases cc : c = nc
      · subst cc
        rw [pk_us, b_or, bt_one (by omega) (by omega), b1.2 k d hk hd, show pu_is (upd (I 0) c (nI k)) 8 c d = (decide (c = d) || (decide (0 < c) && pu_is (upd (I 0) c (nI k)) 7 (upd (I 0) c (nI k) c).toNatClampNeg d)) from rfl, pk_us, nI_clamp (by omega), pu_is_up v1.2.2.2.2.2.2.2.1 (by omega) 7 k hk, ← pu_is_fu v1.2.2.2.2.2.2.2.1 (by omega) 7 k (by omega) hk, decide_eq_true (show 0 < c by omega), Bool.true_and, Bool.or_comm, show decide (d = c) = decide (c = d) from decide_eq_decide.mpr eq_comm]
      · rw [pk_un cc, pu_is_up v1.2.2.2.2.2.2.2.1 (by omega) 8 c (by omega)]
        exact b1.2 c d (by omega) hd
    · obtain ⟨c1, c2, c3, c4, c5⟩ := b5 m9 hm9
      rw [h30, eI 3 (by decide) (by decide) (by decide)]
      refine ⟨c1, c2, c3, c4, fun j hj => ?_⟩
      rw [h33, eI 7 (by decide) (by decide) (by decide)]
      refine ⟨(c5 j hj).1, ?_, (c5 j hj).2.2⟩
      obtain ⟨d1, d2, d3, d4, d5, kd, wh, d6, d7, d8, d9, d10⟩ := (c5 j hj).2.1
      unfold dk_ao
      rw [h33, eI 4 (by decide) (by decide) (by decide), eI 5 (by decide) (by decide) (by decide), eI 6 (by decide) (by decide) (by decide)]
      exact ⟨d1, d2, d3, d4, d5, kd, wh, d6, d7, d8, d9, fun z => by obtain ⟨xd, y1, y2⟩ := d10 z; exact ⟨xd, by omega, y2⟩⟩
  · intro m9 hm9
    have q0 := v3 m9 hm9
    unfold mq_no mq_kd at q0 ⊢
    obtain ⟨q1, q2, q3⟩ := q0
    rw [eI 8 (by decide) (by decide) (by decide), eI 9 (by decide) (by decide) (by decide), eI 10 (by decide) (by decide) (by decide), eof, ear]
    refine ⟨q1, q2, fun j hj => ?_⟩
    obtain ⟨w1, w2, w3⟩ := q3 j hj
    refine ⟨w1, w2, ?_⟩
    unfold pu_oin at w3 ⊢
    split
    · rename_i c; rw [if_pos c] at w3; exact w3
    · rename_i c
      rw [if_neg c] at w3
      split
      · rename_i c2; rw [if_pos c2] at w3; exact w3
      · rename_i c2
        rw [if_neg c2] at w3
        split
        · rename_i c3
          rw [if_pos c3] at w3
          obtain ⟨t, t1, t2⟩ := (pu_iv_0 (by omega)).mp w3
          exact (pu_iv_0 (by omega)).mpr ⟨t, by omega, t2⟩
        · rename_i c3
          rw [if_neg c3] at w3
          exact w3
  · obtain ⟨⟨⟨o1, o2, o3, o4⟩, q2, q3, q5, q6⟩, _⟩ := v4 g9 hg9
    refine dk_IG_out ⟨by rw [hx20 g9 hg9, pk_un (by decide)]; exact o1, o2, o3, fun j hj => by rw [h30]; exact o4 j hj⟩ ?_ (by rw [hx20 g9 hg9, pk_un (by decide), ear]; exact q3) (by rw [ear]; exact q5) (by rw [hx20 g9 hg9, pk_un (by decide), eI 2 (by decide) (by decide) (by decide)]; exact q6) (by rw [hx20 g9 hg9]; exact pk_us) (ez 14 (Or.inr rfl) g9 (by omega)) (by rw [hx21 g9 hg9]; exact pk_us)
    unfold dk_en at q2 ⊢
    rw [eI 2 (by decide) (by decide) (by decide)]
    exact q2
  · rw [hx0, pk_un (by decide)]; exact v5
  · rw [hx0, pk_un (by decide)]; exact v6
  · obtain ⟨q1, q2, q3, q4, q5⟩ := v10 m9 hm9
    rw [eof, h30, eI 8 (by decide) (by decide) (by decide)]
    refine ⟨q1, q2, q3, q4, fun j hj => ?_⟩
    rw [hx 34 _ (by decide) (by decide) (by decide) (by decide) (by decide), eI 9 (by decide) (by decide) (by decide), eI 10 (by decide) (by decide) (by decide)]
    exact q5 j hj
  · obtain ⟨r1, r2, r3, r4, r5, r6⟩ := RI
    refine ⟨⟨fun g9 ar9 hg9 ha9 har9 => Or.inl (ez 11 (Or.inl rfl) g9 (by omega)), fun g9 h1 h2 => ez 11 (Or.inl rfl) g9 h2⟩, fun i h1 h2 => ?_, fun g9 h1 h2 => ez 14 (Or.inr rfl) g9 h2, fun g9 hg9 => ⟨0, by decide, ez 14 (Or.inr rfl) g9 (by omega)⟩, ?_, ?_⟩
    · rw [eI 3 (by decide) (by decide) (by decide), eI 8 (by decide) (by decide) (by decide)]
      exact r2 i h1 h2
    · rw [eI 18 (by decide) (by decide) (by decide)]; exact r5
    · intro m9 hm9
      rw [eof, ear, eI 3 (by decide) (by decide) (by decide), eI 4 (by decide) (by decide) (by decide), eI 5 (by decide) (by decide) (by decide)]
      exact r6 m9 hm9
  · unfold dk_WI at WI ⊢
    rw [hx0, hx 7 0 (by decide) (by decide) (by decide) (by decide) (by decide)]
    exact ⟨pk_us, Or.inl rfl, WI.2.2⟩
end DGE
