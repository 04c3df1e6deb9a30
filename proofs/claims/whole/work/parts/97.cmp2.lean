/-! compile keeps desk and reference alike -/
def tg_lf (G : List tg_N) (P : Int32 → Prop) : Prop := ∀ (k : Nat) (x : tg_N), G[k]? = some x → x.1 < 0 → x.1 = -1 ∧ P x.2.1
theorem tg_add_lf {G : List tg_N} {P : Int32 → Prop} {x : tg_N} (hG : tg_lf G P) (hx : x.1 < 0 → x.1 = -1 ∧ P x.2.1) : tg_lf (tg_add G x).1 P := by
  unfold tg_add
  split
  · exact hG
  · split
    · exact hG
    · intro k y hy hl
      have hy2 : (G ++ [x])[k]? = some y := hy
      rcases Nat.lt_trichotomy k G.length with c | c | c
      · rw [List.getElem?_append_left c] at hy2
        exact hG k y hy2 hl
      · subst c
        rw [List.getElem?_append_right (Nat.le_refl _), Nat.sub_self] at hy2
        have e : x = y := by simpa using hy2
        subst e
        exact hx hl
      · rw [List.getElem?_eq_none (by simp; omega)] at hy2
        cases hy2
theorem tg_tree_lf {pas : Nat → Nat → Bool} {be : Nat → Int32} {T : Nat} {P : Int32 → Prop} (hT : T ≤ 48) : ∀ f S G, (∀ r, r ∈ S → P (be r)) → tg_lf G P → tg_lf (tg_tree pas be T f S G).1 P := by
  intro f
  induction f with
  | zero => intro S G _ h; exact h
  | succ f ih =>
    intro S G hS h
    match S with
    | [] => exact h
    | r0 :: S =>
      rw [tg_tree]
      split
      · exact tg_add_lf h (fun _ => ⟨rfl, hS r0 (List.mem_cons_self ..)⟩)
      · split
        · exact h
        · rename_i t hf
          have ht : t < T := List.mem_range.mp (List.mem_of_find?_eq_some hf)
          have w1 := ih ((r0 :: S).filter fun r => pas r t) G (fun r hr => hS r (List.mem_filter.mp hr).1) h
          have w2 := ih ((r0 :: S).filter fun r => !pas r t) _ (fun r hr => hS r (List.mem_filter.mp hr).1) w1
          split
          · exact w1
          · split
            · exact w2
            · exact tg_add_lf w2 (fun z => absurd z (nI_pos (by omega)))
theorem mq_G_gr {I : mq_M} {g : Nat} {G : List tg_N} (h : pu_gr I g G) : mq_G I g = G := by
  obtain ⟨h1, h2, h3⟩ := h
  have el : (mq_G I g).length = G.length := by
    unfold mq_G
    rw [List.length_map, List.length_range, h2, nI_clamp (by omega)]
  apply List.ext_getElem?
  intro k
  by_cases c : k < G.length
  · rw [mq_G_at (by omega), List.getElem?_eq_getElem c]
    obtain ⟨a1, a2, a3⟩ := h3 k _ (List.getElem?_eq_getElem c)
    rw [a1, a2, a3]
  · rw [List.getElem?_eq_none (by omega), List.getElem?_eq_none (by omega)]
section DCM
variable {F : Nat → Int32} {ad : Nat → Nat → Nat} {ng nM : Nat} {na no : Nat → Nat} {X Xf X' : dk_X} {Y Yf Y' : dk_Y} {Z Zf : dk_Z} {I I2 : mq_M} {nc : Nat} {oc : Nat → Nat} {ow : Nat → Nat → Nat}
theorem pu_g3_off {g : Nat} (W : pu_W F I nc ng nM) : (∀ j, ¬ j = g → pu_g3 I g nM 18 j = I 18 j) ∧ ∀ k, (k = 19 ∨ k = 20 ∨ k = 21) → ∀ j, (j < 48 * g ∨ 48 * g + 48 ≤ j) → pu_g3 I g nM k j = I k j := by
  have h12 := W.m12
  have key : ∀ n, n ≤ nM → (∀ j, ¬ j = g → pu_g3 I g n 18 j = I 18 j) ∧ ∀ k, (k = 19 ∨ k = 20 ∨ k = 21) → ∀ j, (j < 48 * g ∨ 48 * g + 48 ≤ j) → pu_g3 I g n k j = I k j := by
    intro n
    induction n with
    | zero =>
      intro _
      refine ⟨fun j hj => pk_un hj, fun k hk j _ => ?_⟩
      rw [pu_g3]
      exact congrFun (if_neg (by omega)) j
    | succ n ih =>
      intro hn
      have ih := ih (by omega)
      rw [pu_g3]
      by_cases c : I 2 n = nI g
      · rw [if_pos c]
        obtain ⟨a, ha4, ea, hwa⟩ := W.ats n (by omega)
        have hin := pu_g3_inv (g := g) W n (by omega)
        have key2 : ∀ j, j ≤ (I 3 n).toNatClampNeg → (∀ i, ¬ i = g → pu_g2 (pu_g3 I g n) g n j 18 i = I 18 i) ∧ ∀ k, (k = 19 ∨ k = 20 ∨ k = 21) → ∀ i, (i < 48 * g ∨ 48 * g + 48 ≤ i) → pu_g2 (pu_g3 I g n) g n j k i = I k i := by
          intro j
          induction j with
          | zero => intro _; exact ih
          | succ j ihj =>
            intro hj
            have hj4 : j < a := by rw [ea, nI_clamp (by omega)] at hj; omega
            have hi2 := pu_g2_inv (m := n) hin j (by omega) (fun i hi => hwa i (by omega))
            have hT := pu_gI_T hi2 (by omega)
            obtain ⟨i1a, i2a⟩ := ihj (by omega)
            rw [pu_g2]
            generalize pu_g2 (pu_g3 I g n) g n j = Q at hT i1a i2a ⊢
            unfold pu_g1
            generalize (Q 18 g).toNatClampNeg = T at hT ⊢
            unfold pu_g0
            split
            · exact ⟨i1a, i2a⟩
            · refine ⟨fun i hi => ?_, fun k hk i hi => ?_⟩
              · exact (pk_un hi).trans (i1a i hi)
              · have q := i2a k hk i hi
                rcases hk with rfl | rfl | rfl
                · exact (pk_un (by omega)).trans q
                · exact (pk_un (by omega)).trans q
                · exact (pk_un (by omega)).trans q
        exact key2 _ (Nat.le_refl _)
      · rw [if_neg c]
        exact ih
  exact key nM (Nat.le_refl _)
theorem pu_tre_tr9 {J : Nat → Nat → Int64} {g ar : Nat} (W : pu_W F I nc ng nM) (kn : pu_kn I nc ng nM) (hg : g < ng) (har : I 1 g = nI ar) (ha : ar ≤ 2) : pu_tre (pu_g3 (pu_know I nc nM g ar) g nM) (pu_gJ (pu_know I nc nM g ar) J nc nM g ar 22) nM g (pu_gT (pu_know I nc nM g ar) g nM) (pu_R nc ar) = dk_tr9 I nc nM g ar := by
  have S : pu_sg I (pu_know I nc nM g ar) nM nM g := pu_sg_rw (fun k hk => pu_know_8 _ _ _ _ _ k (by omega))
  obtain ⟨t1, t2⟩ := S.g3 W
  have T48 := (pu_T48 (g := g) W).1
  have eT : pu_gT (pu_know I nc nM g ar) g nM = dk_T (pu_g3 I g nM) g := by
    unfold pu_gT dk_T
    rw [t1]
  have al : ∀ r, r ∈ List.range (pu_R nc ar) → tg_al (fun r t => bl (pu_gJ (pu_know I nc nM g ar) J nc nM g ar 22 r) t) (pu_pz (pu_g3 I g nM) g nc ar) (pu_best (pu_g3 (pu_know I nc nM g ar) g nM) nM g) (pu_bs I nc nM g ar) (dk_T (pu_g3 I g nM) g) r r := by
    intro r hr
    have hr := List.mem_range.mp hr
    refine ⟨?_, fun t ht => ?_⟩
    · rw [← pu_best_bs kn W.m12 hg ha har hr]
      unfold pu_best
      rw [pu_g3_lo 12 (by decide), pu_g3_lo 13 (by decide)]
    · show bl (pu_gJ (pu_know I nc nM g ar) J nc nM g ar 22 r) t = _
      rw [pu_gJ_22 hr, eT, l_ls _ _ (by omega) t (by omega), decide_eq_true ht, Bool.true_and]
      obtain ⟨b1, b2, b3⟩ := t2 t ht
      unfold pu_pz
      rw [b1, b2, b3, pu_g3_lo 0 (by decide), pu_g3_lo 0 (by decide), pu_know_8 _ _ _ _ _ 0 (by decide)]
  unfold pu_tre dk_tr9
  rw [eT]
  exact tg_tree_cg _ _ _ _ ⟨fun r hr => ⟨r, hr, al r hr⟩, fun r hr => ⟨r, hr, al r hr⟩⟩
theorem dk_trG_lf {g ar : Nat} (W : pu_W F I nc ng nM) : tg_wf (dk_trG I nc nM g ar) (dk_T (pu_g3 I g nM) g) ∧ tg_lf (dk_trG I nc nM g ar) (fun v => v < 0 ∨ ∃ m, (m < nM ∧ I 2 m = nI g) ∧ v = nI m) := by
  have T48 := (pu_T48 (g := g) W).1
  have h12 := W.m12
  unfold dk_trG
  split
  · exact ⟨fun k x hx => by simp at hx, fun k x hx => by simp at hx⟩
  · unfold dk_tr9
    refine ⟨(tg_tree_wf _ _ [] (fun k x hx => by simp at hx)).1, tg_tree_lf T48 _ _ [] (fun r hr => ?_) (fun k x hx => by simp at hx)⟩
    rcases pu_fm_rg (pu_A I nc nM g ar r) (pu_B I nc nM g ar) nM with z | ⟨m, z1, z2, z3⟩
    · exact Or.inl z
    · exact Or.inr ⟨m, ⟨z1, pu_A_of h12 z3 z1⟩, z2⟩
theorem dk_ST.cmp (T : dk_ST F ad ng nM na no X Y Z I nc oc ow) (V : dk_IV F ad ng nM na no Xf Yf Zf I nc oc ow) {g ar : Nat} (hg : g < ng) (har : I 1 g = nI ar) (ha : ar = 1 ∨ ar = 2) (h7 : Xf 20 g 7 = 1) (fr : dk_fr X Xf Z Zf) (gr : dk_gr X' g (dk_trG I nc nM g ar)) (fb : dk_fb g Xf X' Yf Y') (ch : dk_ch X' Y' (ow g) g (oc g)) (oth : pu_oth (pu_g3 (pu_know I nc nM g ar) g nM) I2 g) (hG : mq_G I2 g = dk_trG I nc nM g ar) (h14 : I2 14 g = nI (mq_G I2 g).length) (v : Int32) : dk_ST (md_fs F 0 v) ad ng nM na no X' Y' Zf I2 nc oc ow := by
  obtain ⟨_, RI, WI⟩ := T
  obtain ⟨⟨v1, v2, v3⟩, v4, ⟨v5, v6, v7, v8, v9⟩, v10⟩ := V
  obtain ⟨f1, f2, f3⟩ := fb
  have g4 := v1.g4
  have m12 := v1.m12
  have ear9 : mq_ar I g = ar := by unfold mq_ar; rw [har, nI_clamp (by omega)]
  have eK : ∀ k, ¬ k = 11 → ¬ k = 12 → ¬ k = 13 → pu_know I nc nM g ar k = I k := fun k c1 c2 c3 => pu_know_8 _ _ _ _ _ k ⟨c1, c2, c3⟩
  have WK : pu_W F (pu_know I nc nM g ar) nc ng nM := pu_W_k v1 g ar
  obtain ⟨off1, off2⟩ := pu_g3_off (g := g) WK
  have eI : ∀ k, k < 11 → I2 k = I k := fun k hk => by rw [oth.1 k (by omega), pu_g3_lo k (by omega), eK k (by omega) (by omega) (by omega)]
  have eKn : ∀ k, k < 14 → I2 k = pu_know I nc nM g ar k := fun k hk => by rw [oth.1 k (by omega), pu_g3_lo k (by omega)]
  have e14 : ∀ j, ¬ j = g → I2 14 j = I 14 j := fun j hj => by rw [oth.2.1 j hj, pu_g3_lo 14 (by omega), eK 14 (by omega) (by omega) (by omega)]
  have e15 : ∀ k, (k = 15 ∨ k = 16 ∨ k = 17) → ∀ g9 j, ¬ g9 = g → j < 80 → I2 k (80 * g9 + j) = I k (80 * g9 + j) := fun k hk g9 j hg9 hj => by rw [oth.2.2 k hk _ (by omega), pu_g3_lo k (by omega), eK k (by omega) (by omega) (by omega)]
  have e18 : ∀ j, ¬ j = g → I2 18 j = I 18 j := fun j hj => by rw [oth.1 18 (by omega), off1 j hj, eK 18 (by omega) (by omega) (by omega)]
  have e19 : ∀ k, (k = 19 ∨ k = 20 ∨ k = 21) → ∀ g9 j, ¬ g9 = g → j < 48 → I2 k (48 * g9 + j) = I k (48 * g9 + j) := fun k hk g9 j hg9 hj => by rw [oth.1 k (by omega), off2 k hk _ (by omega), eK k (by omega) (by omega) (by omega)]
  have eof : ∀ i, mq_of I2 i = mq_of I i := fun i => by unfold mq_of; rw [eI 2 (by omega)]
  have ear : ∀ i, mq_ar I2 i = mq_ar I i := fun i => by unfold mq_ar; rw [eI 1 (by omega)]
  have S9 : ∀ g9, pu_sg I I2 nM nM g9 := fun g9 => pu_sg_rw (fun k hk => eI k (by omega))
  have hx : ∀ k i, ¬ (k = 20 ∨ k = 21 ∨ k = 22 ∨ k = 23 ∨ k = 24) → X' k i = Xf k i := fun k i c => f1 k i (fun z => c z.1)
  have hxi : ∀ k i, ¬ i = g → X' k i = Xf k i := fun k i c => f1 k i (fun z => c z.2)
  have h30 : ∀ i, X' 30 i = Xf 30 i := fun i => hx 30 i (by omega)
  have h33 : ∀ i, X' 33 i = Xf 33 i := fun i => hx 33 i (by omega)
  have hy : ∀ k i, ¬ k = 20 → ¬ k = 6 → Y' k i = Yf k i := fun k i c1 c2 => f3 k i (fun z => c1 z.1) c2
  have na4 : ∀ i, i < nM → na i ≤ 4 := fun i hi => (v2.2.2.2.2 i hi).2.2.1
  have T48 := pu_T48 (g := g) v1
  obtain ⟨t1, t2⟩ := (S9 g).g3 v1
  have eT : dk_T (pu_g3 I2 g nM) g = dk_T (pu_g3 I g nM) g := by
    unfold dk_T
    rw [t1]
  have SK : pu_sg I (pu_know I nc nM g ar) nM nM g := pu_sg_rw (fun k hk => eK k (by omega) (by omega) (by omega))
  obtain ⟨k1, k2⟩ := SK.g3 v1
  have e18g : I2 18 g = nI (dk_T (pu_g3 I g nM) g) := by rw [oth.1 18 (by omega), k1, T48.2]
  refine ⟨⟨⟨pu_W_cf (pu_W_cg v1 (fun k hk => eI k (by omega))) rfl rfl rfl, ?_, ?_⟩, fun g9 hg9 => ?_, ⟨by rw [hx 0 0 (by omega)]; exact v5, by rw [hx 0 0 (by omega)]; exact v6, v7, v8, v9⟩, fun m9 hm9 => ?_⟩, ?_, ?_⟩
  · obtain ⟨b1, b2, b3, b4, b5⟩ := v2
    refine ⟨by rw [eI 0 (by omega)]; exact dk_hi_cg b1 (hx 1 0 (by omega)) (hx 2 0 (by omega)), b2, b3, b4, fun m9 hm9 => ?_⟩
    obtain ⟨c1, c2, c3, c4, c5⟩ := b5 m9 hm9
    rw [h30, eI 3 (by omega)]
    refine ⟨c1, c2, c3, c4, fun j hj => ?_⟩
    rw [h33, eI 7 (by omega)]
    exact ⟨(c5 j hj).1, dk_ao_cg (c5 j hj).2.1 (h33 _) (eI 4 (by omega)) (eI 5 (by omega)) (eI 6 (by omega)), (c5 j hj).2.2⟩
  · intro m9 hm9
    have q := v3 m9 hm9
    unfold mq_no mq_kd at q ⊢
    rw [eI 8 (by omega), eI 9 (by omega), eI 10 (by omega), eof, ear]
    exact q
  · by_cases c : g9 = g
    · subst c
      obtain ⟨⟨⟨o1, o2, o3, o4⟩, q2, q3, q5, q6⟩, q7, q8, q9⟩ := v4 g9 hg9
      refine ⟨⟨⟨by rw [f2 5 (by decide)]; exact o1, o2, o3, fun k hk => by rw [h30]; exact o4 k hk⟩, dk_en_sg (S9 g9) q2, by rw [f2 0 (by decide), ear]; exact q3, by rw [ear]; exact q5, by rw [f2 6 (by decide), eI 2 (by omega)]; exact q6⟩, ?_, by rw [hG]; exact gr, fun hne => ?_⟩
      · rcases q7 with z | ⟨z1, ⟨tf9, z2⟩, z3⟩
        · rw [h7] at z
          exact absurd z (by decide)
        · refine Or.inr ⟨by rw [f2 7 (by decide)]; exact z1, ⟨tf9, ?_⟩, ch⟩
          rw [ear]
          exact dk_FR_gr v1 (S9 g9) z2 (fun k hk => ⟨(o4 k hk).2.1, na4 _ (o4 k hk).2.1⟩) (fun _ _ => rfl) (hx 26 _ (by omega)) (fun i hl => ⟨h33 i, rfl, hl⟩) (fun k hk => by rw [h30]; exact ⟨rfl, rfl⟩) (f2 6 (by decide)) (hy 26 _ (by decide) (by decide)) (hy 28 _ (by decide) (by decide)) (hy 29 _ (by decide) (by decide)) (fun k hk => hy 30 _ (by decide) (by decide)) rfl
      · obtain ⟨l1, l2⟩ := dk_trG_lf (g := g9) (ar := ar) v1
        rw [hG, eT]
        refine ⟨by rw [f2 7 (by decide)]; exact h7, l1, fun k x hk hx => (l2 k x hk hx).1, fun k x hk hx => ?_, fun t ht => ?_, e18g⟩
        · rcases (l2 k x hk hx).2 with z | ⟨m, ⟨z1, z2⟩, z3⟩
          · exact Or.inl z
          · exact Or.inr ⟨m, ⟨z1, by rw [eI 2 (by omega)]; exact z2⟩, z3⟩
        · obtain ⟨b1, b2, b3⟩ := t2 t ht
          obtain ⟨d1, d2, d3⟩ := k2 t ht
          rw [b1, b2, b3, oth.1 19 (by omega), oth.1 20 (by omega), oth.1 21 (by omega)]
          exact ⟨d1, d2, d3⟩
    · exact dk_IG_gr v1 na4 (S9 g9) (v4 g9 hg9) m12 (fun _ _ => rfl) (fun k _ _ => hxi k g9 c) (fun k h1 h2 => f3 k g9 (fun z => c z.2) (by omega)) (fun _ _ _ => rfl) (fun i hl => ⟨h33 i, rfl, hl⟩) (fun k hk => by rw [h30]; exact ⟨rfl, rfl, rfl, hy 30 _ (by decide) (by decide), rfl⟩) (e14 g9 c) (fun j hj => ⟨e15 15 (by omega) g9 j c hj, e15 16 (by omega) g9 j c hj, e15 17 (by omega) g9 j c hj⟩) (e18 g9 c) (fun j hj => ⟨e19 19 (by omega) g9 j c hj, e19 20 (by omega) g9 j c hj, e19 21 (by omega) g9 j c hj⟩)
  · obtain ⟨q1, q2, q3, q4, q5⟩ := v10 m9 hm9
    rw [eof, h30, eI 8 (by omega)]
    refine ⟨q1, q2, q3, q4, fun j hj => ?_⟩
    rw [hx 34 _ (by omega), eI 9 (by omega), eI 10 (by omega)]
    exact q5 j hj
  · obtain ⟨r1, r2, r3, r4, r5, r6⟩ := RI
    refine ⟨pu_kn_cg eKn (pu_kn_know r1 v1.c8 g4 hg har (by omega)), fun i h1 h2 => ?_, fun g9 h1 h2 => ?_, fun g9 hg9 => ?_, fun g9 hg9 => ?_, fun m9 hm9 => ?_⟩
    · rw [eI 3 (by omega), eI 8 (by omega)]
      exact r2 i h1 h2
    · rw [e14 g9 (by omega)]; exact r3 g9 h1 h2
    · by_cases c : g9 = g
      · subst c
        exact ⟨_, by rw [hG]; exact gr.1, h14⟩
      · rw [e14 g9 c]; exact r4 g9 hg9
    · by_cases c : g9 = g
      · subst c
        exact ⟨_, T48.1, e18g⟩
      · rw [e18 g9 c]; exact r5 g9 hg9
    · rw [eof, ear, eI 3 (by omega), eI 4 (by omega), eI 5 (by omega)]
      exact r6 m9 hm9
  · unfold dk_WI at WI ⊢
    rw [hx 0 0 (by omega), hx 7 0 (by omega), fr.1 0 0 (by omega), fr.1 7 0 (by omega)]
    exact WI
/-- the graphs of the reference are in order -/
theorem dk_ST.gs (T : dk_ST F ad ng nM na no X Y Z I nc oc ow) : pu_gs I ng nM := by
  obtain ⟨⟨⟨v1, v2, v3⟩, v4, _, v10⟩, ⟨r1, r2, r3, r4, r5, r6⟩, WI⟩ := T
  have g4 := v1.g4
  intro g ar hg ha har
  obtain ⟨_, _, q8, q9⟩ := v4 g hg
  have e14 : I 14 g = nI (mq_G I g).length := by
    obtain ⟨N, hN, eN⟩ := r4 g hg
    unfold mq_G
    rw [List.length_map, List.length_range, eN, nI_clamp (by omega)]
  have hgr : pu_gr I g (mq_G I g) := by
    refine ⟨q8.1, e14, fun k x hk => ?_⟩
    have hk2 : k < (mq_G I g).length := by
      by_cases c : k < (mq_G I g).length
      · exact c
      · rw [List.getElem?_eq_none (by omega)] at hk
        cases hk
    rw [mq_G_at hk2] at hk
    have e := Option.some.inj hk
    rw [← e]
    exact ⟨rfl, rfl, rfl⟩
  by_cases c : (mq_G I g).length = 0
  · have e : mq_G I g = [] := List.length_eq_zero_iff.mp c
    refine ⟨0, by decide, hgr, ?_, fun t ht => absurd ht (by omega), ?_⟩
    · rw [e]; intro k x hx; simp at hx
    · rw [e]; intro k x hx; simp at hx
  · obtain ⟨n1, n2, n3, n4, n5, n6⟩ := q9 c
    refine ⟨_, (pu_T48 (g := g) v1).1, hgr, n2, fun t ht => ?_, n4⟩
    obtain ⟨m, j, z1, z2, z3, z4, z5, z6⟩ := pu_g3_at v1 t ht
    obtain ⟨u1, u2, u3⟩ := n5 t ht
    obtain ⟨a, w1, w2, w3⟩ := v1.ats m z1
    have hja : j < a := by rw [w2, nI_clamp (by omega)] at z3; exact z3
    obtain ⟨kd, wh, y1, y2, y3, y4, y5, y6⟩ := w3 j hja
    rw [u1, u2, u3, z4, z5, z6]
    refine ⟨kd, wh, y1, y2, y3, y4, y5, fun h1 => ?_⟩
    have eo : mq_of I m = g := by unfold mq_of; rw [z2, nI_clamp (by omega)]
    have er : mq_ar I g = ar := by unfold mq_ar; rw [har, nI_clamp (by omega)]
    obtain ⟨x1, kd2, x2, x3⟩ := r6 m z1 (by rw [eo, er]; exact h1) j z3
    rw [y4] at x1
    rw [y3] at x3
    have e1 : wh = 0 := (nI_eq (by omega) (by omega)).mp (x1.trans rfl)
    have e2 : kd = kd2 := (nI_eq (by omega) (by omega)).mp x3
    exact ⟨e1, by omega⟩
end DCM
