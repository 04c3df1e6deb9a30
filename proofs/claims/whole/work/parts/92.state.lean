/-! the desk and the reference stand alike -/
def pu_RI (I : mq_M) (nc ng nM : Nat) : Prop := pu_kn I nc ng nM ∧ pu_fresh I nM ∧ (∀ g, ng ≤ g → g < 4 → I 14 g = 0) ∧ (∀ g, g < ng → ∃ N, N ≤ 80 ∧ I 14 g = nI N) ∧ (∀ g, g < 4 → ∃ N, N ≤ 48 ∧ I 18 g = nI N) ∧ ∀ m, m < nM → mq_ar I (mq_of I m) = 1 → ∀ j, j < (I 3 m).toNatClampNeg → I 5 (4 * m + j) = 0 ∧ ∃ kd, kd < 4 ∧ I 4 (4 * m + j) = nI kd
def dk_WI (F : Nat → Int32) (X : dk_X) : Prop := X 0 0 7 = F 18 ∧ (F 18 = 0 ∨ (X 0 0 8 = F 19 ∧ X 0 0 9 = F 20)) ∧ X 7 0 0 = F 43 ∧ X 7 0 1 = F 44
def dk_ST (F : Nat → Int32) (ad : Nat → Nat → Nat) (ng nM : Nat) (na no : Nat → Nat) (X : dk_X) (Y : dk_Y) (Z : dk_Z) (I : mq_M) (nc : Nat) (oc : Nat → Nat) (ow : Nat → Nat → Nat) : Prop := dk_IV F ad ng nM na no X Y Z I nc oc ow ∧ pu_RI I nc ng nM ∧ dk_WI F X
section DST
variable {F F' : Nat → Int32} {ad ad' : Nat → Nat → Nat} {ng nM : Nat} {na no : Nat → Nat} {X X' : dk_X} {Y Y' : dk_Y} {Z Z' : dk_Z} {I I' : mq_M} {nc : Nat} {oc : Nat → Nat} {ow : Nat → Nat → Nat}
/-- rows that are of no matter -/
theorem dk_IV.rows (V : dk_IV F ad ng nM na no X Y Z I nc oc ow) (e : ∀ k, (k < 11 ∨ (13 < k ∧ k < 22)) → I' k = I k) (f1 : F' 1 = F 1) (f3 : F' 3 = F 3) (f5 : F' 5 = F 5) : dk_IV F' ad ng nM na no X Y Z I' nc oc ow := by
  obtain ⟨⟨v1, v2, v3⟩, v4, v5, v10⟩ := V
  have W' : pu_W F' I' nc ng nM := pu_W_cf (pu_W_cg v1 (fun k hk => e k (by omega))) f1 f3 f5
  have eof : ∀ m, mq_of I' m = mq_of I m := fun m => by unfold mq_of; rw [e 2 (by omega)]
  have ear : ∀ g, mq_ar I' g = mq_ar I g := fun g => by unfold mq_ar; rw [e 1 (by omega)]
  have S : ∀ g, pu_sg I I' nM nM g := fun g => pu_sg_rw (fun k hk => e k (by omega))
  refine ⟨⟨W', ?_, ?_⟩, fun g hg => ?_, v5, fun m hm => ?_⟩
  · obtain ⟨b1, b2, b3, b4, b5⟩ := v2
    refine ⟨by rw [e 0 (by omega)]; exact b1, b2, b3, b4, fun m hm => ?_⟩
    obtain ⟨c1, c2, c3, c4, c5⟩ := b5 m hm
    refine ⟨c1, c2, c3, by rw [e 3 (by omega)]; exact c4, fun k hk => ⟨(c5 k hk).1, dk_ao_cg (c5 k hk).2.1 rfl (e 4 (by omega)) (e 5 (by omega)) (e 6 (by omega)), by rw [e 7 (by omega)]; exact (c5 k hk).2.2⟩⟩
  · intro m hm
    have q := v3 m hm
    unfold mq_no mq_kd at q ⊢
    rw [e 8 (by omega), e 9 (by omega), e 10 (by omega), eof, ear]
    exact q
  · refine dk_IG_gr v1 (fun m hm => (v2.2.2.2.2 m hm).2.2.1) (S g) (v4 g hg) v1.m12 (fun _ _ => rfl) (fun _ _ _ => rfl) (fun _ _ _ => rfl) (fun _ _ _ => rfl) (fun i hl => ⟨rfl, rfl, hl⟩) (fun k hk => ⟨rfl, rfl, rfl, rfl, rfl⟩) (by rw [e 14 (by omega)]) (fun j _ => ⟨by rw [e 15 (by omega)], by rw [e 16 (by omega)], by rw [e 17 (by omega)]⟩) (by rw [e 18 (by omega)]) (fun j _ => ⟨by rw [e 19 (by omega)], by rw [e 20 (by omega)], by rw [e 21 (by omega)]⟩)
  · rw [eof, e 8 (by omega), e 9 (by omega), e 10 (by omega)]
    exact v10 m hm
theorem pu_RI.rows (R : pu_RI I nc ng nM) (e : ∀ k, (k < 11 ∨ (13 < k ∧ k < 22)) → I' k = I k) (kn : pu_kn I' nc ng nM) : pu_RI I' nc ng nM := by
  obtain ⟨r1, r2, r3, r4, r5, r6⟩ := R
  refine ⟨kn, ?_, fun g h1 h2 => ?_, ?_, ?_, ?_⟩
  · unfold pu_fresh
    rw [e 3 (by omega), e 8 (by omega)]
    exact r2
  · rw [e 14 (by omega)]
    exact r3 g h1 h2
  · rw [e 14 (by omega)]
    exact r4
  · rw [e 18 (by omega)]
    exact r5
  · unfold mq_ar mq_of
    rw [e 1 (by omega), e 2 (by omega), e 3 (by omega), e 4 (by omega), e 5 (by omega)]
    exact r6
theorem pu_know_11 {g ar : Nat} {j : Nat} (hj : ¬ j = g) : pu_know I nc nM g ar 11 j = I 11 j := by
  unfold pu_know
  split
  · exact pk_un hj
  · rfl
theorem pu_RI.know (R : pu_RI I nc ng nM) {g ar : Nat} (h8 : nc ≤ 8) (h4 : ng ≤ 4) (hg : g < ng) (har : I 1 g = nI ar) (ha : ar ≤ 2) : pu_RI (pu_know I nc nM g ar) nc ng nM := R.rows (fun k hk => pu_know_8 _ _ _ _ _ k (by omega)) (pu_kn_know R.1 h8 h4 hg har ha)
/-- a throw -/
theorem dk_ST.f0 (T : dk_ST F ad ng nM na no X Y Z I nc oc ow) (v : Int32) : dk_ST (md_fs F 0 v) ad ng nM na no X Y Z I nc oc ow := ⟨T.1.rows (fun _ _ => rfl) rfl rfl rfl, T.2.1, T.2.2⟩
/-- beyond, best -/
theorem dk_ST.ask (T : dk_ST F ad ng nM na no X Y Z I nc oc ow) (V : dk_IV F ad ng nM na no X' Y' Z' I nc oc ow) (e0 : X' 0 0 = X 0 0) (e7 : X' 7 0 = X 7 0) {g ar : Nat} (hg : g < ng) (har : I 1 g = nI ar) (ha : ar = 1 ∨ ar = 2) (v : Int32) : dk_ST (md_fs F 0 v) ad ng nM na no X' Y' Z' (pu_know I nc nM g ar) nc oc ow := by
  have W := T.1.1.1
  refine ⟨V.rows (fun k hk => pu_know_8 _ _ _ _ _ k (by omega)) rfl rfl rfl, T.2.1.know W.c8 W.g4 hg har (by omega), ?_⟩
  have q := T.2.2
  unfold dk_WI at q ⊢
  rw [e0, e7]
  exact q
/-- check: no witness -/
theorem dk_ST.chk0 (T : dk_ST F ad ng nM na no X Y Z I nc oc ow) (V : dk_IV F ad ng nM na no X' Y' Z' I nc oc ow) (e0 : X' 0 0 7 = 0) (e7 : X' 7 0 = X 7 0) {g ar : Nat} (hg : g < ng) (har : I 1 g = nI ar) (ha : ar = 1 ∨ ar = 2) : dk_ST (md_fs (md_fs F 0 0) 18 0) ad ng nM na no X' Y' Z' (pu_know I nc nM g ar) nc oc ow := by
  have W := T.1.1.1
  refine ⟨V.rows (fun k hk => pu_know_8 _ _ _ _ _ k (by omega)) rfl rfl rfl, T.2.1.know W.c8 W.g4 hg har (by omega), ?_⟩
  have q := T.2.2
  unfold dk_WI at q ⊢
  rw [e0, e7]
  exact ⟨rfl, Or.inl rfl, q.2.2⟩
theorem dk_ST.chk1 (T : dk_ST F ad ng nM na no X Y Z I nc oc ow) (V : dk_IV F ad ng nM na no X' Y' Z' I nc oc ow) {w0 w1 w2 : Int32} (e0 : X' 0 0 7 = w0) (e1 : X' 0 0 8 = w1) (e2 : X' 0 0 9 = w2) (e7 : X' 7 0 = X 7 0) {g ar : Nat} (hg : g < ng) (har : I 1 g = nI ar) (ha : ar = 1 ∨ ar = 2) : dk_ST (md_fs (md_fs (md_fs (md_fs F 0 0) 18 w0) 19 w1) 20 w2) ad ng nM na no X' Y' Z' (pu_know I nc nM g ar) nc oc ow := by
  have W := T.1.1.1
  refine ⟨V.rows (fun k hk => pu_know_8 _ _ _ _ _ k (by omega)) rfl rfl rfl, T.2.1.know W.c8 W.g4 hg har (by omega), ?_⟩
  have q := T.2.2
  unfold dk_WI at q ⊢
  rw [e0, e1, e2, e7]
  exact ⟨rfl, Or.inr ⟨rfl, rfl⟩, q.2.2⟩
/-! a run: class and reference end alike -/
theorem mq_mu_step {z : mq_S} {k : Nat} (h : mq_mu z (k + 1)) (h1 : ¬ z.2.2.1.length = 0) (h2 : z.2.2.2.1 = 0) : mq_mu (mq_step I nc nM z) k := by
  rcases h with h | h
  · exact absurd h2 h
  · obtain ⟨fu, th, fs, en, re⟩ := z
    cases fs with
    | nil => exact absurd rfl h1
    | cons f fs =>
      obtain ⟨m, x, y, a, st⟩ := f
      have h : 2 * fu + (fs.length + 1) ≤ k + 1 := h
      rw [mq_step]
      split
      · split
        · exact Or.inl (show ¬ (-3 : Int32) = 0 by decide)
        · refine mq_mu_le mq_mu_do ?_
          omega
      · exact mq_mu_le (mq_mu_back fs) (by omega)
theorem mq_pt_le {z' : mq_S} : ∀ j k z, mq_mu z k → mq_pt I nc nM j z z' → j ≤ k ∧ mq_mu z' (k - j)
  | 0, k, z, hm, h => by
    have h9 : z = z' := h
    subst h9
    exact ⟨Nat.zero_le _, hm⟩
  | j + 1, k, z, hm, h => by
    obtain ⟨h1, h2, h3⟩ := h
    have hk : 0 < k := by
      rcases hm with q | q
      · exact absurd h2 q
      · have : 0 < z.2.2.1.length := Nat.pos_of_ne_zero h1
        omega
    obtain ⟨k, rfl⟩ : ∃ k9, k = k9 + 1 := ⟨k - 1, by omega⟩
    obtain ⟨a1, a2⟩ := mq_pt_le j k _ (mq_mu_step hm h1 h2) h3
    exact ⟨by omega, by rw [show k + 1 - (j + 1) = k - j by omega]; exact a2⟩
theorem dk_rs_go {c : Int32 × Nat} {x y f0 : Nat} {r : Int32} (hf : f0 ≤ 200) (h : dk_rs I nc nM (mq_enter c x y f0 0 [] 0) [] r X') :
    X' 7 0 0 = nI (mq_go I nc nM 409 (mq_enter c x y f0 0 [] 0)).1 ∧ X' 7 0 1 = nI (mq_go I nc nM 409 (mq_enter c x y f0 0 [] 0)).2.1 ∧ r = if (mq_go I nc nM 409 (mq_enter c x y f0 0 [] 0)).2.2.2.1 < 0 then (mq_go I nc nM 409 (mq_enter c x y f0 0 [] 0)).2.2.2.1 else nI (mq_go I nc nM 409 (mq_enter c x y f0 0 [] 0)).2.2.2.2 := by
  obtain ⟨j, z1, h1, h2, h3, h4, h5⟩ := h
  have hm : mq_mu (mq_enter c x y f0 0 [] 0) (2 * f0 + 0) := mq_mu_enter
  obtain ⟨p1, p2⟩ := mq_pt_le j _ _ hm h1
  rcases h5 with ⟨r1, r2⟩ | ⟨fu, th, m, x9, y9, a, st, re, e1, e2, e3, e4⟩
  · have hne : ¬ z1.2.2.2.1 = 0 := by
      rw [← r2]
      intro z
      rw [z] at r1
      exact absurd r1 (by decide)
    rw [mq_pt_go (Or.inr hne) j _ 409 (by omega) h1]
    rw [r2] at r1
    exact ⟨h2, h3, by rw [if_pos r1]; exact r2⟩
  · subst e1
    have hs : mq_step I nc nM (fu, th, [(m, x9, y9, a, st)], 0, re) = (fu, th, [], 0, st.headD x9) := by
      rw [mq_step, if_neg e2]
      rfl
    have h9 : mq_pt I nc nM (j + 1) (mq_enter c x y f0 0 [] 0) (fu, th, [], 0, st.headD x9) := mq_pt_tr (j := 1) (b := (fu, th, [(m, x9, y9, a, st)], 0, re)) ⟨by simp, rfl, hs⟩ j _ h1
    have hj := (mq_pt_le (j + 1) _ _ hm h9).1
    rw [mq_pt_go (Or.inl rfl) (j + 1) _ 409 (by omega) h9]
    exact ⟨h2, h3, by rw [if_neg (show ¬ (0 : Int32) < 0 by decide)]; exact e3⟩
theorem dk_ST.run {z : mq_S} (T : dk_ST F ad ng nM na no X Y Z I nc oc ow) (V : dk_IV F ad ng nM na no X' Y' Z' I nc oc ow) (e0 : X' 0 0 = X 0 0) (A : mq_A (md_fs F 0 0) I nc ng nM F' I' z) (e7 : X' 7 0 0 = nI z.1) (e8 : X' 7 0 1 = nI z.2.1) : dk_ST F' ad ng nM na no X' Y' Z' I' nc oc ow := by
  refine ⟨V.rows (fun k hk => A.2.1 k (by omega)) ((A.1 1 (by decide) (by decide) (by decide) (by decide)).trans rfl) ((A.1 3 (by decide) (by decide) (by decide) (by decide)).trans rfl) ((A.1 5 (by decide) (by decide) (by decide) (by decide)).trans rfl), T.2.1.rows (fun k hk => A.2.1 k (by omega)) A.2.2.1, ?_⟩
  have q := T.2.2
  unfold dk_WI at q ⊢
  rw [e0, e7, e8, A.1 18 (by decide) (by decide) (by decide) (by decide), A.1 19 (by decide) (by decide) (by decide) (by decide), A.1 20 (by decide) (by decide) (by decide) (by decide), A.2.2.2.1, A.2.2.2.2.1]
  exact ⟨q.1, q.2.1, rfl, rfl⟩
end DST
