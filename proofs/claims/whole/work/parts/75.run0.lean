/-! live steps of the machine -/
def mq_pt (I : mq_M) (nc nM : Nat) : Nat → mq_S → mq_S → Prop
  | 0, z, z' => z = z'
  | j + 1, z, z' => ¬ z.2.2.1.length = 0 ∧ z.2.2.2.1 = 0 ∧ mq_pt I nc nM j (mq_step I nc nM z) z'
theorem mq_pt_tr {I : mq_M} {nc nM : Nat} {b c : mq_S} {j : Nat} (h2 : mq_pt I nc nM j b c) : ∀ i a, mq_pt I nc nM i a b → mq_pt I nc nM (i + j) a c
  | 0, a, h => by
    have h9 : a = b := h
    subst h9
    rw [Nat.zero_add]
    exact h2
  | i + 1, a, h => by
    rw [show i + 1 + j = (i + j) + 1 by omega]
    exact ⟨h.1, h.2.1, mq_pt_tr h2 i _ h.2.2⟩
theorem mq_pt_go {I : mq_M} {nc nM : Nat} {b : mq_S} (hs : b.2.2.1.length = 0 ∨ ¬ b.2.2.2.1 = 0) : ∀ j a k, j ≤ k → mq_pt I nc nM j a b → mq_go I nc nM k a = b
  | 0, a, k, _, h => by
    have h9 : a = b := h
    subst h9
    exact mq_go_stop hs k
  | j + 1, a, k, hk, h => by
    obtain ⟨k, rfl⟩ : ∃ k9, k = k9 + 1 := ⟨k - 1, by omega⟩
    rw [mq_go, if_neg (fun z => z.elim h.1 (fun q => q h.2.1))]
    exact mq_pt_go hs j _ k (by omega) h.2.2
/-- frames as the class holds them -/
def dk_m1 (ad : Nat → Nat → Nat) (X : dk_X) (Z : dk_Z) (d : Nat) (f : mq_F) : Prop := Z 9 d 0 = some (ad 30 f.1) ∧ X 9 d 1 = nI f.2.1 ∧ X 9 d 2 = nI f.2.2.1 ∧ dk_fm X d f.2.2.2.2
/-- what a call at level w leaves as it was -/
def dk_fz (w : Nat) (X X' : dk_X) (Y Y' : dk_Y) (Z Z' : dk_Z) : Prop := (∀ k i, ¬ k = 20 → ¬ k = 7 → ¬ ((k = 9 ∨ k = 10) ∧ w ≤ i) → X' k i = X k i) ∧ (∀ i p, p < 8 → X' 20 i p = X 20 i p) ∧ (∀ k i, ¬ k = 20 → Y' k i = Y k i) ∧ ∀ k i, ¬ (k = 9 ∧ w ≤ i) → Z' k i = Z k i
theorem dk_fz_rf {w : Nat} {X : dk_X} {Y : dk_Y} {Z : dk_Z} : dk_fz w X X Y Y Z Z := ⟨fun _ _ _ _ _ => rfl, fun _ _ _ => rfl, fun _ _ _ => rfl, fun _ _ _ => rfl⟩
theorem dk_fz_tr {w : Nat} {X X' X2 : dk_X} {Y Y' Y2 : dk_Y} {Z Z' Z2 : dk_Z} (a : dk_fz w X X' Y Y' Z Z') (b : dk_fz w X' X2 Y' Y2 Z' Z2) : dk_fz w X X2 Y Y2 Z Z2 := ⟨fun k i h1 h2 h3 => (b.1 k i h1 h2 h3).trans (a.1 k i h1 h2 h3), fun i p h => (b.2.1 i p h).trans (a.2.1 i p h), fun k i h => (b.2.2.1 k i h).trans (a.2.2.1 k i h), fun k i h => (b.2.2.2 k i h).trans (a.2.2.2 k i h)⟩
theorem dk_fz_up {w w' : Nat} {X X' : dk_X} {Y Y' : dk_Y} {Z Z' : dk_Z} (a : dk_fz w' X X' Y Y' Z Z') (h : w ≤ w') : dk_fz w X X' Y Y' Z Z' := ⟨fun k i h1 h2 h3 => a.1 k i h1 h2 (fun z => h3 ⟨z.1, by omega⟩), a.2.1, a.2.2.1, fun k i h1 => a.2.2.2 k i (fun z => h1 ⟨z.1, by omega⟩)⟩
theorem dk_fz_m1 {ad : Nat → Nat → Nat} {w d : Nat} {X X' : dk_X} {Y Y' : dk_Y} {Z Z' : dk_Z} {f : mq_F} (a : dk_fz w X X' Y Y' Z Z') (hd : d < w) (h : dk_m1 ad X Z d f) : dk_m1 ad X' Z' d f := by
  unfold dk_m1 dk_fm
  rw [a.1 9 d (by decide) (by decide) (by omega), a.1 10 d (by decide) (by decide) (by omega), a.2.2.2 9 d (by omega)]
  exact h
/-- all that a run stands on -/
def dk_RW (F : Nat → Int32) (ad : Nat → Nat → Nat) (ng nM : Nat) (na no : Nat → Nat) (X : dk_X) (Y : dk_Y) (Z : dk_Z) (I : mq_M) (nc : Nat) (oc : Nat → Nat) (ow tf : Nat → Nat → Nat) : Prop :=
  (∀ g, g < ng → dk_ow ad X Z nM g (oc g) (ow g) ∧ dk_OK F ad ng nM na no X Y Z I g nc (mq_ar I g) (oc g) (ow g) (tf g) ∧ X 20 g 0 = nI (mq_ar I g) ∧ dk_gr X g (mq_G I g) ∧ dk_ch X Y (ow g) g (oc g) ∧ (¬ (mq_G I g).length = 0 → tg_wf (mq_G I g) (dk_T (pu_g3 I g nM) g) ∧ (∀ (k : Nat) (x : tg_N), (mq_G I g)[k]? = some x → x.1 < 0 → x.1 = -1) ∧ (∀ (k : Nat) (x : tg_N), (mq_G I g)[k]? = some x → x.1 < 0 → (x.2.1 < 0 ∨ ∃ m, (m < nM ∧ I 2 m = nI g) ∧ x.2.1 = nI m)) ∧ ∀ t, t < dk_T (pu_g3 I g nM) g → ∀ x y, pu_qz I g x y t = pu_qz (pu_g3 I g nM) g x y t)) ∧
  ((∀ g, g < ng → Z 3 0 g = some (ad 20 g)) ∧ (∀ m, m < nM → Z 4 0 m = some (ad 30 m)) ∧ (∀ j, j < 8 → Z 8 0 j = some (ad 9 j)) ∧ Z 7 0 2 = some (ad 3 0) ∧ Z 7 0 3 = some (ad 4 0)) ∧
  (∀ m, m < nM → Z 30 m 1 = some (ad 20 (mq_of I m)) ∧ X 30 m 5 = nI (no m) ∧ I 8 m = nI (no m) ∧ no m ≤ 8 ∧ ∀ k, k < no m → Z 32 m k = some (ad 34 (8 * m + k)) ∧ X 34 (8 * m + k) 0 = I 9 (8 * m + k) ∧ X 34 (8 * m + k) 1 = I 10 (8 * m + k)) ∧ pu_W F I nc ng nM ∧ pu_ow I nc ng nM
theorem dk_RW_fz {F : Nat → Int32} {ad : Nat → Nat → Nat} {ng nM w : Nat} {na no : Nat → Nat} {X X' : dk_X} {Y Y' : dk_Y} {Z Z' : dk_Z} {I : mq_M} {nc : Nat} {oc : Nat → Nat} {ow tf : Nat → Nat → Nat} (R : dk_RW F ad ng nM na no X Y Z I nc oc ow tf) (a : dk_fz w X X' Y Y' Z Z') (ch : ∀ g, g < ng → dk_ch X' Y' (ow g) g (oc g)) : dk_RW F ad ng nM na no X' Y' Z' I nc oc ow tf := by
  obtain ⟨r1, ⟨r2, r3, r4, r5, r6⟩, r7, r8, r9⟩ := R
  refine ⟨fun g hg => ?_, ⟨?_, ?_, ?_, ?_, ?_⟩, fun m hm => ?_, r8, r9⟩
  · obtain ⟨g1, g2, g3, g4, g5, g6⟩ := r1 g hg
    refine ⟨?_, ?_, ?_, ?_, ch g hg, g6⟩
    · obtain ⟨o1, o2, o3, o4⟩ := g1
      refine ⟨by rw [a.2.1 g 5 (by decide)]; exact o1, o2, o3, fun k hk => ?_⟩
      rw [a.1 30 _ (by decide) (by decide) (by omega), a.2.2.2 25 g (by omega)]
      exact o4 k hk
    · exact g2.cg (fun k i c => a.1 k i (by omega) (by omega) (by omega)) (a.2.1 g 6 (by decide)) (fun k i c => a.2.2.1 k i (by omega)) (a.2.2.2 27 g (by omega)) (fun i => a.2.2.2 31 i (by omega))
    · rw [a.2.1 g 0 (by decide)]; exact g3
    · unfold dk_gr
      rw [a.1 21 g (by decide) (by decide) (by omega), a.1 22 g (by decide) (by decide) (by omega), a.1 23 g (by decide) (by decide) (by omega), a.1 24 g (by decide) (by decide) (by omega)]
      exact g4
  · rw [a.2.2.2 3 0 (by omega)]; exact r2
  · rw [a.2.2.2 4 0 (by omega)]; exact r3
  · rw [a.2.2.2 8 0 (by omega)]; exact r4
  · rw [a.2.2.2 7 0 (by omega)]; exact r5
  · rw [a.2.2.2 7 0 (by omega)]; exact r6
  · obtain ⟨m1, m2, m3, m4, m5⟩ := r7 m hm
    rw [a.2.2.2 30 m (by omega), a.1 30 m (by decide) (by decide) (by omega), a.2.2.2 32 m (by omega)]
    refine ⟨m1, m2, m3, m4, fun k hk => ?_⟩
    rw [a.1 34 _ (by decide) (by decide) (by omega)]
    exact m5 k hk
/-- what a call answers: the state ended, or its frame is done -/
def dk_rs (I : mq_M) (nc nM : Nat) (z : mq_S) (fs : List mq_F) (r : Int32) (X' : dk_X) : Prop := ∃ j z1, mq_pt I nc nM j z z1 ∧ X' 7 0 0 = nI z1.1 ∧ X' 7 0 1 = nI z1.2.1 ∧ z1.1 ≤ 200 ∧ ((r < 0 ∧ r = z1.2.2.2.1) ∨ ∃ fu th m x y a st re, z1 = (fu, th, (m, x, y, a, st) :: fs, 0, re) ∧ ¬ a < mq_no I m ∧ r = nI (st.headD x) ∧ st.headD x < 8 * nc)
/-- what a step answers: the state ended, or the frame goes on -/
def dk_rt (I : mq_M) (nc nM : Nat) (z : mq_S) (m x y k : Nat) (fs : List mq_F) (r : Int32) (X' : dk_X) : Prop := ∃ j z1, mq_pt I nc nM j z z1 ∧ X' 7 0 0 = nI z1.1 ∧ X' 7 0 1 = nI z1.2.1 ∧ z1.1 ≤ 200 ∧ ((r < 0 ∧ r = z1.2.2.2.1) ∨ (¬ r < 0 ∧ ∃ fu th st re, z1 = (fu, th, (m, x, y, k, st) :: fs, 0, re) ∧ dk_fm X' fs.length st ∧ ∀ v : Nat, v ∈ st → v < 8 * nc))
theorem dk_rs_pre {I : mq_M} {nc nM i : Nat} {z z0 : mq_S} {fs : List mq_F} {r : Int32} {X' : dk_X} (h : mq_pt I nc nM i z0 z) (q : dk_rs I nc nM z fs r X') : dk_rs I nc nM z0 fs r X' := by
  obtain ⟨j, z1, q1, q2⟩ := q
  exact ⟨i + j, z1, mq_pt_tr q1 i z0 h, q2⟩
theorem dk_rt_pre {I : mq_M} {nc nM i m x y k : Nat} {z z0 : mq_S} {fs : List mq_F} {r : Int32} {X' : dk_X} (h : mq_pt I nc nM i z0 z) (q : dk_rt I nc nM z m x y k fs r X') : dk_rt I nc nM z0 m x y k fs r X' := by
  obtain ⟨j, z1, q1, q2⟩ := q
  exact ⟨i + j, z1, mq_pt_tr q1 i z0 h, q2⟩
