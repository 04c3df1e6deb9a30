/-! what a fresh generic chooses -/
theorem pu_B_as {I : mq_M} {nc nM g ar : Nat} (hn : nM ≤ 12) (m k : Nat) (hm : m < nM) (hk : k < nM) (h1 : bt (pu_B I nc nM g ar m) k = true) (h2 : bt (pu_B I nc nM g ar k) m = true) : False := by
  unfold pu_B at h1 h2
  rw [bt_ms _ nM (by omega) k (by omega)] at h1
  rw [bt_ms _ nM (by omega) m (by omega)] at h2
  unfold pu_bp at h1 h2
  simp at h1 h2
  rw [h1.2.2.2] at h2
  exact absurd h2.2.2.1 (by decide)
section DOB
variable {F : Nat → Int32} {ad : Nat → Nat → Nat} {ng nM : Nat} {na no : Nat → Nat} {X : dk_X} {Y : dk_Y} {Z : dk_Z} {I : mq_M} {g nc ar oc : Nat} {ow tf : Nat → Nat}
theorem dk_OK.best (K : dk_OK F ad ng nM na no X Y Z I g nc ar oc ow tf) {a b : Nat} (ha : a < 8 * nc) (hb : b < 8 * nc) (h1 : ar = 1 → b = 0) : dk_bq X Y ow g oc a b = pu_bs I nc nM g ar (pu_rw nc ar a b) := by
  have h12 := K.1.m12
  have E := K.2.2.2.1
  unfold dk_bq pu_bs
  rw [K.A ha hb h1]
  exact dk_pk_fm h12 (fun k hk => (E.1 k hk).1) (fun m hm hx => E.2.2 m hm (pu_A_of h12 hx hm)) (fun k hk => K.B hk) (pu_B_as h12)
theorem dk_OK.next (K : dk_OK F ad ng nM na no X Y Z I g nc ar oc ow tf) {a b k : Nat} (ha : a < 8 * nc) (hb : b < 8 * nc) (h1 : ar = 1 → b = 0) (hk : k < oc) : dk_pk X ow oc (dk_AP Y ow g oc a b &&& X 30 (ow k) 9) = pu_nx I nc nM g ar (ow k) (pu_rw nc ar a b) := by
  have h12 := K.1.m12
  have E := K.2.2.2.1
  unfold pu_nx
  rw [K.A ha hb h1, K.B hk]
  refine dk_pk_fm h12 (fun k hk => (E.1 k hk).1) (fun m hm hx => E.2.2 m hm ?_) (fun k hk => K.B hk) (pu_B_as h12)
  rw [b_and, Bool.and_eq_true] at hx
  exact pu_A_of h12 hx.1 hm
theorem dk_OK.cg {X' : dk_X} {Y' : dk_Y} {Z' : dk_Z} (K : dk_OK F ad ng nM na no X Y Z I g nc ar oc ow tf) (hX : ∀ k i, (k = 1 ∨ k = 2 ∨ k = 26 ∨ k = 30 ∨ k = 33) → X' k i = X k i) (h6 : X' 20 g 6 = X 20 g 6) (hY : ∀ k i, (k = 26 ∨ k = 28 ∨ k = 29 ∨ k = 30) → Y' k i = Y k i) (h27 : Z' 27 g = Z 27 g) (h31 : ∀ i, Z' 31 i = Z 31 i) : dk_OK F ad ng nM na no X' Y' Z' I g nc ar oc ow tf := by
  obtain ⟨k1, ⟨f1, f2, f3, f4⟩, ⟨b1, b2, b3, b4, b5⟩, k4, k5, k6⟩ := K
  have hap : ∀ a b, dk_AP Y' ow g oc a b = dk_AP Y ow g oc a b := by
    intro a b
    unfold dk_AP
    have e : dk_of Y' g a b = dk_of Y g a b := by
      unfold dk_of
      rw [hY 28 g (by omega), hY 29 g (by omega), hY 26 g (by omega)]
    rw [e, dk_ap_cg (fun i => hY 30 i (by omega))]
  refine ⟨k1, ⟨?_, fun k hk => ?_, ?_, fun k hk => ?_⟩, ⟨?_, b2, b3, b4, fun m hm => ?_⟩, k4, k5, fun i hi => ?_⟩
  · have q := dk_FI_X (dk_FI_Y f1 (hY 28 g (by omega)) (hY 29 g (by omega)) (hY 26 g (by omega))) (hX 26 g (by omega)) (fun i => hX 33 i (by omega))
    unfold dk_FI dk_ts at q ⊢
    rw [h27]
    exact q
  · exact dk_WM_mono (f2 k hk) (fun i => hX 33 i (by omega)) (Nat.le_refl _) (fun _ _ => rfl) (hY 30 _ (by omega))
  · rw [h6]
    intro j hj i hi
    rw [hX 30 _ (by omega)]
    simp only [hap]
    exact f3 j hj i hi
  · rw [hX 30 _ (by omega), dk_by_cg (X := X) (fun i => by rw [hX 30 i (by omega)])]
    exact f4 k hk
  · exact dk_hi_cg b1 (hX 1 0 (by omega)) (hX 2 0 (by omega))
  · obtain ⟨c1, c2, c3, c4, c5⟩ := b5 m hm
    rw [hX 30 m (by omega), h31]
    exact ⟨c1, c2, c3, c4, fun k hk => ⟨(c5 k hk).1, dk_ao_cg (c5 k hk).2.1 (hX 33 _ (by omega)) rfl rfl rfl, by rw [hX 33 _ (by omega)]; exact (c5 k hk).2.2⟩⟩
  · rw [h6]
    exact k6 i hi
end DOB
/-! the builder's rows of a fresh generic -/
def dk_hb (e : Int32) (i : Nat) : Bool := bl ((e - (-2)).toInt64 <<< (Int32.toInt64 48 &&& 63)) i
theorem dk_rg12 {x : Int32} {be : Nat → Int32} {n : Nat} (hn : n ≤ 12) : pu_fm x be n = -2 ∨ pu_fm x be n = -1 ∨ ∃ m, m < 12 ∧ pu_fm x be n = nI m := by
  induction n with
  | zero =>
    rw [pu_fm]
    split
    · exact Or.inr (Or.inl rfl)
    · exact Or.inl rfl
  | succ n ih =>
    rw [pu_fm]
    split
    · exact Or.inr (Or.inr ⟨n, by omega, rfl⟩)
    · exact ih (by omega)
theorem dk_l48 {e : Int32} (h : e = -2 ∨ e = -1 ∨ ∃ m, m < 12 ∧ e = nI m) : (l48 ((e - (-2)).toInt64 <<< (Int32.toInt64 48 &&& 63))).toInt32 + (-2) = e := by
  have h1 : ∀ m : Fin 12, (l48 ((nI m.val - (-2)).toInt64 <<< (Int32.toInt64 48 &&& 63))).toInt32 + (-2) = nI m.val := by decide +kernel
  rcases h with rfl | rfl | ⟨m, hm, rfl⟩
  · decide
  · decide
  · exact h1 ⟨m, hm⟩
theorem dk_hb_lo (e : Int32) {i : Nat} (hi : i < 48) : bl ((e - (-2)).toInt64 <<< (Int32.toInt64 48 &&& 63)) i = false := by
  have := l_shl 48 (by decide) (e - (-2)).toInt64 (i := i) (by omega)
  rw [decide_eq_false (by omega)] at this
  exact this
section DVO
variable {F : Nat → Int32} {ad : Nat → Nat → Nat} {ng nM : Nat} {na no : Nat → Nat} {X : dk_X} {Y : dk_Y} {Z : dk_Z} {I : mq_M} {g nc ar oc : Nat} {ow tf : Nat → Nat}
theorem dk_OK.r2 (K : dk_OK F ad ng nM na no X Y Z I g nc ar oc ow tf) (r : Nat) : ar = 1 → pu_r2 nc ar r = 0 := fun z => if_pos z
theorem dk_OK.bq (K : dk_OK F ad ng nM na no X Y Z I g nc ar oc ow tf) {r : Nat} (hr : r < pu_R nc ar) : dk_bq X Y ow g oc (pu_r1 nc ar r) (pu_r2 nc ar r) = pu_bs I nc nM g ar r := by
  rw [K.best (pu_r1_lt hr) (pu_r2_lt K.1.c1) (K.r2 r), pu_rw_r K.1.c1]
theorem dk_OK.hi48 (K : dk_OK F ad ng nM na no X Y Z I g nc ar oc ow tf) {r i : Nat} (hr : r < pu_R nc ar) (h1 : 48 ≤ i) (h2 : i < 64) : bl (dk_of Y g (pu_r1 nc ar r) (pu_r2 nc ar r)) i = false := by
  have := K.T
  rw [dk_of_b K.2.1.1 K.T K.wt (pu_r1_lt hr) (pu_r2_lt K.1.c1) h2, decide_eq_false (by omega)]
  rfl
theorem dk_OK.vo (K : dk_OK F ad ng nM na no X Y Z I g nc ar oc ow tf) : dk_vo (fun r => dk_rv X Y ow g oc (pu_r1 nc ar r) (pu_r2 nc ar r)) (pu_pz (pu_g3 I g nM) g nc ar) (pu_bs I nc nM g ar) dk_hb (dk_T (pu_g3 I g nM) g) (fun r => r < pu_R nc ar) := by
  refine ⟨K.T, fun r hr => ⟨fun i hi => ?_, ?_, fun i h1 h2 => ?_⟩⟩
  · show bl (dk_rv X Y ow g oc (pu_r1 nc ar r) (pu_r2 nc ar r)) i = _
    unfold dk_rv
    rw [l_or, dk_hb_lo _ hi, Bool.or_false, dk_of_b K.2.1.1 K.T K.wt (pu_r1_lt hr) (pu_r2_lt K.1.c1) (by omega)]
    rfl
  · show (l48 (dk_rv X Y ow g oc (pu_r1 nc ar r) (pu_r2 nc ar r))).toInt32 + (-2) = _
    have e : l48 (dk_rv X Y ow g oc (pu_r1 nc ar r) (pu_r2 nc ar r)) = l48 ((pu_bs I nc nM g ar r - (-2)).toInt64 <<< (Int32.toInt64 48 &&& 63)) := by
      unfold dk_rv
      rw [K.bq hr]
      apply l_ext
      intro i hi
      rw [l_ush48 _ hi, l_ush48 _ hi, l_or]
      rcases Nat.lt_or_ge (48 + i) 64 with c | c
      · rw [K.hi48 hr (by omega) c]
        rfl
      · unfold bl
        rw [BitVec.getLsbD_of_ge _ _ c, BitVec.getLsbD_of_ge _ _ c]
        rfl
    rw [e]
    exact dk_l48 (dk_rg12 K.1.m12)
  · show bl (dk_rv X Y ow g oc (pu_r1 nc ar r) (pu_r2 nc ar r)) i = _
    unfold dk_rv dk_hb
    rw [l_or, K.hi48 hr h1 h2, K.bq hr]
    rfl
theorem dk_OK.det (K : dk_OK F ad ng nM na no X Y Z I g nc ar oc ow tf) (r q : Nat) (hr : r < pu_R nc ar) (hq : q < pu_R nc ar) (h : ∀ i, i < dk_T (pu_g3 I g nM) g → pu_pz (pu_g3 I g nM) g nc ar r i = pu_pz (pu_g3 I g nM) g nc ar q i) : pu_bs I nc nM g ar r = pu_bs I nc nM g ar q := by
  have e : dk_of Y g (pu_r1 nc ar r) (pu_r2 nc ar r) = dk_of Y g (pu_r1 nc ar q) (pu_r2 nc ar q) := by
    rw [K.of (pu_r1_lt hr) (pu_r2_lt K.1.c1), K.of (pu_r1_lt hq) (pu_r2_lt K.1.c1)]
    exact pu_ls_cg _ h
  rw [← K.bq hr, ← K.bq hq]
  unfold dk_bq dk_AP
  rw [e]
theorem dk_OK.mu (K : dk_OK F ad ng nM na no X Y Z I g nc ar oc ow tf) (S : List Nat) (t0 : Nat) (hS : ∀ r, r ∈ S → r < pu_R nc ar) (ht : t0 < dk_T (pu_g3 I g nM) g) (hs : tg_sep (pu_pz (pu_g3 I g nM) g nc ar) S t0 = true) :
    dp_mu (pu_r1 nc ar) (pu_r2 nc ar) (fun t => (pu_g3 I g nM 19 (48 * g + t)).toNatClampNeg) (pu_pz (pu_g3 I g nM) g nc ar) (dk_T (pu_g3 I g nM) g) (S.filter fun r => pu_pz (pu_g3 I g nM) g nc ar r t0) < dp_mu (pu_r1 nc ar) (pu_r2 nc ar) (fun t => (pu_g3 I g nM 19 (48 * g + t)).toNatClampNeg) (pu_pz (pu_g3 I g nM) g nc ar) (dk_T (pu_g3 I g nM) g) S ∧ dp_mu (pu_r1 nc ar) (pu_r2 nc ar) (fun t => (pu_g3 I g nM 19 (48 * g + t)).toNatClampNeg) (pu_pz (pu_g3 I g nM) g nc ar) (dk_T (pu_g3 I g nM) g) (S.filter fun r => !pu_pz (pu_g3 I g nM) g nc ar r t0) < dp_mu (pu_r1 nc ar) (pu_r2 nc ar) (fun t => (pu_g3 I g nM 19 (48 * g + t)).toNatClampNeg) (pu_pz (pu_g3 I g nM) g nc ar) (dk_T (pu_g3 I g nM) g) S := by
  have h8 := K.1.c8
  refine dp_mu_lt (a := pu_r1 nc ar) (b := pu_r2 nc ar) (kd := fun t => (pu_g3 I g nM 19 (48 * g + t)).toNatClampNeg) (wh := fun t => (pu_g3 I g nM 20 (48 * g + t)).toNatClampNeg) (nu := fun t => pu_g3 I g nM 21 (48 * g + t)) (par := pu_g3 I g nM 0) (fun r hr => ?_) (fun t ht => ?_) ht hs
  · have h1 := pu_r1_lt (hS r hr)
    have h2 := pu_r2_lt (nc := nc) (ar := ar) (r := r) K.1.c1
    omega
  · obtain ⟨kd, wh, a1, a2, a3, a4, _⟩ := K.wt t ht
    show (pu_g3 I g nM 19 (48 * g + t)).toNatClampNeg < 6 ∧ (pu_g3 I g nM 20 (48 * g + t)).toNatClampNeg < 2
    rw [a3, a4, nI_clamp (by omega), nI_clamp (by omega)]
    exact ⟨a1, a2⟩
theorem dk_RG_sg {rv : Nat → Nat → Int64} {y : Nat → Int64} {cnt : Nat} (h1 : 1 ≤ nc) (har : ar = 1 ∨ ar = 2) (h : dk_RG rv y cnt (dk_be (if ar = 2 then 8 * nc else 1) (8 * nc) 0)) : dk_sg y 0 cnt (List.range (pu_R nc ar)) (fun r => rv (pu_r1 nc ar r) (pu_r2 nc ar r)) := by
  refine ⟨fun j _ hj => ?_, fun r hr => ?_⟩
  · obtain ⟨a, b, h2, h3⟩ := h.1 j hj
    have hab : a < 8 * nc ∧ b < (if ar = 2 then 8 * nc else 1) := by
      unfold dk_be at h2
      omega
    have hb8 : b < 8 * nc := by
      have := hab.2
      split at this
      · exact this
      · omega
    have hb1 : ar = 1 → b = 0 := by
      intro z
      have := hab.2
      rw [if_neg (by omega)] at this
      omega
    refine ⟨pu_rw nc ar a b, List.mem_range.mpr (pu_rw_lt hab.1 hb8), ?_⟩
    show y j = rv (pu_r1 nc ar (pu_rw nc ar a b)) (pu_r2 nc ar (pu_rw nc ar a b))
    rw [pu_r1_rw hb8, pu_r2_rw hb8 hb1]
    exact h3
  · have hr2 := List.mem_range.mp hr
    have ha := pu_r1_lt hr2
    have hb := pu_r2_lt (ar := ar) (r := r) h1
    obtain ⟨j, j1, j2⟩ := h.2 (pu_r1 nc ar r) (pu_r2 nc ar r) (Or.inl ⟨ha, by
      split
      · exact hb
      · rw [show pu_r2 nc ar r = 0 from if_pos (by omega)]; decide⟩)
    exact ⟨j, Nat.zero_le _, j1, j2⟩
end DVO
