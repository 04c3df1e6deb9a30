/-! the facts of a generic stand right: by the tests that Xr holds of it (rows 18 to 21) -/
def dk_T (Xr : mq_M) (g : Nat) : Nat := (Xr 18 g).toNatClampNeg
def dk_fq (Xr : mq_M) (g w v t : Nat) : Bool := decide ((Xr 19 (48 * g + t)).toNatClampNeg < 4) && (decide ((Xr 20 (48 * g + t)).toNatClampNeg = w) && pu_holds (Xr 0) (Xr 19 (48 * g + t)).toNatClampNeg 0 (Xr 21 (48 * g + t)) v 0)
def dk_kq (Xr : mq_M) (g k t : Nat) : Bool := decide (Xr 19 (48 * g + t) = nI k)
def dk_FI (ad : Nat → Nat → Nat) (ng nM : Nat) (na no : Nat → Nat) (X : dk_X) (Y : dk_Y) (Z : dk_Z) (Xr : mq_M) (g nc : Nat) (tf : Nat → Nat) : Prop :=
  dk_ts ad ng nM na no X Z g (dk_T Xr g) tf ∧ (∀ t, t < dk_T Xr g → X 33 (tf t) 0 = Xr 19 (48 * g + t) ∧ X 33 (tf t) 1 = Xr 20 (48 * g + t) ∧ X 33 (tf t) 2 = Xr 21 (48 * g + t)) ∧ (∀ v, v < 8 * nc → Y 28 g v = pu_ls (dk_fq Xr g 0 v) (dk_T Xr g) ∧ Y 29 g v = pu_ls (dk_fq Xr g 1 v) (dk_T Xr g)) ∧ Y 26 g 5 = pu_ls (dk_kq Xr g 4) (dk_T Xr g) ∧ Y 26 g 6 = pu_ls (dk_kq Xr g 5) (dk_T Xr g)
theorem pu_ls_cg {f f' : Nat → Bool} : ∀ T, (∀ t, t < T → f t = f' t) → pu_ls f T = pu_ls f' T
  | 0, _ => rfl
  | T + 1, h => by
    rw [pu_ls, pu_ls, pu_ls_cg T (fun t ht => h t (by omega)), h T (by omega)]
theorem pu_ls_f {f : Nat → Bool} : ∀ T, (∀ t, t < T → f t = false) → pu_ls f T = 0
  | 0, _ => rfl
  | T + 1, h => by
    rw [pu_ls, h T (by omega), pu_ls_f T (fun t ht => h t (by omega))]
    rfl
/-- an atom's number and place are 0 where they are of no matter -/
def pu_nz (k0 k1 k2 : Int32) : Prop := ∃ kd, k0 = nI kd ∧ kd < 6 ∧ (3 < kd → k1 = 0) ∧ (2 < kd → k2 = 0)
theorem dk_or0 (x : Int64) : 0 ||| x = x := by
  apply l_ext
  intro i hi
  rw [l_or, l_0]
  rfl
theorem dk_FI_new {ad : Nat → Nat → Nat} {ng nM : Nat} {na no : Nat → Nat} {X : dk_X} {Y : dk_Y} {Z : dk_Z} {Xr : mq_M} {g nc a kd wh : Nat} {tf : Nat → Nat} (A : dk_FI ad ng nM na no X Y Z Xr g nc tf) (hT : dk_T Xr g < 48) (hg : g < 4) (e0 : X 33 a 0 = Xr 4 a) (e1 : X 33 a 1 = Xr 5 a) (e2 : X 33 a 2 = Xr 6 a) (hkd : kd < 6) (hwh : wh < 2) (ek : X 33 a 0 = nI kd) (ew : X 33 a 1 = nI wh) (ha : dk_lv ng nM na no 33 a) (hz : pu_nz (Xr 4 a) (Xr 5 a) (Xr 6 a)) (hzt : ∀ t, t < dk_T Xr g → pu_nz (Xr 19 (48 * g + t)) (Xr 20 (48 * g + t)) (Xr 21 (48 * g + t)))
    (hn : ∀ t, t < dk_T Xr g → dk_sm X (tf t) a = false) : dk_FI ad ng nM na no (dk_is X 26 g (upd (X 26 g) 2 (nI (dk_T Xr g + 1)))) (dk_note X Y (Xr 0) g a kd wh nc (lg1 (dk_T Xr g))) (dk_is Z 27 g (va_up (Z 27 g) (dk_T Xr g) (some (ad 33 a)))) (pu_g1 Xr g a) g nc (fun t => if t = dk_T Xr g then a else tf t) := by
  obtain ⟨⟨a1, a2⟩, a3, a4, a5, a6⟩ := A
  obtain ⟨T, eT⟩ : ∃ T, dk_T Xr g = T := ⟨_, rfl⟩
  have hany : ¬ ((List.range T).any fun t => pu_tq Xr (48 * g + t) a) = true := by
    intro z
    obtain ⟨t, h1, h2⟩ := List.any_eq_true.mp z
    have ht := List.mem_range.mp h1
    have h3 := hn t (by omega)
    obtain ⟨b0, b1, b2⟩ := a3 t (by omega)
    unfold dk_sm at h3
    unfold pu_tq at h2
    rw [b0, b1, b2, e0, e1, e2] at h3
    rw [h3] at h2
    exact absurd h2 (by decide)
  have eg : pu_g1 Xr g a = md_is (md_is (md_is (md_is Xr 19 (upd (Xr 19) (48 * g + T) (Xr 4 a))) 20 (upd (Xr 20) (48 * g + T) (Xr 5 a))) 21 (upd (Xr 21) (48 * g + T) (Xr 6 a))) 18 (upd (Xr 18) g (nI (T + 1))) := by
    unfold pu_g1
    rw [show (Xr 18 g).toNatClampNeg = T from eT]
    unfold pu_g0
    rw [if_neg hany]
  rw [eT] at hT a1 a2 a3 a4 a5 a6 hzt hn
  rw [eg]
  obtain ⟨X2, eX2⟩ : ∃ X2, md_is (md_is (md_is (md_is Xr 19 (upd (Xr 19) (48 * g + T) (Xr 4 a))) 20 (upd (Xr 20) (48 * g + T) (Xr 5 a))) 21 (upd (Xr 21) (48 * g + T) (Xr 6 a))) 18 (upd (Xr 18) g (nI (T + 1))) = X2 := ⟨_, rfl⟩
  have f0 : X2 0 = Xr 0 := by rw [← eX2]; rfl
  have f18 : dk_T X2 g = T + 1 := by
    unfold dk_T
    rw [← eX2]
    show (upd (Xr 18) g (nI (T + 1)) g).toNatClampNeg = _
    rw [pk_us, nI_clamp (by omega)]
  have f19 : ∀ t, X2 19 (48 * g + t) = if t = T then Xr 4 a else Xr 19 (48 * g + t) := by
    intro t
    rw [← eX2]
    show upd (Xr 19) (48 * g + T) (Xr 4 a) (48 * g + t) = _
    by_cases z : t = T
    · rw [z, pk_us, if_pos rfl]
    · rw [pk_un (by omega), if_neg z]
  have f20 : ∀ t, X2 20 (48 * g + t) = if t = T then Xr 5 a else Xr 20 (48 * g + t) := by
    intro t
    rw [← eX2]
    show upd (Xr 20) (48 * g + T) (Xr 5 a) (48 * g + t) = _
    by_cases z : t = T
    · rw [z, pk_us, if_pos rfl]
    · rw [pk_un (by omega), if_neg z]
  have f21 : ∀ t, X2 21 (48 * g + t) = if t = T then Xr 6 a else Xr 21 (48 * g + t) := by
    intro t
    rw [← eX2]
    show upd (Xr 21) (48 * g + T) (Xr 6 a) (48 * g + t) = _
    by_cases z : t = T
    · rw [z, pk_us, if_pos rfl]
    · rw [pk_un (by omega), if_neg z]
  rw [eX2, eT]
  clear eX2 eg
  have cfq : ∀ w v t, t < T → dk_fq X2 g w v t = dk_fq Xr g w v t := by
    intro w v t ht
    unfold dk_fq
    rw [f19, f20, f21, f0, if_neg (by omega), if_neg (by omega), if_neg (by omega)]
  have ckq : ∀ k t, t < T → dk_kq X2 g k t = dk_kq Xr g k t := by
    intro k t ht
    unfold dk_kq
    rw [f19, if_neg (by omega)]
  have nfq : ∀ w v, dk_fq X2 g w v T = (decide (kd < 4) && (decide (wh = w) && pu_holds (Xr 0) kd 0 (X 33 a 2) v 0)) := by
    intro w v
    unfold dk_fq
    rw [f19, f20, f21, f0, if_pos rfl, if_pos rfl, if_pos rfl, ← e0, ← e1, ← e2, ek, ew, nI_clamp (by omega), nI_clamp (by omega)]
  have nkq : ∀ k, k < 6 → dk_kq X2 g k T = decide (kd = k) := by
    intro k hk
    unfold dk_kq
    rw [f19, if_pos rfl, ← e0, ek]
    by_cases z : kd = k
    · rw [z, decide_eq_true rfl, decide_eq_true rfl]
    · rw [decide_eq_false z, decide_eq_false (fun q => z ((nI_eq (by omega) (by omega)).mp q))]
  have s28 : ∀ w v, pu_ls (dk_fq X2 g w v) (T + 1) = if (kd < 4 ∧ wh = w ∧ pu_holds (Xr 0) kd 0 (X 33 a 2) v 0 = true) then pu_ls (dk_fq Xr g w v) T ||| lg1 T else pu_ls (dk_fq Xr g w v) T := by
    intro w v
    rw [pu_ls, nfq, pu_ls_cg T (cfq w v)]
    by_cases z : kd < 4 ∧ wh = w ∧ pu_holds (Xr 0) kd 0 (X 33 a 2) v 0 = true
    · rw [if_pos z, decide_eq_true z.1, decide_eq_true z.2.1, z.2.2]
      rfl
    · rw [if_neg z, if_neg]
      intro q
      simp at q
      exact z ⟨q.1, q.2.1, q.2.2⟩
  have old : ∀ k, (k = 4 ∨ k = 5) → kd = k → pu_ls (dk_kq Xr g k) T = 0 := by
    intro k hk hkk
    refine pu_ls_f T (fun t ht => ?_)
    unfold dk_kq
    apply decide_eq_false
    intro z
    have h3 := hn t ht
    obtain ⟨b0, b1, b2⟩ := a3 t ht
    obtain ⟨c, c0, c1, c2, c3⟩ := hz
    obtain ⟨d, d0, d1, d2, d3⟩ := hzt t ht
    have ec : c = k := by
      rw [← hkk]
      exact (nI_eq (by omega) (by omega)).mp (c0.symm.trans (e0.symm.trans ek))
    have ed : d = k := (nI_eq (by omega) (by omega)).mp (d0.symm.trans z)
    unfold dk_sm at h3
    rw [b0, b1, b2, e0, e1, e2, c0, d0, c2 (by omega), c3 (by omega), d2 (by omega), d3 (by omega), ec, ed] at h3
    simp at h3
  have s26 : ∀ k, (k = 4 ∨ k = 5) → pu_ls (dk_kq X2 g k) (T + 1) = if kd = k then lg1 T else pu_ls (dk_kq Xr g k) T := by
    intro k hk
    rw [pu_ls, nkq k (by omega), pu_ls_cg T (ckq k)]
    by_cases z : kd = k
    · rw [if_pos z, old k hk z, decide_eq_true z, dk_or0]
      rfl
    · rw [if_neg z, decide_eq_false z]
      rfl
  refine ⟨⟨?_, fun t ht => ?_⟩, fun t ht => ?_, fun v hv => ?_, ?_, ?_⟩
  · rw [f18, dk_s]
    exact pk_us
  · rw [f18] at ht
    rw [dk_s]
    show va_up (Z 27 g) T (some (ad 33 a)) t = some (ad 33 (if t = T then a else tf t)) ∧ dk_lv ng nM na no 33 (if t = T then a else tf t)
    by_cases z : t = T
    · rw [if_pos z, z]
      exact ⟨if_pos rfl, ha⟩
    · rw [if_neg z]
      exact ⟨(if_neg z).trans (a2 t (by omega)).1, (a2 t (by omega)).2⟩
  · rw [f18] at ht
    rw [f19, f20, f21]
    show X 33 (if t = T then a else tf t) 0 = _ ∧ X 33 (if t = T then a else tf t) 1 = _ ∧ X 33 (if t = T then a else tf t) 2 = _
    by_cases z : t = T
    · rw [if_pos z, if_pos z, if_pos z, if_pos z]
      exact ⟨e0, e1, e2⟩
    · rw [if_neg z, if_neg z, if_neg z, if_neg z]
      exact a3 t (by omega)
  · rw [f18, s28, s28, ← (a4 v hv).1, ← (a4 v hv).2]
    unfold dk_note
    by_cases z4 : kd = 4
    · rw [if_pos z4, if_neg (by omega), if_neg (by omega)]
      exact ⟨rfl, rfl⟩
    · rw [if_neg z4]
      by_cases z5 : kd = 5
      · rw [if_pos z5, if_neg (by omega), if_neg (by omega)]
        exact ⟨rfl, rfl⟩
      · rw [if_neg z5]
        by_cases zw : wh = 0
        · rw [if_pos zw, dk_s]
          refine ⟨?_, ?_⟩
          · unfold dk_nt
            by_cases q : pu_holds (Xr 0) kd 0 (X 33 a 2) v 0 = true
            · rw [if_pos ⟨hv, q⟩, if_pos ⟨by omega, zw, q⟩]
            · rw [if_neg (fun r => q r.2), if_neg (fun r => q r.2.2)]
          · rw [if_neg (by omega)]
            rfl
        · rw [if_neg zw, dk_s]
          refine ⟨?_, ?_⟩
          · rw [if_neg (by omega)]
            rfl
          · unfold dk_nt
            by_cases q : pu_holds (Xr 0) kd 0 (X 33 a 2) v 0 = true
            · rw [if_pos ⟨hv, q⟩, if_pos ⟨by omega, by omega, q⟩]
            · rw [if_neg (fun r => q r.2), if_neg (fun r => q r.2.2)]
  · rw [f18, s26 4 (by omega), ← a5]
    unfold dk_note
    by_cases z4 : kd = 4
    · rw [if_pos z4, if_pos z4, dk_s]
      exact pk_uLs
    · rw [if_neg z4, if_neg z4]
      by_cases z5 : kd = 5
      · rw [if_pos z5, dk_s]
        exact pk_uLn (by decide)
      · rw [if_neg z5]
        by_cases zw : wh = 0
        · rw [if_pos zw]
          rfl
        · rw [if_neg zw]
          rfl
  · rw [f18, s26 5 (by omega), ← a6]
    unfold dk_note
    by_cases z4 : kd = 4
    · rw [if_pos z4, if_neg (by omega), dk_s]
      exact pk_uLn (by decide)
    · rw [if_neg z4]
      by_cases z5 : kd = 5
      · rw [if_pos z5, if_pos z5, dk_s]
        exact pk_uLs
      · rw [if_neg z5, if_neg z5]
        by_cases zw : wh = 0
        · rw [if_pos zw]
          rfl
        · rw [if_neg zw]
          rfl
