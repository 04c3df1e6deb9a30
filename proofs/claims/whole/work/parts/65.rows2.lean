def dk_so (y : Nat → Int64) (f : Nat) : Nat → Int64
  | 0 => 0
  | n + 1 => dk_so y f n ||| y (f + n)
def dk_al (y : Nat → Int64) (f : Nat) : Nat → Int64
  | 0 => -1
  | n + 1 => dk_al y f n &&& y (f + n)
theorem l_xor (x y : Int64) (i : Nat) : bl (x ^^^ y) i = (bl x i ^^ bl y i) := by unfold bl; rw [Int64.toBitVec_xor, BitVec.getLsbD_xor]
theorem l_m1 : ∀ i, i < 64 → bl (-1) i = true := by decide +kernel
theorem dk_so_b (y : Nat → Int64) (f i : Nat) : ∀ n, bl (dk_so y f n) i = true ↔ ∃ j, f ≤ j ∧ j < f + n ∧ bl (y j) i = true
  | 0 => by
    rw [dk_so, l_0]
    constructor
    · intro h; cases h
    · rintro ⟨j, h1, h2, _⟩; omega
  | n + 1 => by
    rw [dk_so, l_or, Bool.or_eq_true, dk_so_b y f i n]
    constructor
    · rintro (⟨j, h1, h2, h3⟩ | h)
      · exact ⟨j, h1, by omega, h3⟩
      · exact ⟨f + n, by omega, by omega, h⟩
    · rintro ⟨j, h1, h2, h3⟩
      by_cases c : j = f + n
      · subst c; exact Or.inr h3
      · exact Or.inl ⟨j, h1, by omega, h3⟩
theorem dk_al_b (y : Nat → Int64) (f i : Nat) (hi : i < 64) : ∀ n, bl (dk_al y f n) i = true ↔ ∀ j, f ≤ j → j < f + n → bl (y j) i = true
  | 0 => by
    rw [dk_al, l_m1 i hi]
    exact ⟨fun _ j h1 h2 => by omega, fun _ => rfl⟩
  | n + 1 => by
    rw [dk_al, l_and, Bool.and_eq_true, dk_al_b y f i hi n]
    constructor
    · rintro ⟨h1, h2⟩ j h3 h4
      by_cases c : j = f + n
      · subst c; exact h2
      · exact h1 j h3 (by omega)
    · intro h
      exact ⟨fun j h1 h2 => h j h1 (by omega), h _ (by omega) (by omega)⟩
def dk_df (y : Nat → Int64) (f t : Nat) : Int64 := dk_so y f (t - f) &&& (dk_al y f (t - f) ^^^ (-1))
/-- a bit in which the rows from f to t differ -/
theorem dk_df_b {y : Nat → Int64} {f t i : Nat} (hft : f ≤ t) (hi : i < 64) : bl (dk_df y f t) i = true ↔ (∃ j, f ≤ j ∧ j < t ∧ bl (y j) i = true) ∧ ∃ j, f ≤ j ∧ j < t ∧ bl (y j) i = false := by
  unfold dk_df
  rw [l_and, Bool.and_eq_true, l_xor, l_m1 i hi, dk_so_b, Bool.xor_true, Bool.not_eq_true', ← Bool.not_eq_true, dk_al_b y f i hi]
  have e : f + (t - f) = t := by omega
  rw [e]
  refine and_congr_right (fun _ => ?_)
  constructor
  · intro h
    apply Classical.byContradiction
    intro q
    refine h (fun j h1 h2 => ?_)
    cases c : bl (y j) i
    · exact absurd ⟨j, h1, h2, c⟩ q
    · rfl
  · rintro ⟨j, h1, h2, h3⟩ h
    rw [h j h1 h2] at h3
    cases h3
abbrev rm_B_differing : Room := { frames := 1, cells := 0, slots := 0, locals := 0 }
set_option maxRecDepth 20000 in
theorem lp_B_differing {D : va_G} {dA : Nat → ClassId} {B : Nat} {p : Program} {l : Launch} {e : Env} {s : State} {m : MethodId} {args : Array Value} {below : List Frame} {meth : Method} {c : Code} {Q : State → Prop} {n : Nat} {nm : String} {ret9 : Option FieldType} {h : zz_H} (C : zz_C D zz_cl (zz_ty dA) B zz_tb (zz_x B) p s m args meth c bb_B_differing RR_B ret9 nm) {ad : Nat → Nat → Nat} {ng nM : Nat} {na no : Nat → Nat} {X : dk_X} {Y : dk_Y} {Z : dk_Z} {f t : Nat} (hP : dk_K dA ad (dk_lv ng nM na no) X Y Z h h) (hft : f ≤ t) (ht : t ≤ 4096) (kx : zz_W D zz_cl B p l e rm_B_differing s m args below meth c Q h n 0 0 [some (.ref (ad 5 0)), some (.int (nI f)), some (.int (nI t)), some (.long (dk_so (Y 6 0) f (t - f))), none, some (.long (dk_al (Y 6 0) f (t - f))), none, some (.int (nI t))] 44 []) :
    ∀ d k, k + d = t → f ≤ k → zz_W D zz_cl B p l e rm_B_differing s m args below meth c Q h n 0 0 [some (.ref (ad 5 0)), some (.int (nI f)), some (.int (nI t)), some (.long (dk_so (Y 6 0) f (k - f))), none, some (.long (dk_al (Y 6 0) f (k - f))), none, some (.int (nI k))] 10 [] := by
  intro d
  induction d with
  | zero =>
    intro k hk hf
    have hk9 : k = t := by omega
    subst hk9
    refine z_iload C dd_B_differing_10 rfl ?_
    refine z_iload_n C dd_B_differing_12 rfl ?_
    exact z_icmp_ge (tgt := 44) C dd_B_differing_13 (by decide) (fun _ => kx) (fun z => absurd (Int32.le_refl _) z)
  | succ d ih =>
    intro k hk hf
    refine z_iload C dd_B_differing_10 rfl ?_
    refine z_iload_n C dd_B_differing_12 rfl ?_
    refine z_icmp_ge (tgt := 44) C dd_B_differing_13 (by decide) (fun q1 => ?_) (fun q1 => ?_)
    · replace q1 : t ≤ k := (@nI_leI t k (by omega) (by omega)).mp q1
      omega
    · replace q1 : ¬ t ≤ k := fun z => q1 ((@nI_leI t k (by omega) (by omega)).mpr z)
      refine z_lload_n C dd_B_differing_16 rfl ?_
      refine z_aload_n C dd_B_differing_17 rfl ?_
      refine gf_B_13 (v := .ref ((ad 6 0))) C dd_B_differing_18 (dk_rd (k := 5) (i := 0) (x := (X 5 0)) (y := (Y 5 0)) (z := (Z 5 0)) hP rfl rfl rfl rfl) rfl ?_
      refine z_iload C dd_B_differing_21 rfl ?_
      refine z_lald (t0 := 1) (N := 4096) (f := (Y 6 0)) C rfl dd_B_differing_23 (dk_rd (k := 6) (i := 0) (x := (X 6 0)) (y := (Y 6 0)) (z := (Z 6 0)) hP rfl rfl rfl rfl) (vp_in_nI (by omega) (by decide)) ?_
      refine z_topl (y := ((Y 6 0) k)) (by rw [nI_clamp (by omega)]) ?_
      refine z_lor C dd_B_differing_24 ?_
      refine z_lstore_n C dd_B_differing_25 rfl ?_
      refine z_lload C dd_B_differing_26 rfl ?_
      refine z_aload_n C dd_B_differing_28 rfl ?_
      refine gf_B_13 (v := .ref ((ad 6 0))) C dd_B_differing_29 (dk_rd (k := 5) (i := 0) (x := (X 5 0)) (y := (Y 5 0)) (z := (Z 5 0)) hP rfl rfl rfl rfl) rfl ?_
      refine z_iload C dd_B_differing_32 rfl ?_
      refine z_lald (t0 := 1) (N := 4096) (f := (Y 6 0)) C rfl dd_B_differing_34 (dk_rd (k := 6) (i := 0) (x := (X 6 0)) (y := (Y 6 0)) (z := (Z 6 0)) hP rfl rfl rfl rfl) (vp_in_nI (by omega) (by decide)) ?_
      refine z_topl (y := ((Y 6 0) k)) (by rw [nI_clamp (by omega)]) ?_
      refine z_land C dd_B_differing_35 ?_
      refine z_lstore C dd_B_differing_36 rfl ?_
      refine z_iincN C dd_B_differing_38 rfl rfl ?_
      refine z_goto (tgt := 10) C dd_B_differing_41 (by decide) ?_
      have ih9 := ih (k + 1) (by omega) (by omega)
      rw [show k + 1 - f = (k - f) + 1 by omega, dk_so, dk_al, show f + (k - f) = k by omega] at ih9
      exact ih9
theorem lpr_B_differing {D : va_G} {dA : Nat → ClassId} {B : Nat} {p : Program} {l : Launch} {e : Env} {s : State} {m : MethodId} {args : Array Value} {below : List Frame} {meth : Method} {c : Code} {Q : State → Prop} {n : Nat} {nm : String} {ret9 : Option FieldType} {h : zz_H} (C : zz_C D zz_cl (zz_ty dA) B zz_tb (zz_x B) p s m args meth c bb_B_differing RR_B ret9 nm) {ad : Nat → Nat → Nat} {ng nM : Nat} {na no : Nat → Nat} {X : dk_X} {Y : dk_Y} {Z : dk_Z} {f t : Nat} (hP : dk_K dA ad (dk_lv ng nM na no) X Y Z h h) (hft : f ≤ t) (ht : t ≤ 4096) (kx : zz_W D zz_cl B p l e rm_B_differing s m args below meth c Q h n 0 0 [some (.ref (ad 5 0)), some (.int (nI f)), some (.int (nI t)), some (.long (dk_so (Y 6 0) f (t - f))), none, some (.long (dk_al (Y 6 0) f (t - f))), none, some (.int (nI t))] 44 []) : zz_W D zz_cl B p l e rm_B_differing s m args below meth c Q h n 0 0 [some (.ref (ad 5 0)), some (.int (nI f)), some (.int (nI t)), some (.long 0), none, some (.long (-1)), none, some (.int (nI f))] 10 [] := by
  have q := lp_B_differing C hP hft ht kx (t - f) f (by omega) (Nat.le_refl _)
  rw [Nat.sub_self] at q
  exact q
set_option maxRecDepth 20000 in
/-- differing -/
theorem cd_B_differing (l : Launch) (D : va_G) (dA : Nat → ClassId) (B : Nat) (h : zz_H) (n : Nat) (ad : Nat → Nat → Nat) (ng nM : Nat) (na no : Nat → Nat) (X : dk_X) (Y : dk_Y) (Z : dk_Z) (hP0 : dk_P dA ad (dk_lv ng nM na no) X Y Z h) (f t : Nat) (hft : f ≤ t) (ht : t ≤ 4096) : zz_M l D zz_cl (zz_ty dA) B zz_tb (zz_x B) yy_B_differing (Cond.code yy_B_differing bb_B_differing 8 (some FieldType.long)) rm_B_differing [.ref ((ad 5 0)), .int ((nI f)), .int ((nI t))] h n zz_ml (fun r h' n' => n' = n ∧ h' = h ∧ r = dk_df (Y 6 0) f t) := by
  refine zz_ofW (zz_f B) [some (.ref ((ad 5 0))), some (.int ((nI f))), some (.int ((nI t))), none, none, none, none, none] (by decide) rfl rfl (Nat.le_of_ble_eq_true rfl) ?_
  intro p e s m below meth c C
  have hP := dk_rf hP0
  refine z_lconst (v := 0) C dd_B_differing_0 (by decide) ?_
  refine z_lstore_n C dd_B_differing_1 rfl ?_
  refine z_ldc2 (v := (-1)) C wd_718 dd_B_differing_2 ?_
  refine z_lstore C dd_B_differing_5 rfl ?_
  refine z_iload_n C dd_B_differing_7 rfl ?_
  refine z_istore C dd_B_differing_8 rfl ?_
  have e0 : ∀ y : Nat → Int64, dk_so y f (f - f) = 0 ∧ dk_al y f (f - f) = -1 := fun y => by rw [Nat.sub_self]; exact ⟨rfl, rfl⟩
  refine lpr_B_differing C hP hft ht ?_
  refine z_lload_n C dd_B_differing_44 rfl ?_
  refine z_lload C dd_B_differing_45 rfl ?_
  refine z_ldc2 (v := (-1)) C wd_718 dd_B_differing_47 ?_
  refine z_lxor C dd_B_differing_50 ?_
  refine z_land C dd_B_differing_51 ?_
  exact z_lret C dd_B_differing_52 ⟨rfl, rfl, rfl⟩ (by decide) (by decide)
abbrev rm_B_bringForward : Room := { frames := 1, cells := 0, slots := 0, locals := 0 }
/-- the rows from f to k, those with the fact before mi -/
def dk_bf (y y' : Nat → Int64) (f k mi : Nat) (w : Int64) : Prop := (f ≤ mi ∧ mi ≤ k) ∧ (∀ j, (j < f ∨ k ≤ j) → y' j = y j) ∧ (∀ j, f ≤ j → j < mi → ¬ y' j &&& w = 0) ∧ (∀ j, mi ≤ j → j < k → y' j &&& w = 0) ∧ (∀ j, f ≤ j → j < k → ∃ i, f ≤ i ∧ i < k ∧ y' j = y i) ∧ ∀ i, f ≤ i → i < k → ∃ j, f ≤ j ∧ j < k ∧ y' j = y i
theorem dk_bf_n {y y' : Nat → Int64} {f k mi : Nat} {w : Int64} (h : dk_bf y y' f k mi w) (hw : y' k &&& w = 0) : dk_bf y y' f (k + 1) mi w := by
  obtain ⟨a1, a2, a3, a4, a5, a6⟩ := h
  have ek := a2 k (Or.inr (Nat.le_refl _))
  refine ⟨⟨a1.1, by omega⟩, fun j hj => a2 j (by omega), a3, fun j h1 h2 => ?_, fun j h1 h2 => ?_, fun i h1 h2 => ?_⟩
  · by_cases c : j = k
    · subst c; exact hw
    · exact a4 j h1 (by omega)
  · by_cases c : j = k
    · subst c; exact ⟨j, h1, by omega, ek⟩
    · obtain ⟨i, b1, b2, b3⟩ := a5 j h1 (by omega)
      exact ⟨i, b1, by omega, b3⟩
  · by_cases c : i = k
    · subst c; exact ⟨i, h1, by omega, ek⟩
    · obtain ⟨j, b1, b2, b3⟩ := a6 i h1 (by omega)
      exact ⟨j, b1, by omega, b3⟩
theorem dk_bf_y {y y' : Nat → Int64} {f k mi : Nat} {w : Int64} (h : dk_bf y y' f k mi w) (hw : ¬ y' k &&& w = 0) : dk_bf y (vp_updL (vp_updL y' k (y' mi)) mi (y' k)) f (k + 1) (mi + 1) w := by
  obtain ⟨a1, a2, a3, a4, a5, a6⟩ := h
  have ek := a2 k (Or.inr (Nat.le_refl _))
  have v : ∀ j, vp_updL (vp_updL y' k (y' mi)) mi (y' k) j = if j = mi then y' k else if j = k then y' mi else y' j := fun j => rfl
  refine ⟨⟨by omega, by omega⟩, fun j hj => ?_, fun j h1 h2 => ?_, fun j h1 h2 => ?_, fun j h1 h2 => ?_, fun i h1 h2 => ?_⟩
  · rw [v, if_neg (by omega), if_neg (by omega)]
    exact a2 j (by omega)
  · rw [v]
    by_cases c : j = mi
    · rw [if_pos c]; exact hw
    · rw [if_neg c, if_neg (by omega)]
      exact a3 j h1 (by omega)
  · rw [v, if_neg (by omega)]
    by_cases c : j = k
    · rw [if_pos c]
      exact a4 mi (Nat.le_refl _) (by omega)
    · rw [if_neg c]
      exact a4 j (by omega) (by omega)
  · rw [v]
    by_cases c : j = mi
    · rw [if_pos c]
      exact ⟨k, by omega, by omega, ek⟩
    · rw [if_neg c]
      by_cases c2 : j = k
      · rw [if_pos c2]
        obtain ⟨i, b1, b2, b3⟩ := a5 mi (by omega) (by omega)
        exact ⟨i, b1, by omega, b3⟩
      · rw [if_neg c2]
        obtain ⟨i, b1, b2, b3⟩ := a5 j h1 (by omega)
        exact ⟨i, b1, by omega, b3⟩
  · by_cases c : i = k
    · subst c
      exact ⟨mi, by omega, by omega, by rw [v, if_pos rfl]; exact ek⟩
    · obtain ⟨j, b1, b2, b3⟩ := a6 i h1 (by omega)
      by_cases c2 : j = mi
      · subst c2
        refine ⟨k, by omega, by omega, ?_⟩
        rw [v]
        by_cases c3 : k = j
        · omega
        · rw [if_neg c3, if_pos rfl]; exact b3
      · exact ⟨j, b1, by omega, by rw [v, if_neg c2, if_neg (by omega)]; exact b3⟩
set_option maxRecDepth 20000 in
theorem lp_B_bringForward {D : va_G} {dA : Nat → ClassId} {B : Nat} {p : Program} {l : Launch} {e : Env} {s : State} {m : MethodId} {args : Array Value} {below : List Frame} {meth : Method} {c : Code} {Q : State → Prop} {n : Nat} {nm : String} {ret9 : Option FieldType} {h : zz_H} (C : zz_C D zz_cl (zz_ty dA) B zz_tb (zz_x B) p s m args meth c bb_B_bringForward RR_B ret9 nm) {ad : Nat → Nat → Nat} {ng nM : Nat} {na no : Nat → Nat} {X : dk_X} {Y : dk_Y} {Z : dk_Z} {f t : Nat} {w : Int64} (hft : f ≤ t) (ht : t ≤ 4096) (kx : ∀ y mi h' o, dk_K dA ad (dk_lv ng nM na no) X (dk_is Y 6 0 y) Z h h' → dk_bf (Y 6 0) y f t mi w → zz_W D zz_cl B p l e rm_B_bringForward s m args below meth c Q h' n 0 0 [some (.ref (ad 5 0)), some (.int (nI f)), some (.int (nI t)), some (.long w), none, some (.int (nI mi)), some (.int (nI t)), o, none] 62 []) :
    ∀ d k y mi h9 o, k + d = t → dk_K dA ad (dk_lv ng nM na no) X (dk_is Y 6 0 y) Z h h9 → dk_bf (Y 6 0) y f k mi w → zz_W D zz_cl B p l e rm_B_bringForward s m args below meth c Q h9 n 0 0 [some (.ref (ad 5 0)), some (.int (nI f)), some (.int (nI t)), some (.long w), none, some (.int (nI mi)), some (.int (nI k)), o, none] 6 [] := by
  intro d
  induction d with
  | zero =>
    intro k y mi h9 o hk hP hb
    have hk9 : k = t := by omega
    subst hk9
    refine z_iload C dd_B_bringForward_6 rfl ?_
    refine z_iload_n C dd_B_bringForward_8 rfl ?_
    exact z_icmp_ge (tgt := 62) C dd_B_bringForward_9 (by decide) (fun _ => kx y mi _ o hP hb) (fun z => absurd (Int32.le_refl _) z)
  | succ d ih =>
    intro k y mi h9 o hk hP hb
    have hb1 := hb.1
    refine z_iload C dd_B_bringForward_6 rfl ?_
    refine z_iload_n C dd_B_bringForward_8 rfl ?_
    refine z_icmp_ge (tgt := 62) C dd_B_bringForward_9 (by decide) (fun q1 => ?_) (fun q1 => ?_)
    · replace q1 : t ≤ k := (@nI_leI t k (by omega) (by omega)).mp q1
      omega
    · replace q1 : ¬ t ≤ k := fun z => q1 ((@nI_leI t k (by omega) (by omega)).mpr z)
      refine z_aload_n C dd_B_bringForward_12 rfl ?_
      refine gf_B_13 (v := .ref ((ad 6 0))) C dd_B_bringForward_13 (dk_rd (k := 5) (i := 0) (x := (X 5 0)) (y := (Y 5 0)) (z := (Z 5 0)) hP rfl rfl rfl rfl) rfl ?_
      refine z_iload C dd_B_bringForward_16 rfl ?_
      refine z_lald (t0 := 1) (N := 4096) (f := y) C rfl dd_B_bringForward_18 (dk_rd (k := 6) (i := 0) (x := (X 6 0)) (y := y) (z := (Z 6 0)) hP rfl rfl dk_s rfl) (vp_in_nI (by omega) (by decide)) ?_
      refine z_topl (y := (y k)) (by rw [nI_clamp (by omega)]) ?_
      refine z_lstore C dd_B_bringForward_19 rfl ?_
      refine z_lload C dd_B_bringForward_21 rfl ?_
      refine z_lload_n C dd_B_bringForward_23 rfl ?_
      refine z_land C dd_B_bringForward_24 ?_
      refine z_lconst (v := 0) C dd_B_bringForward_25 (by decide) ?_
      refine z_lcmp C dd_B_bringForward_26 ?_
      refine z_if_eq (tgt := 56) C dd_B_bringForward_27 (by decide) (fun q2 => ?_) (fun q2 => ?_)
      · skip
        refine z_iincN C dd_B_bringForward_56 rfl rfl ?_
        refine z_goto (tgt := 6) C dd_B_bringForward_59 (by decide) ?_
        exact ih (k + 1) y mi _ _ (by omega) hP (dk_bf_n hb ((pu_lcmp _ _).mp q2))
      · skip
        refine z_aload_n C dd_B_bringForward_30 rfl ?_
        refine gf_B_13 (v := .ref ((ad 6 0))) C dd_B_bringForward_31 (dk_rd (k := 5) (i := 0) (x := (X 5 0)) (y := (Y 5 0)) (z := (Z 5 0)) hP rfl rfl rfl rfl) rfl ?_
        refine z_iload C dd_B_bringForward_34 rfl ?_
        refine z_aload_n C dd_B_bringForward_36 rfl ?_
        refine gf_B_13 (v := .ref ((ad 6 0))) C dd_B_bringForward_37 (dk_rd (k := 5) (i := 0) (x := (X 5 0)) (y := (Y 5 0)) (z := (Z 5 0)) hP rfl rfl rfl rfl) rfl ?_
        refine z_iload C dd_B_bringForward_40 rfl ?_
        refine z_lald (t0 := 1) (N := 4096) (f := y) C rfl dd_B_bringForward_42 (dk_rd (k := 6) (i := 0) (x := (X 6 0)) (y := y) (z := (Z 6 0)) hP rfl rfl dk_s rfl) (vp_in_nI (by omega) (by decide)) ?_
        refine z_topl (y := (y mi)) (by rw [nI_clamp (by omega)]) ?_
        refine z_last (t0 := 1) (N := 4096) (f := y) C rfl dd_B_bringForward_43 (dk_rd (k := 6) (i := 0) (x := (X 6 0)) (y := y) (z := (Z 6 0)) hP rfl rfl dk_s rfl) (vp_in_nI (by omega) (by decide)) ?_
        refine z_cut (dk_K dA ad (dk_lv ng nM na no) X (dk_is (dk_is Y 6 0 y) 6 0 (vp_updL y (Int32.toNatClampNeg (nI k)) (y mi))) Z h) (dk_wY hP rfl rfl rfl rfl) rfl rfl rfl (fun h1_ hP1_ => ?_)
        refine z_aload_n C dd_B_bringForward_44 rfl ?_
        refine gf_B_13 (v := .ref ((ad 6 0))) C dd_B_bringForward_45 (dk_rd (k := 5) (i := 0) (x := (X 5 0)) (y := (Y 5 0)) (z := (Z 5 0)) hP1_ rfl rfl rfl rfl) rfl ?_
        refine z_iload C dd_B_bringForward_48 rfl ?_
        refine z_lload C dd_B_bringForward_50 rfl ?_
        refine z_last (t0 := 1) (N := 4096) (f := (vp_updL y (Int32.toNatClampNeg (nI k)) (y mi))) C rfl dd_B_bringForward_52 (dk_rd (k := 6) (i := 0) (x := (X 6 0)) (y := (vp_updL y (Int32.toNatClampNeg (nI k)) (y mi))) (z := (Z 6 0)) hP1_ rfl rfl dk_s rfl) (vp_in_nI (by omega) (by decide)) ?_
        refine z_cut (dk_K dA ad (dk_lv ng nM na no) X (dk_is (dk_is (dk_is Y 6 0 y) 6 0 (vp_updL y (Int32.toNatClampNeg (nI k)) (y mi))) 6 0 (vp_updL (vp_updL y (Int32.toNatClampNeg (nI k)) (y mi)) (Int32.toNatClampNeg (nI mi)) (y k))) Z h) (dk_wY hP1_ rfl rfl rfl rfl) rfl rfl rfl (fun h2_ hP2_ => ?_)
        refine z_iincN C dd_B_bringForward_53 rfl rfl ?_
        refine z_iincN C dd_B_bringForward_56 rfl rfl ?_
        refine z_goto (tgt := 6) C dd_B_bringForward_59 (by decide) ?_
        rw [nI_clamp (by omega), nI_clamp (by omega), dk_ii, dk_ii] at hP2_
        exact ih (k + 1) _ (mi + 1) _ _ (by omega) hP2_ (dk_bf_y hb (fun z => q2 ((pu_lcmp _ _).mpr z)))
set_option maxRecDepth 20000 in
/-- bringForward -/
theorem cd_B_bringForward (l : Launch) (D : va_G) (dA : Nat → ClassId) (B : Nat) (h : zz_H) (n : Nat) (ad : Nat → Nat → Nat) (ng nM : Nat) (na no : Nat → Nat) (X : dk_X) (Y : dk_Y) (Z : dk_Z) (hP0 : dk_P dA ad (dk_lv ng nM na no) X Y Z h) (f t : Nat) (w : Int64) (hft : f ≤ t) (ht : t ≤ 4096) : zz_M l D zz_cl (zz_ty dA) B zz_tb (zz_x B) yy_B_bringForward (Cond.code yy_B_bringForward bb_B_bringForward 9 (some FieldType.int)) rm_B_bringForward [.ref ((ad 5 0)), .int ((nI f)), .int ((nI t)), .long w] h n zz_mi (fun r h' n' => n' = n ∧ ∃ y mi, r = nI mi ∧ dk_K dA ad (dk_lv ng nM na no) X (dk_is Y 6 0 y) Z h h' ∧ dk_bf (Y 6 0) y f t mi w) := by
  refine zz_ofW (zz_f B) [some (.ref ((ad 5 0))), some (.int ((nI f))), some (.int ((nI t))), some (.long w), none, none, none, none, none] (by decide) rfl rfl (Nat.le_of_ble_eq_true rfl) ?_
  intro p e s m below meth c C
  have hP := dk_rf hP0
  refine z_iload_n C dd_B_bringForward_0 rfl ?_
  refine z_istore C dd_B_bringForward_1 rfl ?_
  refine z_iload_n C dd_B_bringForward_3 rfl ?_
  refine z_istore C dd_B_bringForward_4 rfl ?_
  refine lp_B_bringForward (h := h) C hft ht (fun y mi h' o w1 w2 => ?_) (t - f) f (Y 6 0) f _ none (by omega) (dk_eY hP dk_id.symm) ⟨⟨Nat.le_refl _, Nat.le_refl _⟩, fun _ _ => rfl, fun j h1 h2 => by omega, fun j h1 h2 => by omega, fun j h1 h2 => by omega, fun j h1 h2 => by omega⟩
  refine z_iload C dd_B_bringForward_62 rfl ?_
  exact z_iret C dd_B_bringForward_64 ⟨rfl, y, mi, rfl, w1, w2⟩ (by decide) (by decide)
