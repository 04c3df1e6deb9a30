/-- of X the sets implied of own methods alone are others -/
def dk_f5 (ow : Nat → Nat) (oc : Nat) (X X' : dk_X) : Prop := (∀ k i, ¬ k = 30 → X' k i = X k i) ∧ (∀ i p, ¬ p = 8 → X' 30 i p = X 30 i p) ∧ ∀ i, (∀ j, j < oc → ¬ i = ow j) → X' 30 i = X 30 i
theorem dk_f5_ow {ad : Nat → Nat → Nat} {X W : dk_X} {Z : dk_Z} {nM g oc : Nat} {ow : Nat → Nat} (fr : dk_f5 ow oc X W) (OW : dk_ow ad X Z nM g oc ow) : dk_ow ad W Z nM g oc ow := by
  obtain ⟨a1, a2, a3, a4⟩ := OW
  refine ⟨by rw [fr.1 20 g (by decide)]; exact a1, a2, a3, fun k hk => ?_⟩
  obtain ⟨b1, b2, b3⟩ := a4 k hk
  exact ⟨b1, b2, by rw [fr.2.1 _ _ (by decide)]; exact b3⟩
/-- what applies at a row -/
def dk_AP (Y : dk_Y) (ow : Nat → Nat) (g oc a b : Nat) : Int32 := dk_ap Y ow (dk_of Y g a b) oc
/-- the sets implied, by the rows that Pr has -/
def dk_IM (W : dk_X) (Y : dk_Y) (ow : Nat → Nat) (g oc : Nat) (os : Int32) (Pr : Nat → Nat → Prop) : Prop := ∀ j, j < oc → ∀ i, i < 32 → (bt (W 30 (ow j) 8) i = true ↔ (bt os i = true ∧ ∀ a b, Pr a b → bt (dk_AP Y ow g oc a b) (ow j) = true → bt (dk_AP Y ow g oc a b) i = true))
def dk_be (S a b a' b' : Nat) : Prop := (a' < a ∧ b' < S) ∨ (a' = a ∧ b' < b)
theorem dk_IM_cg {W : dk_X} {Y : dk_Y} {ow : Nat → Nat} {g oc : Nat} {os : Int32} {Pr Pr' : Nat → Nat → Prop} (h : dk_IM W Y ow g oc os Pr) (e : ∀ a b, Pr' a b ↔ Pr a b) : dk_IM W Y ow g oc os Pr' := by
  have : Pr' = Pr := by
    funext a b
    exact propext (e a b)
  rw [this]
  exact h
theorem dk_IM_same {W : dk_X} {Y : dk_Y} {ow : Nat → Nat} {g oc S a b a1 b1 : Nat} {os : Int32} (h : dk_IM W Y ow g oc os (dk_be S a b)) (h1 : dk_be S a b a1 b1) (e : dk_of Y g a b = dk_of Y g a1 b1) : dk_IM W Y ow g oc os (dk_be S a (b + 1)) := by
  intro j hj i hi
  rw [h j hj i hi]
  constructor
  · rintro ⟨z1, z2⟩
    refine ⟨z1, fun a' b' hb => ?_⟩
    by_cases c : a' = a ∧ b' = b
    · obtain ⟨rfl, rfl⟩ := c
      have q := z2 a1 b1 h1
      unfold dk_AP at q ⊢
      rw [e]
      exact q
    · exact z2 a' b' (by unfold dk_be at hb ⊢; omega)
  · rintro ⟨z1, z2⟩
    exact ⟨z1, fun a' b' hb => z2 a' b' (by unfold dk_be at hb ⊢; omega)⟩
theorem dk_own_t {ow : Nat → Nat} {oc j : Nat} (hj : j < oc) : dk_own ow oc (ow j) = true := List.any_eq_true.mpr ⟨j, List.mem_range.mpr hj, by simp⟩
theorem dk_IM_tg {W : dk_X} {Y : dk_Y} {ow : Nat → Nat} {g oc S a b : Nat} {os : Int32} (ho : ∀ j, j < oc → ow j < 32) (h : dk_IM W Y ow g oc os (dk_be S a b)) : dk_IM (dk_tg W ow (dk_AP Y ow g oc a b) oc) Y ow g oc os (dk_be S a (b + 1)) := by
  intro j hj i hi
  rw [dk_tg_8 oc ho, dk_own_t hj]
  have hh := h j hj i hi
  constructor
  · intro z
    have z1 : bt (W 30 (ow j) 8) i = true := by
      cases q : bt (W 30 (ow j) 8) i
      · rw [q] at z; simp at z
      · rfl
    obtain ⟨y1, y2⟩ := hh.mp z1
    refine ⟨y1, fun a' b' hb hm => ?_⟩
    by_cases c : a' = a ∧ b' = b
    · obtain ⟨rfl, rfl⟩ := c
      rw [z1, hm] at z
      simpa using z
    · exact y2 a' b' (by unfold dk_be at hb ⊢; omega) hm
  · rintro ⟨y1, y2⟩
    rw [hh.mpr ⟨y1, fun a' b' hb => y2 a' b' (by unfold dk_be at hb ⊢; omega)⟩]
    have q := y2 a b (by unfold dk_be; omega)
    cases c : bt (dk_AP Y ow g oc a b) (ow j)
    · simp
    · rw [q c]; simp
theorem dk_tg_f5 {X W : dk_X} {ow : Nat → Nat} {oc : Nat} {x : Int32} (fr : dk_f5 ow oc X W) : dk_f5 ow oc X (dk_tg W ow x oc) := by
  refine ⟨fun k i c => by rw [dk_tg_k c]; exact fr.1 k i c, fun i p c => by rw [dk_tg_p c]; exact fr.2.1 i p c, fun i c => ?_⟩
  have : ∀ n, n ≤ oc → dk_tg W ow x n 30 i = W 30 i := by
    intro n
    induction n with
    | zero => intro _; rfl
    | succ n ih =>
      intro hn
      rw [dk_tg]
      split
      · exact ih (by omega)
      · rw [dk_ni (c n (by omega))]
        exact ih (by omega)
  rw [this oc (Nat.le_refl _)]
  exact fr.2.2 i c
abbrev rm_G_findImplied : Room := { frames := 8, cells := 0, slots := 0, locals := 200 }
set_option maxRecDepth 20000 in
theorem lpa_G_findImplied {D : va_G} {dA : Nat → ClassId} {B : Nat} {p : Program} {l : Launch} {e : Env} {s : State} {m : MethodId} {args : Array Value} {below : List Frame} {meth : Method} {c : Code} {Q : State → Prop} {n : Nat} {nm : String} {ret9 : Option FieldType} {h : zz_H} (C : zz_C D zz_cl (zz_ty dA) B zz_tb (zz_x B) p s m args meth c bb_G_findImplied RR_G ret9 nm) {ad : Nat → Nat → Nat} {ng nM : Nat} {na no : Nat → Nat} {X : dk_X} {Y : dk_Y} {Z : dk_Z} {g oc : Nat} {ow : Nat → Nat} (hg : g < ng) (OW : dk_ow ad X Z nM g oc ow) (kx : ∀ W h', (dk_K dA ad (dk_lv ng nM na no) W Y Z h h' ∧ dk_f5 ow oc X W ∧ ∀ j, j < oc → W 30 (ow j) 8 = X 20 g 6) → zz_W D zz_cl B p l e rm_G_findImplied s m args below meth c Q h' n 0 0 [some (.ref (ad 20 g)), some (.int (nI oc)), none, none, none, none, none] 29 []) :
    ∀ f k W h9, k + f = oc → (dk_K dA ad (dk_lv ng nM na no) W Y Z h h9 ∧ dk_f5 ow oc X W ∧ ∀ j, j < k → W 30 (ow j) 8 = X 20 g 6) → zz_W D zz_cl B p l e rm_G_findImplied s m args below meth c Q h9 n 0 0 [some (.ref (ad 20 g)), some (.int (nI k)), none, none, none, none, none] 2 [] := by
  intro f
  have o12 := OW.2.1
  induction f with
  | zero =>
    intro k W h9 hk J
    have hk9 : k = oc := by omega
    subst hk9
    have J9 := J
    obtain ⟨hP, fr, hb⟩ := J9
    have e5 : W 20 g 5 = nI k := by rw [fr.1 20 g (by decide)]; exact OW.1
    refine z_iload_n C dd_G_findImplied_2 rfl ?_
    refine z_aload_n C dd_G_findImplied_3 rfl ?_
    refine gf_G_24 (v := .int (W 20 g 5)) C dd_G_findImplied_4 (dk_rd (k := 20) (i := g) (x := (W 20 g)) (y := (Y 20 g)) (z := (Z 20 g)) hP hg rfl rfl rfl) rfl ?_
    refine z_topi (y := nI k) e5.symm ?_
    refine z_icmp_ge (tgt := 29) C dd_G_findImplied_7 (by decide) (fun q1 => ?_) (fun q1 => absurd (Int32.le_refl _) q1)
    exact kx W h9 J
  | succ f ih =>
    intro k W h9 hk J
    obtain ⟨hP, fr, hb⟩ := J
    have ok := OW.2.2.2 k (by omega)
    have e5 : W 20 g 5 = nI oc := by rw [fr.1 20 g (by decide)]; exact OW.1
    refine z_iload_n C dd_G_findImplied_2 rfl ?_
    refine z_aload_n C dd_G_findImplied_3 rfl ?_
    refine gf_G_24 (v := .int (W 20 g 5)) C dd_G_findImplied_4 (dk_rd (k := 20) (i := g) (x := (W 20 g)) (y := (Y 20 g)) (z := (Z 20 g)) hP hg rfl rfl rfl) rfl ?_
    refine z_topi (y := nI oc) e5.symm ?_
    refine z_icmp_ge (tgt := 29) C dd_G_findImplied_7 (by decide) (fun q1 => ?_) (fun q1 => ?_)
    · replace q1 : oc ≤ k := (@nI_leI oc k (by omega) (by omega)).mp q1
      omega
    · replace q1 : ¬ oc ≤ k := fun z => q1 ((@nI_leI oc k (by omega) (by omega)).mpr z)
      refine z_aload_n C dd_G_findImplied_10 rfl ?_
      refine gf_G_20 (v := .ref ((ad 25 g))) C dd_G_findImplied_11 (dk_rd (k := 20) (i := g) (x := (W 20 g)) (y := (Y 20 g)) (z := (Z 20 g)) hP hg rfl rfl rfl) rfl ?_
      refine z_iload_n C dd_G_findImplied_14 rfl ?_
      refine z_aald (t0 := 4) (N := 12) (f := (Z 25 g)) C rfl dd_G_findImplied_15 (dk_rd (k := 25) (i := g) (x := (W 25 g)) (y := (Y 25 g)) (z := (Z 25 g)) hP hg rfl rfl rfl) (vp_in_nI (by omega) (by decide)) ?_
      refine z_topr (y := ad 30 (ow k)) (by rw [nI_clamp (by omega), ok.1]; rfl) ?_
      refine z_aload_n C dd_G_findImplied_16 rfl ?_
      refine gf_G_28 (v := .int (W 20 g 6)) C dd_G_findImplied_17 (dk_rd (k := 20) (i := g) (x := (W 20 g)) (y := (Y 20 g)) (z := (Z 20 g)) hP hg rfl rfl rfl) rfl ?_
      refine pf_G_89 C dd_G_findImplied_20 (dk_rd (k := 30) (i := (ow k)) (x := (W 30 (ow k))) (y := (Y 30 (ow k))) (z := (Z 30 (ow k))) hP ok.2.1 rfl rfl rfl) (Nat.le_of_ble_eq_true rfl) rfl rfl ?_
      refine z_cut (dk_K dA ad (dk_lv ng nM na no) (dk_is W 30 (ow k) (upd (W 30 (ow k)) 8 (W 20 g 6))) Y Z h) (dk_wX hP ok.2.1 rfl rfl rfl) rfl rfl rfl (fun h1_ hP1_ => ?_)
      refine z_iincN C dd_G_findImplied_23 rfl rfl ?_
      refine z_goto (tgt := 2) C dd_G_findImplied_26 (by decide) ?_
      refine ih (k + 1) _ _ (by omega) ⟨hP1_, ⟨fun k9 i9 c => (dk_n (fun z => c z.1)).trans (fr.1 k9 i9 c), fun i9 p9 c => ?_, fun i9 c => (dk_ni (c k (by omega))).trans (fr.2.2 i9 c)⟩, fun j9 h9 => ?_⟩
      · by_cases z : i9 = ow k
        · subst z
          rw [dk_s, pk_un c]
          exact fr.2.1 _ _ c
        · rw [dk_ni z]
          exact fr.2.1 _ _ c
      · by_cases z : ow j9 = ow k
        · rw [z, dk_s, pk_us, fr.1 20 g (by decide)]
        · rw [dk_ni z]
          exact hb j9 (by have : j9 ≠ k := fun e => z (by rw [e]); omega)
set_option maxRecDepth 20000 in
theorem lpb_G_findImplied {D : va_G} {dA : Nat → ClassId} {B : Nat} {p : Program} {l : Launch} {e : Env} {s : State} {m : MethodId} {args : Array Value} {below : List Frame} {meth : Method} {c : Code} {Q : State → Prop} {n : Nat} {nm : String} {ret9 : Option FieldType} {h : zz_H} (C : zz_C D zz_cl (zz_ty dA) B zz_tb (zz_x B) p s m args meth c bb_G_findImplied RR_G ret9 nm) {ad : Nat → Nat → Nat} {ng nM : Nat} {na no : Nat → Nat} {X : dk_X} {Y : dk_Y} {Z : dk_Z} {g oc nc ar a : Nat} {ow : Nat → Nat} (hg : g < ng) (OW : dk_ow ad X Z nM g oc ow) (e1 : X 1 0 1 = nI nc) (h8 : nc ≤ 8) (ear : X 20 g 0 = nI ar) (har : ar = 1 ∨ ar = 2) (hne : ∀ a b, a < 8 * nc → b < 8 * nc → ¬ dk_of Y g a b = -1) (h1 : 1 ≤ nc) (ha : a < 8 * nc) (kx : ∀ W nt h' o5 o6, (dk_K dA ad (dk_lv ng nM na no) W Y Z h h' ∧ dk_f5 ow oc X W ∧ dk_IM W Y ow g oc (X 20 g 6) (dk_be (if ar = 2 then 8 * nc else 1) a (if ar = 2 then 8 * nc else 1)) ∧ (nt = -1 ∨ ∃ a1 b1, dk_be (if ar = 2 then 8 * nc else 1) a (if ar = 2 then 8 * nc else 1) a1 b1 ∧ nt = dk_of Y g a1 b1)) → zz_W D zz_cl B p l e rm_G_findImplied s m args below meth c Q h' n 0 0 [some (.ref (ad 20 g)), some (.long nt), none, some (.int (nI a)), some (.int (nI (if ar = 2 then 8 * nc else 1))), o5, o6] 93 []) :
    ∀ f b W nt h9 o5 o6, b + f = (if ar = 2 then 8 * nc else 1) → (dk_K dA ad (dk_lv ng nM na no) W Y Z h h9 ∧ dk_f5 ow oc X W ∧ dk_IM W Y ow g oc (X 20 g 6) (dk_be (if ar = 2 then 8 * nc else 1) a b) ∧ (nt = -1 ∨ ∃ a1 b1, dk_be (if ar = 2 then 8 * nc else 1) a b a1 b1 ∧ nt = dk_of Y g a1 b1)) → zz_W D zz_cl B p l e rm_G_findImplied s m args below meth c Q h9 n 0 0 [some (.ref (ad 20 g)), some (.long nt), none, some (.int (nI a)), some (.int (nI b)), o5, o6] 46 [] := by
  intro f
  have o12 := OW.2.1
  have m12 := OW.2.2.1
  have hS : (if ar = 2 then 8 * nc else 1) ≤ 8 * nc := by split <;> omega
  induction f with
  | zero =>
    intro b W nt h9 o5 o6 hb J
    have hb9 : b = (if ar = 2 then 8 * nc else 1) := by omega
    subst hb9
    have J9 := J
    obtain ⟨hP, fr, im, no9⟩ := J9
    refine z_iload C dd_G_findImplied_46 rfl ?_
    refine z_aload_n C dd_G_findImplied_48 rfl ?_
    refine iv_G_97 (sk := fun r => .int r :: [.int ((nI (if ar = 2 then 8 * nc else 1)))]) (zz_f B) C dd_G_findImplied_49 (cd_G_secondCount l D dA B _ _ ad ng nM na no W Y Z hP.1 g nc ar hg (by rw [fr.1 1 0 (by decide)]; exact e1) (by rw [fr.1 20 g (by decide)]; exact ear) har) (dk_rd (k := 20) (i := g) (x := (W 20 g)) (y := (Y 20 g)) (z := (Z 20 g)) hP hg rfl rfl rfl) rfl rfl ⟨by decide, by decide⟩ (Nat.le_of_ble_eq_true rfl) ⟨by decide, by decide⟩ (fun _ => rfl) (fun v1_ h1_ n1_ p1_ => ?_)
    obtain ⟨f1_, e1_, p1_⟩ := p1_
    have e1z := e1_.symm
    have f1z := f1_.symm
    subst e1z
    subst f1z
    have q1_ := p1_.symm
    subst q1_
    refine z_icmp_ge (tgt := 93) C dd_G_findImplied_52 (by decide) (fun q1 => ?_) (fun q1 => absurd (Int32.le_refl _) q1)
    exact kx W nt h9 o5 o6 J
  | succ f ih =>
    intro b W nt h9 o5 o6 hb J
    obtain ⟨hP, fr, im, no9⟩ := J
    refine z_iload C dd_G_findImplied_46 rfl ?_
    refine z_aload_n C dd_G_findImplied_48 rfl ?_
    refine iv_G_97 (sk := fun r => .int r :: [.int ((nI b))]) (zz_f B) C dd_G_findImplied_49 (cd_G_secondCount l D dA B _ _ ad ng nM na no W Y Z hP.1 g nc ar hg (by rw [fr.1 1 0 (by decide)]; exact e1) (by rw [fr.1 20 g (by decide)]; exact ear) har) (dk_rd (k := 20) (i := g) (x := (W 20 g)) (y := (Y 20 g)) (z := (Z 20 g)) hP hg rfl rfl rfl) rfl rfl ⟨by decide, by decide⟩ (Nat.le_of_ble_eq_true rfl) ⟨by decide, by decide⟩ (fun _ => rfl) (fun v1_ h1_ n1_ p1_ => ?_)
    obtain ⟨f1_, e1_, p1_⟩ := p1_
    have e1z := e1_.symm
    have f1z := f1_.symm
    subst e1z
    subst f1z
    have q1_ := p1_.symm
    subst q1_
    refine z_icmp_ge (tgt := 93) C dd_G_findImplied_52 (by decide) (fun q1 => ?_) (fun q1 => ?_)
    · replace q1 : (if ar = 2 then 8 * nc else 1) ≤ b := (@nI_leI (if ar = 2 then 8 * nc else 1) b (by omega) (by omega)).mp q1
      omega
    · replace q1 : ¬ (if ar = 2 then 8 * nc else 1) ≤ b := fun z => q1 ((@nI_leI (if ar = 2 then 8 * nc else 1) b (by omega) (by omega)).mpr z)
      refine z_aload_n C dd_G_findImplied_55 rfl ?_
      refine gf_G_57 (v := .ref ((ad 26 g))) C dd_G_findImplied_56 (dk_rd (k := 20) (i := g) (x := (W 20 g)) (y := (Y 20 g)) (z := (Z 20 g)) hP hg rfl rfl rfl) rfl ?_
      refine z_iload_n C dd_G_findImplied_59 rfl ?_
      refine z_iload C dd_G_findImplied_60 rfl ?_
      refine iv_G_100 (sk := fun r => .long r :: []) (zz_f B) C dd_G_findImplied_62 (cd_F_ofRow l D dA B _ _ ad ng nM na no W Y Z hP.1 g a b hg (by omega) (by omega)) (dk_rd (k := 26) (i := g) (x := (W 26 g)) (y := (Y 26 g)) (z := (Z 26 g)) hP hg rfl rfl rfl) rfl rfl ⟨by decide, by decide⟩ (Nat.le_of_ble_eq_true rfl) ⟨by decide, by decide⟩ (fun _ => rfl) (fun v2_ h2_ n2_ p2_ => ?_)
      obtain ⟨f2_, e2_, p2_⟩ := p2_
      have e2z := e2_.symm
      have f2z := f2_.symm
      subst e2z
      subst f2z
      have q2_ := p2_.symm
      subst q2_
      refine z_lstore C dd_G_findImplied_65 rfl ?_
      refine z_lload C dd_G_findImplied_67 rfl ?_
      refine z_lload_n C dd_G_findImplied_69 rfl ?_
      refine z_lcmp C dd_G_findImplied_70 ?_
      refine z_if_eq (tgt := 87) C dd_G_findImplied_71 (by decide) (fun q2 => ?_) (fun q2 => ?_)
      · skip
        refine z_iincN C dd_G_findImplied_87 rfl rfl ?_
        refine z_goto (tgt := 46) C dd_G_findImplied_90 (by decide) ?_
        have ew := (pu_lcmp _ _).mp q2
        rcases no9 with z | ⟨a1, b1, z1, z2⟩
        · exact absurd (ew.trans z) (hne a b (by omega) (by omega))
        · exact ih (b + 1) W nt h9 _ _ (by omega) ⟨hP, fr, dk_IM_same im z1 (ew.trans z2), Or.inr ⟨a1, b1, by unfold dk_be at z1 ⊢; omega, z2⟩⟩
      · skip
        refine z_aload_n C dd_G_findImplied_74 rfl ?_
        refine z_aload_n C dd_G_findImplied_75 rfl ?_
        refine z_lload C dd_G_findImplied_76 rfl ?_
        refine iv_G_104 (sk := fun r => .int r :: [.ref ((ad 20 g))]) (zz_f B) C dd_G_findImplied_78 (cd_G_applicable l D dA B _ _ ad ng nM na no W Y Z hP.1 g oc ow (dk_of Y g a b) hg (dk_f5_ow fr OW)) (dk_rd (k := 20) (i := g) (x := (W 20 g)) (y := (Y 20 g)) (z := (Z 20 g)) hP hg rfl rfl rfl) rfl rfl ⟨by decide, by decide⟩ (Nat.le_of_ble_eq_true rfl) ⟨by decide, by decide⟩ (fun _ => rfl) (fun v3_ h3_ n3_ p3_ => ?_)
        obtain ⟨f3_, e3_, p3_⟩ := p3_
        have e3z := e3_.symm
        have f3z := f3_.symm
        subst e3z
        subst f3z
        have q3_ := p3_.symm
        subst q3_
        refine iv_G_108 (sk := fun _ => []) (zz_f B) C dd_G_findImplied_81 (cd_G_noteTogether l D dA B _ _ ad ng nM na no W Y Z hP.1 g oc ow (dk_ap Y ow (dk_of Y g a b) oc) hg (dk_f5_ow fr OW)) (dk_rd (k := 20) (i := g) (x := (W 20 g)) (y := (Y 20 g)) (z := (Z 20 g)) hP hg rfl rfl rfl) rfl rfl ⟨by decide, by decide⟩ (Nat.le_of_ble_eq_true rfl) ⟨by decide, by decide⟩ (fun _ => rfl) (fun _ h4_ n4_ p4_ => ?_)
        obtain ⟨rfl, p4_⟩ := p4_
        have hP4_ := dk_tr hP p4_
        refine z_lload C dd_G_findImplied_84 rfl ?_
        refine z_lstore_n C dd_G_findImplied_86 rfl ?_
        refine z_iincN C dd_G_findImplied_87 rfl rfl ?_
        refine z_goto (tgt := 46) C dd_G_findImplied_90 (by decide) ?_
        exact ih (b + 1) _ _ _ _ _ (by omega) ⟨hP4_, dk_tg_f5 fr, dk_IM_tg (fun j hj => by have := (OW.2.2.2 j hj).2.1; omega) im, Or.inr ⟨a, b, Or.inr ⟨rfl, by omega⟩, rfl⟩⟩
set_option maxRecDepth 20000 in
theorem lpc_G_findImplied {D : va_G} {dA : Nat → ClassId} {B : Nat} {p : Program} {l : Launch} {e : Env} {s : State} {m : MethodId} {args : Array Value} {below : List Frame} {meth : Method} {c : Code} {Q : State → Prop} {n : Nat} {nm : String} {ret9 : Option FieldType} {h : zz_H} (C : zz_C D zz_cl (zz_ty dA) B zz_tb (zz_x B) p s m args meth c bb_G_findImplied RR_G ret9 nm) {ad : Nat → Nat → Nat} {ng nM : Nat} {na no : Nat → Nat} {X : dk_X} {Y : dk_Y} {Z : dk_Z} {g oc nc ar : Nat} {ow : Nat → Nat} (hg : g < ng) (OW : dk_ow ad X Z nM g oc ow) (e1 : X 1 0 1 = nI nc) (h8 : nc ≤ 8) (ear : X 20 g 0 = nI ar) (har : ar = 1 ∨ ar = 2) (hne : ∀ a b, a < 8 * nc → b < 8 * nc → ¬ dk_of Y g a b = -1) (h1 : 1 ≤ nc) (kx : ∀ W nt h' o4 o5 o6, (dk_K dA ad (dk_lv ng nM na no) W Y Z h h' ∧ dk_f5 ow oc X W ∧ dk_IM W Y ow g oc (X 20 g 6) (dk_be (if ar = 2 then 8 * nc else 1) (8 * nc) 0) ∧ (nt = -1 ∨ ∃ a1 b1, dk_be (if ar = 2 then 8 * nc else 1) (8 * nc) 0 a1 b1 ∧ nt = dk_of Y g a1 b1)) → zz_W D zz_cl B p l e rm_G_findImplied s m args below meth c Q h' n 0 0 [some (.ref (ad 20 g)), some (.long nt), none, some (.int (nI (8 * nc))), o4, o5, o6] 99 []) :
    ∀ f a W nt h9 o4 o5 o6, a + f = 8 * nc → (∀ w, o4 = some w → w.category = 1) → (dk_K dA ad (dk_lv ng nM na no) W Y Z h h9 ∧ dk_f5 ow oc X W ∧ dk_IM W Y ow g oc (X 20 g 6) (dk_be (if ar = 2 then 8 * nc else 1) a 0) ∧ (nt = -1 ∨ ∃ a1 b1, dk_be (if ar = 2 then 8 * nc else 1) a 0 a1 b1 ∧ nt = dk_of Y g a1 b1)) → zz_W D zz_cl B p l e rm_G_findImplied s m args below meth c Q h9 n 0 0 [some (.ref (ad 20 g)), some (.long nt), none, some (.int (nI a)), o4, o5, o6] 35 [] := by
  intro f
  have o12 := OW.2.1
  have m12 := OW.2.2.1
  induction f with
  | zero =>
    intro a W nt h9 o4 o5 o6 ha c4 J
    have ha9 : a = 8 * nc := by omega
    subst ha9
    have J9 := J
    obtain ⟨hP, fr, im, no9⟩ := J9
    refine z_iload_n C dd_G_findImplied_35 rfl ?_
    refine z_aload_n C dd_G_findImplied_36 rfl ?_
    refine iv_G_94 (sk := fun r => .int r :: [.int ((nI (8 * nc)))]) (zz_f B) C dd_G_findImplied_37 (cd_G_firstCount l D dA B _ _ ad ng nM na no W Y Z hP.1 g nc ar hg (by rw [fr.1 1 0 (by decide)]; exact e1) (by rw [fr.1 20 g (by decide)]; exact ear) har) (dk_rd (k := 20) (i := g) (x := (W 20 g)) (y := (Y 20 g)) (z := (Z 20 g)) hP hg rfl rfl rfl) rfl rfl ⟨by decide, by decide⟩ (Nat.le_of_ble_eq_true rfl) ⟨by decide, by decide⟩ (fun _ => rfl) (fun v1_ h1_ n1_ p1_ => ?_)
    obtain ⟨f1_, e1_, p1_⟩ := p1_
    have e1z := e1_.symm
    have f1z := f1_.symm
    subst e1z
    subst f1z
    have q1_ := p1_.symm
    subst q1_
    refine z_icmp_ge (tgt := 99) C dd_G_findImplied_40 (by decide) (fun q1 => ?_) (fun q1 => absurd (Int32.le_refl _) q1)
    exact kx W nt h9 o4 o5 o6 J
  | succ f ih =>
    intro a W nt h9 o4 o5 o6 ha c4 J
    have J9 := J
    obtain ⟨hP, fr, im, no9⟩ := J9
    refine z_iload_n C dd_G_findImplied_35 rfl ?_
    refine z_aload_n C dd_G_findImplied_36 rfl ?_
    refine iv_G_94 (sk := fun r => .int r :: [.int ((nI a))]) (zz_f B) C dd_G_findImplied_37 (cd_G_firstCount l D dA B _ _ ad ng nM na no W Y Z hP.1 g nc ar hg (by rw [fr.1 1 0 (by decide)]; exact e1) (by rw [fr.1 20 g (by decide)]; exact ear) har) (dk_rd (k := 20) (i := g) (x := (W 20 g)) (y := (Y 20 g)) (z := (Z 20 g)) hP hg rfl rfl rfl) rfl rfl ⟨by decide, by decide⟩ (Nat.le_of_ble_eq_true rfl) ⟨by decide, by decide⟩ (fun _ => rfl) (fun v1_ h1_ n1_ p1_ => ?_)
    obtain ⟨f1_, e1_, p1_⟩ := p1_
    have e1z := e1_.symm
    have f1z := f1_.symm
    subst e1z
    subst f1z
    have q1_ := p1_.symm
    subst q1_
    refine z_icmp_ge (tgt := 99) C dd_G_findImplied_40 (by decide) (fun q1 => ?_) (fun q1 => ?_)
    · replace q1 : (8 * nc) ≤ a := (@nI_leI (8 * nc) a (by omega) (by omega)).mp q1
      omega
    · replace q1 : ¬ (8 * nc) ≤ a := fun z => q1 ((@nI_leI (8 * nc) a (by omega) (by omega)).mpr z)
      refine z_iconst (v := 0) C dd_G_findImplied_43 (by decide) ?_
      refine z_istore C dd_G_findImplied_44 rfl ?_
      refine lpb_G_findImplied (h := h) C hg OW e1 h8 ear har hne h1 (show a < 8 * nc by omega) (fun W2 nt2 h' o5 o6 J2 => ?_) (if ar = 2 then 8 * nc else 1) 0 W nt h9 o5 o6 (by omega) J
      obtain ⟨hP2, fr2, im2, no2⟩ := J2
      refine z_iincN C dd_G_findImplied_93 rfl rfl ?_
      refine z_goto (tgt := 35) C dd_G_findImplied_96 (by decide) ?_
      have eb : ∀ a1 b1, dk_be (if ar = 2 then 8 * nc else 1) (a + 1) 0 a1 b1 ↔ dk_be (if ar = 2 then 8 * nc else 1) a (if ar = 2 then 8 * nc else 1) a1 b1 := by
        intro a1 b1
        unfold dk_be
        omega
      refine ih (a + 1) W2 nt2 h' _ _ _ (by omega) (fun w hw => by cases hw; rfl) ⟨hP2, fr2, dk_IM_cg im2 eb, no2.elim Or.inl (fun z => ?_)⟩
      obtain ⟨a1, b1, z1, z2⟩ := z
      exact Or.inr ⟨a1, b1, (eb a1 b1).mpr z1, z2⟩
set_option maxRecDepth 20000 in
/-- findImplied -/
theorem cd_G_findImplied (l : Launch) (D : va_G) (dA : Nat → ClassId) (B : Nat) (h : zz_H) (n : Nat) (ad : Nat → Nat → Nat) (ng nM : Nat) (na no : Nat → Nat) (X : dk_X) (Y : dk_Y) (Z : dk_Z) (hP0 : dk_P dA ad (dk_lv ng nM na no) X Y Z h) (g oc nc ar : Nat) (ow : Nat → Nat) (hg : g < ng) (OW : dk_ow ad X Z nM g oc ow) (e1 : X 1 0 1 = nI nc) (h8 : nc ≤ 8) (ear : X 20 g 0 = nI ar) (har : ar = 1 ∨ ar = 2) (hne : ∀ a b, a < 8 * nc → b < 8 * nc → ¬ dk_of Y g a b = -1) (h1 : 1 ≤ nc) : zz_M l D zz_cl (zz_ty dA) B zz_tb (zz_x B) yy_G_findImplied (Cond.code yy_G_findImplied bb_G_findImplied 7 none) rm_G_findImplied [.ref ((ad 20 g))] h n zz_mv (fun _ h' n' => n' = n ∧ ∃ W, dk_K dA ad (dk_lv ng nM na no) W Y Z h h' ∧ dk_f5 ow oc X W ∧ dk_IM W Y ow g oc (X 20 g 6) (dk_be (if ar = 2 then 8 * nc else 1) (8 * nc) 0)) := by
  refine zz_ofW (zz_f B) [some (.ref ((ad 20 g))), none, none, none, none, none, none] (by decide) rfl rfl (Nat.le_of_ble_eq_true rfl) ?_
  intro p e s m below meth c C
  have hP := dk_rf hP0
  refine z_iconst (v := 0) C dd_G_findImplied_0 (by decide) ?_
  refine z_istore_n C dd_G_findImplied_1 rfl ?_
  refine lpa_G_findImplied C hg OW (fun W h' J => ?_) oc 0 X _ (by omega) ⟨hP, ⟨fun _ _ _ => rfl, fun _ _ _ => rfl, fun _ _ => rfl⟩, fun j hj => absurd hj (by omega)⟩
  obtain ⟨hP2, fr2, hb2⟩ := J
  refine z_ldc2 (v := (-1)) C wd_585 dd_G_findImplied_29 ?_
  refine z_lstore_n C dd_G_findImplied_32 rfl ?_
  refine z_iconst (v := 0) C dd_G_findImplied_33 (by decide) ?_
  refine z_istore_n C dd_G_findImplied_34 rfl ?_
  refine lpc_G_findImplied (h := h) C hg OW e1 h8 ear har hne h1 (fun W2 nt h' o4 o5 o6 J => z_vret C dd_G_findImplied_99 ⟨rfl, W2, J.1, J.2.1, J.2.2.1⟩ (by decide) (by decide)) (8 * nc) 0 W _ _ _ _ _ (by omega) (fun w hw => by cases hw) ⟨hP2, fr2, fun j hj i hi => ?_, Or.inl rfl⟩
  rw [hb2 j hj]
  exact ⟨fun z => ⟨z, fun a b hb => by unfold dk_be at hb; omega⟩, fun z => z.1⟩
