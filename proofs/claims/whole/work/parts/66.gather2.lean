/-- only the latest choice of g and the builder's rows are others -/
def dk_f9 (g : Nat) (X X' : dk_X) (Y Y' : dk_Y) : Prop := (∀ k i, ¬ (k = 20 ∧ i = g) → X' k i = X k i) ∧ (∀ p, p < 8 → X' 20 g p = X 20 g p) ∧ ∀ k i, ¬ (k = 20 ∧ i = g) → ¬ k = 6 → Y' k i = Y k i
theorem dk_f9_2 {g : Nat} {X X' X2 : dk_X} {Y Y' Y2 : dk_Y} (a : dk_f9 g X X' Y Y') (b : dk_f2 g X' X2 Y' Y2) : dk_f9 g X X2 Y Y2 := ⟨fun k i h => (b.1 k i h).trans (a.1 k i h), fun p h => (b.2.1 p h).trans (a.2.1 p h), fun k i h h2 => (b.2.2 k i h).trans (a.2.2 k i h h2)⟩
theorem dk_f9_ow {ad : Nat → Nat → Nat} {X W : dk_X} {Y V : dk_Y} {Z : dk_Z} {nM g oc : Nat} {ow : Nat → Nat} (fr : dk_f9 g X W Y V) (OW : dk_ow ad X Z nM g oc ow) : dk_ow ad W Z nM g oc ow := by
  obtain ⟨a1, a2, a3, a4⟩ := OW
  refine ⟨by rw [fr.2.1 5 (by decide)]; exact a1, a2, a3, fun k hk => ?_⟩
  rw [fr.1 30 _ (by omega)]
  exact a4 k hk
theorem dk_f9_of {X W : dk_X} {Y V : dk_Y} {g : Nat} (fr : dk_f9 g X W Y V) (g2 a b : Nat) : dk_of V g2 a b = dk_of Y g2 a b := by
  unfold dk_of
  rw [fr.2.2 28 g2 (by omega) (by decide), fr.2.2 29 g2 (by omega) (by decide), fr.2.2 26 g2 (by omega) (by decide)]
theorem dk_f9_ap {X W : dk_X} {Y V : dk_Y} {g : Nat} (fr : dk_f9 g X W Y V) (ow : Nat → Nat) (w : Int64) (k : Nat) : dk_ap V ow w k = dk_ap Y ow w k := dk_ap_cg (fun i => fr.2.2 30 i (by omega) (by decide)) k
theorem dk_f9_pk {X W : dk_X} {Y V : dk_Y} {g : Nat} (fr : dk_f9 g X W Y V) (ow : Nat → Nat) (oc : Nat) (x : Int32) : dk_pk W ow oc x = dk_pk X ow oc x := dk_pk_cg (fun i => fr.1 30 i (by omega))
/-- a row of the builder: its facts, and above them its best -/
def dk_rv (X : dk_X) (Y : dk_Y) (ow : Nat → Nat) (g oc a b : Nat) : Int64 := dk_of Y g a b ||| ((dk_bq X Y ow g oc a b - (-2)).toInt64 <<< (Int32.toInt64 48 &&& 63))
theorem dk_ch_Y {X : dk_X} {Y Y' : dk_Y} {ow : Nat → Nat} {g oc : Nat} (h : dk_ch X Y ow g oc) (e : ∀ i, Y' 30 i = Y 30 i) (e9 : Y' 20 g 9 = Y 20 g 9) : dk_ch X Y' ow g oc := by
  unfold dk_ch
  rw [e9, dk_ap_cg e]
  exact h
def dk_RG (rv : Nat → Nat → Int64) (y : Nat → Int64) (cnt : Nat) (Pr : Nat → Nat → Prop) : Prop := (∀ j, j < cnt → ∃ a b, Pr a b ∧ y j = rv a b) ∧ ∀ a b, Pr a b → ∃ j, j < cnt ∧ y j = rv a b
theorem dk_RG_old {rv : Nat → Nat → Int64} {y : Nat → Int64} {cnt S a b j0 : Nat} (h : dk_RG rv y cnt (dk_be S a b)) (hj : j0 < cnt) (e : y j0 = rv a b) : dk_RG rv y cnt (dk_be S a (b + 1)) := by
  refine ⟨fun j hj => ?_, fun a1 b1 hb => ?_⟩
  · obtain ⟨a1, b1, h1, h2⟩ := h.1 j hj
    exact ⟨a1, b1, by unfold dk_be at h1 ⊢; omega, h2⟩
  · by_cases c : a1 = a ∧ b1 = b
    · obtain ⟨rfl, rfl⟩ := c
      exact ⟨j0, hj, e⟩
    · exact h.2 a1 b1 (by unfold dk_be at hb ⊢; omega)
theorem dk_RG_new {rv : Nat → Nat → Int64} {y : Nat → Int64} {cnt S a b : Nat} (h : dk_RG rv y cnt (dk_be S a b)) : dk_RG rv (vp_updL y cnt (rv a b)) (cnt + 1) (dk_be S a (b + 1)) := by
  refine ⟨fun j hj => ?_, fun a1 b1 hb => ?_⟩
  · by_cases c : j = cnt
    · subst c
      exact ⟨a, b, by unfold dk_be; omega, pk_uLs⟩
    · obtain ⟨a1, b1, h1, h2⟩ := h.1 j (by omega)
      exact ⟨a1, b1, by unfold dk_be at h1 ⊢; omega, by rw [pk_uLn c]; exact h2⟩
  · by_cases c : a1 = a ∧ b1 = b
    · obtain ⟨rfl, rfl⟩ := c
      exact ⟨cnt, by omega, pk_uLs⟩
    · obtain ⟨j, h1, h2⟩ := h.2 a1 b1 (by unfold dk_be at hb ⊢; omega)
      exact ⟨j, by omega, by rw [pk_uLn (by omega)]; exact h2⟩
abbrev rm_B_gather : Room := { frames := 9, cells := 0, slots := 0, locals := 250 }
set_option maxRecDepth 20000 in
theorem lpb_B_gather {D : va_G} {dA : Nat → ClassId} {B : Nat} {p : Program} {l : Launch} {e : Env} {s : State} {m : MethodId} {args : Array Value} {below : List Frame} {meth : Method} {c : Code} {Q : State → Prop} {n : Nat} {nm : String} {ret9 : Option FieldType} {h : zz_H} (C : zz_C D zz_cl (zz_ty dA) B zz_tb (zz_x B) p s m args meth c bb_B_gather RR_B ret9 nm) {ad : Nat → Nat → Nat} {ng nM : Nat} {na no : Nat → Nat} {X : dk_X} {Y : dk_Y} {Z : dk_Z} {g oc nc ar a : Nat} {ow : Nat → Nat} (hg : g < ng) (OW : dk_ow ad X Z nM g oc ow) (e1 : X 1 0 1 = nI nc) (h8 : nc ≤ 8) (ear : X 20 g 0 = nI ar) (har : ar = 1 ∨ ar = 2) (ha : a < 8 * nc) (kx : ∀ W V c9 h' o5 o6 o7 o8, (dk_K dA ad (dk_lv ng nM na no) W V Z h h' ∧ dk_ch W V ow g oc ∧ dk_f9 g X W Y V ∧ dk_RG (dk_rv X Y ow g oc) (V 6 0) c9 (dk_be (if ar = 2 then 8 * nc else 1) a (if ar = 2 then 8 * nc else 1)) ∧ c9 ≤ a * 64 + (if ar = 2 then 8 * nc else 1)) → zz_W D zz_cl B p l e rm_B_gather s m args below meth c Q h' n 0 0 [some (.ref (ad 5 0)), some (.ref (ad 20 g)), some (.int (nI c9)), some (.int (nI a)), some (.int (nI (if ar = 2 then 8 * nc else 1))), o5, o6, o7, o8] 89 []) :
    ∀ f b W V c9 h9 o5 o6 o7 o8, b + f = (if ar = 2 then 8 * nc else 1) → (dk_K dA ad (dk_lv ng nM na no) W V Z h h9 ∧ dk_ch W V ow g oc ∧ dk_f9 g X W Y V ∧ dk_RG (dk_rv X Y ow g oc) (V 6 0) c9 (dk_be (if ar = 2 then 8 * nc else 1) a b) ∧ c9 ≤ a * 64 + b) → zz_W D zz_cl B p l e rm_B_gather s m args below meth c Q h9 n 0 0 [some (.ref (ad 5 0)), some (.ref (ad 20 g)), some (.int (nI c9)), some (.int (nI a)), some (.int (nI b)), o5, o6, o7, o8] 15 [] := by
  intro f
  have o12 := OW.2.1
  have hS : (if ar = 2 then 8 * nc else 1) ≤ 8 * nc := by split <;> omega
  induction f with
  | zero =>
    intro b W V c9 h9 o5 o6 o7 o8 hb J
    have hb9 : b = (if ar = 2 then 8 * nc else 1) := by omega
    subst hb9
    have J9 := J
    obtain ⟨hP, ch, fr, rg, hc⟩ := J9
    refine z_iload C dd_B_gather_15 rfl ?_
    refine z_aload_n C dd_B_gather_17 rfl ?_
    refine iv_B_42 (sk := fun r => .int r :: [.int ((nI (if ar = 2 then 8 * nc else 1)))]) (zz_f B) C dd_B_gather_18 (cd_G_secondCount l D dA B _ _ ad ng nM na no W V Z hP.1 g nc ar hg (by rw [fr.1 1 0 (by omega)]; exact e1) (by rw [fr.2.1 0 (by decide)]; exact ear) har) (dk_rd (k := 20) (i := g) (x := (W 20 g)) (y := (V 20 g)) (z := (Z 20 g)) hP hg rfl rfl rfl) rfl rfl ⟨by decide, by decide⟩ (Nat.le_of_ble_eq_true rfl) ⟨by decide, by decide⟩ (fun _ => rfl) (fun v1_ h1_ n1_ p1_ => ?_)
    obtain ⟨f1_, e1_, p1_⟩ := p1_
    have e1z := e1_.symm
    have f1z := f1_.symm
    subst e1z
    subst f1z
    have q1_ := p1_.symm
    subst q1_
    refine z_icmp_ge (tgt := 89) C dd_B_gather_21 (by decide) (fun q1 => ?_) (fun q1 => absurd (Int32.le_refl _) q1)
    exact kx W V c9 h9 o5 o6 o7 o8 J
  | succ f ih =>
    intro b W V c9 h9 o5 o6 o7 o8 hb J
    obtain ⟨hP, ch, fr, rg, hc⟩ := J
    refine z_iload C dd_B_gather_15 rfl ?_
    refine z_aload_n C dd_B_gather_17 rfl ?_
    refine iv_B_42 (sk := fun r => .int r :: [.int ((nI b))]) (zz_f B) C dd_B_gather_18 (cd_G_secondCount l D dA B _ _ ad ng nM na no W V Z hP.1 g nc ar hg (by rw [fr.1 1 0 (by omega)]; exact e1) (by rw [fr.2.1 0 (by decide)]; exact ear) har) (dk_rd (k := 20) (i := g) (x := (W 20 g)) (y := (V 20 g)) (z := (Z 20 g)) hP hg rfl rfl rfl) rfl rfl ⟨by decide, by decide⟩ (Nat.le_of_ble_eq_true rfl) ⟨by decide, by decide⟩ (fun _ => rfl) (fun v1_ h1_ n1_ p1_ => ?_)
    obtain ⟨f1_, e1_, p1_⟩ := p1_
    have e1z := e1_.symm
    have f1z := f1_.symm
    subst e1z
    subst f1z
    have q1_ := p1_.symm
    subst q1_
    refine z_icmp_ge (tgt := 89) C dd_B_gather_21 (by decide) (fun q1 => ?_) (fun q1 => ?_)
    · replace q1 : (if ar = 2 then 8 * nc else 1) ≤ b := (@nI_leI (if ar = 2 then 8 * nc else 1) b (by omega) (by omega)).mp q1
      omega
    · replace q1 : ¬ (if ar = 2 then 8 * nc else 1) ≤ b := fun z => q1 ((@nI_leI (if ar = 2 then 8 * nc else 1) b (by omega) (by omega)).mpr z)
      refine z_aload_n C dd_B_gather_24 rfl ?_
      refine gf_B_45 (v := .ref ((ad 26 g))) C dd_B_gather_25 (dk_rd (k := 20) (i := g) (x := (W 20 g)) (y := (V 20 g)) (z := (Z 20 g)) hP hg rfl rfl rfl) rfl ?_
      refine z_iload_n C dd_B_gather_28 rfl ?_
      refine z_iload C dd_B_gather_29 rfl ?_
      refine iv_B_49 (sk := fun r => .long r :: []) (zz_f B) C dd_B_gather_31 (cd_F_ofRow l D dA B _ _ ad ng nM na no W V Z hP.1 g a b hg (by omega) (by omega)) (dk_rd (k := 26) (i := g) (x := (W 26 g)) (y := (V 26 g)) (z := (Z 26 g)) hP hg rfl rfl rfl) rfl rfl ⟨by decide, by decide⟩ (Nat.le_of_ble_eq_true rfl) ⟨by decide, by decide⟩ (fun _ => rfl) (fun v2_ h2_ n2_ p2_ => ?_)
      obtain ⟨f2_, e2_, p2_⟩ := p2_
      have e2z := e2_.symm
      have f2z := f2_.symm
      subst e2z
      subst f2z
      rw [dk_f9_of fr] at p2_
      have q2_ := p2_.symm
      subst q2_
      refine z_lstore C dd_B_gather_34 rfl ?_
      refine z_lload C dd_B_gather_36 rfl ?_
      refine z_aload_n C dd_B_gather_38 rfl ?_
      refine z_lload C dd_B_gather_39 rfl ?_
      refine iv_B_53 (sk := fun r => .int r :: [.long ((dk_of Y g a b))]) (zz_f B) C dd_B_gather_41 (cd_G_choose l D dA B _ _ ad ng nM na no W V Z hP.1 g oc ow (dk_of Y g a b) hg (dk_f9_ow fr OW) ch) (dk_rd (k := 20) (i := g) (x := (W 20 g)) (y := (V 20 g)) (z := (Z 20 g)) hP hg rfl rfl rfl) rfl rfl ⟨by decide, by decide⟩ (Nat.le_of_ble_eq_true rfl) ⟨by decide, by decide⟩ (fun _ => rfl) (fun v3_ h3_ n3_ p3_ => ?_)
      obtain ⟨rfl, q9, W2, V2, w1, w2, w3⟩ := p3_
      have hP3_ := dk_tr hP w1
      rw [dk_f9_ap fr, dk_f9_pk fr] at q9
      change v3_ = dk_bq X Y ow g oc a b at q9
      have fr2 := dk_f9_2 fr w3
      have e6 : V2 6 0 = V 6 0 := w3.2.2 6 0 (by omega)
      rw [← e6] at rg
      subst q9
      refine z_bipush (v := (-2)) C dd_B_gather_44 (by decide) ?_
      refine z_isub C dd_B_gather_46 ?_
      refine z_i2l C dd_B_gather_47 ?_
      refine z_bipush (v := 48) C dd_B_gather_48 (by decide) ?_
      refine z_lshl C dd_B_gather_50 ?_
      refine z_lor C dd_B_gather_51 ?_
      refine z_topl (y := dk_rv X Y ow g oc a b) rfl ?_
      refine z_lstore C dd_B_gather_52 rfl ?_
      refine z_iload_n C dd_B_gather_54 rfl ?_
      refine z_if_eq (tgt := 72) C dd_B_gather_55 (by decide) (fun q2 => ?_) (fun q2 => ?_)
      · replace q2 : c9 = 0 := (@nI_eq c9 0 (by omega) (by omega)).mp q2
        refine z_aload_n C dd_B_gather_72 rfl ?_
        refine gf_B_13 (v := .ref ((ad 6 0))) C dd_B_gather_73 (dk_rd (k := 5) (i := 0) (x := (W2 5 0)) (y := (V2 5 0)) (z := (Z 5 0)) hP3_ rfl rfl rfl rfl) rfl ?_
        refine z_iload_n C dd_B_gather_76 rfl ?_
        refine z_lload C dd_B_gather_77 rfl ?_
        refine z_last (t0 := 1) (N := 4096) (f := (V2 6 0)) C rfl dd_B_gather_79 (dk_rd (k := 6) (i := 0) (x := (W2 6 0)) (y := (V2 6 0)) (z := (Z 6 0)) hP3_ rfl rfl rfl rfl) (vp_in_nI (by omega) (by decide)) ?_
        refine z_cut (dk_K dA ad (dk_lv ng nM na no) W2 (dk_is V2 6 0 (vp_updL (V2 6 0) (Int32.toNatClampNeg (nI c9)) (dk_rv X Y ow g oc a b))) Z h) (dk_wY hP3_ rfl rfl rfl rfl) rfl rfl rfl (fun h4_ hP4_ => ?_)
        refine z_iincN C dd_B_gather_80 rfl rfl ?_
        refine z_iincN C dd_B_gather_83 rfl rfl ?_
        refine z_goto (tgt := 15) C dd_B_gather_86 (by decide) ?_
        rw [nI_clamp (by omega)] at hP4_
        refine ih (b + 1) W2 _ (c9 + 1) _ _ _ _ _ (by omega) ⟨hP4_, ?_, ⟨fr2.1, fr2.2.1, fun k9 i9 h1 h2 => (dk_n (fun z => h2 z.1)).trans (fr2.2.2 k9 i9 h1 h2)⟩, ?_, by omega⟩
        · exact dk_ch_Y w2 (fun i => rfl) rfl
        · rw [dk_s]; exact dk_RG_new rg
      · replace q2 : ¬ c9 = 0 := fun z => q2 ((@nI_eq c9 0 (by omega) (by omega)).mpr z)
        refine z_aload_n C dd_B_gather_58 rfl ?_
        refine gf_B_13 (v := .ref ((ad 6 0))) C dd_B_gather_59 (dk_rd (k := 5) (i := 0) (x := (W2 5 0)) (y := (V2 5 0)) (z := (Z 5 0)) hP3_ rfl rfl rfl rfl) rfl ?_
        refine z_iload_n C dd_B_gather_62 rfl ?_
        refine z_iconst (v := 1) C dd_B_gather_63 (by decide) ?_
        refine z_isub C dd_B_gather_64 ?_
        refine z_topi (y := nI (c9 - 1)) (by first | exact (@pk_sub c9 1 (by omega)).symm | (rw [← pk_sub (a := c9) (b := 1) (by omega)]; rfl)) ?_
        refine z_lald (t0 := 1) (N := 4096) (f := (V2 6 0)) C rfl dd_B_gather_65 (dk_rd (k := 6) (i := 0) (x := (W2 6 0)) (y := (V2 6 0)) (z := (Z 6 0)) hP3_ rfl rfl rfl rfl) (vp_in_nI (by omega) (by decide)) ?_
        refine z_topl (y := ((V2 6 0) (c9 - 1))) (by rw [nI_clamp (by omega)]) ?_
        refine z_lload C dd_B_gather_66 rfl ?_
        refine z_lcmp C dd_B_gather_68 ?_
        refine z_if_eq (tgt := 83) C dd_B_gather_69 (by decide) (fun q3 => ?_) (fun q3 => ?_)
        · skip
          refine z_iincN C dd_B_gather_83 rfl rfl ?_
          refine z_goto (tgt := 15) C dd_B_gather_86 (by decide) ?_
          exact ih (b + 1) W2 V2 c9 _ _ _ _ _ (by omega) ⟨hP3_, w2, fr2, dk_RG_old rg (show c9 - 1 < c9 by omega) ((pu_lcmp _ _).mp q3), by omega⟩
        · skip
          refine z_aload_n C dd_B_gather_72 rfl ?_
          refine gf_B_13 (v := .ref ((ad 6 0))) C dd_B_gather_73 (dk_rd (k := 5) (i := 0) (x := (W2 5 0)) (y := (V2 5 0)) (z := (Z 5 0)) hP3_ rfl rfl rfl rfl) rfl ?_
          refine z_iload_n C dd_B_gather_76 rfl ?_
          refine z_lload C dd_B_gather_77 rfl ?_
          refine z_last (t0 := 1) (N := 4096) (f := (V2 6 0)) C rfl dd_B_gather_79 (dk_rd (k := 6) (i := 0) (x := (W2 6 0)) (y := (V2 6 0)) (z := (Z 6 0)) hP3_ rfl rfl rfl rfl) (vp_in_nI (by omega) (by decide)) ?_
          refine z_cut (dk_K dA ad (dk_lv ng nM na no) W2 (dk_is V2 6 0 (vp_updL (V2 6 0) (Int32.toNatClampNeg (nI c9)) (dk_rv X Y ow g oc a b))) Z h) (dk_wY hP3_ rfl rfl rfl rfl) rfl rfl rfl (fun h5_ hP5_ => ?_)
          refine z_iincN C dd_B_gather_80 rfl rfl ?_
          refine z_iincN C dd_B_gather_83 rfl rfl ?_
          refine z_goto (tgt := 15) C dd_B_gather_86 (by decide) ?_
          rw [nI_clamp (by omega)] at hP5_
          refine ih (b + 1) W2 _ (c9 + 1) _ _ _ _ _ (by omega) ⟨hP5_, ?_, ⟨fr2.1, fr2.2.1, fun k9 i9 h1 h2 => (dk_n (fun z => h2 z.1)).trans (fr2.2.2 k9 i9 h1 h2)⟩, ?_, by omega⟩
          · exact dk_ch_Y w2 (fun i => rfl) rfl
          · rw [dk_s]; exact dk_RG_new rg
set_option maxRecDepth 20000 in
theorem lpc_B_gather {D : va_G} {dA : Nat → ClassId} {B : Nat} {p : Program} {l : Launch} {e : Env} {s : State} {m : MethodId} {args : Array Value} {below : List Frame} {meth : Method} {c : Code} {Q : State → Prop} {n : Nat} {nm : String} {ret9 : Option FieldType} {h : zz_H} (C : zz_C D zz_cl (zz_ty dA) B zz_tb (zz_x B) p s m args meth c bb_B_gather RR_B ret9 nm) {ad : Nat → Nat → Nat} {ng nM : Nat} {na no : Nat → Nat} {X : dk_X} {Y : dk_Y} {Z : dk_Z} {g oc nc ar : Nat} {ow : Nat → Nat} (hg : g < ng) (OW : dk_ow ad X Z nM g oc ow) (e1 : X 1 0 1 = nI nc) (h8 : nc ≤ 8) (ear : X 20 g 0 = nI ar) (har : ar = 1 ∨ ar = 2) (kx : ∀ W V c9 h' o4 o5 o6 o7 o8, (dk_K dA ad (dk_lv ng nM na no) W V Z h h' ∧ dk_ch W V ow g oc ∧ dk_f9 g X W Y V ∧ dk_RG (dk_rv X Y ow g oc) (V 6 0) c9 (dk_be (if ar = 2 then 8 * nc else 1) (8 * nc) 0) ∧ c9 ≤ (8 * nc) * 64 + 0) → zz_W D zz_cl B p l e rm_B_gather s m args below meth c Q h' n 0 0 [some (.ref (ad 5 0)), some (.ref (ad 20 g)), some (.int (nI c9)), some (.int (nI (8 * nc))), o4, o5, o6, o7, o8] 95 []) :
    ∀ f a W V c9 h9 o4 o5 o6 o7 o8, a + f = 8 * nc → (∀ w, o4 = some w → w.category = 1) → (dk_K dA ad (dk_lv ng nM na no) W V Z h h9 ∧ dk_ch W V ow g oc ∧ dk_f9 g X W Y V ∧ dk_RG (dk_rv X Y ow g oc) (V 6 0) c9 (dk_be (if ar = 2 then 8 * nc else 1) a 0) ∧ c9 ≤ a * 64 + 0) → zz_W D zz_cl B p l e rm_B_gather s m args below meth c Q h9 n 0 0 [some (.ref (ad 5 0)), some (.ref (ad 20 g)), some (.int (nI c9)), some (.int (nI a)), o4, o5, o6, o7, o8] 4 [] := by
  intro f
  have o12 := OW.2.1
  induction f with
  | zero =>
    intro a W V c9 h9 o4 o5 o6 o7 o8 ha c4 J
    have ha9 : a = 8 * nc := by omega
    subst ha9
    have J9 := J
    obtain ⟨hP, ch, fr, rg, hc⟩ := J9
    refine z_iload_n C dd_B_gather_4 rfl ?_
    refine z_aload_n C dd_B_gather_5 rfl ?_
    refine iv_B_38 (sk := fun r => .int r :: [.int ((nI (8 * nc)))]) (zz_f B) C dd_B_gather_6 (cd_G_firstCount l D dA B _ _ ad ng nM na no W V Z hP.1 g nc ar hg (by rw [fr.1 1 0 (by omega)]; exact e1) (by rw [fr.2.1 0 (by decide)]; exact ear) har) (dk_rd (k := 20) (i := g) (x := (W 20 g)) (y := (V 20 g)) (z := (Z 20 g)) hP hg rfl rfl rfl) rfl rfl ⟨by decide, by decide⟩ (Nat.le_of_ble_eq_true rfl) ⟨by decide, by decide⟩ (fun _ => rfl) (fun v1_ h1_ n1_ p1_ => ?_)
    obtain ⟨f1_, e1_, p1_⟩ := p1_
    have e1z := e1_.symm
    have f1z := f1_.symm
    subst e1z
    subst f1z
    have q1_ := p1_.symm
    subst q1_
    refine z_icmp_ge (tgt := 95) C dd_B_gather_9 (by decide) (fun q1 => ?_) (fun q1 => absurd (Int32.le_refl _) q1)
    exact kx W V c9 h9 o4 o5 o6 o7 o8 J
  | succ f ih =>
    intro a W V c9 h9 o4 o5 o6 o7 o8 ha c4 J
    have J9 := J
    obtain ⟨hP, ch, fr, rg, hc⟩ := J9
    have hS : (if ar = 2 then 8 * nc else 1) ≤ 8 * nc := by split <;> omega
    refine z_iload_n C dd_B_gather_4 rfl ?_
    refine z_aload_n C dd_B_gather_5 rfl ?_
    refine iv_B_38 (sk := fun r => .int r :: [.int ((nI a))]) (zz_f B) C dd_B_gather_6 (cd_G_firstCount l D dA B _ _ ad ng nM na no W V Z hP.1 g nc ar hg (by rw [fr.1 1 0 (by omega)]; exact e1) (by rw [fr.2.1 0 (by decide)]; exact ear) har) (dk_rd (k := 20) (i := g) (x := (W 20 g)) (y := (V 20 g)) (z := (Z 20 g)) hP hg rfl rfl rfl) rfl rfl ⟨by decide, by decide⟩ (Nat.le_of_ble_eq_true rfl) ⟨by decide, by decide⟩ (fun _ => rfl) (fun v1_ h1_ n1_ p1_ => ?_)
    obtain ⟨f1_, e1_, p1_⟩ := p1_
    have e1z := e1_.symm
    have f1z := f1_.symm
    subst e1z
    subst f1z
    have q1_ := p1_.symm
    subst q1_
    refine z_icmp_ge (tgt := 95) C dd_B_gather_9 (by decide) (fun q1 => ?_) (fun q1 => ?_)
    · replace q1 : (8 * nc) ≤ a := (@nI_leI (8 * nc) a (by omega) (by omega)).mp q1
      omega
    · replace q1 : ¬ (8 * nc) ≤ a := fun z => q1 ((@nI_leI (8 * nc) a (by omega) (by omega)).mpr z)
      refine z_iconst (v := 0) C dd_B_gather_12 (by decide) ?_
      refine z_istore C dd_B_gather_13 rfl ?_
      refine lpb_B_gather (h := h) C hg OW e1 h8 ear har (show a < 8 * nc by omega) (fun W2 V2 c8 h' o5 o6 o7 o8 J2 => ?_) (if ar = 2 then 8 * nc else 1) 0 W V c9 h9 o5 o6 o7 o8 (by omega) J
      obtain ⟨hP2, ch2, fr2, rg2, hc2⟩ := J2
      refine z_iincN C dd_B_gather_89 rfl rfl ?_
      refine z_goto (tgt := 4) C dd_B_gather_92 (by decide) ?_
      refine ih (a + 1) W2 V2 c8 h' _ _ _ _ _ (by omega) (fun w hw => by cases hw; rfl) ⟨hP2, ch2, fr2, ⟨fun j hj => ?_, fun a1 b1 hb => rg2.2 a1 b1 (by unfold dk_be at hb ⊢; omega)⟩, by omega⟩
      obtain ⟨a1, b1, q1, q2⟩ := rg2.1 j hj
      exact ⟨a1, b1, by unfold dk_be at q1 ⊢; omega, q2⟩
set_option maxRecDepth 20000 in
/-- gather -/
theorem cd_B_gather (l : Launch) (D : va_G) (dA : Nat → ClassId) (B : Nat) (h : zz_H) (n : Nat) (ad : Nat → Nat → Nat) (ng nM : Nat) (na no : Nat → Nat) (X : dk_X) (Y : dk_Y) (Z : dk_Z) (hP0 : dk_P dA ad (dk_lv ng nM na no) X Y Z h) (g oc nc ar : Nat) (ow : Nat → Nat) (hg : g < ng) (OW : dk_ow ad X Z nM g oc ow) (e1 : X 1 0 1 = nI nc) (h8 : nc ≤ 8) (ear : X 20 g 0 = nI ar) (har : ar = 1 ∨ ar = 2) (CH : dk_ch X Y ow g oc) : zz_M l D zz_cl (zz_ty dA) B zz_tb (zz_x B) yy_B_gather (Cond.code yy_B_gather bb_B_gather 9 (some FieldType.int)) rm_B_gather [.ref ((ad 5 0)), .ref ((ad 20 g))] h n zz_mi (fun r h' n' => n' = n ∧ ∃ W V c9, r = nI c9 ∧ dk_K dA ad (dk_lv ng nM na no) W V Z h h' ∧ dk_ch W V ow g oc ∧ dk_f9 g X W Y V ∧ dk_RG (dk_rv X Y ow g oc) (V 6 0) c9 (dk_be (if ar = 2 then 8 * nc else 1) (8 * nc) 0) ∧ c9 ≤ (8 * nc) * 64 + 0) := by
  refine zz_ofW (zz_f B) [some (.ref ((ad 5 0))), some (.ref ((ad 20 g))), none, none, none, none, none, none, none] (by decide) rfl rfl (Nat.le_of_ble_eq_true rfl) ?_
  intro p e s m below meth c C
  have hP := dk_rf hP0
  refine z_iconst (v := 0) C dd_B_gather_0 (by decide) ?_
  refine z_istore_n C dd_B_gather_1 rfl ?_
  refine z_iconst (v := 0) C dd_B_gather_2 (by decide) ?_
  refine z_istore_n C dd_B_gather_3 rfl ?_
  refine lpc_B_gather (h := h) C hg OW e1 h8 ear har (fun W V c9 h' o4 o5 o6 o7 o8 J => ?_) (8 * nc) 0 X Y 0 _ none none none none none (by omega) (fun w hw => by cases hw) ⟨hP, CH, ⟨fun _ _ _ => rfl, fun _ _ => rfl, fun _ _ _ _ => rfl⟩, ⟨fun j hj => absurd hj (by omega), fun a1 b1 hb => by unfold dk_be at hb; omega⟩, by omega⟩
  refine z_iload_n C dd_B_gather_95 rfl ?_
  exact z_iret C dd_B_gather_96 ⟨rfl, W, V, c9, rfl, J⟩ (by decide) (by decide)
