theorem dk_f2_rf {g : Nat} {X : dk_X} {Y : dk_Y} : dk_f2 g X X Y Y := ⟨fun _ _ _ => rfl, fun _ _ => rfl, fun _ _ _ => rfl⟩
theorem dk_f2_tr {g : Nat} {X X' X2 : dk_X} {Y Y' Y2 : dk_Y} (a : dk_f2 g X X' Y Y') (b : dk_f2 g X' X2 Y' Y2) : dk_f2 g X X2 Y Y2 := ⟨fun k i h => (b.1 k i h).trans (a.1 k i h), fun p h => (b.2.1 p h).trans (a.2.1 p h), fun k i h => (b.2.2 k i h).trans (a.2.2 k i h)⟩
theorem dk_f2_ow {ad : Nat → Nat → Nat} {X W : dk_X} {Y V : dk_Y} {Z : dk_Z} {nM g oc : Nat} {ow : Nat → Nat} (fr : dk_f2 g X W Y V) (OW : dk_ow ad X Z nM g oc ow) : dk_ow ad W Z nM g oc ow := by
  obtain ⟨a1, a2, a3, a4⟩ := OW
  refine ⟨by rw [fr.2.1 5 (by decide)]; exact a1, a2, a3, fun k hk => ?_⟩
  rw [fr.1 30 _ (by omega)]
  exact a4 k hk
theorem dk_f2_of {X W : dk_X} {Y V : dk_Y} {g : Nat} (fr : dk_f2 g X W Y V) (g2 a b : Nat) : dk_of V g2 a b = dk_of Y g2 a b := by
  unfold dk_of
  rw [fr.2.2 28 g2 (by omega), fr.2.2 29 g2 (by omega), fr.2.2 26 g2 (by omega)]
theorem dk_f2_ap {X W : dk_X} {Y V : dk_Y} {g : Nat} (fr : dk_f2 g X W Y V) (ow : Nat → Nat) (w : Int64) (k : Nat) : dk_ap V ow w k = dk_ap Y ow w k := dk_ap_cg (fun i => fr.2.2 30 i (by omega)) k
theorem dk_f2_pk {X W : dk_X} {Y V : dk_Y} {g : Nat} (fr : dk_f2 g X W Y V) (ow : Nat → Nat) (oc : Nat) (x : Int32) : dk_pk W ow oc x = dk_pk X ow oc x := dk_pk_cg (fun i => fr.1 30 i (by omega))
/-- the best at a row, of the class -/
def dk_bq (X : dk_X) (Y : dk_Y) (ow : Nat → Nat) (g oc a b : Nat) : Int32 := dk_pk X ow oc (dk_AP Y ow g oc a b)
abbrev rm_G_firstFault : Room := { frames := 9, cells := 0, slots := 0, locals := 250 }
set_option maxRecDepth 20000 in
theorem lpb_G_firstFault {D : va_G} {dA : Nat → ClassId} {B : Nat} {p : Program} {l : Launch} {e : Env} {s : State} {m : MethodId} {args : Array Value} {below : List Frame} {meth : Method} {c : Code} {Q : State → Prop} {n : Nat} {nm : String} {ret9 : Option FieldType} {h : zz_H} (C : zz_C D zz_cl (zz_ty dA) B zz_tb (zz_x B) p s m args meth c bb_G_firstFault RR_G ret9 nm) {ad : Nat → Nat → Nat} {ng nM : Nat} {na no : Nat → Nat} {X : dk_X} {Y : dk_Y} {Z : dk_Z} {g oc nc ar a : Nat} {ow : Nat → Nat} (hg : g < ng) (OW : dk_ow ad X Z nM g oc ow) (e1 : X 1 0 1 = nI nc) (h8 : nc ≤ 8) (ear : X 20 g 0 = nI ar) (har : ar = 1 ∨ ar = 2) (ha : a < 8 * nc) (kf : ∀ W V h' r a9 o2, (dk_K dA ad (dk_lv ng nM na no) W V Z h h' ∧ dk_ch W V ow g oc ∧ dk_f2 g X W Y V ∧ ∃ a b, a < 8 * nc ∧ b < (if ar = 2 then 8 * nc else 1) ∧ dk_bq X Y ow g oc a b < 0 ∧ (∀ a1 b1, dk_be (if ar = 2 then 8 * nc else 1) a b a1 b1 → ¬ dk_bq X Y ow g oc a1 b1 < 0) ∧ r = nI (a * 64 + b)) → zz_W D zz_cl B p l e rm_G_firstFault s m args below meth c Q h' n 0 0 [some (.ref (ad 20 g)), some (.int (nI a9)), o2] 42 [.int r]) (kx : ∀ W V h', (dk_K dA ad (dk_lv ng nM na no) W V Z h h' ∧ dk_ch W V ow g oc ∧ dk_f2 g X W Y V ∧ ∀ a1 b1, dk_be (if ar = 2 then 8 * nc else 1) a (if ar = 2 then 8 * nc else 1) a1 b1 → ¬ dk_bq X Y ow g oc a1 b1 < 0) → zz_W D zz_cl B p l e rm_G_firstFault s m args below meth c Q h' n 0 0 [some (.ref (ad 20 g)), some (.int (nI a)), some (.int (nI (if ar = 2 then 8 * nc else 1)))] 49 []) :
    ∀ f b W V h9, b + f = (if ar = 2 then 8 * nc else 1) → (dk_K dA ad (dk_lv ng nM na no) W V Z h h9 ∧ dk_ch W V ow g oc ∧ dk_f2 g X W Y V ∧ ∀ a1 b1, dk_be (if ar = 2 then 8 * nc else 1) a b a1 b1 → ¬ dk_bq X Y ow g oc a1 b1 < 0) → zz_W D zz_cl B p l e rm_G_firstFault s m args below meth c Q h9 n 0 0 [some (.ref (ad 20 g)), some (.int (nI a)), some (.int (nI b))] 12 [] := by
  intro f
  have o12 := OW.2.1
  have hS : (if ar = 2 then 8 * nc else 1) ≤ 8 * nc := by split <;> omega
  induction f with
  | zero =>
    intro b W V h9 hb J
    have hb9 : b = (if ar = 2 then 8 * nc else 1) := by omega
    subst hb9
    have J9 := J
    obtain ⟨hP, ch, fr, hn⟩ := J9
    refine z_iload_n C dd_G_firstFault_12 rfl ?_
    refine z_aload_n C dd_G_firstFault_13 rfl ?_
    refine iv_G_97 (sk := fun r => .int r :: [.int ((nI (if ar = 2 then 8 * nc else 1)))]) (zz_f B) C dd_G_firstFault_14 (cd_G_secondCount l D dA B _ _ ad ng nM na no W V Z hP.1 g nc ar hg (by rw [fr.1 1 0 (by omega)]; exact e1) (by rw [fr.2.1 0 (by decide)]; exact ear) har) (dk_rd (k := 20) (i := g) (x := (W 20 g)) (y := (V 20 g)) (z := (Z 20 g)) hP hg rfl rfl rfl) rfl rfl ⟨by decide, by decide⟩ (Nat.le_of_ble_eq_true rfl) ⟨by decide, by decide⟩ (fun _ => rfl) (fun v1_ h1_ n1_ p1_ => ?_)
    obtain ⟨f1_, e1_, p1_⟩ := p1_
    have e1z := e1_.symm
    have f1z := f1_.symm
    subst e1z
    subst f1z
    have q1_ := p1_.symm
    subst q1_
    refine z_icmp_ge (tgt := 49) C dd_G_firstFault_17 (by decide) (fun q1 => ?_) (fun q1 => absurd (Int32.le_refl _) q1)
    exact kx W V h9 J
  | succ f ih =>
    intro b W V h9 hb J
    obtain ⟨hP, ch, fr, hn⟩ := J
    refine z_iload_n C dd_G_firstFault_12 rfl ?_
    refine z_aload_n C dd_G_firstFault_13 rfl ?_
    refine iv_G_97 (sk := fun r => .int r :: [.int ((nI b))]) (zz_f B) C dd_G_firstFault_14 (cd_G_secondCount l D dA B _ _ ad ng nM na no W V Z hP.1 g nc ar hg (by rw [fr.1 1 0 (by omega)]; exact e1) (by rw [fr.2.1 0 (by decide)]; exact ear) har) (dk_rd (k := 20) (i := g) (x := (W 20 g)) (y := (V 20 g)) (z := (Z 20 g)) hP hg rfl rfl rfl) rfl rfl ⟨by decide, by decide⟩ (Nat.le_of_ble_eq_true rfl) ⟨by decide, by decide⟩ (fun _ => rfl) (fun v1_ h1_ n1_ p1_ => ?_)
    obtain ⟨f1_, e1_, p1_⟩ := p1_
    have e1z := e1_.symm
    have f1z := f1_.symm
    subst e1z
    subst f1z
    have q1_ := p1_.symm
    subst q1_
    refine z_icmp_ge (tgt := 49) C dd_G_firstFault_17 (by decide) (fun q1 => ?_) (fun q1 => ?_)
    · replace q1 : (if ar = 2 then 8 * nc else 1) ≤ b := (@nI_leI (if ar = 2 then 8 * nc else 1) b (by omega) (by omega)).mp q1
      omega
    · replace q1 : ¬ (if ar = 2 then 8 * nc else 1) ≤ b := fun z => q1 ((@nI_leI (if ar = 2 then 8 * nc else 1) b (by omega) (by omega)).mpr z)
      refine z_aload_n C dd_G_firstFault_20 rfl ?_
      refine z_aload_n C dd_G_firstFault_21 rfl ?_
      refine gf_G_57 (v := .ref ((ad 26 g))) C dd_G_firstFault_22 (dk_rd (k := 20) (i := g) (x := (W 20 g)) (y := (V 20 g)) (z := (Z 20 g)) hP hg rfl rfl rfl) rfl ?_
      refine z_iload_n C dd_G_firstFault_25 rfl ?_
      refine z_iload_n C dd_G_firstFault_26 rfl ?_
      refine iv_G_100 (sk := fun r => .long r :: [.ref ((ad 20 g))]) (zz_f B) C dd_G_firstFault_27 (cd_F_ofRow l D dA B _ _ ad ng nM na no W V Z hP.1 g a b hg (by omega) (by omega)) (dk_rd (k := 26) (i := g) (x := (W 26 g)) (y := (V 26 g)) (z := (Z 26 g)) hP hg rfl rfl rfl) rfl rfl ⟨by decide, by decide⟩ (Nat.le_of_ble_eq_true rfl) ⟨by decide, by decide⟩ (fun _ => rfl) (fun v2_ h2_ n2_ p2_ => ?_)
      obtain ⟨f2_, e2_, p2_⟩ := p2_
      have e2z := e2_.symm
      have f2z := f2_.symm
      subst e2z
      subst f2z
      have q2_ := p2_.symm
      subst q2_
      refine iv_G_126 (sk := fun r => .int r :: []) (zz_f B) C dd_G_firstFault_30 (cd_G_choose l D dA B _ _ ad ng nM na no W V Z hP.1 g oc ow (dk_of V g a b) hg (dk_f2_ow fr OW) ch) (dk_rd (k := 20) (i := g) (x := (W 20 g)) (y := (V 20 g)) (z := (Z 20 g)) hP hg rfl rfl rfl) rfl rfl ⟨by decide, by decide⟩ (Nat.le_of_ble_eq_true rfl) ⟨by decide, by decide⟩ (fun _ => rfl) (fun v3_ h3_ n3_ p3_ => ?_)
      obtain ⟨rfl, q9, W2, V2, w1, w2, w3⟩ := p3_
      have hP3_ := dk_tr hP w1
      rw [dk_f2_of fr, dk_f2_ap fr, dk_f2_pk fr] at q9
      change v3_ = dk_bq X Y ow g oc a b at q9
      have fr2 := dk_f2_tr fr w3
      subst q9
      refine z_if_ge (tgt := 43) C dd_G_firstFault_33 (by decide) (fun q2 => ?_) (fun q2 => ?_)
      · skip
        refine z_iincN C dd_G_firstFault_43 rfl rfl ?_
        refine z_goto (tgt := 12) C dd_G_firstFault_46 (by decide) ?_
        refine ih (b + 1) W2 V2 _ (by omega) ⟨hP3_, w2, fr2, fun a1 b1 hb1 => ?_⟩
        by_cases c : a1 = a ∧ b1 = b
        · obtain ⟨rfl, rfl⟩ := c
          exact Int32.not_lt.mpr q2
        · exact hn a1 b1 (by unfold dk_be at hb1 ⊢; omega)
      · skip
        refine z_iload_n C dd_G_firstFault_36 rfl ?_
        refine z_bipush (v := 64) C dd_G_firstFault_37 (by decide) ?_
        refine z_imul C dd_G_firstFault_39 ?_
        refine z_topi (y := nI (a * 64)) (by first | exact (pk_mul _ _).symm | (rw [← pk_mul]; rfl)) ?_
        refine z_iload_n C dd_G_firstFault_40 rfl ?_
        refine z_iadd C dd_G_firstFault_41 ?_
        refine z_topi (y := nI ((a * 64) + b)) (by first | exact (nI_add _ _).symm | (rw [← nI_add]; rfl)) ?_
        exact kf W2 V2 _ _ _ _ ⟨hP3_, w2, fr2, a, b, ha, by omega, Int32.not_le.mp q2, hn, rfl⟩
set_option maxRecDepth 20000 in
theorem lpc_G_firstFault {D : va_G} {dA : Nat → ClassId} {B : Nat} {p : Program} {l : Launch} {e : Env} {s : State} {m : MethodId} {args : Array Value} {below : List Frame} {meth : Method} {c : Code} {Q : State → Prop} {n : Nat} {nm : String} {ret9 : Option FieldType} {h : zz_H} (C : zz_C D zz_cl (zz_ty dA) B zz_tb (zz_x B) p s m args meth c bb_G_firstFault RR_G ret9 nm) {ad : Nat → Nat → Nat} {ng nM : Nat} {na no : Nat → Nat} {X : dk_X} {Y : dk_Y} {Z : dk_Z} {g oc nc ar : Nat} {ow : Nat → Nat} (hg : g < ng) (OW : dk_ow ad X Z nM g oc ow) (e1 : X 1 0 1 = nI nc) (h8 : nc ≤ 8) (ear : X 20 g 0 = nI ar) (har : ar = 1 ∨ ar = 2) (kf : ∀ W V h' r a9 o2, (dk_K dA ad (dk_lv ng nM na no) W V Z h h' ∧ dk_ch W V ow g oc ∧ dk_f2 g X W Y V ∧ ∃ a b, a < 8 * nc ∧ b < (if ar = 2 then 8 * nc else 1) ∧ dk_bq X Y ow g oc a b < 0 ∧ (∀ a1 b1, dk_be (if ar = 2 then 8 * nc else 1) a b a1 b1 → ¬ dk_bq X Y ow g oc a1 b1 < 0) ∧ r = nI (a * 64 + b)) → zz_W D zz_cl B p l e rm_G_firstFault s m args below meth c Q h' n 0 0 [some (.ref (ad 20 g)), some (.int (nI a9)), o2] 42 [.int r]) (kx : ∀ W V h' o2, (dk_K dA ad (dk_lv ng nM na no) W V Z h h' ∧ dk_ch W V ow g oc ∧ dk_f2 g X W Y V ∧ ∀ a1 b1, dk_be (if ar = 2 then 8 * nc else 1) (8 * nc) 0 a1 b1 → ¬ dk_bq X Y ow g oc a1 b1 < 0) → zz_W D zz_cl B p l e rm_G_firstFault s m args below meth c Q h' n 0 0 [some (.ref (ad 20 g)), some (.int (nI (8 * nc))), o2] 55 []) :
    ∀ f a W V h9 o2, a + f = 8 * nc → (∀ w, o2 = some w → w.category = 1) → (dk_K dA ad (dk_lv ng nM na no) W V Z h h9 ∧ dk_ch W V ow g oc ∧ dk_f2 g X W Y V ∧ ∀ a1 b1, dk_be (if ar = 2 then 8 * nc else 1) a 0 a1 b1 → ¬ dk_bq X Y ow g oc a1 b1 < 0) → zz_W D zz_cl B p l e rm_G_firstFault s m args below meth c Q h9 n 0 0 [some (.ref (ad 20 g)), some (.int (nI a)), o2] 2 [] := by
  intro f
  have o12 := OW.2.1
  induction f with
  | zero =>
    intro a W V h9 o2 ha c2 J
    have ha9 : a = 8 * nc := by omega
    subst ha9
    have J9 := J
    obtain ⟨hP, ch, fr, hn⟩ := J9
    refine z_iload_n C dd_G_firstFault_2 rfl ?_
    refine z_aload_n C dd_G_firstFault_3 rfl ?_
    refine iv_G_94 (sk := fun r => .int r :: [.int ((nI (8 * nc)))]) (zz_f B) C dd_G_firstFault_4 (cd_G_firstCount l D dA B _ _ ad ng nM na no W V Z hP.1 g nc ar hg (by rw [fr.1 1 0 (by omega)]; exact e1) (by rw [fr.2.1 0 (by decide)]; exact ear) har) (dk_rd (k := 20) (i := g) (x := (W 20 g)) (y := (V 20 g)) (z := (Z 20 g)) hP hg rfl rfl rfl) rfl rfl ⟨by decide, by decide⟩ (Nat.le_of_ble_eq_true rfl) ⟨by decide, by decide⟩ (fun _ => rfl) (fun v1_ h1_ n1_ p1_ => ?_)
    obtain ⟨f1_, e1_, p1_⟩ := p1_
    have e1z := e1_.symm
    have f1z := f1_.symm
    subst e1z
    subst f1z
    have q1_ := p1_.symm
    subst q1_
    refine z_icmp_ge (tgt := 55) C dd_G_firstFault_7 (by decide) (fun q1 => ?_) (fun q1 => absurd (Int32.le_refl _) q1)
    exact kx W V h9 o2 J
  | succ f ih =>
    intro a W V h9 o2 ha c2 J
    have J9 := J
    obtain ⟨hP, ch, fr, hn⟩ := J9
    refine z_iload_n C dd_G_firstFault_2 rfl ?_
    refine z_aload_n C dd_G_firstFault_3 rfl ?_
    refine iv_G_94 (sk := fun r => .int r :: [.int ((nI a))]) (zz_f B) C dd_G_firstFault_4 (cd_G_firstCount l D dA B _ _ ad ng nM na no W V Z hP.1 g nc ar hg (by rw [fr.1 1 0 (by omega)]; exact e1) (by rw [fr.2.1 0 (by decide)]; exact ear) har) (dk_rd (k := 20) (i := g) (x := (W 20 g)) (y := (V 20 g)) (z := (Z 20 g)) hP hg rfl rfl rfl) rfl rfl ⟨by decide, by decide⟩ (Nat.le_of_ble_eq_true rfl) ⟨by decide, by decide⟩ (fun _ => rfl) (fun v1_ h1_ n1_ p1_ => ?_)
    obtain ⟨f1_, e1_, p1_⟩ := p1_
    have e1z := e1_.symm
    have f1z := f1_.symm
    subst e1z
    subst f1z
    have q1_ := p1_.symm
    subst q1_
    refine z_icmp_ge (tgt := 55) C dd_G_firstFault_7 (by decide) (fun q1 => ?_) (fun q1 => ?_)
    · replace q1 : (8 * nc) ≤ a := (@nI_leI (8 * nc) a (by omega) (by omega)).mp q1
      omega
    · replace q1 : ¬ (8 * nc) ≤ a := fun z => q1 ((@nI_leI (8 * nc) a (by omega) (by omega)).mpr z)
      refine z_iconst (v := 0) C dd_G_firstFault_10 (by decide) ?_
      refine z_istore_n C dd_G_firstFault_11 rfl ?_
      refine lpb_G_firstFault (h := h) C hg OW e1 h8 ear har (show a < 8 * nc by omega) kf (fun W2 V2 h' J2 => ?_) (if ar = 2 then 8 * nc else 1) 0 W V h9 (by omega) J
      obtain ⟨hP2, ch2, fr2, hn2⟩ := J2
      refine z_iincN C dd_G_firstFault_49 rfl rfl ?_
      refine z_goto (tgt := 2) C dd_G_firstFault_52 (by decide) ?_
      exact ih (a + 1) W2 V2 h' _ (by omega) (fun w hw => by cases hw; rfl) ⟨hP2, ch2, fr2, fun a1 b1 hb1 => hn2 a1 b1 (by unfold dk_be at hb1 ⊢; omega)⟩
set_option maxRecDepth 20000 in
/-- firstFault -/
theorem cd_G_firstFault (l : Launch) (D : va_G) (dA : Nat → ClassId) (B : Nat) (h : zz_H) (n : Nat) (ad : Nat → Nat → Nat) (ng nM : Nat) (na no : Nat → Nat) (X : dk_X) (Y : dk_Y) (Z : dk_Z) (hP0 : dk_P dA ad (dk_lv ng nM na no) X Y Z h) (g oc nc ar : Nat) (ow : Nat → Nat) (hg : g < ng) (OW : dk_ow ad X Z nM g oc ow) (e1 : X 1 0 1 = nI nc) (h8 : nc ≤ 8) (ear : X 20 g 0 = nI ar) (har : ar = 1 ∨ ar = 2) (CH : dk_ch X Y ow g oc) : zz_M l D zz_cl (zz_ty dA) B zz_tb (zz_x B) yy_G_firstFault (Cond.code yy_G_firstFault bb_G_firstFault 3 (some FieldType.int)) rm_G_firstFault [.ref ((ad 20 g))] h n zz_mi (fun r h' n' => n' = n ∧ ∃ W V, dk_K dA ad (dk_lv ng nM na no) W V Z h h' ∧ dk_ch W V ow g oc ∧ dk_f2 g X W Y V ∧ ((∃ a b, a < 8 * nc ∧ b < (if ar = 2 then 8 * nc else 1) ∧ dk_bq X Y ow g oc a b < 0 ∧ (∀ a1 b1, dk_be (if ar = 2 then 8 * nc else 1) a b a1 b1 → ¬ dk_bq X Y ow g oc a1 b1 < 0) ∧ r = nI (a * 64 + b)) ∨ ((∀ a1 b1, dk_be (if ar = 2 then 8 * nc else 1) (8 * nc) 0 a1 b1 → ¬ dk_bq X Y ow g oc a1 b1 < 0) ∧ r = -1))) := by
  refine zz_ofW (zz_f B) [some (.ref ((ad 20 g))), none, none] (by decide) rfl rfl (Nat.le_of_ble_eq_true rfl) ?_
  intro p e s m below meth c C
  have hP := dk_rf hP0
  refine z_iconst (v := 0) C dd_G_firstFault_0 (by decide) ?_
  refine z_istore_n C dd_G_firstFault_1 rfl ?_
  refine lpc_G_firstFault (h := h) C hg OW e1 h8 ear har (fun W V h' r a9 o2 J => z_iret C dd_G_firstFault_42 ⟨rfl, W, V, J.1, J.2.1, J.2.2.1, Or.inl J.2.2.2⟩ (by decide) (by decide)) (fun W V h' o2 J => ?_) (8 * nc) 0 X Y _ none (by omega) (fun w hw => by cases hw) ⟨hP, CH, dk_f2_rf, fun a1 b1 hb => by unfold dk_be at hb; omega⟩
  refine z_iconst (v := (-1)) C dd_G_firstFault_55 (by decide) ?_
  exact z_iret C dd_G_firstFault_56 ⟨rfl, W, V, J.1, J.2.1, J.2.2.1, Or.inr ⟨J.2.2.2, rfl⟩⟩ (by decide) (by decide)
set_option maxRecDepth 20000 in
/-- clear -/
theorem cd_R_clear (l : Launch) (D : va_G) (dA : Nat → ClassId) (B : Nat) (h : zz_H) (n : Nat) (ad : Nat → Nat → Nat) (ng nM : Nat) (na no : Nat → Nat) (X : dk_X) (Y : dk_Y) (Z : dk_Z) (hP0 : dk_P dA ad (dk_lv ng nM na no) X Y Z h) (g : Nat) (hg : g < ng) : zz_M l D zz_cl (zz_ty dA) B zz_tb (zz_x B) yy_R_clear (Cond.code yy_R_clear bb_R_clear 1 none) rm_R_clear [.ref ((ad 21 g))] h n zz_mv (fun _ h' n' => n' = n ∧ dk_K dA ad (dk_lv ng nM na no) (dk_is X 21 g (upd (X 21 g) 3 0)) Y Z h h') := by
  refine zz_ofW (zz_f B) [some (.ref ((ad 21 g)))] (by decide) rfl rfl (Nat.le_of_ble_eq_true rfl) ?_
  intro p e s m below meth c C
  have hP := dk_rf hP0
  refine z_aload_n C dd_R_clear_0 rfl ?_
  refine z_iconst (v := 0) C dd_R_clear_1 (by decide) ?_
  refine pf_R_19 C dd_R_clear_2 (dk_rd (k := 21) (i := g) (x := (X 21 g)) (y := (Y 21 g)) (z := (Z 21 g)) hP hg rfl rfl rfl) (Nat.le_of_ble_eq_true rfl) rfl rfl ?_
  refine z_cut (dk_K dA ad (dk_lv ng nM na no) (dk_is X 21 g (upd (X 21 g) 3 0)) Y Z h) (dk_wX hP hg rfl rfl rfl) rfl rfl rfl (fun h1_ hP1_ => ?_)
  exact z_vret C dd_R_clear_5 ⟨rfl, hP1_⟩ (by decide) (by decide)
abbrev rm_G_outdate : Room := { frames := 3, cells := 0, slots := 0, locals := 60 }
def dk_od (X : dk_X) (g : Nat) : dk_X := dk_is (dk_is X 20 g (upd (X 20 g) 7 0)) 21 g (upd (X 21 g) 3 0)
set_option maxRecDepth 20000 in
/-- outdate -/
theorem cd_G_outdate (l : Launch) (D : va_G) (dA : Nat → ClassId) (B : Nat) (h : zz_H) (n : Nat) (ad : Nat → Nat → Nat) (ng nM : Nat) (na no : Nat → Nat) (X : dk_X) (Y : dk_Y) (Z : dk_Z) (hP0 : dk_P dA ad (dk_lv ng nM na no) X Y Z h) (g : Nat) (hg : g < ng) : zz_M l D zz_cl (zz_ty dA) B zz_tb (zz_x B) yy_G_outdate (Cond.code yy_G_outdate bb_G_outdate 1 none) rm_G_outdate [.ref ((ad 20 g))] h n zz_mv (fun _ h' n' => n' = n ∧ dk_K dA ad (dk_lv ng nM na no) (dk_od X g) Y Z h h') := by
  refine zz_ofW (zz_f B) [some (.ref ((ad 20 g)))] (by decide) rfl rfl (Nat.le_of_ble_eq_true rfl) ?_
  intro p e s m below meth c C
  have hP := dk_rf hP0
  refine z_aload_n C dd_G_outdate_0 rfl ?_
  refine z_iconst (v := 0) C dd_G_outdate_1 (by decide) ?_
  refine pf_G_31 C dd_G_outdate_2 (dk_rd (k := 20) (i := g) (x := (X 20 g)) (y := (Y 20 g)) (z := (Z 20 g)) hP hg rfl rfl rfl) (Nat.le_of_ble_eq_true rfl) rfl rfl ?_
  refine z_cut (dk_K dA ad (dk_lv ng nM na no) (dk_is X 20 g (upd (X 20 g) 7 0)) Y Z h) (dk_wX hP hg rfl rfl rfl) rfl rfl rfl (fun h1_ hP1_ => ?_)
  refine z_aload_n C dd_G_outdate_5 rfl ?_
  refine gf_G_12 (v := .ref ((ad 21 g))) C dd_G_outdate_6 (dk_rd (k := 20) (i := g) (x := (upd (X 20 g) 7 0)) (y := (Y 20 g)) (z := (Z 20 g)) hP1_ hg dk_s rfl rfl) rfl ?_
  refine iv_G_73 (sk := fun _ => []) (zz_f B) C dd_G_outdate_9 (cd_R_clear l D dA B _ _ ad ng nM na no _ Y Z hP1_.1 g hg) (dk_rd (k := 21) (i := g) (x := (X 21 g)) (y := (Y 21 g)) (z := (Z 21 g)) hP1_ hg rfl rfl rfl) rfl rfl ⟨by decide, by decide⟩ (Nat.le_of_ble_eq_true rfl) ⟨by decide, by decide⟩ (fun _ => rfl) (fun _ h2_ n2_ p2_ => ?_)
  obtain ⟨rfl, p2_⟩ := p2_
  have hP2_ := dk_tr hP1_ p2_
  exact z_vret C dd_G_outdate_12 ⟨rfl, hP2_⟩ (by decide) (by decide)
abbrev rm_G_add : Room := { frames := 5, cells := 0, slots := 0, locals := 100 }
set_option maxRecDepth 20000 in
/-- add -/
theorem cd_G_add (l : Launch) (D : va_G) (dA : Nat → ClassId) (B : Nat) (h : zz_H) (n : Nat) (ad : Nat → Nat → Nat) (ng nM : Nat) (na no : Nat → Nat) (X : dk_X) (Y : dk_Y) (Z : dk_Z) (hP0 : dk_P dA ad (dk_lv ng nM na no) X Y Z h) (g oc m0 : Nat) (hg : g < ng) (hm : m0 < nM) (h12 : oc < 12) (e5 : X 20 g 5 = nI oc) (e0 : X 30 m0 0 = nI m0) : zz_M l D zz_cl (zz_ty dA) B zz_tb (zz_x B) yy_G_add (Cond.code yy_G_add bb_G_add 2 none) rm_G_add [.ref ((ad 20 g)), .ref ((ad 30 m0))] h n zz_mv (fun _ h' n' => n' = n ∧ dk_K dA ad (dk_lv ng nM na no) (dk_od (dk_is X 20 g (upd (upd (X 20 g) 5 (nI (oc + 1))) 6 (X 20 g 6 ||| i1 m0))) g) Y (dk_is Z 25 g (va_up (Z 25 g) oc (some (ad 30 m0)))) h h') := by
  refine zz_ofW (zz_f B) [some (.ref ((ad 20 g))), some (.ref ((ad 30 m0)))] (by decide) rfl rfl (Nat.le_of_ble_eq_true rfl) ?_
  intro p e s m below meth c C
  have hP := dk_rf hP0
  refine z_aload_n C dd_G_add_0 rfl ?_
  refine gf_G_20 (v := .ref ((ad 25 g))) C dd_G_add_1 (dk_rd (k := 20) (i := g) (x := (X 20 g)) (y := (Y 20 g)) (z := (Z 20 g)) hP hg rfl rfl rfl) rfl ?_
  refine z_aload_n C dd_G_add_4 rfl ?_
  refine gf_G_24 (v := .int (X 20 g 5)) C dd_G_add_5 (dk_rd (k := 20) (i := g) (x := (X 20 g)) (y := (Y 20 g)) (z := (Z 20 g)) hP hg rfl rfl rfl) rfl ?_
  refine z_topi (y := nI oc) e5.symm ?_
  refine z_aload_n C dd_G_add_8 rfl ?_
  refine z_aast (t0 := 4) (N := 12) (f := (Z 25 g)) C rfl rfl dd_G_add_9 (dk_rd (k := 25) (i := g) (x := (X 25 g)) (y := (Y 25 g)) (z := (Z 25 g)) hP hg rfl rfl rfl) (dk_rd (k := 30) (i := m0) (x := (X 30 m0)) (y := (Y 30 m0)) (z := (Z 30 m0)) hP hm rfl rfl rfl) (vp_in_nI (by omega) (by decide)) ?_
  refine z_cut (dk_K dA ad (dk_lv ng nM na no) X Y (dk_is Z 25 g (va_up (Z 25 g) (Int32.toNatClampNeg (nI oc)) (some (ad 30 m0)))) h) (dk_wZ hP hg rfl rfl rfl) rfl rfl rfl (fun h1_ hP1_ => ?_)
  refine z_aload_n C dd_G_add_10 rfl ?_
  refine z_dup C dd_G_add_11 rfl ?_
  refine gf_G_24 (v := .int (X 20 g 5)) C dd_G_add_12 (dk_rd (k := 20) (i := g) (x := (X 20 g)) (y := (Y 20 g)) (z := (Z 20 g)) hP1_ hg rfl rfl rfl) rfl ?_
  refine z_topi (y := nI oc) e5.symm ?_
  refine z_iconst (v := 1) C dd_G_add_15 (by decide) ?_
  refine z_iadd C dd_G_add_16 ?_
  refine z_topi (y := nI (oc + 1)) (by first | exact (nI_add _ _).symm | (rw [← nI_add]; rfl)) ?_
  refine pf_G_24 C dd_G_add_17 (dk_rd (k := 20) (i := g) (x := (X 20 g)) (y := (Y 20 g)) (z := (Z 20 g)) hP1_ hg rfl rfl rfl) (Nat.le_of_ble_eq_true rfl) rfl rfl ?_
  refine z_cut (dk_K dA ad (dk_lv ng nM na no) (dk_is X 20 g (upd (X 20 g) 5 (nI (oc + 1)))) Y (dk_is Z 25 g (va_up (Z 25 g) (Int32.toNatClampNeg (nI oc)) (some (ad 30 m0)))) h) (dk_wX hP1_ hg rfl rfl rfl) rfl rfl rfl (fun h2_ hP2_ => ?_)
  refine z_aload_n C dd_G_add_20 rfl ?_
  refine z_dup C dd_G_add_21 rfl ?_
  refine gf_G_28 (v := .int (X 20 g 6)) C dd_G_add_22 (dk_rd (k := 20) (i := g) (x := (upd (X 20 g) 5 (nI (oc + 1)))) (y := (Y 20 g)) (z := (Z 20 g)) hP2_ hg dk_s rfl rfl) rfl ?_
  refine z_aload_n C dd_G_add_25 rfl ?_
  refine iv_G_67 (sk := fun r => .int r :: [.int ((X 20 g 6)), .ref ((ad 20 g))]) (zz_f B) C dd_G_add_26 (cc_M_bit l D dA B _ _ _ _ _ _ _ _ _ _ _ _ _ (dk_rd (k := 30) (i := m0) (x := (X 30 m0)) (y := (Y 30 m0)) (z := (Z 30 m0)) hP2_ hm rfl rfl rfl)) (dk_rd (k := 30) (i := m0) (x := (X 30 m0)) (y := (Y 30 m0)) (z := (Z 30 m0)) hP2_ hm rfl rfl rfl) rfl rfl ⟨by decide, by decide⟩ (Nat.le_of_ble_eq_true rfl) ⟨by decide, by decide⟩ (fun _ => rfl) (fun v3_ h3_ n3_ p3_ => ?_)
  obtain ⟨f3_, e3_, p3_⟩ := p3_
  have e3z := e3_.symm
  have f3z := f3_.symm
  subst e3z
  subst f3z
  refine z_topi (y := i1 m0) (by rw [p3_, e0]) ?_
  refine z_ior C dd_G_add_29 ?_
  refine pf_G_28 C dd_G_add_30 (dk_rd (k := 20) (i := g) (x := (upd (X 20 g) 5 (nI (oc + 1)))) (y := (Y 20 g)) (z := (Z 20 g)) hP2_ hg dk_s rfl rfl) (Nat.le_of_ble_eq_true rfl) rfl rfl ?_
  refine z_cut (dk_K dA ad (dk_lv ng nM na no) (dk_is (dk_is X 20 g (upd (X 20 g) 5 (nI (oc + 1)))) 20 g (upd (upd (X 20 g) 5 (nI (oc + 1))) 6 ((X 20 g 6) ||| (i1 m0)))) Y (dk_is Z 25 g (va_up (Z 25 g) (Int32.toNatClampNeg (nI oc)) (some (ad 30 m0)))) h) (dk_wX hP2_ hg rfl rfl rfl) rfl rfl rfl (fun h4_ hP4_ => ?_)
  refine z_aload_n C dd_G_add_33 rfl ?_
  rw [nI_clamp (by omega), dk_ii] at hP4_
  refine iv_G_70 (sk := fun _ => []) (zz_f B) C dd_G_add_34 (cd_G_outdate l D dA B _ _ ad ng nM na no _ Y _ hP4_.1 g hg) (dk_rd (k := 20) (i := g) hP4_ hg rfl rfl rfl) rfl rfl ⟨by decide, by decide⟩ (Nat.le_of_ble_eq_true rfl) ⟨by decide, by decide⟩ (fun _ => rfl) (fun _ h5_ n5_ p5_ => ?_)
  obtain ⟨rfl, p5_⟩ := p5_
  have hP5_ := dk_tr hP4_ p5_
  exact z_vret C dd_G_add_37 ⟨rfl, hP5_⟩ (by decide) (by decide)
abbrev rm_M_addAtom : Room := { frames := 1, cells := 0, slots := 0, locals := 0 }
set_option maxRecDepth 20000 in
/-- one more -/
theorem cd_M_addAtom (l : Launch) (D : va_G) (dA : Nat → ClassId) (B : Nat) (h : zz_H) (n : Nat) (ad : Nat → Nat → Nat) (ng nM : Nat) (na no : Nat → Nat) (X : dk_X) (Y : dk_Y) (Z : dk_Z) (hP0 : dk_P dA ad (dk_lv ng nM na no) X Y Z h) (m0 a k0 : Nat) (hm : m0 < nM) (ha : dk_lv ng nM na no 33 a) (hk : k0 < 4) (ec : X 30 m0 3 = nI k0) : zz_M l D zz_cl (zz_ty dA) B zz_tb (zz_x B) yy_M_addAtom (Cond.code yy_M_addAtom bb_M_addAtom 2 (some FieldType.int)) rm_M_addAtom [.ref ((ad 30 m0)), .ref ((ad 33 a))] h n zz_mi (fun r h' n' => n' = n ∧ r = nI (k0 + 1) ∧ dk_K dA ad (dk_lv ng nM na no) (dk_is X 30 m0 (upd (X 30 m0) 3 (nI (k0 + 1)))) Y (dk_is Z 31 m0 (va_up (Z 31 m0) k0 (some (ad 33 a)))) h h') := by
  refine zz_ofW (zz_f B) [some (.ref ((ad 30 m0))), some (.ref ((ad 33 a)))] (by decide) rfl rfl (Nat.le_of_ble_eq_true rfl) ?_
  intro p e s m below meth c C
  have hP := dk_rf hP0
  refine z_aload_n C dd_M_addAtom_0 rfl ?_
  refine gf_M_11 (v := .ref ((ad 31 m0))) C dd_M_addAtom_1 (dk_rd (k := 30) (i := m0) (x := (X 30 m0)) (y := (Y 30 m0)) (z := (Z 30 m0)) hP hm rfl rfl rfl) rfl ?_
  refine z_aload_n C dd_M_addAtom_4 rfl ?_
  refine gf_M_15 (v := .int (X 30 m0 3)) C dd_M_addAtom_5 (dk_rd (k := 30) (i := m0) (x := (X 30 m0)) (y := (Y 30 m0)) (z := (Z 30 m0)) hP hm rfl rfl rfl) rfl ?_
  refine z_topi (y := nI k0) ec.symm ?_
  refine z_aload_n C dd_M_addAtom_8 rfl ?_
  refine z_aast (t0 := 5) (N := 4) (f := (Z 31 m0)) C rfl rfl dd_M_addAtom_9 (dk_rd (k := 31) (i := m0) (x := (X 31 m0)) (y := (Y 31 m0)) (z := (Z 31 m0)) hP hm rfl rfl rfl) (dk_rd (k := 33) (i := a) (x := (X 33 a)) (y := (Y 33 a)) (z := (Z 33 a)) hP ha rfl rfl rfl) (vp_in_nI (by omega) (by decide)) ?_
  refine z_cut (dk_K dA ad (dk_lv ng nM na no) X Y (dk_is Z 31 m0 (va_up (Z 31 m0) (Int32.toNatClampNeg (nI k0)) (some (ad 33 a)))) h) (dk_wZ hP hm rfl rfl rfl) rfl rfl rfl (fun h1_ hP1_ => ?_)
  refine z_aload_n C dd_M_addAtom_10 rfl ?_
  refine z_dup C dd_M_addAtom_11 rfl ?_
  refine gf_M_15 (v := .int (X 30 m0 3)) C dd_M_addAtom_12 (dk_rd (k := 30) (i := m0) (x := (X 30 m0)) (y := (Y 30 m0)) (z := (Z 30 m0)) hP1_ hm rfl rfl rfl) rfl ?_
  refine z_topi (y := nI k0) ec.symm ?_
  refine z_iconst (v := 1) C dd_M_addAtom_15 (by decide) ?_
  refine z_iadd C dd_M_addAtom_16 ?_
  refine z_topi (y := nI (k0 + 1)) (by first | exact (nI_add _ _).symm | (rw [← nI_add]; rfl)) ?_
  refine pf_M_15 C dd_M_addAtom_17 (dk_rd (k := 30) (i := m0) (x := (X 30 m0)) (y := (Y 30 m0)) (z := (Z 30 m0)) hP1_ hm rfl rfl rfl) (Nat.le_of_ble_eq_true rfl) rfl rfl ?_
  refine z_cut (dk_K dA ad (dk_lv ng nM na no) (dk_is X 30 m0 (upd (X 30 m0) 3 (nI (k0 + 1)))) Y (dk_is Z 31 m0 (va_up (Z 31 m0) (Int32.toNatClampNeg (nI k0)) (some (ad 33 a)))) h) (dk_wX hP1_ hm rfl rfl rfl) rfl rfl rfl (fun h2_ hP2_ => ?_)
  refine z_aload_n C dd_M_addAtom_20 rfl ?_
  refine gf_M_15 (v := .int (nI (k0 + 1))) C dd_M_addAtom_21 (dk_rd (k := 30) (i := m0) (x := (upd (X 30 m0) 3 (nI (k0 + 1)))) (y := (Y 30 m0)) (z := (Z 30 m0)) hP2_ hm dk_s rfl rfl) rfl ?_
  rw [nI_clamp (by omega)] at hP2_
  exact z_iret C dd_M_addAtom_24 ⟨rfl, rfl, hP2_⟩ (by decide) (by decide)
abbrev rm_M_addOperation : Room := { frames := 1, cells := 0, slots := 0, locals := 0 }
set_option maxRecDepth 20000 in
/-- one more -/
theorem cd_M_addOperation (l : Launch) (D : va_G) (dA : Nat → ClassId) (B : Nat) (h : zz_H) (n : Nat) (ad : Nat → Nat → Nat) (ng nM : Nat) (na no : Nat → Nat) (X : dk_X) (Y : dk_Y) (Z : dk_Z) (hP0 : dk_P dA ad (dk_lv ng nM na no) X Y Z h) (m0 a k0 : Nat) (hm : m0 < nM) (ha : dk_lv ng nM na no 34 a) (hk : k0 < 8) (ec : X 30 m0 5 = nI k0) : zz_M l D zz_cl (zz_ty dA) B zz_tb (zz_x B) yy_M_addOperation (Cond.code yy_M_addOperation bb_M_addOperation 2 (some FieldType.int)) rm_M_addOperation [.ref ((ad 30 m0)), .ref ((ad 34 a))] h n zz_mi (fun r h' n' => n' = n ∧ r = nI (k0 + 1) ∧ dk_K dA ad (dk_lv ng nM na no) (dk_is X 30 m0 (upd (X 30 m0) 5 (nI (k0 + 1)))) Y (dk_is Z 32 m0 (va_up (Z 32 m0) k0 (some (ad 34 a)))) h h') := by
  refine zz_ofW (zz_f B) [some (.ref ((ad 30 m0))), some (.ref ((ad 34 a)))] (by decide) rfl rfl (Nat.le_of_ble_eq_true rfl) ?_
  intro p e s m below meth c C
  have hP := dk_rf hP0
  refine z_aload_n C dd_M_addOperation_0 rfl ?_
  refine gf_M_21 (v := .ref ((ad 32 m0))) C dd_M_addOperation_1 (dk_rd (k := 30) (i := m0) (x := (X 30 m0)) (y := (Y 30 m0)) (z := (Z 30 m0)) hP hm rfl rfl rfl) rfl ?_
  refine z_aload_n C dd_M_addOperation_4 rfl ?_
  refine gf_M_25 (v := .int (X 30 m0 5)) C dd_M_addOperation_5 (dk_rd (k := 30) (i := m0) (x := (X 30 m0)) (y := (Y 30 m0)) (z := (Z 30 m0)) hP hm rfl rfl rfl) rfl ?_
  refine z_topi (y := nI k0) ec.symm ?_
  refine z_aload_n C dd_M_addOperation_8 rfl ?_
  refine z_aast (t0 := 6) (N := 8) (f := (Z 32 m0)) C rfl rfl dd_M_addOperation_9 (dk_rd (k := 32) (i := m0) (x := (X 32 m0)) (y := (Y 32 m0)) (z := (Z 32 m0)) hP hm rfl rfl rfl) (dk_rd (k := 34) (i := a) (x := (X 34 a)) (y := (Y 34 a)) (z := (Z 34 a)) hP ha rfl rfl rfl) (vp_in_nI (by omega) (by decide)) ?_
  refine z_cut (dk_K dA ad (dk_lv ng nM na no) X Y (dk_is Z 32 m0 (va_up (Z 32 m0) (Int32.toNatClampNeg (nI k0)) (some (ad 34 a)))) h) (dk_wZ hP hm rfl rfl rfl) rfl rfl rfl (fun h1_ hP1_ => ?_)
  refine z_aload_n C dd_M_addOperation_10 rfl ?_
  refine z_dup C dd_M_addOperation_11 rfl ?_
  refine gf_M_25 (v := .int (X 30 m0 5)) C dd_M_addOperation_12 (dk_rd (k := 30) (i := m0) (x := (X 30 m0)) (y := (Y 30 m0)) (z := (Z 30 m0)) hP1_ hm rfl rfl rfl) rfl ?_
  refine z_topi (y := nI k0) ec.symm ?_
  refine z_iconst (v := 1) C dd_M_addOperation_15 (by decide) ?_
  refine z_iadd C dd_M_addOperation_16 ?_
  refine z_topi (y := nI (k0 + 1)) (by first | exact (nI_add _ _).symm | (rw [← nI_add]; rfl)) ?_
  refine pf_M_25 C dd_M_addOperation_17 (dk_rd (k := 30) (i := m0) (x := (X 30 m0)) (y := (Y 30 m0)) (z := (Z 30 m0)) hP1_ hm rfl rfl rfl) (Nat.le_of_ble_eq_true rfl) rfl rfl ?_
  refine z_cut (dk_K dA ad (dk_lv ng nM na no) (dk_is X 30 m0 (upd (X 30 m0) 5 (nI (k0 + 1)))) Y (dk_is Z 32 m0 (va_up (Z 32 m0) (Int32.toNatClampNeg (nI k0)) (some (ad 34 a)))) h) (dk_wX hP1_ hm rfl rfl rfl) rfl rfl rfl (fun h2_ hP2_ => ?_)
  refine z_aload_n C dd_M_addOperation_20 rfl ?_
  refine gf_M_25 (v := .int (nI (k0 + 1))) C dd_M_addOperation_21 (dk_rd (k := 30) (i := m0) (x := (upd (X 30 m0) 5 (nI (k0 + 1)))) (y := (Y 30 m0)) (z := (Z 30 m0)) hP2_ hm dk_s rfl rfl) rfl ?_
  rw [nI_clamp (by omega)] at hP2_
  exact z_iret C dd_M_addOperation_24 ⟨rfl, rfl, hP2_⟩ (by decide) (by decide)
