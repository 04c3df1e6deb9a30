/-! a generic's own methods: oc of them, ow -/
def dk_ow (ad : Nat → Nat → Nat) (X : dk_X) (Z : dk_Z) (nM g oc : Nat) (ow : Nat → Nat) : Prop := X 20 g 5 = nI oc ∧ oc ≤ 12 ∧ nM ≤ 12 ∧ ∀ k, k < oc → Z 25 g k = some (ad 30 (ow k)) ∧ ow k < nM ∧ X 30 (ow k) 0 = nI (ow k)
def dk_hl (Y : dk_Y) (m : Nat) (w : Int64) : Bool := decide (w &&& Y 30 m 6 = Y 30 m 6) && decide (w &&& Y 30 m 7 = 0)
abbrev i1 (m : Nat) : Int32 := (1 : Int32) <<< (nI m &&& 31)
/-- the own methods among the first k that hold for the facts w -/
def dk_ap (Y : dk_Y) (ow : Nat → Nat) (w : Int64) : Nat → Int32
  | 0 => 0
  | k + 1 => if dk_hl Y (ow k) w = true then dk_ap Y ow w k ||| i1 (ow k) else dk_ap Y ow w k
abbrev dk_pc (X : dk_X) (x : Int32) (m : Nat) : Prop := ¬ x &&& (i1 m ^^^ (-1)) = x ∧ (x &&& (i1 m ^^^ (-1))) &&& (X 30 m 9 ^^^ (-1)) = 0
def dk_pf (X : dk_X) (ow : Nat → Nat) (x : Int32) : Nat → Nat → Int32
  | 0, _ => -2
  | f + 1, k => if ¬ x &&& (i1 (ow k) ^^^ (-1)) = x ∧ (x &&& (i1 (ow k) ^^^ (-1))) &&& (X 30 (ow k) 9 ^^^ (-1)) = 0 then nI (ow k) else dk_pf X ow x f (k + 1)
def dk_pk (X : dk_X) (ow : Nat → Nat) (oc : Nat) (x : Int32) : Int32 := if x = 0 then -1 else dk_pf X ow x oc 0
/-- the latest choice stands right -/
def dk_ch (X : dk_X) (Y : dk_Y) (ow : Nat → Nat) (g oc : Nat) : Prop := X 20 g 8 = 0 ∨ X 20 g 10 = dk_pk X ow oc (dk_ap Y ow (Y 20 g 9) oc)
theorem dk_hlb {Y : dk_Y} {m : Nat} {w : Int64} {r : Int32} (h : (¬ (lg_cmp (w &&& Y 30 m 6) (Y 30 m 6)) = 0 ∧ r = 0) ∨ ((lg_cmp (w &&& Y 30 m 6) (Y 30 m 6)) = 0 ∧ ¬ (lg_cmp (w &&& Y 30 m 7) 0) = 0 ∧ r = 0) ∨ ((lg_cmp (w &&& Y 30 m 6) (Y 30 m 6)) = 0 ∧ (lg_cmp (w &&& Y 30 m 7) 0) = 0 ∧ r = 1)) : r = pu_b (dk_hl Y m w) := by
  unfold dk_hl
  simp only [pu_lcmp] at h
  rcases h with ⟨z1, z2⟩ | ⟨z1, z2, z3⟩ | ⟨z1, z2, z3⟩
  · rw [z2, decide_eq_false z1]; rfl
  · rw [z3, decide_eq_true z1, decide_eq_false z2]; rfl
  · rw [z3, decide_eq_true z1, decide_eq_true z2]; rfl
abbrev rm_G_applicable : Room := { frames := 3, cells := 0, slots := 0, locals := 60 }
set_option maxRecDepth 20000 in
theorem lp_G_applicable {D : va_G} {dA : Nat → ClassId} {B : Nat} {p : Program} {l : Launch} {e : Env} {s : State} {m : MethodId} {args : Array Value} {below : List Frame} {meth : Method} {c : Code} {Q : State → Prop} {n : Nat} {nm : String} {ret9 : Option FieldType} {h : zz_H} (C : zz_C D zz_cl (zz_ty dA) B zz_tb (zz_x B) p s m args meth c bb_G_applicable RR_G ret9 nm) {ad : Nat → Nat → Nat} {ng nM : Nat} {na no : Nat → Nat} {X : dk_X} {Y : dk_Y} {Z : dk_Z} {g oc : Nat} {ow : Nat → Nat} {w : Int64} (hP : dk_K dA ad (dk_lv ng nM na no) X Y Z h h) (hg : g < ng) (OW : dk_ow ad X Z nM g oc ow) (kx : zz_W D zz_cl B p l e rm_G_applicable s m args below meth c Q h n 0 0 [some (.ref (ad 20 g)), some (.long w), none, some (.int (dk_ap Y ow w oc)), some (.int (nI oc))] 47 []) :
    ∀ f k, k + f = oc → zz_W D zz_cl B p l e rm_G_applicable s m args below meth c Q h n 0 0 [some (.ref (ad 20 g)), some (.long w), none, some (.int (dk_ap Y ow w k)), some (.int (nI k))] 5 [] := by
  intro f
  have o12 := OW.2.1
  induction f with
  | zero =>
    intro k hk
    have hk9 : k = oc := by omega
    subst hk9
    refine z_iload C dd_G_applicable_5 rfl ?_
    refine z_aload_n C dd_G_applicable_7 rfl ?_
    refine gf_G_24 (v := .int (X 20 g 5)) C dd_G_applicable_8 (dk_rd (k := 20) (i := g) (x := (X 20 g)) (y := (Y 20 g)) (z := (Z 20 g)) hP hg rfl rfl rfl) rfl ?_
    refine z_topi (y := nI k) OW.1.symm ?_
    refine z_icmp_ge (tgt := 47) C dd_G_applicable_11 (by decide) (fun q1 => ?_) (fun q1 => absurd (Int32.le_refl _) q1)
    exact kx
  | succ f ih =>
    intro k hk
    have ok := OW.2.2.2 k (by omega)
    refine z_iload C dd_G_applicable_5 rfl ?_
    refine z_aload_n C dd_G_applicable_7 rfl ?_
    refine gf_G_24 (v := .int (X 20 g 5)) C dd_G_applicable_8 (dk_rd (k := 20) (i := g) (x := (X 20 g)) (y := (Y 20 g)) (z := (Z 20 g)) hP hg rfl rfl rfl) rfl ?_
    refine z_topi (y := nI oc) OW.1.symm ?_
    refine z_icmp_ge (tgt := 47) C dd_G_applicable_11 (by decide) (fun q1 => ?_) (fun q1 => ?_)
    · replace q1 : oc ≤ k := (@nI_leI oc k (by omega) (by omega)).mp q1
      omega
    · replace q1 : ¬ oc ≤ k := fun z => q1 ((@nI_leI oc k (by omega) (by omega)).mpr z)
      refine z_aload_n C dd_G_applicable_14 rfl ?_
      refine gf_G_20 (v := .ref ((ad 25 g))) C dd_G_applicable_15 (dk_rd (k := 20) (i := g) (x := (X 20 g)) (y := (Y 20 g)) (z := (Z 20 g)) hP hg rfl rfl rfl) rfl ?_
      refine z_iload C dd_G_applicable_18 rfl ?_
      refine z_aald (t0 := 4) (N := 12) (f := (Z 25 g)) C rfl dd_G_applicable_20 (dk_rd (k := 25) (i := g) (x := (X 25 g)) (y := (Y 25 g)) (z := (Z 25 g)) hP hg rfl rfl rfl) (vp_in_nI (by omega) (by decide)) ?_
      refine z_topr (y := ad 30 (ow k)) (by rw [nI_clamp (by omega), ok.1]; rfl) ?_
      refine z_lload_n C dd_G_applicable_21 rfl ?_
      refine iv_G_115 (sk := fun r => .int r :: []) (zz_f B) C dd_G_applicable_22 (cc_M_holds l D dA B _ _ _ _ _ _ _ _ _ _ _ _ _ (dk_rd (k := 30) (i := (ow k)) (x := (X 30 (ow k))) (y := (Y 30 (ow k))) (z := (Z 30 (ow k))) hP ok.2.1 rfl rfl rfl) w) (dk_rd (k := 30) (i := (ow k)) (x := (X 30 (ow k))) (y := (Y 30 (ow k))) (z := (Z 30 (ow k))) hP ok.2.1 rfl rfl rfl) rfl rfl ⟨by decide, by decide⟩ (Nat.le_of_ble_eq_true rfl) ⟨by decide, by decide⟩ (fun _ => rfl) (fun v1_ h1_ n1_ p1_ => ?_)
      obtain ⟨f1_, e1_, p1_⟩ := p1_
      have e1z := e1_.symm
      have f1z := f1_.symm
      subst e1z
      subst f1z
      have q1_ := (dk_hlb p1_).symm
      subst q1_
      refine z_if_eq (tgt := 41) C dd_G_applicable_25 (by decide) (fun q2 => ?_) (fun q2 => ?_)
      · skip
        refine z_iincN C dd_G_applicable_41 rfl rfl ?_
        refine z_goto (tgt := 5) C dd_G_applicable_44 (by decide) ?_
        have ih9 := ih (k + 1) (by omega)
        rw [dk_ap, if_neg (by rw [((pu_b0 _).mp q2)]; decide)] at ih9
        exact ih9
      · skip
        refine z_iload_n C dd_G_applicable_28 rfl ?_
        refine z_aload_n C dd_G_applicable_29 rfl ?_
        refine gf_G_20 (v := .ref ((ad 25 g))) C dd_G_applicable_30 (dk_rd (k := 20) (i := g) (x := (X 20 g)) (y := (Y 20 g)) (z := (Z 20 g)) hP hg rfl rfl rfl) rfl ?_
        refine z_iload C dd_G_applicable_33 rfl ?_
        refine z_aald (t0 := 4) (N := 12) (f := (Z 25 g)) C rfl dd_G_applicable_35 (dk_rd (k := 25) (i := g) (x := (X 25 g)) (y := (Y 25 g)) (z := (Z 25 g)) hP hg rfl rfl rfl) (vp_in_nI (by omega) (by decide)) ?_
        refine z_topr (y := ad 30 (ow k)) (by rw [nI_clamp (by omega), ok.1]; rfl) ?_
        refine iv_G_67 (sk := fun r => .int r :: [.int ((dk_ap Y ow w k))]) (zz_f B) C dd_G_applicable_36 (cc_M_bit l D dA B _ _ _ _ _ _ _ _ _ _ _ _ _ (dk_rd (k := 30) (i := (ow k)) (x := (X 30 (ow k))) (y := (Y 30 (ow k))) (z := (Z 30 (ow k))) hP ok.2.1 rfl rfl rfl)) (dk_rd (k := 30) (i := (ow k)) (x := (X 30 (ow k))) (y := (Y 30 (ow k))) (z := (Z 30 (ow k))) hP ok.2.1 rfl rfl rfl) rfl rfl ⟨by decide, by decide⟩ (Nat.le_of_ble_eq_true rfl) ⟨by decide, by decide⟩ (fun _ => rfl) (fun v2_ h2_ n2_ p2_ => ?_)
        obtain ⟨f2_, e2_, p2_⟩ := p2_
        have e2z := e2_.symm
        have f2z := f2_.symm
        subst e2z
        subst f2z
        refine z_topi (y := i1 (ow k)) (by rw [p2_, ok.2.2]) ?_
        refine z_ior C dd_G_applicable_39 ?_
        refine z_istore_n C dd_G_applicable_40 rfl ?_
        refine z_iincN C dd_G_applicable_41 rfl rfl ?_
        refine z_goto (tgt := 5) C dd_G_applicable_44 (by decide) ?_
        have ih9 := ih (k + 1) (by omega)
        rw [dk_ap, if_pos (pu_bn1.mp q2)] at ih9
        exact ih9
set_option maxRecDepth 20000 in
/-- applicable -/
theorem cd_G_applicable (l : Launch) (D : va_G) (dA : Nat → ClassId) (B : Nat) (h : zz_H) (n : Nat) (ad : Nat → Nat → Nat) (ng nM : Nat) (na no : Nat → Nat) (X : dk_X) (Y : dk_Y) (Z : dk_Z) (hP0 : dk_P dA ad (dk_lv ng nM na no) X Y Z h) (g oc : Nat) (ow : Nat → Nat) (w : Int64) (hg : g < ng) (OW : dk_ow ad X Z nM g oc ow) : zz_M l D zz_cl (zz_ty dA) B zz_tb (zz_x B) yy_G_applicable (Cond.code yy_G_applicable bb_G_applicable 5 (some FieldType.int)) rm_G_applicable [.ref ((ad 20 g)), .long w] h n zz_mi (fun r h' n' => n' = n ∧ h' = h ∧ r = dk_ap Y ow w oc) := by
  refine zz_ofW (zz_f B) [some (.ref ((ad 20 g))), some (.long w), none, none, none] (by decide) rfl rfl (Nat.le_of_ble_eq_true rfl) ?_
  intro p e s m below meth c C
  have hP := dk_rf hP0
  refine z_iconst (v := 0) C dd_G_applicable_0 (by decide) ?_
  refine z_istore_n C dd_G_applicable_1 rfl ?_
  refine z_iconst (v := 0) C dd_G_applicable_2 (by decide) ?_
  refine z_istore C dd_G_applicable_3 rfl ?_
  refine lp_G_applicable C hP hg OW ?_ oc 0 (by omega)
  refine z_iload_n C dd_G_applicable_47 rfl ?_
  exact z_iret C dd_G_applicable_48 ⟨rfl, rfl, rfl⟩ (by decide) (by decide)
abbrev rm_G_pick : Room := { frames := 3, cells := 0, slots := 0, locals := 60 }
set_option maxRecDepth 20000 in
theorem lp_G_pick {D : va_G} {dA : Nat → ClassId} {B : Nat} {p : Program} {l : Launch} {e : Env} {s : State} {m : MethodId} {args : Array Value} {below : List Frame} {meth : Method} {c : Code} {Q : State → Prop} {n : Nat} {nm : String} {ret9 : Option FieldType} {h : zz_H} (C : zz_C D zz_cl (zz_ty dA) B zz_tb (zz_x B) p s m args meth c bb_G_pick RR_G ret9 nm) {ad : Nat → Nat → Nat} {ng nM : Nat} {na no : Nat → Nat} {X : dk_X} {Y : dk_Y} {Z : dk_Z} {g oc : Nat} {ow : Nat → Nat} {x : Int32} (hP : dk_K dA ad (dk_lv ng nM na no) X Y Z h h) (hg : g < ng) (OW : dk_ow ad X Z nM g oc ow) :
    ∀ f k a b, k + f = oc → (∀ w, a = some w → w.category = 1) → (∀ w, b = some w → w.category = 1) → (∀ r k1 a b pc, (pc = 55 ∨ pc = 64) → r = dk_pf X ow x f k → zz_W D zz_cl B p l e rm_G_pick s m args below meth c Q h n 0 0 [some (.ref (ad 20 g)), some (.int x), some (.int (nI k1)), a, b] pc [.int r]) → zz_W D zz_cl B p l e rm_G_pick s m args below meth c Q h n 0 0 [some (.ref (ad 20 g)), some (.int x), some (.int (nI k)), a, b] 8 [] := by
  intro f
  have o12 := OW.2.1
  induction f with
  | zero =>
    intro k a b hk ca cb kx
    have hk9 : k = oc := by omega
    subst hk9
    refine z_iload_n C dd_G_pick_8 rfl ?_
    refine z_aload_n C dd_G_pick_9 rfl ?_
    refine gf_G_24 (v := .int (X 20 g 5)) C dd_G_pick_10 (dk_rd (k := 20) (i := g) (x := (X 20 g)) (y := (Y 20 g)) (z := (Z 20 g)) hP hg rfl rfl rfl) rfl ?_
    refine z_topi (y := nI k) OW.1.symm ?_
    refine z_icmp_ge (tgt := 62) C dd_G_pick_13 (by decide) (fun q1 => ?_) (fun q1 => absurd (Int32.le_refl _) q1)
    refine z_bipush (v := (-2)) C dd_G_pick_62 (by decide) ?_
    exact kx _ _ _ _ 64 (Or.inr rfl) rfl
  | succ f ih =>
    intro k a b hk ca cb kx
    have ok := OW.2.2.2 k (by omega)
    refine z_iload_n C dd_G_pick_8 rfl ?_
    refine z_aload_n C dd_G_pick_9 rfl ?_
    refine gf_G_24 (v := .int (X 20 g 5)) C dd_G_pick_10 (dk_rd (k := 20) (i := g) (x := (X 20 g)) (y := (Y 20 g)) (z := (Z 20 g)) hP hg rfl rfl rfl) rfl ?_
    refine z_topi (y := nI oc) OW.1.symm ?_
    refine z_icmp_ge (tgt := 62) C dd_G_pick_13 (by decide) (fun q1 => ?_) (fun q1 => ?_)
    · replace q1 : oc ≤ k := (@nI_leI oc k (by omega) (by omega)).mp q1
      omega
    · replace q1 : ¬ oc ≤ k := fun z => q1 ((@nI_leI oc k (by omega) (by omega)).mpr z)
      refine z_aload_n C dd_G_pick_16 rfl ?_
      refine gf_G_20 (v := .ref ((ad 25 g))) C dd_G_pick_17 (dk_rd (k := 20) (i := g) (x := (X 20 g)) (y := (Y 20 g)) (z := (Z 20 g)) hP hg rfl rfl rfl) rfl ?_
      refine z_iload_n C dd_G_pick_20 rfl ?_
      refine z_aald (t0 := 4) (N := 12) (f := (Z 25 g)) C rfl dd_G_pick_21 (dk_rd (k := 25) (i := g) (x := (X 25 g)) (y := (Y 25 g)) (z := (Z 25 g)) hP hg rfl rfl rfl) (vp_in_nI (by omega) (by decide)) ?_
      refine z_topr (y := ad 30 (ow k)) (by rw [nI_clamp (by omega), ok.1]; rfl) ?_
      refine z_astore_n C dd_G_pick_22 rfl ?_
      refine z_iload_n C dd_G_pick_23 rfl ?_
      refine z_aload_n C dd_G_pick_24 rfl ?_
      refine iv_G_67 (sk := fun r => .int r :: [.int x]) (zz_f B) C dd_G_pick_25 (cc_M_bit l D dA B _ _ _ _ _ _ _ _ _ _ _ _ _ (dk_rd (k := 30) (i := (ow k)) (x := (X 30 (ow k))) (y := (Y 30 (ow k))) (z := (Z 30 (ow k))) hP ok.2.1 rfl rfl rfl)) (dk_rd (k := 30) (i := (ow k)) (x := (X 30 (ow k))) (y := (Y 30 (ow k))) (z := (Z 30 (ow k))) hP ok.2.1 rfl rfl rfl) rfl rfl ⟨by decide, by decide⟩ (Nat.le_of_ble_eq_true rfl) ⟨by decide, by decide⟩ (fun _ => rfl) (fun v1_ h1_ n1_ p1_ => ?_)
      obtain ⟨f1_, e1_, p1_⟩ := p1_
      have e1z := e1_.symm
      have f1z := f1_.symm
      subst e1z
      subst f1z
      refine z_topi (y := i1 (ow k)) (by rw [p1_, ok.2.2]) ?_
      refine z_iconst (v := (-1)) C dd_G_pick_28 (by decide) ?_
      refine z_ixor C dd_G_pick_29 ?_
      refine z_iand C dd_G_pick_30 ?_
      refine z_istore C dd_G_pick_31 rfl ?_
      refine z_iload C dd_G_pick_33 rfl ?_
      refine z_iload_n C dd_G_pick_35 rfl ?_
      refine z_icmp_eq (tgt := 56) C dd_G_pick_36 (by decide) (fun q2 => ?_) (fun q2 => ?_)
      · skip
        refine z_iincN C dd_G_pick_56 rfl rfl ?_
        refine z_goto (tgt := 8) C dd_G_pick_59 (by decide) ?_
        refine ih (k + 1) _ _ (by omega) (fun w hw => by cases hw; rfl) (fun w hw => by cases hw; rfl) (fun r k1 a b pc w1 w2 => kx r k1 a b pc w1 ?_)
        rw [dk_pf, if_neg (fun z => z.1 q2)]
        exact w2
      · skip
        refine z_iload C dd_G_pick_39 rfl ?_
        refine z_aload_n C dd_G_pick_41 rfl ?_
        refine gf_G_112 (v := .int (X 30 (ow k) 9)) C dd_G_pick_42 (dk_rd (k := 30) (i := (ow k)) (x := (X 30 (ow k))) (y := (Y 30 (ow k))) (z := (Z 30 (ow k))) hP ok.2.1 rfl rfl rfl) rfl ?_
        refine z_iconst (v := (-1)) C dd_G_pick_45 (by decide) ?_
        refine z_ixor C dd_G_pick_46 ?_
        refine z_iand C dd_G_pick_47 ?_
        refine z_if_ne (tgt := 56) C dd_G_pick_48 (by decide) (fun q3 => ?_) (fun q3 => ?_)
        · skip
          refine z_iincN C dd_G_pick_56 rfl rfl ?_
          refine z_goto (tgt := 8) C dd_G_pick_59 (by decide) ?_
          refine ih (k + 1) _ _ (by omega) (fun w hw => by cases hw; rfl) (fun w hw => by cases hw; rfl) (fun r k1 a b pc w1 w2 => kx r k1 a b pc w1 ?_)
          rw [dk_pf, if_neg (fun z => q3 z.2)]
          exact w2
        · skip
          refine z_aload_n C dd_G_pick_51 rfl ?_
          refine gf_G_119 (v := .int (X 30 (ow k) 0)) C dd_G_pick_52 (dk_rd (k := 30) (i := (ow k)) (x := (X 30 (ow k))) (y := (Y 30 (ow k))) (z := (Z 30 (ow k))) hP ok.2.1 rfl rfl rfl) rfl ?_
          refine z_topi (y := nI (ow k)) ok.2.2.symm ?_
          exact kx _ _ _ _ 55 (Or.inl rfl) (by rw [dk_pf, if_pos ⟨q2, q3⟩])
set_option maxRecDepth 20000 in
/-- pick -/
theorem cd_G_pick (l : Launch) (D : va_G) (dA : Nat → ClassId) (B : Nat) (h : zz_H) (n : Nat) (ad : Nat → Nat → Nat) (ng nM : Nat) (na no : Nat → Nat) (X : dk_X) (Y : dk_Y) (Z : dk_Z) (hP0 : dk_P dA ad (dk_lv ng nM na no) X Y Z h) (g oc : Nat) (ow : Nat → Nat) (x : Int32) (hg : g < ng) (OW : dk_ow ad X Z nM g oc ow) : zz_M l D zz_cl (zz_ty dA) B zz_tb (zz_x B) yy_G_pick (Cond.code yy_G_pick bb_G_pick 5 (some FieldType.int)) rm_G_pick [.ref ((ad 20 g)), .int x] h n zz_mi (fun r h' n' => n' = n ∧ h' = h ∧ r = dk_pk X ow oc x) := by
  refine zz_ofW (zz_f B) [some (.ref ((ad 20 g))), some (.int x), none, none, none] (by decide) rfl rfl (Nat.le_of_ble_eq_true rfl) ?_
  intro p e s m below meth c C
  have hP := dk_rf hP0
  refine z_iload_n C dd_G_pick_0 rfl ?_
  refine z_if_ne (tgt := 6) C dd_G_pick_1 (by decide) (fun q1 => ?_) (fun q1 => ?_)
  · skip
    refine z_iconst (v := 0) C dd_G_pick_6 (by decide) ?_
    refine z_istore_n C dd_G_pick_7 rfl ?_
    refine lp_G_pick C hP hg OW oc 0 none none (by omega) (fun w hw => by cases hw) (fun w hw => by cases hw) (fun r k a b pc w1 w2 => ?_)
    have e9 : r = dk_pk X ow oc x := by unfold dk_pk; rw [if_neg q1]; exact w2
    rcases w1 with rfl | rfl
    · exact z_iret C dd_G_pick_55 ⟨rfl, rfl, e9⟩ (by decide) (by decide)
    · exact z_iret C dd_G_pick_64 ⟨rfl, rfl, e9⟩ (by decide) (by decide)
  · skip
    refine z_iconst (v := (-1)) C dd_G_pick_4 (by decide) ?_
    exact z_iret C dd_G_pick_5 ⟨rfl, rfl, by unfold dk_pk; rw [if_pos q1]⟩ (by decide) (by decide)
abbrev rm_G_choose : Room := { frames := 6, cells := 0, slots := 0, locals := 150 }
/-- only the latest choice of g is another -/
def dk_f2 (g : Nat) (X X' : dk_X) (Y Y' : dk_Y) : Prop := (∀ k i, ¬ (k = 20 ∧ i = g) → X' k i = X k i) ∧ (∀ p, p < 8 → X' 20 g p = X 20 g p) ∧ ∀ k i, ¬ (k = 20 ∧ i = g) → Y' k i = Y k i
theorem dk_pf_cg {X X' : dk_X} {ow : Nat → Nat} {x : Int32} (e : ∀ i, X' 30 i = X 30 i) : ∀ f k, dk_pf X' ow x f k = dk_pf X ow x f k
  | 0, _ => rfl
  | f + 1, k => by rw [dk_pf, dk_pf, dk_pf_cg e f (k + 1), e]
theorem dk_pk_cg {X X' : dk_X} {ow : Nat → Nat} {oc : Nat} {x : Int32} (e : ∀ i, X' 30 i = X 30 i) : dk_pk X' ow oc x = dk_pk X ow oc x := by
  unfold dk_pk
  rw [dk_pf_cg e]
theorem dk_ap_cg {Y Y' : dk_Y} {ow : Nat → Nat} {w : Int64} (e : ∀ i, Y' 30 i = Y 30 i) : ∀ k, dk_ap Y' ow w k = dk_ap Y ow w k
  | 0 => rfl
  | k + 1 => by rw [dk_ap, dk_ap, dk_ap_cg e k]; unfold dk_hl; rw [e]
set_option maxRecDepth 20000 in
/-- choose -/
theorem cd_G_choose (l : Launch) (D : va_G) (dA : Nat → ClassId) (B : Nat) (h : zz_H) (n : Nat) (ad : Nat → Nat → Nat) (ng nM : Nat) (na no : Nat → Nat) (X : dk_X) (Y : dk_Y) (Z : dk_Z) (hP0 : dk_P dA ad (dk_lv ng nM na no) X Y Z h) (g oc : Nat) (ow : Nat → Nat) (w : Int64) (hg : g < ng) (OW : dk_ow ad X Z nM g oc ow) (CH : dk_ch X Y ow g oc) : zz_M l D zz_cl (zz_ty dA) B zz_tb (zz_x B) yy_G_choose (Cond.code yy_G_choose bb_G_choose 3 (some FieldType.int)) rm_G_choose [.ref ((ad 20 g)), .long w] h n zz_mi (fun r h' n' => n' = n ∧ r = dk_pk X ow oc (dk_ap Y ow w oc) ∧ ∃ X' Y', dk_K dA ad (dk_lv ng nM na no) X' Y' Z h h' ∧ dk_ch X' Y' ow g oc ∧ dk_f2 g X X' Y Y') := by
  refine zz_ofW (zz_f B) [some (.ref ((ad 20 g))), some (.long w), none] (by decide) rfl rfl (Nat.le_of_ble_eq_true rfl) ?_
  intro p e s m below meth c C
  have hP := dk_rf hP0
  refine z_aload_n C dd_G_choose_0 rfl ?_
  refine gf_G_35 (v := .int (X 20 g 8)) C dd_G_choose_1 (dk_rd (k := 20) (i := g) (x := (X 20 g)) (y := (Y 20 g)) (z := (Z 20 g)) hP hg rfl rfl rfl) rfl ?_
  refine z_if_eq (tgt := 16) C dd_G_choose_4 (by decide) (fun q1 => ?_) (fun q1 => ?_)
  · skip
    refine z_aload_n C dd_G_choose_16 rfl ?_
    refine z_aload_n C dd_G_choose_17 rfl ?_
    refine z_aload_n C dd_G_choose_18 rfl ?_
    refine z_lload_n C dd_G_choose_19 rfl ?_
    refine iv_G_104 (sk := fun r => .int r :: [.ref ((ad 20 g)), .ref ((ad 20 g))]) (zz_f B) C dd_G_choose_20 (cd_G_applicable l D dA B _ _ ad ng nM na no X Y Z hP.1 g oc ow w hg OW) (dk_rd (k := 20) (i := g) (x := (X 20 g)) (y := (Y 20 g)) (z := (Z 20 g)) hP hg rfl rfl rfl) rfl rfl ⟨by decide, by decide⟩ (Nat.le_of_ble_eq_true rfl) ⟨by decide, by decide⟩ (fun _ => rfl) (fun v1_ h1_ n1_ p1_ => ?_)
    obtain ⟨f1_, e1_, p1_⟩ := p1_
    have e1z := e1_.symm
    have f1z := f1_.symm
    subst e1z
    subst f1z
    have q1_ := p1_.symm
    subst q1_
    refine iv_G_122 (sk := fun r => .int r :: [.ref ((ad 20 g))]) (zz_f B) C dd_G_choose_23 (cd_G_pick l D dA B _ _ ad ng nM na no X Y Z hP.1 g oc ow (dk_ap Y ow w oc) hg OW) (dk_rd (k := 20) (i := g) (x := (X 20 g)) (y := (Y 20 g)) (z := (Z 20 g)) hP hg rfl rfl rfl) rfl rfl ⟨by decide, by decide⟩ (Nat.le_of_ble_eq_true rfl) ⟨by decide, by decide⟩ (fun _ => rfl) (fun v2_ h2_ n2_ p2_ => ?_)
    obtain ⟨f2_, e2_, p2_⟩ := p2_
    have e2z := e2_.symm
    have f2z := f2_.symm
    subst e2z
    subst f2z
    have q2_ := p2_.symm
    subst q2_
    refine pf_G_42 C dd_G_choose_26 (dk_rd (k := 20) (i := g) (x := (X 20 g)) (y := (Y 20 g)) (z := (Z 20 g)) hP hg rfl rfl rfl) (Nat.le_of_ble_eq_true rfl) rfl rfl ?_
    refine z_cut (dk_K dA ad (dk_lv ng nM na no) (dk_is X 20 g (upd (X 20 g) 10 (dk_pk X ow oc (dk_ap Y ow w oc)))) Y Z h) (dk_wX hP hg rfl rfl rfl) rfl rfl rfl (fun h3_ hP3_ => ?_)
    refine z_aload_n C dd_G_choose_29 rfl ?_
    refine z_lload_n C dd_G_choose_30 rfl ?_
    refine pf_G_38 C dd_G_choose_31 (dk_rd (k := 20) (i := g) (x := (upd (X 20 g) 10 (dk_pk X ow oc (dk_ap Y ow w oc)))) (y := (Y 20 g)) (z := (Z 20 g)) hP3_ hg dk_s rfl rfl) (Nat.le_of_ble_eq_true rfl) rfl rfl ?_
    refine z_cut (dk_K dA ad (dk_lv ng nM na no) (dk_is X 20 g (upd (X 20 g) 10 (dk_pk X ow oc (dk_ap Y ow w oc)))) (dk_is Y 20 g (vp_updL (Y 20 g) 9 w)) Z h) (dk_wY hP3_ hg dk_s rfl rfl) rfl rfl rfl (fun h4_ hP4_ => ?_)
    refine z_aload_n C dd_G_choose_34 rfl ?_
    refine z_iconst (v := 1) C dd_G_choose_35 (by decide) ?_
    refine pf_G_35 C dd_G_choose_36 (dk_rd (k := 20) (i := g) (x := (upd (X 20 g) 10 (dk_pk X ow oc (dk_ap Y ow w oc)))) (y := (vp_updL (Y 20 g) 9 w)) (z := (Z 20 g)) hP4_ hg dk_s dk_s rfl) (Nat.le_of_ble_eq_true rfl) rfl rfl ?_
    refine z_cut (dk_K dA ad (dk_lv ng nM na no) (dk_is (dk_is X 20 g (upd (X 20 g) 10 (dk_pk X ow oc (dk_ap Y ow w oc)))) 20 g (upd (upd (X 20 g) 10 (dk_pk X ow oc (dk_ap Y ow w oc))) 8 1)) (dk_is Y 20 g (vp_updL (Y 20 g) 9 w)) Z h) (dk_wX hP4_ hg dk_s rfl rfl) rfl rfl rfl (fun h5_ hP5_ => ?_)
    refine z_aload_n C dd_G_choose_39 rfl ?_
    refine gf_G_42 (v := .int (dk_pk X ow oc (dk_ap Y ow w oc))) C dd_G_choose_40 (dk_rd (k := 20) (i := g) (x := (upd (upd (X 20 g) 10 (dk_pk X ow oc (dk_ap Y ow w oc))) 8 1)) (y := (vp_updL (Y 20 g) 9 w)) (z := (Z 20 g)) hP5_ hg dk_s dk_s rfl) rfl ?_
    refine z_iret C dd_G_choose_43 ⟨rfl, rfl, _, _, hP5_, Or.inr ?_, ⟨fun k i c => ?_, fun p hp => ?_, fun k i c => dk_n c⟩⟩ (by decide) (by decide)
    · rw [dk_s, dk_s]
      refine Eq.trans ?_ (Eq.symm (dk_pk_cg (X := X) ?_))
      · refine Eq.trans ?_ (congrArg (dk_pk X ow oc) (Eq.symm (dk_ap_cg (Y := Y) ?_ oc)))
        · rfl
        · exact fun i => rfl
      · exact fun i => rfl
    · rw [dk_ii]; exact dk_n c
    · rw [dk_s]; exact (pk_un (by omega)).trans (pk_un (by omega))
  · skip
    refine z_aload_n C dd_G_choose_7 rfl ?_
    refine gf_G_38 (v := .long (Y 20 g 9)) C dd_G_choose_8 (dk_rd (k := 20) (i := g) (x := (X 20 g)) (y := (Y 20 g)) (z := (Z 20 g)) hP hg rfl rfl rfl) rfl ?_
    refine z_lload_n C dd_G_choose_11 rfl ?_
    refine z_lcmp C dd_G_choose_12 ?_
    refine z_if_eq (tgt := 39) C dd_G_choose_13 (by decide) (fun q2 => ?_) (fun q2 => ?_)
    · skip
      refine z_aload_n C dd_G_choose_39 rfl ?_
      refine gf_G_42 (v := .int (X 20 g 10)) C dd_G_choose_40 (dk_rd (k := 20) (i := g) (x := (X 20 g)) (y := (Y 20 g)) (z := (Z 20 g)) hP hg rfl rfl rfl) rfl ?_
      have ew := (pu_lcmp _ _).mp q2
      refine z_iret C dd_G_choose_43 ⟨rfl, ?_, X, Y, hP, CH, ⟨fun _ _ _ => rfl, fun _ _ => rfl, fun _ _ _ => rfl⟩⟩ (by decide) (by decide)
      rcases CH with z | z
      · exact absurd z q1
      · rw [z, ew]
    · skip
      refine z_aload_n C dd_G_choose_16 rfl ?_
      refine z_aload_n C dd_G_choose_17 rfl ?_
      refine z_aload_n C dd_G_choose_18 rfl ?_
      refine z_lload_n C dd_G_choose_19 rfl ?_
      refine iv_G_104 (sk := fun r => .int r :: [.ref ((ad 20 g)), .ref ((ad 20 g))]) (zz_f B) C dd_G_choose_20 (cd_G_applicable l D dA B _ _ ad ng nM na no X Y Z hP.1 g oc ow w hg OW) (dk_rd (k := 20) (i := g) (x := (X 20 g)) (y := (Y 20 g)) (z := (Z 20 g)) hP hg rfl rfl rfl) rfl rfl ⟨by decide, by decide⟩ (Nat.le_of_ble_eq_true rfl) ⟨by decide, by decide⟩ (fun _ => rfl) (fun v6_ h6_ n6_ p6_ => ?_)
      obtain ⟨f6_, e6_, p6_⟩ := p6_
      have e6z := e6_.symm
      have f6z := f6_.symm
      subst e6z
      subst f6z
      have q6_ := p6_.symm
      subst q6_
      refine iv_G_122 (sk := fun r => .int r :: [.ref ((ad 20 g))]) (zz_f B) C dd_G_choose_23 (cd_G_pick l D dA B _ _ ad ng nM na no X Y Z hP.1 g oc ow (dk_ap Y ow w oc) hg OW) (dk_rd (k := 20) (i := g) (x := (X 20 g)) (y := (Y 20 g)) (z := (Z 20 g)) hP hg rfl rfl rfl) rfl rfl ⟨by decide, by decide⟩ (Nat.le_of_ble_eq_true rfl) ⟨by decide, by decide⟩ (fun _ => rfl) (fun v7_ h7_ n7_ p7_ => ?_)
      obtain ⟨f7_, e7_, p7_⟩ := p7_
      have e7z := e7_.symm
      have f7z := f7_.symm
      subst e7z
      subst f7z
      have q7_ := p7_.symm
      subst q7_
      refine pf_G_42 C dd_G_choose_26 (dk_rd (k := 20) (i := g) (x := (X 20 g)) (y := (Y 20 g)) (z := (Z 20 g)) hP hg rfl rfl rfl) (Nat.le_of_ble_eq_true rfl) rfl rfl ?_
      refine z_cut (dk_K dA ad (dk_lv ng nM na no) (dk_is X 20 g (upd (X 20 g) 10 (dk_pk X ow oc (dk_ap Y ow w oc)))) Y Z h) (dk_wX hP hg rfl rfl rfl) rfl rfl rfl (fun h8_ hP8_ => ?_)
      refine z_aload_n C dd_G_choose_29 rfl ?_
      refine z_lload_n C dd_G_choose_30 rfl ?_
      refine pf_G_38 C dd_G_choose_31 (dk_rd (k := 20) (i := g) (x := (upd (X 20 g) 10 (dk_pk X ow oc (dk_ap Y ow w oc)))) (y := (Y 20 g)) (z := (Z 20 g)) hP8_ hg dk_s rfl rfl) (Nat.le_of_ble_eq_true rfl) rfl rfl ?_
      refine z_cut (dk_K dA ad (dk_lv ng nM na no) (dk_is X 20 g (upd (X 20 g) 10 (dk_pk X ow oc (dk_ap Y ow w oc)))) (dk_is Y 20 g (vp_updL (Y 20 g) 9 w)) Z h) (dk_wY hP8_ hg dk_s rfl rfl) rfl rfl rfl (fun h9_ hP9_ => ?_)
      refine z_aload_n C dd_G_choose_34 rfl ?_
      refine z_iconst (v := 1) C dd_G_choose_35 (by decide) ?_
      refine pf_G_35 C dd_G_choose_36 (dk_rd (k := 20) (i := g) (x := (upd (X 20 g) 10 (dk_pk X ow oc (dk_ap Y ow w oc)))) (y := (vp_updL (Y 20 g) 9 w)) (z := (Z 20 g)) hP9_ hg dk_s dk_s rfl) (Nat.le_of_ble_eq_true rfl) rfl rfl ?_
      refine z_cut (dk_K dA ad (dk_lv ng nM na no) (dk_is (dk_is X 20 g (upd (X 20 g) 10 (dk_pk X ow oc (dk_ap Y ow w oc)))) 20 g (upd (upd (X 20 g) 10 (dk_pk X ow oc (dk_ap Y ow w oc))) 8 1)) (dk_is Y 20 g (vp_updL (Y 20 g) 9 w)) Z h) (dk_wX hP9_ hg dk_s rfl rfl) rfl rfl rfl (fun h10_ hP10_ => ?_)
      refine z_aload_n C dd_G_choose_39 rfl ?_
      refine gf_G_42 (v := .int (dk_pk X ow oc (dk_ap Y ow w oc))) C dd_G_choose_40 (dk_rd (k := 20) (i := g) (x := (upd (upd (X 20 g) 10 (dk_pk X ow oc (dk_ap Y ow w oc))) 8 1)) (y := (vp_updL (Y 20 g) 9 w)) (z := (Z 20 g)) hP10_ hg dk_s dk_s rfl) rfl ?_
      refine z_iret C dd_G_choose_43 ⟨rfl, rfl, _, _, hP10_, Or.inr ?_, ⟨fun k i c => ?_, fun p hp => ?_, fun k i c => dk_n c⟩⟩ (by decide) (by decide)
      · rw [dk_s, dk_s]
        refine Eq.trans ?_ (Eq.symm (dk_pk_cg (X := X) ?_))
        · refine Eq.trans ?_ (congrArg (dk_pk X ow oc) (Eq.symm (dk_ap_cg (Y := Y) ?_ oc)))
          · rfl
          · exact fun i => rfl
        · exact fun i => rfl
      · rw [dk_ii]; exact dk_n c
      · rw [dk_s]; exact (pk_un (by omega)).trans (pk_un (by omega))
abbrev rm_G_chooseBehind : Room := { frames := 6, cells := 0, slots := 0, locals := 150 }
set_option maxRecDepth 20000 in
/-- chooseBehind -/
theorem cd_G_chooseBehind (l : Launch) (D : va_G) (dA : Nat → ClassId) (B : Nat) (h : zz_H) (n : Nat) (ad : Nat → Nat → Nat) (ng nM : Nat) (na no : Nat → Nat) (X : dk_X) (Y : dk_Y) (Z : dk_Z) (hP0 : dk_P dA ad (dk_lv ng nM na no) X Y Z h) (g oc m0 : Nat) (ow : Nat → Nat) (w : Int64) (hg : g < ng) (hm : m0 < nM) (OW : dk_ow ad X Z nM g oc ow) : zz_M l D zz_cl (zz_ty dA) B zz_tb (zz_x B) yy_G_chooseBehind (Cond.code yy_G_chooseBehind bb_G_chooseBehind 4 (some FieldType.int)) rm_G_chooseBehind [.ref ((ad 20 g)), .ref ((ad 30 m0)), .long w] h n zz_mi (fun r h' n' => n' = n ∧ h' = h ∧ r = dk_pk X ow oc (dk_ap Y ow w oc &&& X 30 m0 9)) := by
  refine zz_ofW (zz_f B) [some (.ref ((ad 20 g))), some (.ref ((ad 30 m0))), some (.long w), none] (by decide) rfl rfl (Nat.le_of_ble_eq_true rfl) ?_
  intro p e s m below meth c C
  have hP := dk_rf hP0
  refine z_aload_n C dd_G_chooseBehind_0 rfl ?_
  refine z_aload_n C dd_G_chooseBehind_1 rfl ?_
  refine z_lload_n C dd_G_chooseBehind_2 rfl ?_
  refine iv_G_104 (sk := fun r => .int r :: [.ref ((ad 20 g))]) (zz_f B) C dd_G_chooseBehind_3 (cd_G_applicable l D dA B _ _ ad ng nM na no X Y Z hP.1 g oc ow w hg OW) (dk_rd (k := 20) (i := g) (x := (X 20 g)) (y := (Y 20 g)) (z := (Z 20 g)) hP hg rfl rfl rfl) rfl rfl ⟨by decide, by decide⟩ (Nat.le_of_ble_eq_true rfl) ⟨by decide, by decide⟩ (fun _ => rfl) (fun v1_ h1_ n1_ p1_ => ?_)
  obtain ⟨f1_, e1_, p1_⟩ := p1_
  have e1z := e1_.symm
  have f1z := f1_.symm
  subst e1z
  subst f1z
  have q1_ := p1_.symm
  subst q1_
  refine z_aload_n C dd_G_chooseBehind_6 rfl ?_
  refine gf_G_112 (v := .int (X 30 m0 9)) C dd_G_chooseBehind_7 (dk_rd (k := 30) (i := m0) (x := (X 30 m0)) (y := (Y 30 m0)) (z := (Z 30 m0)) hP hm rfl rfl rfl) rfl ?_
  refine z_iand C dd_G_chooseBehind_10 ?_
  refine iv_G_122 (sk := fun r => .int r :: []) (zz_f B) C dd_G_chooseBehind_11 (cd_G_pick l D dA B _ _ ad ng nM na no X Y Z hP.1 g oc ow (dk_ap Y ow w oc &&& X 30 m0 9) hg OW) (dk_rd (k := 20) (i := g) (x := (X 20 g)) (y := (Y 20 g)) (z := (Z 20 g)) hP hg rfl rfl rfl) rfl rfl ⟨by decide, by decide⟩ (Nat.le_of_ble_eq_true rfl) ⟨by decide, by decide⟩ (fun _ => rfl) (fun v2_ h2_ n2_ p2_ => ?_)
  obtain ⟨f2_, e2_, p2_⟩ := p2_
  have e2z := e2_.symm
  have f2z := f2_.symm
  subst e2z
  subst f2z
  have q2_ := p2_.symm
  subst q2_
  exact z_iret C dd_G_chooseBehind_14 ⟨rfl, rfl, rfl⟩ (by decide) (by decide)
abbrev rm_G_firstCount : Room := { frames := 3, cells := 0, slots := 0, locals := 60 }
set_option maxRecDepth 20000 in
/-- how many values -/
theorem cd_G_firstCount (l : Launch) (D : va_G) (dA : Nat → ClassId) (B : Nat) (h : zz_H) (n : Nat) (ad : Nat → Nat → Nat) (ng nM : Nat) (na no : Nat → Nat) (X : dk_X) (Y : dk_Y) (Z : dk_Z) (hP0 : dk_P dA ad (dk_lv ng nM na no) X Y Z h) (g nc ar : Nat) (hg : g < ng) (e1 : X 1 0 1 = nI nc) (ear : X 20 g 0 = nI ar) (ha : ar = 1 ∨ ar = 2) : zz_M l D zz_cl (zz_ty dA) B zz_tb (zz_x B) yy_G_firstCount (Cond.code yy_G_firstCount bb_G_firstCount 1 (some FieldType.int)) rm_G_firstCount [.ref ((ad 20 g))] h n zz_mi (fun r h' n' => n' = n ∧ h' = h ∧ r = nI (8 * nc)) := by
  refine zz_ofW (zz_f B) [some (.ref ((ad 20 g)))] (by decide) rfl rfl (Nat.le_of_ble_eq_true rfl) ?_
  intro p e s m below meth c C
  have hP := dk_rf hP0
  refine z_aload_n C dd_G_firstCount_0 rfl ?_
  refine gf_G_48 (v := .ref ((ad 1 0))) C dd_G_firstCount_1 (dk_rd (k := 20) (i := g) (x := (X 20 g)) (y := (Y 20 g)) (z := (Z 20 g)) hP hg rfl rfl rfl) rfl ?_
  refine iv_G_63 (sk := fun r => .int r :: []) (zz_f B) C dd_G_firstCount_4 (cc_H_valueCount l D dA B _ _ _ _ _ (dk_rd (k := 1) (i := 0) (x := (X 1 0)) (y := (Y 1 0)) (z := (Z 1 0)) hP rfl rfl rfl rfl)) (dk_rd (k := 1) (i := 0) (x := (X 1 0)) (y := (Y 1 0)) (z := (Z 1 0)) hP rfl rfl rfl rfl) rfl rfl ⟨by decide, by decide⟩ (Nat.le_of_ble_eq_true rfl) ⟨by decide, by decide⟩ (fun _ => rfl) (fun v1_ h1_ n1_ p1_ => ?_)
  obtain ⟨f1_, e1_, p1_⟩ := p1_
  have e1z := e1_.symm
  have f1z := f1_.symm
  subst e1z
  subst f1z
  refine z_topi (y := nI (8 * nc)) (by rw [p1_, e1, ← pk_mul]; rfl) ?_
  exact z_iret C dd_G_firstCount_7 ⟨rfl, rfl, rfl⟩ (by decide) (by decide)
abbrev rm_G_secondCount : Room := { frames := 3, cells := 0, slots := 0, locals := 60 }
set_option maxRecDepth 20000 in
/-- how many values -/
theorem cd_G_secondCount (l : Launch) (D : va_G) (dA : Nat → ClassId) (B : Nat) (h : zz_H) (n : Nat) (ad : Nat → Nat → Nat) (ng nM : Nat) (na no : Nat → Nat) (X : dk_X) (Y : dk_Y) (Z : dk_Z) (hP0 : dk_P dA ad (dk_lv ng nM na no) X Y Z h) (g nc ar : Nat) (hg : g < ng) (e1 : X 1 0 1 = nI nc) (ear : X 20 g 0 = nI ar) (ha : ar = 1 ∨ ar = 2) : zz_M l D zz_cl (zz_ty dA) B zz_tb (zz_x B) yy_G_secondCount (Cond.code yy_G_secondCount bb_G_secondCount 1 (some FieldType.int)) rm_G_secondCount [.ref ((ad 20 g))] h n zz_mi (fun r h' n' => n' = n ∧ h' = h ∧ r = nI (if ar = 2 then 8 * nc else 1)) := by
  refine zz_ofW (zz_f B) [some (.ref ((ad 20 g)))] (by decide) rfl rfl (Nat.le_of_ble_eq_true rfl) ?_
  intro p e s m below meth c C
  have hP := dk_rf hP0
  refine z_aload_n C dd_G_secondCount_0 rfl ?_
  refine gf_G_45 (v := .int (X 20 g 0)) C dd_G_secondCount_1 (dk_rd (k := 20) (i := g) (x := (X 20 g)) (y := (Y 20 g)) (z := (Z 20 g)) hP hg rfl rfl rfl) rfl ?_
  refine z_topi (y := nI ar) ear.symm ?_
  refine z_iconst (v := 2) C dd_G_secondCount_4 (by decide) ?_
  refine z_icmp_ne (tgt := 18) C dd_G_secondCount_5 (by decide) (fun q1 => ?_) (fun q1 => ?_)
  · replace q1 : ¬ ar = 2 := fun z => q1 ((@nI_eq ar 2 (by omega) (by omega)).mpr z)
    refine z_iconst (v := 1) C dd_G_secondCount_18 (by decide) ?_
    exact z_iret C dd_G_secondCount_19 ⟨rfl, rfl, by rw [if_neg q1]; rfl⟩ (by decide) (by decide)
  · replace q1 : ar = 2 := (@nI_eq ar 2 (by omega) (by omega)).mp q1
    refine z_aload_n C dd_G_secondCount_8 rfl ?_
    refine gf_G_48 (v := .ref ((ad 1 0))) C dd_G_secondCount_9 (dk_rd (k := 20) (i := g) (x := (X 20 g)) (y := (Y 20 g)) (z := (Z 20 g)) hP hg rfl rfl rfl) rfl ?_
    refine iv_G_63 (sk := fun r => .int r :: []) (zz_f B) C dd_G_secondCount_12 (cc_H_valueCount l D dA B _ _ _ _ _ (dk_rd (k := 1) (i := 0) (x := (X 1 0)) (y := (Y 1 0)) (z := (Z 1 0)) hP rfl rfl rfl rfl)) (dk_rd (k := 1) (i := 0) (x := (X 1 0)) (y := (Y 1 0)) (z := (Z 1 0)) hP rfl rfl rfl rfl) rfl rfl ⟨by decide, by decide⟩ (Nat.le_of_ble_eq_true rfl) ⟨by decide, by decide⟩ (fun _ => rfl) (fun v1_ h1_ n1_ p1_ => ?_)
    obtain ⟨f1_, e1_, p1_⟩ := p1_
    have e1z := e1_.symm
    have f1z := f1_.symm
    subst e1z
    subst f1z
    refine z_topi (y := nI (8 * nc)) (by rw [p1_, e1, ← pk_mul]; rfl) ?_
    refine z_goto (tgt := 19) C dd_G_secondCount_15 (by decide) ?_
    exact z_iret C dd_G_secondCount_19 ⟨rfl, rfl, by rw [if_pos q1]⟩ (by decide) (by decide)
