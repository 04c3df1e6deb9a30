/-! what is together: a set noted by the first k own methods -/
def dk_tg (X : dk_X) (ow : Nat → Nat) (x : Int32) : Nat → dk_X
  | 0 => X
  | k + 1 => if x &&& i1 (ow k) = 0 then dk_tg X ow x k else dk_is (dk_tg X ow x k) 30 (ow k) (upd (dk_tg X ow x k 30 (ow k)) 8 (dk_tg X ow x k 30 (ow k) 8 &&& x))
theorem dk_tg_k {X : dk_X} {ow : Nat → Nat} {x : Int32} {j i : Nat} (hj : ¬ j = 30) : ∀ k, dk_tg X ow x k j i = X j i
  | 0 => rfl
  | k + 1 => by
    rw [dk_tg]
    split
    · exact dk_tg_k hj k
    · rw [dk_n (fun z => hj z.1)]
      exact dk_tg_k hj k
theorem dk_tg_p {X : dk_X} {ow : Nat → Nat} {x : Int32} {i p : Nat} (hp : ¬ p = 8) : ∀ k, dk_tg X ow x k 30 i p = X 30 i p
  | 0 => rfl
  | k + 1 => by
    rw [dk_tg]
    split
    · exact dk_tg_p hp k
    · by_cases c : i = ow k
      · subst c
        rw [dk_s, pk_un hp]
        exact dk_tg_p hp k
      · rw [dk_ni c]
        exact dk_tg_p hp k
theorem dk_i1 {x : Int32} {m : Nat} (hm : m < 32) : x &&& i1 m = 0 ↔ bt x m = false := by
  constructor
  · intro h
    have h2 : bt (x &&& i1 m) m = false := by rw [h, b_0]
    rw [b_and, bt_one hm hm] at h2
    simpa using h2
  · intro h
    apply b_ext
    intro i hi
    rw [b_and, bt_one hm hi, b_0]
    by_cases c : i = m
    · subst c
      rw [h]
      rfl
    · simp [c]
def dk_own (ow : Nat → Nat) (n m : Nat) : Bool := (List.range n).any fun j => decide (ow j = m)
theorem dk_own_s (ow : Nat → Nat) (n m : Nat) : dk_own ow (n + 1) m = (dk_own ow n m || decide (ow n = m)) := z_loopAny _ _
theorem dk_tg_8 {X : dk_X} {ow : Nat → Nat} {x : Int32} {m i : Nat} : ∀ k, (∀ j, j < k → ow j < 32) → bt (dk_tg X ow x k 30 m 8) i = (bt (X 30 m 8) i && (!(dk_own ow k m && bt x m) || bt x i))
  | 0, _ => by simp [dk_tg, dk_own]
  | k + 1, hz => by
    have ih := dk_tg_8 (X := X) (x := x) (m := m) (i := i) k (fun j hj => hz j (by omega))
    have ho : ow k < 32 := hz k (by omega)
    rw [dk_tg, dk_own_s]
    by_cases c : ow k = m
    · subst c
      by_cases b : bt x (ow k) = true
      · rw [if_neg (fun z => by rw [dk_i1 ho] at z; rw [z] at b; exact absurd b (by decide)), dk_s, pk_us, b_and, ih, b]
        cases bt (X 30 (ow k) 8) i <;> cases dk_own ow k (ow k) <;> cases bt x i <;> simp
      · have b2 : bt x (ow k) = false := by simpa using b
        rw [if_pos ((dk_i1 ho).mpr b2), ih, b2]
        simp
    · have e : (if x &&& i1 (ow k) = 0 then dk_tg X ow x k else dk_is (dk_tg X ow x k) 30 (ow k) (upd (dk_tg X ow x k 30 (ow k)) 8 (dk_tg X ow x k 30 (ow k) 8 &&& x))) 30 m = dk_tg X ow x k 30 m := by
        split
        · rfl
        · exact dk_ni (fun z => c z.symm)
      rw [e, ih]
      simp [c]
abbrev rm_G_noteTogether : Room := { frames := 3, cells := 0, slots := 0, locals := 60 }
set_option maxRecDepth 20000 in
theorem lp_G_noteTogether {D : va_G} {dA : Nat → ClassId} {B : Nat} {p : Program} {l : Launch} {e : Env} {s : State} {m : MethodId} {args : Array Value} {below : List Frame} {meth : Method} {c : Code} {Q : State → Prop} {n : Nat} {nm : String} {ret9 : Option FieldType} {h : zz_H} (C : zz_C D zz_cl (zz_ty dA) B zz_tb (zz_x B) p s m args meth c bb_G_noteTogether RR_G ret9 nm) {ad : Nat → Nat → Nat} {ng nM : Nat} {na no : Nat → Nat} {X : dk_X} {Y : dk_Y} {Z : dk_Z} {g oc : Nat} {ow : Nat → Nat} {x : Int32} (hg : g < ng) (OW : dk_ow ad X Z nM g oc ow) (kx : ∀ h', dk_K dA ad (dk_lv ng nM na no) (dk_tg X ow x oc) Y Z h h' → zz_W D zz_cl B p l e rm_G_noteTogether s m args below meth c Q h' n 0 0 [some (.ref (ad 20 g)), some (.int x), some (.int (nI oc))] 45 []) :
    ∀ f k h9, k + f = oc → dk_K dA ad (dk_lv ng nM na no) (dk_tg X ow x k) Y Z h h9 → zz_W D zz_cl B p l e rm_G_noteTogether s m args below meth c Q h9 n 0 0 [some (.ref (ad 20 g)), some (.int x), some (.int (nI k))] 2 [] := by
  intro f
  have o12 := OW.2.1
  induction f with
  | zero =>
    intro k h9 hk hP
    have hk9 : k = oc := by omega
    subst hk9
    have e5 : dk_tg X ow x k 20 g 5 = nI k := by rw [dk_tg_k (by decide)]; exact OW.1
    refine z_iload_n C dd_G_noteTogether_2 rfl ?_
    refine z_aload_n C dd_G_noteTogether_3 rfl ?_
    refine gf_G_24 (v := .int ((dk_tg X ow x k) 20 g 5)) C dd_G_noteTogether_4 (dk_rd (k := 20) (i := g) (x := ((dk_tg X ow x k) 20 g)) (y := (Y 20 g)) (z := (Z 20 g)) hP hg rfl rfl rfl) rfl ?_
    refine z_topi (y := nI k) e5.symm ?_
    refine z_icmp_ge (tgt := 45) C dd_G_noteTogether_7 (by decide) (fun q1 => ?_) (fun q1 => absurd (Int32.le_refl _) q1)
    exact kx _ hP
  | succ f ih =>
    intro k h9 hk hP
    have ok := OW.2.2.2 k (by omega)
    have e5 : dk_tg X ow x k 20 g 5 = nI oc := by rw [dk_tg_k (by decide)]; exact OW.1
    refine z_iload_n C dd_G_noteTogether_2 rfl ?_
    refine z_aload_n C dd_G_noteTogether_3 rfl ?_
    refine gf_G_24 (v := .int ((dk_tg X ow x k) 20 g 5)) C dd_G_noteTogether_4 (dk_rd (k := 20) (i := g) (x := ((dk_tg X ow x k) 20 g)) (y := (Y 20 g)) (z := (Z 20 g)) hP hg rfl rfl rfl) rfl ?_
    refine z_topi (y := nI oc) e5.symm ?_
    refine z_icmp_ge (tgt := 45) C dd_G_noteTogether_7 (by decide) (fun q1 => ?_) (fun q1 => ?_)
    · replace q1 : oc ≤ k := (@nI_leI oc k (by omega) (by omega)).mp q1
      omega
    · replace q1 : ¬ oc ≤ k := fun z => q1 ((@nI_leI oc k (by omega) (by omega)).mpr z)
      refine z_iload_n C dd_G_noteTogether_10 rfl ?_
      refine z_aload_n C dd_G_noteTogether_11 rfl ?_
      refine gf_G_20 (v := .ref ((ad 25 g))) C dd_G_noteTogether_12 (dk_rd (k := 20) (i := g) (x := ((dk_tg X ow x k) 20 g)) (y := (Y 20 g)) (z := (Z 20 g)) hP hg rfl rfl rfl) rfl ?_
      refine z_iload_n C dd_G_noteTogether_15 rfl ?_
      refine z_aald (t0 := 4) (N := 12) (f := (Z 25 g)) C rfl dd_G_noteTogether_16 (dk_rd (k := 25) (i := g) (x := ((dk_tg X ow x k) 25 g)) (y := (Y 25 g)) (z := (Z 25 g)) hP hg rfl rfl rfl) (vp_in_nI (by omega) (by decide)) ?_
      refine z_topr (y := ad 30 (ow k)) (by rw [nI_clamp (by omega), ok.1]; rfl) ?_
      refine iv_G_67 (sk := fun r => .int r :: [.int x]) (zz_f B) C dd_G_noteTogether_17 (cc_M_bit l D dA B _ _ _ _ _ _ _ _ _ _ _ _ _ (dk_rd (k := 30) (i := (ow k)) (x := ((dk_tg X ow x k) 30 (ow k))) (y := (Y 30 (ow k))) (z := (Z 30 (ow k))) hP ok.2.1 rfl rfl rfl)) (dk_rd (k := 30) (i := (ow k)) (x := ((dk_tg X ow x k) 30 (ow k))) (y := (Y 30 (ow k))) (z := (Z 30 (ow k))) hP ok.2.1 rfl rfl rfl) rfl rfl ⟨by decide, by decide⟩ (Nat.le_of_ble_eq_true rfl) ⟨by decide, by decide⟩ (fun _ => rfl) (fun v1_ h1_ n1_ p1_ => ?_)
      obtain ⟨f1_, e1_, p1_⟩ := p1_
      have e1z := e1_.symm
      have f1z := f1_.symm
      subst e1z
      subst f1z
      refine z_topi (y := i1 (ow k)) (by rw [p1_, dk_tg_p (by decide), ok.2.2]) ?_
      refine z_iand C dd_G_noteTogether_20 ?_
      refine z_if_eq (tgt := 39) C dd_G_noteTogether_21 (by decide) (fun q2 => ?_) (fun q2 => ?_)
      · skip
        refine z_iincN C dd_G_noteTogether_39 rfl rfl ?_
        refine z_goto (tgt := 2) C dd_G_noteTogether_42 (by decide) ?_
        refine ih (k + 1) _ (by omega) (dk_eX hP (by rw [dk_tg, if_pos q2]))
      · skip
        refine z_aload_n C dd_G_noteTogether_24 rfl ?_
        refine gf_G_20 (v := .ref ((ad 25 g))) C dd_G_noteTogether_25 (dk_rd (k := 20) (i := g) (x := ((dk_tg X ow x k) 20 g)) (y := (Y 20 g)) (z := (Z 20 g)) hP hg rfl rfl rfl) rfl ?_
        refine z_iload_n C dd_G_noteTogether_28 rfl ?_
        refine z_aald (t0 := 4) (N := 12) (f := (Z 25 g)) C rfl dd_G_noteTogether_29 (dk_rd (k := 25) (i := g) (x := ((dk_tg X ow x k) 25 g)) (y := (Y 25 g)) (z := (Z 25 g)) hP hg rfl rfl rfl) (vp_in_nI (by omega) (by decide)) ?_
        refine z_topr (y := ad 30 (ow k)) (by rw [nI_clamp (by omega), ok.1]; rfl) ?_
        refine z_dup C dd_G_noteTogether_30 rfl ?_
        refine gf_G_89 (v := .int ((dk_tg X ow x k) 30 (ow k) 8)) C dd_G_noteTogether_31 (dk_rd (k := 30) (i := (ow k)) (x := ((dk_tg X ow x k) 30 (ow k))) (y := (Y 30 (ow k))) (z := (Z 30 (ow k))) hP ok.2.1 rfl rfl rfl) rfl ?_
        refine z_iload_n C dd_G_noteTogether_34 rfl ?_
        refine z_iand C dd_G_noteTogether_35 ?_
        refine pf_G_89 C dd_G_noteTogether_36 (dk_rd (k := 30) (i := (ow k)) (x := ((dk_tg X ow x k) 30 (ow k))) (y := (Y 30 (ow k))) (z := (Z 30 (ow k))) hP ok.2.1 rfl rfl rfl) (Nat.le_of_ble_eq_true rfl) rfl rfl ?_
        refine z_cut (dk_K dA ad (dk_lv ng nM na no) (dk_is (dk_tg X ow x k) 30 (ow k) (upd ((dk_tg X ow x k) 30 (ow k)) 8 (((dk_tg X ow x k) 30 (ow k) 8) &&& x))) Y Z h) (dk_wX hP ok.2.1 rfl rfl rfl) rfl rfl rfl (fun h2_ hP2_ => ?_)
        refine z_iincN C dd_G_noteTogether_39 rfl rfl ?_
        refine z_goto (tgt := 2) C dd_G_noteTogether_42 (by decide) ?_
        refine ih (k + 1) _ (by omega) (dk_eX hP2_ (by rw [dk_tg, if_neg q2]))
set_option maxRecDepth 20000 in
/-- noteTogether -/
theorem cd_G_noteTogether (l : Launch) (D : va_G) (dA : Nat → ClassId) (B : Nat) (h : zz_H) (n : Nat) (ad : Nat → Nat → Nat) (ng nM : Nat) (na no : Nat → Nat) (X : dk_X) (Y : dk_Y) (Z : dk_Z) (hP0 : dk_P dA ad (dk_lv ng nM na no) X Y Z h) (g oc : Nat) (ow : Nat → Nat) (x : Int32) (hg : g < ng) (OW : dk_ow ad X Z nM g oc ow) : zz_M l D zz_cl (zz_ty dA) B zz_tb (zz_x B) yy_G_noteTogether (Cond.code yy_G_noteTogether bb_G_noteTogether 3 none) rm_G_noteTogether [.ref ((ad 20 g)), .int x] h n zz_mv (fun _ h' n' => n' = n ∧ dk_K dA ad (dk_lv ng nM na no) (dk_tg X ow x oc) Y Z h h') := by
  refine zz_ofW (zz_f B) [some (.ref ((ad 20 g))), some (.int x), none] (by decide) rfl rfl (Nat.le_of_ble_eq_true rfl) ?_
  intro p e s m below meth c C
  have hP := dk_rf hP0
  refine z_iconst (v := 0) C dd_G_noteTogether_0 (by decide) ?_
  refine z_istore_n C dd_G_noteTogether_1 rfl ?_
  exact lp_G_noteTogether C hg OW (fun h' w => z_vret C dd_G_noteTogether_45 ⟨rfl, w⟩ (by decide) (by decide)) oc 0 _ (by omega) hP
abbrev rm_G_findBeyond : Room := { frames := 3, cells := 0, slots := 0, locals := 60 }
/-- those among the first k own methods that m is beyond -/
def dk_by (X : dk_X) (ow : Nat → Nat) (m : Nat) : Nat → Int32
  | 0 => 0
  | k + 1 => if ¬ X 30 m 8 &&& i1 (ow k) = 0 ∧ X 30 (ow k) 8 &&& i1 m = 0 then dk_by X ow m k ||| i1 (ow k) else dk_by X ow m k
/-- of X the sets beyond of own methods alone are others -/
def dk_f4 (ow : Nat → Nat) (oc : Nat) (X X' : dk_X) : Prop := (∀ k i, ¬ k = 30 → X' k i = X k i) ∧ (∀ i p, ¬ p = 9 → X' 30 i p = X 30 i p) ∧ ∀ i, (∀ j, j < oc → ¬ i = ow j) → X' 30 i = X 30 i
set_option maxRecDepth 20000 in
theorem lpi_G_findBeyond {D : va_G} {dA : Nat → ClassId} {B : Nat} {p : Program} {l : Launch} {e : Env} {s : State} {m : MethodId} {args : Array Value} {below : List Frame} {meth : Method} {c : Code} {Q : State → Prop} {n : Nat} {nm : String} {ret9 : Option FieldType} {h : zz_H} (C : zz_C D zz_cl (zz_ty dA) B zz_tb (zz_x B) p s m args meth c bb_G_findBeyond RR_G ret9 nm) {ad : Nat → Nat → Nat} {ng nM : Nat} {na no : Nat → Nat} {X : dk_X} {Y : dk_Y} {Z : dk_Z} {g oc k : Nat} {ow : Nat → Nat} (hg : g < ng) (OW : dk_ow ad X Z nM g oc ow) (hk : k < oc) (kx : ∀ W h' c9, (∀ w, c9 = some w → w.category = 1) → (dk_K dA ad (dk_lv ng nM na no) W Y Z h h' ∧ dk_f4 ow oc X W ∧ W 30 (ow k) 9 = dk_by X ow (ow k) oc ∧ ∀ j, j < k → W 30 (ow j) 9 = dk_by X ow (ow j) oc ∨ ow j = ow k) → zz_W D zz_cl B p l e rm_G_findBeyond s m args below meth c Q h' n 0 0 [some (.ref (ad 20 g)), some (.int (nI k)), some (.ref (ad 30 (ow k))), some (.int (nI oc)), c9] 86 []) :
    ∀ f j W h9 c9, j + f = oc → (∀ w, c9 = some w → w.category = 1) → (dk_K dA ad (dk_lv ng nM na no) W Y Z h h9 ∧ dk_f4 ow oc X W ∧ W 30 (ow k) 9 = dk_by X ow (ow k) j ∧ ∀ j, j < k → W 30 (ow j) 9 = dk_by X ow (ow j) oc ∨ ow j = ow k) → zz_W D zz_cl B p l e rm_G_findBeyond s m args below meth c Q h9 n 0 0 [some (.ref (ad 20 g)), some (.int (nI k)), some (.ref (ad 30 (ow k))), some (.int (nI j)), c9] 24 [] := by
  intro f
  have o12 := OW.2.1
  have ok := OW.2.2.2 k hk
  induction f with
  | zero =>
    intro j W h9 c9 hj cc J
    have hj9 : j = oc := by omega
    subst hj9
    have J9 := J
    obtain ⟨hP, fr, eb, hb⟩ := J9
    have e5 : W 20 g 5 = nI j := by rw [fr.1 20 g (by decide)]; exact OW.1
    refine z_iload_n C dd_G_findBeyond_24 rfl ?_
    refine z_aload_n C dd_G_findBeyond_25 rfl ?_
    refine gf_G_24 (v := .int (W 20 g 5)) C dd_G_findBeyond_26 (dk_rd (k := 20) (i := g) (x := (W 20 g)) (y := (Y 20 g)) (z := (Z 20 g)) hP hg rfl rfl rfl) rfl ?_
    refine z_topi (y := nI j) e5.symm ?_
    refine z_icmp_ge (tgt := 86) C dd_G_findBeyond_29 (by decide) (fun q1 => ?_) (fun q1 => absurd (Int32.le_refl _) q1)
    exact kx W h9 c9 cc J
  | succ f ih =>
    intro j W h9 c9 hj cc J
    obtain ⟨hP, fr, eb, hb⟩ := J
    have oj := OW.2.2.2 j (by omega)
    have e5 : W 20 g 5 = nI oc := by rw [fr.1 20 g (by decide)]; exact OW.1
    have ez := ok
    refine z_iload_n C dd_G_findBeyond_24 rfl ?_
    refine z_aload_n C dd_G_findBeyond_25 rfl ?_
    refine gf_G_24 (v := .int (W 20 g 5)) C dd_G_findBeyond_26 (dk_rd (k := 20) (i := g) (x := (W 20 g)) (y := (Y 20 g)) (z := (Z 20 g)) hP hg rfl rfl rfl) rfl ?_
    refine z_topi (y := nI oc) e5.symm ?_
    refine z_icmp_ge (tgt := 86) C dd_G_findBeyond_29 (by decide) (fun q1 => ?_) (fun q1 => ?_)
    · replace q1 : oc ≤ j := (@nI_leI oc j (by omega) (by omega)).mp q1
      omega
    · replace q1 : ¬ oc ≤ j := fun z => q1 ((@nI_leI oc j (by omega) (by omega)).mpr z)
      refine z_aload_n C dd_G_findBeyond_32 rfl ?_
      refine gf_G_20 (v := .ref ((ad 25 g))) C dd_G_findBeyond_33 (dk_rd (k := 20) (i := g) (x := (W 20 g)) (y := (Y 20 g)) (z := (Z 20 g)) hP hg rfl rfl rfl) rfl ?_
      refine z_iload_n C dd_G_findBeyond_36 rfl ?_
      refine z_aald (t0 := 4) (N := 12) (f := (Z 25 g)) C rfl dd_G_findBeyond_37 (dk_rd (k := 25) (i := g) (x := (W 25 g)) (y := (Y 25 g)) (z := (Z 25 g)) hP hg rfl rfl rfl) (vp_in_nI (by omega) (by decide)) ?_
      refine z_topr (y := ad 30 (ow j)) (by rw [nI_clamp (by omega), oj.1]; rfl) ?_
      refine z_astore C dd_G_findBeyond_38 rfl ?_
      refine z_aload_n C dd_G_findBeyond_40 rfl ?_
      refine gf_G_89 (v := .int (W 30 (ow k) 8)) C dd_G_findBeyond_41 (dk_rd (k := 30) (i := (ow k)) (x := (W 30 (ow k))) (y := (Y 30 (ow k))) (z := (Z 30 (ow k))) hP ok.2.1 rfl rfl rfl) rfl ?_
      refine z_aload C dd_G_findBeyond_44 rfl ?_
      refine iv_G_67 (sk := fun r => .int r :: [.int ((W 30 (ow k) 8))]) (zz_f B) C dd_G_findBeyond_46 (cc_M_bit l D dA B _ _ _ _ _ _ _ _ _ _ _ _ _ (dk_rd (k := 30) (i := (ow j)) (x := (W 30 (ow j))) (y := (Y 30 (ow j))) (z := (Z 30 (ow j))) hP oj.2.1 rfl rfl rfl)) (dk_rd (k := 30) (i := (ow j)) (x := (W 30 (ow j))) (y := (Y 30 (ow j))) (z := (Z 30 (ow j))) hP oj.2.1 rfl rfl rfl) rfl rfl ⟨by decide, by decide⟩ (Nat.le_of_ble_eq_true rfl) ⟨by decide, by decide⟩ (fun _ => rfl) (fun v1_ h1_ n1_ p1_ => ?_)
      obtain ⟨f1_, e1_, p1_⟩ := p1_
      have e1z := e1_.symm
      have f1z := f1_.symm
      subst e1z
      subst f1z
      refine z_topi (y := i1 (ow j)) (by rw [p1_, fr.2.1 _ _ (by decide), oj.2.2]) ?_
      refine z_iand C dd_G_findBeyond_49 ?_
      refine z_if_eq (tgt := 80) C dd_G_findBeyond_50 (by decide) (fun q2 => ?_) (fun q2 => ?_)
      · skip
        refine z_iincN C dd_G_findBeyond_80 rfl rfl ?_
        refine z_goto (tgt := 24) C dd_G_findBeyond_83 (by decide) ?_
        rw [fr.2.1 (ow k) 8 (by decide)] at q2
        refine ih (j + 1) W h9 _ (by omega) (fun w hw => by cases hw; rfl) ⟨hP, fr, ?_, hb⟩
        rw [dk_by, if_neg (fun z => z.1 q2)]
        exact eb
      · skip
        refine z_aload C dd_G_findBeyond_53 rfl ?_
        refine gf_G_89 (v := .int (W 30 (ow j) 8)) C dd_G_findBeyond_55 (dk_rd (k := 30) (i := (ow j)) (x := (W 30 (ow j))) (y := (Y 30 (ow j))) (z := (Z 30 (ow j))) hP oj.2.1 rfl rfl rfl) rfl ?_
        refine z_aload_n C dd_G_findBeyond_58 rfl ?_
        refine iv_G_67 (sk := fun r => .int r :: [.int ((W 30 (ow j) 8))]) (zz_f B) C dd_G_findBeyond_59 (cc_M_bit l D dA B _ _ _ _ _ _ _ _ _ _ _ _ _ (dk_rd (k := 30) (i := (ow k)) (x := (W 30 (ow k))) (y := (Y 30 (ow k))) (z := (Z 30 (ow k))) hP ok.2.1 rfl rfl rfl)) (dk_rd (k := 30) (i := (ow k)) (x := (W 30 (ow k))) (y := (Y 30 (ow k))) (z := (Z 30 (ow k))) hP ok.2.1 rfl rfl rfl) rfl rfl ⟨by decide, by decide⟩ (Nat.le_of_ble_eq_true rfl) ⟨by decide, by decide⟩ (fun _ => rfl) (fun v2_ h2_ n2_ p2_ => ?_)
        obtain ⟨f2_, e2_, p2_⟩ := p2_
        have e2z := e2_.symm
        have f2z := f2_.symm
        subst e2z
        subst f2z
        refine z_topi (y := i1 (ow k)) (by rw [p2_, fr.2.1 _ _ (by decide), ok.2.2]) ?_
        refine z_iand C dd_G_findBeyond_62 ?_
        refine z_if_ne (tgt := 80) C dd_G_findBeyond_63 (by decide) (fun q3 => ?_) (fun q3 => ?_)
        · skip
          refine z_iincN C dd_G_findBeyond_80 rfl rfl ?_
          refine z_goto (tgt := 24) C dd_G_findBeyond_83 (by decide) ?_
          rw [fr.2.1 (ow k) 8 (by decide)] at q2
          rw [fr.2.1 (ow j) 8 (by decide)] at q3
          refine ih (j + 1) W h9 _ (by omega) (fun w hw => by cases hw; rfl) ⟨hP, fr, ?_, hb⟩
          rw [dk_by, if_neg (fun z => q3 z.2)]
          exact eb
        · skip
          refine z_aload_n C dd_G_findBeyond_66 rfl ?_
          refine z_dup C dd_G_findBeyond_67 rfl ?_
          refine gf_G_112 (v := .int (W 30 (ow k) 9)) C dd_G_findBeyond_68 (dk_rd (k := 30) (i := (ow k)) (x := (W 30 (ow k))) (y := (Y 30 (ow k))) (z := (Z 30 (ow k))) hP ok.2.1 rfl rfl rfl) rfl ?_
          refine z_aload C dd_G_findBeyond_71 rfl ?_
          refine iv_G_67 (sk := fun r => .int r :: [.int ((W 30 (ow k) 9)), .ref ((ad 30 (ow k)))]) (zz_f B) C dd_G_findBeyond_73 (cc_M_bit l D dA B _ _ _ _ _ _ _ _ _ _ _ _ _ (dk_rd (k := 30) (i := (ow j)) (x := (W 30 (ow j))) (y := (Y 30 (ow j))) (z := (Z 30 (ow j))) hP oj.2.1 rfl rfl rfl)) (dk_rd (k := 30) (i := (ow j)) (x := (W 30 (ow j))) (y := (Y 30 (ow j))) (z := (Z 30 (ow j))) hP oj.2.1 rfl rfl rfl) rfl rfl ⟨by decide, by decide⟩ (Nat.le_of_ble_eq_true rfl) ⟨by decide, by decide⟩ (fun _ => rfl) (fun v3_ h3_ n3_ p3_ => ?_)
          obtain ⟨f3_, e3_, p3_⟩ := p3_
          have e3z := e3_.symm
          have f3z := f3_.symm
          subst e3z
          subst f3z
          refine z_topi (y := i1 (ow j)) (by rw [p3_, fr.2.1 _ _ (by decide), oj.2.2]) ?_
          refine z_ior C dd_G_findBeyond_76 ?_
          refine pf_G_112 C dd_G_findBeyond_77 (dk_rd (k := 30) (i := (ow k)) (x := (W 30 (ow k))) (y := (Y 30 (ow k))) (z := (Z 30 (ow k))) hP ok.2.1 rfl rfl rfl) (Nat.le_of_ble_eq_true rfl) rfl rfl ?_
          refine z_cut (dk_K dA ad (dk_lv ng nM na no) (dk_is W 30 (ow k) (upd (W 30 (ow k)) 9 ((W 30 (ow k) 9) ||| (i1 (ow j))))) Y Z h) (dk_wX hP ok.2.1 rfl rfl rfl) rfl rfl rfl (fun h4_ hP4_ => ?_)
          refine z_iincN C dd_G_findBeyond_80 rfl rfl ?_
          refine z_goto (tgt := 24) C dd_G_findBeyond_83 (by decide) ?_
          rw [fr.2.1 (ow k) 8 (by decide)] at q2
          rw [fr.2.1 (ow j) 8 (by decide)] at q3
          refine ih (j + 1) _ _ _ (by omega) (fun w hw => by cases hw; rfl) ⟨hP4_, ⟨fun k9 i9 c => (dk_n (fun z => c z.1)).trans (fr.1 k9 i9 c), fun i9 p9 c => ?_, fun i9 c => (dk_ni (c k hk)).trans (fr.2.2 i9 c)⟩, ?_, fun j9 h9 => ?_⟩
          · by_cases z : i9 = ow k
            · subst z
              rw [dk_s, pk_un c]
              exact fr.2.1 _ _ c
            · rw [dk_ni z]
              exact fr.2.1 _ _ c
          · rw [dk_s, pk_us, dk_by, if_pos ⟨q2, q3⟩, eb]
          · by_cases z : ow j9 = ow k
            · exact Or.inr z
            · rw [dk_ni z]
              exact hb j9 h9
set_option maxRecDepth 20000 in
theorem lp_G_findBeyond {D : va_G} {dA : Nat → ClassId} {B : Nat} {p : Program} {l : Launch} {e : Env} {s : State} {m : MethodId} {args : Array Value} {below : List Frame} {meth : Method} {c : Code} {Q : State → Prop} {n : Nat} {nm : String} {ret9 : Option FieldType} {h : zz_H} (C : zz_C D zz_cl (zz_ty dA) B zz_tb (zz_x B) p s m args meth c bb_G_findBeyond RR_G ret9 nm) {ad : Nat → Nat → Nat} {ng nM : Nat} {na no : Nat → Nat} {X : dk_X} {Y : dk_Y} {Z : dk_Z} {g oc : Nat} {ow : Nat → Nat} (hg : g < ng) (OW : dk_ow ad X Z nM g oc ow) (kx : ∀ W h' a b c9, (dk_K dA ad (dk_lv ng nM na no) W Y Z h h' ∧ dk_f4 ow oc X W ∧ ∀ j, j < oc → W 30 (ow j) 9 = dk_by X ow (ow j) oc) → zz_W D zz_cl B p l e rm_G_findBeyond s m args below meth c Q h' n 0 0 [some (.ref (ad 20 g)), some (.int (nI oc)), a, b, c9] 92 []) :
    ∀ f k W h9 a b c9, k + f = oc → (∀ w, a = some w → w.category = 1) → (∀ w, b = some w → w.category = 1) → (∀ w, c9 = some w → w.category = 1) → (dk_K dA ad (dk_lv ng nM na no) W Y Z h h9 ∧ dk_f4 ow oc X W ∧ ∀ j, j < k → W 30 (ow j) 9 = dk_by X ow (ow j) oc) → zz_W D zz_cl B p l e rm_G_findBeyond s m args below meth c Q h9 n 0 0 [some (.ref (ad 20 g)), some (.int (nI k)), a, b, c9] 2 [] := by
  intro f
  have o12 := OW.2.1
  induction f with
  | zero =>
    intro k W h9 a b c9 hk ca cb cc J
    have hk9 : k = oc := by omega
    subst hk9
    have J9 := J
    obtain ⟨hP, fr, hb⟩ := J9
    have e5 : W 20 g 5 = nI k := by rw [fr.1 20 g (by decide)]; exact OW.1
    refine z_iload_n C dd_G_findBeyond_2 rfl ?_
    refine z_aload_n C dd_G_findBeyond_3 rfl ?_
    refine gf_G_24 (v := .int (W 20 g 5)) C dd_G_findBeyond_4 (dk_rd (k := 20) (i := g) (x := (W 20 g)) (y := (Y 20 g)) (z := (Z 20 g)) hP hg rfl rfl rfl) rfl ?_
    refine z_topi (y := nI k) e5.symm ?_
    refine z_icmp_ge (tgt := 92) C dd_G_findBeyond_7 (by decide) (fun q1 => ?_) (fun q1 => absurd (Int32.le_refl _) q1)
    exact kx W h9 a b c9 J
  | succ f ih =>
    intro k W h9 a b c9 hk ca cb cc J
    obtain ⟨hP, fr, hb⟩ := J
    have ok := OW.2.2.2 k (by omega)
    have e5 : W 20 g 5 = nI oc := by rw [fr.1 20 g (by decide)]; exact OW.1
    refine z_iload_n C dd_G_findBeyond_2 rfl ?_
    refine z_aload_n C dd_G_findBeyond_3 rfl ?_
    refine gf_G_24 (v := .int (W 20 g 5)) C dd_G_findBeyond_4 (dk_rd (k := 20) (i := g) (x := (W 20 g)) (y := (Y 20 g)) (z := (Z 20 g)) hP hg rfl rfl rfl) rfl ?_
    refine z_topi (y := nI oc) e5.symm ?_
    refine z_icmp_ge (tgt := 92) C dd_G_findBeyond_7 (by decide) (fun q1 => ?_) (fun q1 => ?_)
    · replace q1 : oc ≤ k := (@nI_leI oc k (by omega) (by omega)).mp q1
      omega
    · replace q1 : ¬ oc ≤ k := fun z => q1 ((@nI_leI oc k (by omega) (by omega)).mpr z)
      refine z_aload_n C dd_G_findBeyond_10 rfl ?_
      refine gf_G_20 (v := .ref ((ad 25 g))) C dd_G_findBeyond_11 (dk_rd (k := 20) (i := g) (x := (W 20 g)) (y := (Y 20 g)) (z := (Z 20 g)) hP hg rfl rfl rfl) rfl ?_
      refine z_iload_n C dd_G_findBeyond_14 rfl ?_
      refine z_aald (t0 := 4) (N := 12) (f := (Z 25 g)) C rfl dd_G_findBeyond_15 (dk_rd (k := 25) (i := g) (x := (W 25 g)) (y := (Y 25 g)) (z := (Z 25 g)) hP hg rfl rfl rfl) (vp_in_nI (by omega) (by decide)) ?_
      refine z_topr (y := ad 30 (ow k)) (by rw [nI_clamp (by omega), ok.1]; rfl) ?_
      refine z_astore_n C dd_G_findBeyond_16 rfl ?_
      refine z_aload_n C dd_G_findBeyond_17 rfl ?_
      refine z_iconst (v := 0) C dd_G_findBeyond_18 (by decide) ?_
      refine pf_G_112 C dd_G_findBeyond_19 (dk_rd (k := 30) (i := (ow k)) (x := (W 30 (ow k))) (y := (Y 30 (ow k))) (z := (Z 30 (ow k))) hP ok.2.1 rfl rfl rfl) (Nat.le_of_ble_eq_true rfl) rfl rfl ?_
      refine z_cut (dk_K dA ad (dk_lv ng nM na no) (dk_is W 30 (ow k) (upd (W 30 (ow k)) 9 0)) Y Z h) (dk_wX hP ok.2.1 rfl rfl rfl) rfl rfl rfl (fun h1_ hP1_ => ?_)
      refine z_iconst (v := 0) C dd_G_findBeyond_22 (by decide) ?_
      refine z_istore_n C dd_G_findBeyond_23 rfl ?_
      refine lpi_G_findBeyond (h := h) C hg OW (show k < oc by omega) (fun W2 h' c8 cc8 J2 => ?_) oc 0 _ _ _ (by omega) cc ⟨hP1_, ⟨fun k9 i9 c => (dk_n (fun z => c z.1)).trans (fr.1 k9 i9 c), fun i9 p9 c => ?_, fun i9 c => (dk_ni (c k (by omega))).trans (fr.2.2 i9 c)⟩, ?_, fun j9 h9 => ?_⟩
      · obtain ⟨hP2, fr2, eb2, hb2⟩ := J2
        refine z_iincN C dd_G_findBeyond_86 rfl rfl ?_
        refine z_goto (tgt := 2) C dd_G_findBeyond_89 (by decide) ?_
        refine ih (k + 1) W2 h' _ _ c8 (by omega) (fun w hw => by cases hw; rfl) (fun w hw => by cases hw; rfl) ?_ ⟨hP2, fr2, fun j9 h9 => ?_⟩
        · exact cc8
        · by_cases z : ow j9 = ow k
          · rw [z]; exact eb2
          · exact (hb2 j9 (by have : j9 ≠ k := fun e => z (by rw [e]); omega)).elim id (fun q => absurd q z)
      · by_cases z : i9 = ow k
        · subst z
          rw [dk_s, pk_un c]
          exact fr.2.1 _ _ c
        · rw [dk_ni z]
          exact fr.2.1 _ _ c
      · rw [dk_s, pk_us]; rfl
      · by_cases z : ow j9 = ow k
        · exact Or.inr z
        · rw [dk_ni z]
          exact Or.inl (hb j9 h9)
set_option maxRecDepth 20000 in
/-- findBeyond -/
theorem cd_G_findBeyond (l : Launch) (D : va_G) (dA : Nat → ClassId) (B : Nat) (h : zz_H) (n : Nat) (ad : Nat → Nat → Nat) (ng nM : Nat) (na no : Nat → Nat) (X : dk_X) (Y : dk_Y) (Z : dk_Z) (hP0 : dk_P dA ad (dk_lv ng nM na no) X Y Z h) (g oc : Nat) (ow : Nat → Nat) (hg : g < ng) (OW : dk_ow ad X Z nM g oc ow) : zz_M l D zz_cl (zz_ty dA) B zz_tb (zz_x B) yy_G_findBeyond (Cond.code yy_G_findBeyond bb_G_findBeyond 5 none) rm_G_findBeyond [.ref ((ad 20 g))] h n zz_mv (fun _ h' n' => n' = n ∧ ∃ W, dk_K dA ad (dk_lv ng nM na no) W Y Z h h' ∧ dk_f4 ow oc X W ∧ ∀ j, j < oc → W 30 (ow j) 9 = dk_by X ow (ow j) oc) := by
  refine zz_ofW (zz_f B) [some (.ref ((ad 20 g))), none, none, none, none] (by decide) rfl rfl (Nat.le_of_ble_eq_true rfl) ?_
  intro p e s m below meth c C
  have hP := dk_rf hP0
  refine z_iconst (v := 0) C dd_G_findBeyond_0 (by decide) ?_
  refine z_istore_n C dd_G_findBeyond_1 rfl ?_
  exact lp_G_findBeyond C hg OW (fun W h' a b c9 J => z_vret C dd_G_findBeyond_92 ⟨rfl, W, J⟩ (by decide) (by decide)) oc 0 X _ none none none (by omega) (fun w hw => by cases hw) (fun w hw => by cases hw) (fun w hw => by cases hw) ⟨hP, ⟨fun _ _ _ => rfl, fun _ _ _ => rfl, fun _ _ => rfl⟩, fun j hj => absurd hj (by omega)⟩
