abbrev rm_F_learn : Room := { frames := 8, cells := 0, slots := 0, locals := 200 }
/-- two atoms ask the same -/
def dk_sm (X : dk_X) (b a : Nat) : Bool := decide (X 33 b 0 = X 33 a 0) && (decide (X 33 b 1 = X 33 a 1) && decide (X 33 b 2 = X 33 a 2))
/-- the tests of a generic: T of them, the atoms tf -/
def dk_ts (ad : Nat → Nat → Nat) (ng nM : Nat) (na no : Nat → Nat) (X : dk_X) (Z : dk_Z) (g T : Nat) (tf : Nat → Nat) : Prop := X 26 g 2 = nI T ∧ ∀ t, t < T → Z 27 g t = some (ad 33 (tf t)) ∧ dk_lv ng nM na no 33 (tf t)
abbrev lg1 (t : Nat) : Int64 := (1 : Int64) <<< ((nI t).toInt64 &&& 63)
set_option maxRecDepth 20000 in
theorem lp_F_learn {D : va_G} {dA : Nat → ClassId} {B : Nat} {p : Program} {l : Launch} {e : Env} {s : State} {m : MethodId} {args : Array Value} {below : List Frame} {meth : Method} {c : Code} {Q : State → Prop} {n : Nat} {nm : String} {ret9 : Option FieldType} {h : zz_H} (C : zz_C D zz_cl (zz_ty dA) B zz_tb (zz_x B) p s m args meth c bb_F_learn RR_F ret9 nm) {ad : Nat → Nat → Nat} {ng nM : Nat} {na no : Nat → Nat} {X : dk_X} {Y : dk_Y} {Z : dk_Z} {g a T : Nat} {tf : Nat → Nat} (hP : dk_K dA ad (dk_lv ng nM na no) X Y Z h h) (hg : g < ng) (ha : dk_lv ng nM na no 33 a) (TS : dk_ts ad ng nM na no X Z g T tf) (hT : T < 48)
    (k1 : ∀ t, t < T → dk_sm X (tf t) a = true → (∀ t9, t9 < t → dk_sm X (tf t9) a = false) → zz_W D zz_cl B p l e rm_F_learn s m args below meth c Q h n 0 0 [some (.ref (ad 26 g)), some (.ref (ad 33 a)), some (.int (nI t)), none] 26 [.long (lg1 t)])
    (k2 : (∀ t9, t9 < T → dk_sm X (tf t9) a = false) → zz_W D zz_cl B p l e rm_F_learn s m args below meth c Q h n 0 0 [some (.ref (ad 26 g)), some (.ref (ad 33 a)), some (.int (nI T)), none] 33 []) :
    ∀ f k, k + f = T → (∀ t9, t9 < k → dk_sm X (tf t9) a = false) → zz_W D zz_cl B p l e rm_F_learn s m args below meth c Q h n 0 0 [some (.ref (ad 26 g)), some (.ref (ad 33 a)), some (.int (nI k)), none] 2 [] := by
  intro f
  induction f with
  | zero =>
    intro k hk hs
    have hk9 : k = T := by omega
    subst hk9
    refine z_iload_n C dd_F_learn_2 rfl ?_
    refine z_aload_n C dd_F_learn_3 rfl ?_
    refine gf_F_19 (v := .int (X 26 g 2)) C dd_F_learn_4 (dk_rd (k := 26) (i := g) (x := (X 26 g)) (y := (Y 26 g)) (z := (Z 26 g)) hP hg rfl rfl rfl) rfl ?_
    refine z_topi (y := nI k) TS.1.symm ?_
    refine z_icmp_ge (tgt := 33) C dd_F_learn_7 (by decide) (fun q1 => ?_) (fun q1 => absurd (Int32.le_refl _) q1)
    exact k2 hs
  | succ f ih =>
    intro k hk hs
    have ht := TS.2 k (by omega)
    refine z_iload_n C dd_F_learn_2 rfl ?_
    refine z_aload_n C dd_F_learn_3 rfl ?_
    refine gf_F_19 (v := .int (X 26 g 2)) C dd_F_learn_4 (dk_rd (k := 26) (i := g) (x := (X 26 g)) (y := (Y 26 g)) (z := (Z 26 g)) hP hg rfl rfl rfl) rfl ?_
    refine z_topi (y := nI T) TS.1.symm ?_
    refine z_icmp_ge (tgt := 33) C dd_F_learn_7 (by decide) (fun q1 => ?_) (fun q1 => ?_)
    · replace q1 : T ≤ k := (@nI_leI T k (by omega) (by omega)).mp q1
      omega
    · replace q1 : ¬ T ≤ k := fun z => q1 ((@nI_leI T k (by omega) (by omega)).mpr z)
      refine z_aload_n C dd_F_learn_10 rfl ?_
      refine gf_F_15 (v := .ref ((ad 27 g))) C dd_F_learn_11 (dk_rd (k := 26) (i := g) (x := (X 26 g)) (y := (Y 26 g)) (z := (Z 26 g)) hP hg rfl rfl rfl) rfl ?_
      refine z_iload_n C dd_F_learn_14 rfl ?_
      refine z_aald (t0 := 5) (N := 48) (f := (Z 27 g)) C rfl dd_F_learn_15 (dk_rd (k := 27) (i := g) (x := (X 27 g)) (y := (Y 27 g)) (z := (Z 27 g)) hP hg rfl rfl rfl) (vp_in_nI (by omega) (by decide)) ?_
      refine z_topr (y := ad 33 (tf k)) (by rw [nI_clamp (by omega), ht.1]; rfl) ?_
      refine z_aload_n C dd_F_learn_16 rfl ?_
      refine iv_F_53 (sk := fun r => .int r :: []) (zz_f B) C dd_F_learn_17 (cc_A_asksTheSame l D dA B _ _ _ _ _ _ _ (dk_rd (k := 33) (i := (tf k)) (x := (X 33 (tf k))) (y := (Y 33 (tf k))) (z := (Z 33 (tf k))) hP ht.2 rfl rfl rfl) _ _ _ _ _ (dk_rd (k := 33) (i := a) (x := (X 33 a)) (y := (Y 33 a)) (z := (Z 33 a)) hP ha rfl rfl rfl)) (dk_rd (k := 33) (i := (tf k)) (x := (X 33 (tf k))) (y := (Y 33 (tf k))) (z := (Z 33 (tf k))) hP ht.2 rfl rfl rfl) rfl rfl ⟨by decide, by decide⟩ (Nat.le_of_ble_eq_true rfl) ⟨by decide, by decide⟩ (fun _ => rfl) (fun v1_ h1_ n1_ p1_ => ?_)
      obtain ⟨f1_, e1_, p1_⟩ := p1_
      have e1z := e1_.symm
      have f1z := f1_.symm
      subst e1z
      subst f1z
      have e9 : v1_ = pu_b (dk_sm X (tf k) a) := by
        unfold dk_sm
        rcases p1_ with ⟨z1, z2⟩ | ⟨z1, z2, z3⟩ | ⟨z1, z2, z3, z4⟩ | ⟨z1, z2, z3, z4⟩
        · rw [z2, decide_eq_false z1]; rfl
        · rw [z3, decide_eq_true z1, decide_eq_false z2]; rfl
        · rw [z4, decide_eq_true z1, decide_eq_true z2, decide_eq_false z3]; rfl
        · rw [z4, decide_eq_true z1, decide_eq_true z2, decide_eq_true z3]; rfl
      subst e9
      refine z_if_eq (tgt := 27) C dd_F_learn_20 (by decide) (fun q2 => ?_) (fun q2 => ?_)
      · skip
        refine z_iincN C dd_F_learn_27 rfl rfl ?_
        refine z_goto (tgt := 2) C dd_F_learn_30 (by decide) ?_
        refine ih (k + 1) (by omega) (fun t9 h9 => ?_)
        by_cases z : t9 = k
        · rw [z]; exact ((pu_b0 _).mp q2)
        · exact hs t9 (by omega)
      · skip
        refine z_lconst (v := 1) C dd_F_learn_23 (by decide) ?_
        refine z_iload_n C dd_F_learn_24 rfl ?_
        refine z_lshl C dd_F_learn_25 ?_
        exact k1 k (by omega) (pu_bn1.mp q2) hs
set_option maxRecDepth 20000 in
/-- learn -/
theorem cd_F_learn (l : Launch) (D : va_G) (dA : Nat → ClassId) (B : Nat) (h : zz_H) (n : Nat) (ad : Nat → Nat → Nat) (ng nM : Nat) (na no : Nat → Nat) (X : dk_X) (Y : dk_Y) (Z : dk_Z) (hP0 : dk_P dA ad (dk_lv ng nM na no) X Y Z h) (g a T kd wh nc : Nat) (tf : Nat → Nat) (par : Nat → Int32) (hg : g < ng) (ha : dk_lv ng nM na no 33 a) (TS : dk_ts ad ng nM na no X Z g T tf) (hT : T < 48) (hkd : kd < 6) (hwh : wh < 2) (ek : X 33 a 0 = nI kd) (ew : X 33 a 1 = nI wh) (h8 : nc ≤ 8) (HI : dk_hi X par nc) (hx0 : kd = 0 → ∃ xd, xd < nc ∧ X 33 a 2 = nI xd) : zz_M l D zz_cl (zz_ty dA) B zz_tb (zz_x B) yy_F_learn (Cond.code yy_F_learn bb_F_learn 4 (some FieldType.long)) rm_F_learn [.ref ((ad 26 g)), .ref ((ad 33 a))] h n zz_ml (fun r h' n' => n' = n ∧ ((∃ t, t < T ∧ dk_sm X (tf t) a = true ∧ (∀ t9, t9 < t → dk_sm X (tf t9) a = false) ∧ r = lg1 t ∧ h' = h) ∨ ((∀ t9, t9 < T → dk_sm X (tf t9) a = false) ∧ r = lg1 T ∧ dk_K dA ad (dk_lv ng nM na no) (dk_is X 26 g (upd (X 26 g) 2 (nI (T + 1)))) (dk_note X Y par g a kd wh nc (lg1 T)) (dk_is Z 27 g (va_up (Z 27 g) T (some (ad 33 a)))) h h'))) := by
  refine zz_ofW (zz_f B) [some (.ref ((ad 26 g))), some (.ref ((ad 33 a))), none, none] (by decide) rfl rfl (Nat.le_of_ble_eq_true rfl) ?_
  intro p e s m below meth c C
  have hP := dk_rf hP0
  refine z_iconst (v := 0) C dd_F_learn_0 (by decide) ?_
  refine z_istore_n C dd_F_learn_1 rfl ?_
  refine lp_F_learn C hP hg ha TS hT (fun t w1 w2 w3 => z_lret C dd_F_learn_26 ⟨rfl, Or.inl ⟨t, w1, w2, w3, rfl, rfl⟩⟩ (by decide) (by decide)) (fun hn => ?_) T 0 (by omega) (fun t9 h9 => absurd h9 (by omega))
  refine z_lconst (v := 1) C dd_F_learn_33 (by decide) ?_
  refine z_aload_n C dd_F_learn_34 rfl ?_
  refine gf_F_19 (v := .int (X 26 g 2)) C dd_F_learn_35 (dk_rd (k := 26) (i := g) (x := (X 26 g)) (y := (Y 26 g)) (z := (Z 26 g)) hP hg rfl rfl rfl) rfl ?_
  refine z_topi (y := nI T) TS.1.symm ?_
  refine z_lshl C dd_F_learn_38 ?_
  refine z_lstore_n C dd_F_learn_39 rfl ?_
  refine z_aload_n C dd_F_learn_40 rfl ?_
  refine gf_F_15 (v := .ref ((ad 27 g))) C dd_F_learn_41 (dk_rd (k := 26) (i := g) (x := (X 26 g)) (y := (Y 26 g)) (z := (Z 26 g)) hP hg rfl rfl rfl) rfl ?_
  refine z_aload_n C dd_F_learn_44 rfl ?_
  refine gf_F_19 (v := .int (X 26 g 2)) C dd_F_learn_45 (dk_rd (k := 26) (i := g) (x := (X 26 g)) (y := (Y 26 g)) (z := (Z 26 g)) hP hg rfl rfl rfl) rfl ?_
  refine z_topi (y := nI T) TS.1.symm ?_
  refine z_aload_n C dd_F_learn_48 rfl ?_
  refine z_aast (t0 := 5) (N := 48) (f := (Z 27 g)) C rfl rfl dd_F_learn_49 (dk_rd (k := 27) (i := g) (x := (X 27 g)) (y := (Y 27 g)) (z := (Z 27 g)) hP hg rfl rfl rfl) (dk_rd (k := 33) (i := a) (x := (X 33 a)) (y := (Y 33 a)) (z := (Z 33 a)) hP ha rfl rfl rfl) (vp_in_nI (by omega) (by decide)) ?_
  refine z_cut (dk_K dA ad (dk_lv ng nM na no) X Y (dk_is Z 27 g (va_up (Z 27 g) (Int32.toNatClampNeg (nI T)) (some (ad 33 a)))) h) (dk_wZ hP hg rfl rfl rfl) rfl rfl rfl (fun h1_ hP1_ => ?_)
  refine z_aload_n C dd_F_learn_50 rfl ?_
  refine z_dup C dd_F_learn_51 rfl ?_
  refine gf_F_19 (v := .int (X 26 g 2)) C dd_F_learn_52 (dk_rd (k := 26) (i := g) (x := (X 26 g)) (y := (Y 26 g)) (z := (Z 26 g)) hP1_ hg rfl rfl rfl) rfl ?_
  refine z_topi (y := nI T) TS.1.symm ?_
  refine z_iconst (v := 1) C dd_F_learn_55 (by decide) ?_
  refine z_iadd C dd_F_learn_56 ?_
  refine z_topi (y := nI (T + 1)) (by first | exact (nI_add _ _).symm | (rw [← nI_add]; rfl)) ?_
  refine pf_F_19 C dd_F_learn_57 (dk_rd (k := 26) (i := g) (x := (X 26 g)) (y := (Y 26 g)) (z := (Z 26 g)) hP1_ hg rfl rfl rfl) (Nat.le_of_ble_eq_true rfl) rfl rfl ?_
  refine z_cut (dk_K dA ad (dk_lv ng nM na no) (dk_is X 26 g (upd (X 26 g) 2 (nI (T + 1)))) Y (dk_is Z 27 g (va_up (Z 27 g) (Int32.toNatClampNeg (nI T)) (some (ad 33 a)))) h) (dk_wX hP1_ hg rfl rfl rfl) rfl rfl rfl (fun h2_ hP2_ => ?_)
  refine z_aload_n C dd_F_learn_60 rfl ?_
  refine z_aload_n C dd_F_learn_61 rfl ?_
  refine z_lload_n C dd_F_learn_62 rfl ?_
  rw [nI_clamp (by omega)] at hP2_
  refine iv_F_57 (sk := fun _ => []) (zz_f B) C dd_F_learn_63 (cd_F_note l D dA B _ _ ad ng nM na no (dk_is X 26 g (upd (X 26 g) 2 (nI (T + 1)))) Y _ hP2_.1 g a kd wh nc par (lg1 T) hg ha hkd hwh ek ew h8 HI hx0) (dk_rd (k := 26) (i := g) hP2_ hg rfl rfl rfl) rfl rfl ⟨by decide, by decide⟩ (Nat.le_of_ble_eq_true rfl) ⟨by decide, by decide⟩ (fun _ => rfl) (fun _ h3_ n3_ p3_ => ?_)
  obtain ⟨rfl, p3_⟩ := p3_
  have hP3_ := dk_tr hP2_ p3_
  refine z_lload_n C dd_F_learn_66 rfl ?_
  exact z_lret C dd_F_learn_67 ⟨rfl, Or.inr ⟨hn, rfl, hP3_⟩⟩ (by decide) (by decide)
