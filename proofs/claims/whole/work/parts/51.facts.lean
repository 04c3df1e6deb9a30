theorem z_topr {D : va_G} {cl : List vw_C} {B : Nat} {p : Program} {l : Launch} {e : Env} {R : Room} {s : State} {m : MethodId} {args : Array Value} {below : List Frame} {meth : Method} {c : Code} {Q : State → Prop} {h : zz_H} {n cells slots : Nat} {L : List (Option Value)} {pc : Nat} {rest : List Value} {x : Value} {y : Nat} (hxy : Value.ref y = x) (k : zz_W D cl B p l e R s m args below meth c Q h n cells slots L pc (.ref y :: rest)) : zz_W D cl B p l e R s m args below meth c Q h n cells slots L pc (x :: rest) := hxy ▸ k
/-- the classes stand right -/
def dk_hi (X : dk_X) (par : Nat → Int32) (nc : Nat) : Prop := X 1 0 1 = nI nc ∧ ∀ c d, c < nc → d < 8 → bt (X 2 0 c) d = pu_is par 8 c d
theorem dk_num (v : Nat) (hv : v < 2 ^ 31) : (nI v &&& 7) + (-4) = nI (v % 8) - 4 := by
  rw [pk_and (nI v) 3 (by decide), pk_tn (by omega), Int32.sub_eq_add_neg]
theorem dk_cls (v : Nat) (hv : v < 64) : nI v >>> (3 &&& 31) = nI (v / 8) := by
  have : ∀ v : Fin 64, nI v.val >>> (3 &&& 31) = nI (v.val / 8) := by decide +kernel
  exact this ⟨v, hv⟩
theorem dk_evn (v : Nat) : (nI (v % 8) - 4) &&& 1 = 0 ↔ v % 2 = 0 := by
  have h : ∀ a : Fin 8, ((nI a.val - 4) &&& 1 = 0 ↔ a.val % 2 = 0) := by decide +kernel
  have h2 := h ⟨v % 8, Nat.mod_lt _ (by decide)⟩
  rw [h2]
  show v % 8 % 2 = 0 ↔ v % 2 = 0
  omega
theorem dk_i2 {α : Type} {A : Nat → Nat → Nat → α} {k i k2 i2 : Nat} {a b a' b' : Nat → α} : dk_is (dk_is (dk_is (dk_is A k i a) k2 i2 b) k i a') k2 i2 b' = dk_is (dk_is A k i a') k2 i2 b' := by
  funext k' i'
  unfold dk_is
  by_cases c2 : k' = k2 ∧ i' = i2
  · simp only [if_pos c2]
  · simp only [if_neg c2]
    by_cases c1 : k' = k ∧ i' = i
    · simp only [if_pos c1]
    · simp only [if_neg c1]
abbrev rm_A_holdsFor : Room := { frames := 3, cells := 0, slots := 0, locals := 60 }
set_option maxRecDepth 20000 in
/-- an atom of one argument holds for a value -/
theorem cd_A_holdsFor (l : Launch) (D : va_G) (dA : Nat → ClassId) (B : Nat) (h : zz_H) (n : Nat) (ad : Nat → Nat → Nat) (ng nM : Nat) (na no : Nat → Nat) (X : dk_X) (Y : dk_Y) (Z : dk_Z) (hP0 : dk_P dA ad (dk_lv ng nM na no) X Y Z h) (a kd nc v : Nat) (par : Nat → Int32) (ha : dk_lv ng nM na no 33 a) (hkd : kd < 4) (ek : X 33 a 0 = nI kd) (h8 : nc ≤ 8) (HI : dk_hi X par nc) (hx0 : kd = 0 → ∃ xd, xd < nc ∧ X 33 a 2 = nI xd) (hv : v < 8 * nc) : zz_M l D zz_cl (zz_ty dA) B zz_tb (zz_x B) yy_A_holdsFor (Cond.code yy_A_holdsFor bb_A_holdsFor 4 (some FieldType.boolean)) rm_A_holdsFor [.ref ((ad 33 a)), .int ((nI v)), .ref ((ad 1 0))] h n zz_mi (fun r h' n' => n' = n ∧ h' = h ∧ r = pu_b (pu_holds par kd 0 (X 33 a 2) v 0)) := by
  refine zz_ofW (zz_f B) [some (.ref ((ad 33 a))), some (.int ((nI v))), some (.ref ((ad 1 0))), none] (by decide) rfl rfl (Nat.le_of_ble_eq_true rfl) ?_
  intro p e s m below meth c C
  have hP := dk_rf hP0
  refine z_iload_n C dd_A_holdsFor_0 rfl ?_
  refine is_A_26 (sk := fun r => .int r :: []) (zz_f B) C dd_A_holdsFor_1 (cc_V_numberOf l D dA B _ _ _) rfl rfl ⟨by decide, by decide⟩ (Nat.le_of_ble_eq_true rfl) ⟨by decide, by decide⟩ (fun _ => rfl) (fun v1_ h1_ n1_ p1_ => ?_)
  obtain ⟨f1_, e1_, p1_⟩ := p1_
  have e1z := e1_.symm
  have f1z := f1_.symm
  subst e1z
  subst f1z
  refine z_topi (y := nI (v % 8) - 4) (by rw [p1_, dk_num v (by omega)]) ?_
  refine z_istore_n C dd_A_holdsFor_4 rfl ?_
  refine z_aload_n C dd_A_holdsFor_5 rfl ?_
  refine gf_A_7 (v := .int (X 33 a 0)) C dd_A_holdsFor_6 (dk_rd (k := 33) (i := a) (x := (X 33 a)) (y := (Y 33 a)) (z := (Z 33 a)) hP ha rfl rfl rfl) rfl ?_
  refine z_topi (y := nI kd) ek.symm ?_
  have hk4 : kd = 0 ∨ kd = 1 ∨ kd = 2 ∨ kd = 3 := by omega
  rcases hk4 with rfl | rfl | rfl | rfl
  · skip
    refine z_tableIn (off := 27) (tgt := 36) C dd_A_holdsFor_9 (by decide) (by decide) rfl (by decide) ?_
    obtain ⟨xd, hxd, ex⟩ := hx0 rfl
    refine z_aload_n C dd_A_holdsFor_36 rfl ?_
    refine z_iload_n C dd_A_holdsFor_37 rfl ?_
    refine is_A_32 (sk := fun r => .int r :: [.ref ((ad 1 0))]) (zz_f B) C dd_A_holdsFor_38 (cc_V_classOf l D dA B _ _ _) rfl rfl ⟨by decide, by decide⟩ (Nat.le_of_ble_eq_true rfl) ⟨by decide, by decide⟩ (fun _ => rfl) (fun v2_ h2_ n2_ p2_ => ?_)
    obtain ⟨f2_, e2_, p2_⟩ := p2_
    have e2z := e2_.symm
    have f2z := f2_.symm
    subst e2z
    subst f2z
    refine z_topi (y := nI (v / 8)) (by rw [p2_, dk_cls v (by omega)]) ?_
    refine z_aload_n C dd_A_holdsFor_41 rfl ?_
    refine gf_A_16 (v := .int (X 33 a 2)) C dd_A_holdsFor_42 (dk_rd (k := 33) (i := a) (x := (X 33 a)) (y := (Y 33 a)) (z := (Z 33 a)) hP ha rfl rfl rfl) rfl ?_
    refine z_topi (y := nI xd) ex.symm ?_
    refine iv_A_35 (sk := fun r => .int r :: []) (zz_f B) C dd_A_holdsFor_45 (cc_H_is l D dA B _ _ _ _ _ (dk_rd (k := 1) (i := 0) (x := (X 1 0)) (y := (Y 1 0)) (z := (Z 1 0)) hP rfl rfl rfl rfl) _ (dk_rd (k := 2) (i := 0) (x := (X 2 0)) (y := (Y 2 0)) (z := (Z 2 0)) hP rfl rfl rfl rfl) _ _ (vp_in_nI (by omega) (by decide))) (dk_rd (k := 1) (i := 0) (x := (X 1 0)) (y := (Y 1 0)) (z := (Z 1 0)) hP rfl rfl rfl rfl) rfl rfl ⟨by decide, by decide⟩ (Nat.le_of_ble_eq_true rfl) ⟨by decide, by decide⟩ (fun _ => rfl) (fun v3_ h3_ n3_ p3_ => ?_)
    obtain ⟨f3_, e3_, p3_⟩ := p3_
    have e3z := e3_.symm
    have f3z := f3_.symm
    subst e3z
    subst f3z
    rw [nI_clamp (by omega), bt_sh (by omega), HI.2 _ _ (by omega) (Nat.lt_of_lt_of_le hxd h8)] at p3_
    have e9 : v3_ = pu_b (pu_holds par 0 0 (X 33 a 2) v 0) := by
      unfold pu_holds
      rw [if_pos rfl, if_pos rfl, ex, nI_clamp (by omega)]
      rcases p3_ with ⟨z1, z2⟩ | ⟨z1, z2⟩
      · rw [z2, z1]
      · rw [z2, pu_bn1.mp z1]; rfl
    subst e9
    exact z_zret C dd_A_holdsFor_48 (pu_bn _) ⟨rfl, rfl, rfl⟩ (by decide) (by decide)
  · skip
    refine z_tableIn (off := 40) (tgt := 49) C dd_A_holdsFor_9 (by decide) (by decide) rfl (by decide) ?_
    refine z_iload_n C dd_A_holdsFor_49 rfl ?_
    refine z_aload_n C dd_A_holdsFor_50 rfl ?_
    refine gf_A_16 (v := .int (X 33 a 2)) C dd_A_holdsFor_51 (dk_rd (k := 33) (i := a) (x := (X 33 a)) (y := (Y 33 a)) (z := (Z 33 a)) hP ha rfl rfl rfl) rfl ?_
    refine z_icmp_ge (tgt := 61) C dd_A_holdsFor_54 (by decide) (fun q1 => ?_) (fun q1 => ?_)
    · skip
      refine z_iconst (v := 0) C dd_A_holdsFor_61 (by decide) ?_
      refine z_zret C dd_A_holdsFor_62 rfl ⟨rfl, rfl, ?_⟩ (by decide) (by decide)
      unfold pu_holds
      rw [if_neg (by decide), if_pos rfl]
      rw [if_pos rfl, decide_eq_false (Int32.not_lt.mpr q1)]
      rfl
    · skip
      refine z_iconst (v := 1) C dd_A_holdsFor_57 (by decide) ?_
      refine z_goto (tgt := 62) C dd_A_holdsFor_58 (by decide) ?_
      refine z_zret C dd_A_holdsFor_62 rfl ⟨rfl, rfl, ?_⟩ (by decide) (by decide)
      unfold pu_holds
      rw [if_neg (by decide), if_pos rfl]
      rw [if_pos rfl, decide_eq_true (Int32.not_le.mp q1)]
      rfl
  · skip
    refine z_tableIn (off := 54) (tgt := 63) C dd_A_holdsFor_9 (by decide) (by decide) rfl (by decide) ?_
    refine z_iload_n C dd_A_holdsFor_63 rfl ?_
    refine z_aload_n C dd_A_holdsFor_64 rfl ?_
    refine gf_A_16 (v := .int (X 33 a 2)) C dd_A_holdsFor_65 (dk_rd (k := 33) (i := a) (x := (X 33 a)) (y := (Y 33 a)) (z := (Z 33 a)) hP ha rfl rfl rfl) rfl ?_
    refine z_icmp_ne (tgt := 75) C dd_A_holdsFor_68 (by decide) (fun q2 => ?_) (fun q2 => ?_)
    · skip
      refine z_iconst (v := 0) C dd_A_holdsFor_75 (by decide) ?_
      refine z_zret C dd_A_holdsFor_76 rfl ⟨rfl, rfl, ?_⟩ (by decide) (by decide)
      unfold pu_holds
      rw [if_neg (by decide), if_neg (by decide), if_pos rfl]
      rw [if_pos rfl, decide_eq_false q2]
      rfl
    · skip
      refine z_iconst (v := 1) C dd_A_holdsFor_71 (by decide) ?_
      refine z_goto (tgt := 76) C dd_A_holdsFor_72 (by decide) ?_
      refine z_zret C dd_A_holdsFor_76 rfl ⟨rfl, rfl, ?_⟩ (by decide) (by decide)
      unfold pu_holds
      rw [if_neg (by decide), if_neg (by decide), if_pos rfl]
      rw [if_pos rfl, decide_eq_true q2]
      rfl
  · skip
    refine z_tableOut (tgt := 77) C dd_A_holdsFor_9 (Or.inr (by decide)) (by decide) ?_
    refine z_iload_n C dd_A_holdsFor_77 rfl ?_
    refine z_iconst (v := 1) C dd_A_holdsFor_78 (by decide) ?_
    refine z_iand C dd_A_holdsFor_79 ?_
    refine z_if_ne (tgt := 87) C dd_A_holdsFor_80 (by decide) (fun q3 => ?_) (fun q3 => ?_)
    · skip
      refine z_iconst (v := 0) C dd_A_holdsFor_87 (by decide) ?_
      refine z_zret C dd_A_holdsFor_88 rfl ⟨rfl, rfl, ?_⟩ (by decide) (by decide)
      unfold pu_holds
      rw [if_neg (by decide), if_neg (by decide), if_neg (by decide), if_pos rfl]
      rw [if_pos rfl, decide_eq_false (fun z => q3 ((dk_evn v).mpr z))]
      rfl
    · skip
      refine z_iconst (v := 1) C dd_A_holdsFor_83 (by decide) ?_
      refine z_goto (tgt := 88) C dd_A_holdsFor_84 (by decide) ?_
      refine z_zret C dd_A_holdsFor_88 rfl ⟨rfl, rfl, ?_⟩ (by decide) (by decide)
      unfold pu_holds
      rw [if_neg (by decide), if_neg (by decide), if_neg (by decide), if_pos rfl]
      rw [if_pos rfl, decide_eq_true ((dk_evn v).mp q3)]
      rfl
def dk_zr (y : Nat → Int64) (k : Nat) : Nat → Int64 := fun v => if v < k then 0 else y v
theorem dk_zr_0 (y : Nat → Int64) : dk_zr y 0 = y := by
  funext v
  unfold dk_zr
  rw [if_neg (by omega)]
theorem dk_zr_s (y : Nat → Int64) (k : Nat) : vp_updL (dk_zr y k) k 0 = dk_zr y (k + 1) := by
  funext v
  unfold dk_zr vp_updL
  by_cases e : v = k
  · rw [if_pos e, if_pos (by omega)]
  · rw [if_neg e]
    show (if v < k then 0 else y v) = _
    by_cases c : v < k
    · rw [if_pos c, if_pos (by omega)]
    · rw [if_neg c, if_neg (by omega)]
abbrev rm_F_forget : Room := { frames := 1, cells := 0, slots := 0, locals := 0 }
set_option maxRecDepth 20000 in
theorem lp_F_forget {D : va_G} {dA : Nat → ClassId} {B : Nat} {p : Program} {l : Launch} {e : Env} {s : State} {m : MethodId} {args : Array Value} {below : List Frame} {meth : Method} {c : Code} {Q : State → Prop} {n : Nat} {nm : String} {ret9 : Option FieldType} {h : zz_H} (C : zz_C D zz_cl (zz_ty dA) B zz_tb (zz_x B) p s m args meth c bb_F_forget RR_F ret9 nm) {ad : Nat → Nat → Nat} {ng nM : Nat} {na no : Nat → Nat} {X : dk_X} {Y : dk_Y} {Z : dk_Z} {g : Nat} (hg : g < ng) (kx : ∀ h', dk_K dA ad (dk_lv ng nM na no) (dk_is X 26 g (upd (X 26 g) 2 0)) (dk_is (dk_is (dk_is Y 26 g (vp_updL (vp_updL (Y 26 g) 5 0) 6 0)) 28 g (dk_zr (Y 28 g) 64)) 29 g (dk_zr (Y 29 g) 64)) Z h h' → zz_W D zz_cl B p l e rm_F_forget s m args below meth c Q h' n 0 0 [some (.ref (ad 26 g)), some (.int (nI 64))] 43 []) :
    ∀ f k h9, k + f = 64 → dk_K dA ad (dk_lv ng nM na no) (dk_is X 26 g (upd (X 26 g) 2 0)) (dk_is (dk_is (dk_is Y 26 g (vp_updL (vp_updL (Y 26 g) 5 0) 6 0)) 28 g (dk_zr (Y 28 g) k)) 29 g (dk_zr (Y 29 g) k)) Z h h9 → zz_W D zz_cl B p l e rm_F_forget s m args below meth c Q h9 n 0 0 [some (.ref (ad 26 g)), some (.int (nI k))] 17 [] := by
  intro f
  induction f with
  | zero =>
    intro k h9 hk hP
    have hk9 : k = 64 := by omega
    subst hk9
    refine z_iload_n C dd_F_forget_17 rfl ?_
    refine z_bipush (v := 64) C dd_F_forget_18 (by decide) ?_
    exact z_icmp_ge (tgt := 43) C dd_F_forget_20 (by decide) (fun _ => kx _ hP) (fun z => absurd (by decide) z)
  | succ f ih =>
    intro k h9 hk hP
    refine z_iload_n C dd_F_forget_17 rfl ?_
    refine z_bipush (v := 64) C dd_F_forget_18 (by decide) ?_
    refine z_icmp_ge (tgt := 43) C dd_F_forget_20 (by decide) (fun q1 => ?_) (fun q1 => ?_)
    · replace q1 : 64 ≤ k := (@nI_leI 64 k (by omega) (by omega)).mp q1
      omega
    · replace q1 : ¬ 64 ≤ k := fun z => q1 ((@nI_leI 64 k (by omega) (by omega)).mpr z)
      refine z_aload_n C dd_F_forget_23 rfl ?_
      refine gf_F_25 (v := .ref ((ad 28 g))) C dd_F_forget_24 (dk_rd (k := 26) (i := g) (x := (upd (X 26 g) 2 0)) (y := (vp_updL (vp_updL (Y 26 g) 5 0) 6 0)) (z := (Z 26 g)) hP hg dk_s dk_s rfl) rfl ?_
      refine z_iload_n C dd_F_forget_27 rfl ?_
      refine z_lconst (v := 0) C dd_F_forget_28 (by decide) ?_
      refine z_last (t0 := 1) (N := 64) (f := (dk_zr (Y 28 g) k)) C rfl dd_F_forget_29 (dk_rd (k := 28) (i := g) (x := (X 28 g)) (y := (dk_zr (Y 28 g) k)) (z := (Z 28 g)) hP hg rfl dk_s rfl) (vp_in_nI (by omega) (by decide)) ?_
      refine z_cut (dk_K dA ad (dk_lv ng nM na no) (dk_is X 26 g (upd (X 26 g) 2 0)) (dk_is (dk_is (dk_is (dk_is Y 26 g (vp_updL (vp_updL (Y 26 g) 5 0) 6 0)) 28 g (dk_zr (Y 28 g) k)) 29 g (dk_zr (Y 29 g) k)) 28 g (vp_updL (dk_zr (Y 28 g) k) (Int32.toNatClampNeg (nI k)) 0)) Z h) (dk_wY hP hg rfl rfl rfl) rfl rfl rfl (fun h1_ hP1_ => ?_)
      refine z_aload_n C dd_F_forget_30 rfl ?_
      refine gf_F_29 (v := .ref ((ad 29 g))) C dd_F_forget_31 (dk_rd (k := 26) (i := g) (x := (upd (X 26 g) 2 0)) (y := (vp_updL (vp_updL (Y 26 g) 5 0) 6 0)) (z := (Z 26 g)) hP1_ hg dk_s dk_s rfl) rfl ?_
      refine z_iload_n C dd_F_forget_34 rfl ?_
      refine z_lconst (v := 0) C dd_F_forget_35 (by decide) ?_
      refine z_last (t0 := 1) (N := 64) (f := (dk_zr (Y 29 g) k)) C rfl dd_F_forget_36 (dk_rd (k := 29) (i := g) (x := (X 29 g)) (y := (dk_zr (Y 29 g) k)) (z := (Z 29 g)) hP1_ hg rfl dk_s rfl) (vp_in_nI (by omega) (by decide)) ?_
      refine z_cut (dk_K dA ad (dk_lv ng nM na no) (dk_is X 26 g (upd (X 26 g) 2 0)) (dk_is (dk_is (dk_is (dk_is (dk_is Y 26 g (vp_updL (vp_updL (Y 26 g) 5 0) 6 0)) 28 g (dk_zr (Y 28 g) k)) 29 g (dk_zr (Y 29 g) k)) 28 g (vp_updL (dk_zr (Y 28 g) k) (Int32.toNatClampNeg (nI k)) 0)) 29 g (vp_updL (dk_zr (Y 29 g) k) (Int32.toNatClampNeg (nI k)) 0)) Z h) (dk_wY hP1_ hg rfl rfl rfl) rfl rfl rfl (fun h2_ hP2_ => ?_)
      refine z_iincN C dd_F_forget_37 rfl rfl ?_
      refine z_goto (tgt := 17) C dd_F_forget_40 (by decide) ?_
      refine ih (k + 1) _ (by omega) (dk_eY hP2_ ?_)
      rw [nI_clamp (by omega), dk_zr_s, dk_zr_s]
      exact dk_i2
set_option maxRecDepth 20000 in
/-- forget -/
theorem cd_F_forget (l : Launch) (D : va_G) (dA : Nat → ClassId) (B : Nat) (h : zz_H) (n : Nat) (ad : Nat → Nat → Nat) (ng nM : Nat) (na no : Nat → Nat) (X : dk_X) (Y : dk_Y) (Z : dk_Z) (hP0 : dk_P dA ad (dk_lv ng nM na no) X Y Z h) (g : Nat) (hg : g < ng) : zz_M l D zz_cl (zz_ty dA) B zz_tb (zz_x B) yy_F_forget (Cond.code yy_F_forget bb_F_forget 2 none) rm_F_forget [.ref ((ad 26 g))] h n zz_mv (fun _ h' n' => n' = n ∧ dk_K dA ad (dk_lv ng nM na no) (dk_is X 26 g (upd (X 26 g) 2 0)) (dk_is (dk_is (dk_is Y 26 g (vp_updL (vp_updL (Y 26 g) 5 0) 6 0)) 28 g (dk_zr (Y 28 g) 64)) 29 g (dk_zr (Y 29 g) 64)) Z h h') := by
  refine zz_ofW (zz_f B) [some (.ref ((ad 26 g))), none] (by decide) rfl rfl (Nat.le_of_ble_eq_true rfl) ?_
  intro p e s m below meth c C
  have hP := dk_rf hP0
  refine z_aload_n C dd_F_forget_0 rfl ?_
  refine z_iconst (v := 0) C dd_F_forget_1 (by decide) ?_
  refine pf_F_19 C dd_F_forget_2 (dk_rd (k := 26) (i := g) (x := (X 26 g)) (y := (Y 26 g)) (z := (Z 26 g)) hP hg rfl rfl rfl) (Nat.le_of_ble_eq_true rfl) rfl rfl ?_
  refine z_cut (dk_K dA ad (dk_lv ng nM na no) (dk_is X 26 g (upd (X 26 g) 2 0)) Y Z h) (dk_wX hP hg rfl rfl rfl) rfl rfl rfl (fun h1_ hP1_ => ?_)
  refine z_aload_n C dd_F_forget_5 rfl ?_
  refine z_lconst (v := 0) C dd_F_forget_6 (by decide) ?_
  refine pf_F_32 C dd_F_forget_7 (dk_rd (k := 26) (i := g) (x := (upd (X 26 g) 2 0)) (y := (Y 26 g)) (z := (Z 26 g)) hP1_ hg dk_s rfl rfl) (Nat.le_of_ble_eq_true rfl) rfl rfl ?_
  refine z_cut (dk_K dA ad (dk_lv ng nM na no) (dk_is X 26 g (upd (X 26 g) 2 0)) (dk_is Y 26 g (vp_updL (Y 26 g) 5 0)) Z h) (dk_wY hP1_ hg dk_s rfl rfl) rfl rfl rfl (fun h2_ hP2_ => ?_)
  refine z_aload_n C dd_F_forget_10 rfl ?_
  refine z_lconst (v := 0) C dd_F_forget_11 (by decide) ?_
  refine pf_F_36 C dd_F_forget_12 (dk_rd (k := 26) (i := g) (x := (upd (X 26 g) 2 0)) (y := (vp_updL (Y 26 g) 5 0)) (z := (Z 26 g)) hP2_ hg dk_s dk_s rfl) (Nat.le_of_ble_eq_true rfl) rfl rfl ?_
  refine z_cut (dk_K dA ad (dk_lv ng nM na no) (dk_is X 26 g (upd (X 26 g) 2 0)) (dk_is (dk_is Y 26 g (vp_updL (Y 26 g) 5 0)) 26 g (vp_updL (vp_updL (Y 26 g) 5 0) 6 0)) Z h) (dk_wY hP2_ hg dk_s rfl rfl) rfl rfl rfl (fun h3_ hP3_ => ?_)
  refine z_iconst (v := 0) C dd_F_forget_15 (by decide) ?_
  refine z_istore_n C dd_F_forget_16 rfl ?_
  refine lp_F_forget (h := h) C hg (fun h' hP' => z_vret C dd_F_forget_43 ⟨rfl, hP'⟩ (by decide) (by decide)) 64 0 _ rfl (dk_eY hP3_ ?_)
  rw [dk_zr_0, dk_zr_0, dk_ii]
  have e1 : ∀ W : dk_Y, W 28 g = Y 28 g → dk_is W 28 g (Y 28 g) = W := fun W hW => by rw [← hW, dk_id]
  have e2 : ∀ W : dk_Y, W 29 g = Y 29 g → dk_is W 29 g (Y 29 g) = W := fun W hW => by rw [← hW, dk_id]
  rw [e1 (dk_is Y 26 g (vp_updL (vp_updL (Y 26 g) 5 0) 6 0)) rfl, e2 (dk_is Y 26 g (vp_updL (vp_updL (Y 26 g) 5 0) 6 0)) rfl]
abbrev rm_F_ofRow : Room := { frames := 3, cells := 0, slots := 0, locals := 60 }
/-- the facts of a row by what stands of each value -/
def dk_of (Y : dk_Y) (g a b : Nat) : Int64 := (if a / 8 = b / 8 then (if a % 8 < b % 8 then Y 28 g a ||| Y 29 g b ||| Y 26 g 5 else Y 28 g a ||| Y 29 g b) ||| Y 26 g 6 else (if a % 8 < b % 8 then Y 28 g a ||| Y 29 g b ||| Y 26 g 5 else Y 28 g a ||| Y 29 g b))
theorem dk_lt8 (a b : Nat) : nI (a % 8) - 4 < nI (b % 8) - 4 ↔ a % 8 < b % 8 := by
  have h : ∀ a b : Fin 8, (nI a.val - 4 < nI b.val - 4 ↔ a.val < b.val) := by decide +kernel
  exact h ⟨a % 8, Nat.mod_lt _ (by decide)⟩ ⟨b % 8, Nat.mod_lt _ (by decide)⟩
set_option maxRecDepth 20000 in
/-- the facts of a row -/
theorem cd_F_ofRow (l : Launch) (D : va_G) (dA : Nat → ClassId) (B : Nat) (h : zz_H) (n : Nat) (ad : Nat → Nat → Nat) (ng nM : Nat) (na no : Nat → Nat) (X : dk_X) (Y : dk_Y) (Z : dk_Z) (hP0 : dk_P dA ad (dk_lv ng nM na no) X Y Z h) (g a b : Nat) (hg : g < ng) (ha : a < 64) (hb : b < 64) : zz_M l D zz_cl (zz_ty dA) B zz_tb (zz_x B) yy_F_ofRow (Cond.code yy_F_ofRow bb_F_ofRow 5 (some FieldType.long)) rm_F_ofRow [.ref ((ad 26 g)), .int ((nI a)), .int ((nI b))] h n zz_ml (fun r h' n' => n' = n ∧ h' = h ∧ r = dk_of Y g a b) := by
  refine zz_ofW (zz_f B) [some (.ref ((ad 26 g))), some (.int ((nI a))), some (.int ((nI b))), none, none] (by decide) rfl rfl (Nat.le_of_ble_eq_true rfl) ?_
  intro p e s m below meth c C
  have hP := dk_rf hP0
  refine z_aload_n C dd_F_ofRow_0 rfl ?_
  refine gf_F_25 (v := .ref ((ad 28 g))) C dd_F_ofRow_1 (dk_rd (k := 26) (i := g) (x := (X 26 g)) (y := (Y 26 g)) (z := (Z 26 g)) hP hg rfl rfl rfl) rfl ?_
  refine z_iload_n C dd_F_ofRow_4 rfl ?_
  refine z_lald (t0 := 1) (N := 64) (f := (Y 28 g)) C rfl dd_F_ofRow_5 (dk_rd (k := 28) (i := g) (x := (X 28 g)) (y := (Y 28 g)) (z := (Z 28 g)) hP hg rfl rfl rfl) (vp_in_nI (by omega) (by decide)) ?_
  refine z_topl (y := ((Y 28 g) a)) (by rw [nI_clamp (by omega)]) ?_
  refine z_aload_n C dd_F_ofRow_6 rfl ?_
  refine gf_F_29 (v := .ref ((ad 29 g))) C dd_F_ofRow_7 (dk_rd (k := 26) (i := g) (x := (X 26 g)) (y := (Y 26 g)) (z := (Z 26 g)) hP hg rfl rfl rfl) rfl ?_
  refine z_iload_n C dd_F_ofRow_10 rfl ?_
  refine z_lald (t0 := 1) (N := 64) (f := (Y 29 g)) C rfl dd_F_ofRow_11 (dk_rd (k := 29) (i := g) (x := (X 29 g)) (y := (Y 29 g)) (z := (Z 29 g)) hP hg rfl rfl rfl) (vp_in_nI (by omega) (by decide)) ?_
  refine z_topl (y := ((Y 29 g) b)) (by rw [nI_clamp (by omega)]) ?_
  refine z_lor C dd_F_ofRow_12 ?_
  refine z_lstore_n C dd_F_ofRow_13 rfl ?_
  refine z_iload_n C dd_F_ofRow_14 rfl ?_
  refine is_F_68 (sk := fun r => .int r :: []) (zz_f B) C dd_F_ofRow_15 (cc_V_numberOf l D dA B _ _ _) rfl rfl ⟨by decide, by decide⟩ (Nat.le_of_ble_eq_true rfl) ⟨by decide, by decide⟩ (fun _ => rfl) (fun v1_ h1_ n1_ p1_ => ?_)
  obtain ⟨f1_, e1_, p1_⟩ := p1_
  have e1z := e1_.symm
  have f1z := f1_.symm
  subst e1z
  subst f1z
  refine z_topi (y := nI (a % 8) - 4) (by rw [p1_, dk_num a (by omega)]) ?_
  refine z_iload_n C dd_F_ofRow_18 rfl ?_
  refine is_F_68 (sk := fun r => .int r :: [.int (((nI (a % 8)) - 4))]) (zz_f B) C dd_F_ofRow_19 (cc_V_numberOf l D dA B _ _ _) rfl rfl ⟨by decide, by decide⟩ (Nat.le_of_ble_eq_true rfl) ⟨by decide, by decide⟩ (fun _ => rfl) (fun v2_ h2_ n2_ p2_ => ?_)
  obtain ⟨f2_, e2_, p2_⟩ := p2_
  have e2z := e2_.symm
  have f2z := f2_.symm
  subst e2z
  subst f2z
  refine z_topi (y := nI (b % 8) - 4) (by rw [p2_, dk_num b (by omega)]) ?_
  refine z_icmp_ge (tgt := 32) C dd_F_ofRow_22 (by decide) (fun q1 => ?_) (fun q1 => ?_)
  · skip
    refine z_iload_n C dd_F_ofRow_32 rfl ?_
    refine is_F_74 (sk := fun r => .int r :: []) (zz_f B) C dd_F_ofRow_33 (cc_V_classOf l D dA B _ _ _) rfl rfl ⟨by decide, by decide⟩ (Nat.le_of_ble_eq_true rfl) ⟨by decide, by decide⟩ (fun _ => rfl) (fun v3_ h3_ n3_ p3_ => ?_)
    obtain ⟨f3_, e3_, p3_⟩ := p3_
    have e3z := e3_.symm
    have f3z := f3_.symm
    subst e3z
    subst f3z
    refine z_topi (y := nI (a / 8)) (by rw [p3_, dk_cls a (by omega)]) ?_
    refine z_iload_n C dd_F_ofRow_36 rfl ?_
    refine is_F_74 (sk := fun r => .int r :: [.int ((nI (a / 8)))]) (zz_f B) C dd_F_ofRow_37 (cc_V_classOf l D dA B _ _ _) rfl rfl ⟨by decide, by decide⟩ (Nat.le_of_ble_eq_true rfl) ⟨by decide, by decide⟩ (fun _ => rfl) (fun v4_ h4_ n4_ p4_ => ?_)
    obtain ⟨f4_, e4_, p4_⟩ := p4_
    have e4z := e4_.symm
    have f4z := f4_.symm
    subst e4z
    subst f4z
    refine z_topi (y := nI (b / 8)) (by rw [p4_, dk_cls b (by omega)]) ?_
    refine z_icmp_ne (tgt := 50) C dd_F_ofRow_40 (by decide) (fun q2 => ?_) (fun q2 => ?_)
    · replace q2 : ¬ (a / 8) = (b / 8) := fun z => q2 ((@nI_eq (a / 8) (b / 8) (by omega) (by omega)).mpr z)
      refine z_lload_n C dd_F_ofRow_50 rfl ?_
      refine z_lret C dd_F_ofRow_51 ⟨rfl, rfl, ?_⟩ (by decide) (by decide)
      unfold dk_of
      rw [if_neg q2, if_neg (fun z => absurd ((dk_lt8 a b).mpr z) (Int32.not_lt.mpr q1))]
    · replace q2 : (a / 8) = (b / 8) := (@nI_eq (a / 8) (b / 8) (by omega) (by omega)).mp q2
      refine z_lload_n C dd_F_ofRow_43 rfl ?_
      refine z_aload_n C dd_F_ofRow_44 rfl ?_
      refine gf_F_36 (v := .long (Y 26 g 6)) C dd_F_ofRow_45 (dk_rd (k := 26) (i := g) (x := (X 26 g)) (y := (Y 26 g)) (z := (Z 26 g)) hP hg rfl rfl rfl) rfl ?_
      refine z_lor C dd_F_ofRow_48 ?_
      refine z_lstore_n C dd_F_ofRow_49 rfl ?_
      refine z_lload_n C dd_F_ofRow_50 rfl ?_
      refine z_lret C dd_F_ofRow_51 ⟨rfl, rfl, ?_⟩ (by decide) (by decide)
      unfold dk_of
      rw [if_pos q2, if_neg (fun z => absurd ((dk_lt8 a b).mpr z) (Int32.not_lt.mpr q1))]
  · skip
    refine z_lload_n C dd_F_ofRow_25 rfl ?_
    refine z_aload_n C dd_F_ofRow_26 rfl ?_
    refine gf_F_32 (v := .long (Y 26 g 5)) C dd_F_ofRow_27 (dk_rd (k := 26) (i := g) (x := (X 26 g)) (y := (Y 26 g)) (z := (Z 26 g)) hP hg rfl rfl rfl) rfl ?_
    refine z_lor C dd_F_ofRow_30 ?_
    refine z_lstore_n C dd_F_ofRow_31 rfl ?_
    refine z_iload_n C dd_F_ofRow_32 rfl ?_
    refine is_F_74 (sk := fun r => .int r :: []) (zz_f B) C dd_F_ofRow_33 (cc_V_classOf l D dA B _ _ _) rfl rfl ⟨by decide, by decide⟩ (Nat.le_of_ble_eq_true rfl) ⟨by decide, by decide⟩ (fun _ => rfl) (fun v5_ h5_ n5_ p5_ => ?_)
    obtain ⟨f5_, e5_, p5_⟩ := p5_
    have e5z := e5_.symm
    have f5z := f5_.symm
    subst e5z
    subst f5z
    refine z_topi (y := nI (a / 8)) (by rw [p5_, dk_cls a (by omega)]) ?_
    refine z_iload_n C dd_F_ofRow_36 rfl ?_
    refine is_F_74 (sk := fun r => .int r :: [.int ((nI (a / 8)))]) (zz_f B) C dd_F_ofRow_37 (cc_V_classOf l D dA B _ _ _) rfl rfl ⟨by decide, by decide⟩ (Nat.le_of_ble_eq_true rfl) ⟨by decide, by decide⟩ (fun _ => rfl) (fun v6_ h6_ n6_ p6_ => ?_)
    obtain ⟨f6_, e6_, p6_⟩ := p6_
    have e6z := e6_.symm
    have f6z := f6_.symm
    subst e6z
    subst f6z
    refine z_topi (y := nI (b / 8)) (by rw [p6_, dk_cls b (by omega)]) ?_
    refine z_icmp_ne (tgt := 50) C dd_F_ofRow_40 (by decide) (fun q3 => ?_) (fun q3 => ?_)
    · replace q3 : ¬ (a / 8) = (b / 8) := fun z => q3 ((@nI_eq (a / 8) (b / 8) (by omega) (by omega)).mpr z)
      refine z_lload_n C dd_F_ofRow_50 rfl ?_
      refine z_lret C dd_F_ofRow_51 ⟨rfl, rfl, ?_⟩ (by decide) (by decide)
      unfold dk_of
      rw [if_neg q3, if_pos ((dk_lt8 a b).mp (Int32.not_le.mp q1))]
    · replace q3 : (a / 8) = (b / 8) := (@nI_eq (a / 8) (b / 8) (by omega) (by omega)).mp q3
      refine z_lload_n C dd_F_ofRow_43 rfl ?_
      refine z_aload_n C dd_F_ofRow_44 rfl ?_
      refine gf_F_36 (v := .long (Y 26 g 6)) C dd_F_ofRow_45 (dk_rd (k := 26) (i := g) (x := (X 26 g)) (y := (Y 26 g)) (z := (Z 26 g)) hP hg rfl rfl rfl) rfl ?_
      refine z_lor C dd_F_ofRow_48 ?_
      refine z_lstore_n C dd_F_ofRow_49 rfl ?_
      refine z_lload_n C dd_F_ofRow_50 rfl ?_
      refine z_lret C dd_F_ofRow_51 ⟨rfl, rfl, ?_⟩ (by decide) (by decide)
      unfold dk_of
      rw [if_pos q3, if_pos ((dk_lt8 a b).mp (Int32.not_le.mp q1))]
abbrev rm_F_note : Room := { frames := 5, cells := 0, slots := 0, locals := 120 }
/-- a fact noted where it holds, of the values below k -/
def dk_nt (y : Nat → Int64) (p : Nat → Bool) (w : Int64) (k : Nat) : Nat → Int64 := fun v => if v < k ∧ p v = true then y v ||| w else y v
theorem dk_nt_0 (y : Nat → Int64) (p : Nat → Bool) (w : Int64) : dk_nt y p w 0 = y := by
  funext v
  unfold dk_nt
  rw [if_neg (by omega)]
theorem dk_nt_t {y : Nat → Int64} {p : Nat → Bool} {w : Int64} {k : Nat} (h : p k = true) : vp_updL (dk_nt y p w k) k (dk_nt y p w k k ||| w) = dk_nt y p w (k + 1) := by
  funext v
  unfold dk_nt vp_updL
  by_cases e : v = k
  · subst e
    rw [if_pos rfl, if_neg (by omega), if_pos ⟨by omega, h⟩]
  · rw [if_neg e]
    have e2 : (v < k + 1 ∧ p v = true) ↔ (v < k ∧ p v = true) := ⟨fun z => ⟨by omega, z.2⟩, fun z => ⟨by omega, z.2⟩⟩
    simp only [e2]
theorem dk_nt_f {y : Nat → Int64} {p : Nat → Bool} {w : Int64} {k : Nat} (h : p k = false) : dk_nt y p w k = dk_nt y p w (k + 1) := by
  funext v
  unfold dk_nt
  have e2 : (v < k + 1 ∧ p v = true) ↔ (v < k ∧ p v = true) := ⟨fun z => ⟨by
    have : v ≠ k := fun e => by rw [e, h] at z; exact absurd z.2 (by decide)
    omega, z.2⟩, fun z => ⟨by omega, z.2⟩⟩
  simp only [e2]
set_option maxRecDepth 20000 in
theorem lp28_F_note {D : va_G} {dA : Nat → ClassId} {B : Nat} {p : Program} {l : Launch} {e : Env} {s : State} {m : MethodId} {args : Array Value} {below : List Frame} {meth : Method} {c : Code} {Q : State → Prop} {n : Nat} {nm : String} {ret9 : Option FieldType} {h : zz_H} (C : zz_C D zz_cl (zz_ty dA) B zz_tb (zz_x B) p s m args meth c bb_F_note RR_F ret9 nm) {ad : Nat → Nat → Nat} {ng nM : Nat} {na no : Nat → Nat} {X : dk_X} {Y : dk_Y} {Z : dk_Z} {g a kd nc : Nat} {par : Nat → Int32} {w : Int64} (hg : g < ng) (ha : dk_lv ng nM na no 33 a) (hkd : kd < 4) (ek : X 33 a 0 = nI kd) (h8 : nc ≤ 8) (HI : dk_hi X par nc) (hx0 : kd = 0 → ∃ xd, xd < nc ∧ X 33 a 2 = nI xd) (kx : ∀ h', dk_K dA ad (dk_lv ng nM na no) X (dk_is Y 28 g (dk_nt (Y 28 g) (fun v => pu_holds par kd 0 (X 33 a 2) v 0) w (8 * nc))) Z h h' → zz_W D zz_cl B p l e rm_F_note s m args below meth c Q h' n 0 0 [some (.ref (ad 26 g)), some (.ref (ad 33 a)), some (.long w), none, some (.ref (ad 28 g)), some (.int (nI (8 * nc)))] 91 []) :
    ∀ f k h9, k + f = 8 * nc → dk_K dA ad (dk_lv ng nM na no) X (dk_is Y 28 g (dk_nt (Y 28 g) (fun v => pu_holds par kd 0 (X 33 a 2) v 0) w k)) Z h h9 → zz_W D zz_cl B p l e rm_F_note s m args below meth c Q h9 n 0 0 [some (.ref (ad 26 g)), some (.ref (ad 33 a)), some (.long w), none, some (.ref (ad 28 g)), some (.int (nI k))] 51 [] := by
  intro f
  induction f with
  | zero =>
    intro k h9 hk hP
    have hk9 : k = 8 * nc := by omega
    subst hk9
    refine z_iload C dd_F_note_51 rfl ?_
    refine z_aload_n C dd_F_note_53 rfl ?_
    refine gf_F_39 (v := .ref ((ad 1 0))) C dd_F_note_54 (dk_rd (k := 26) (i := g) (x := (X 26 g)) (y := (Y 26 g)) (z := (Z 26 g)) hP hg rfl rfl rfl) rfl ?_
    refine iv_F_61 (sk := fun r => .int r :: [.int ((nI (8 * nc)))]) (zz_f B) C dd_F_note_57 (cc_H_valueCount l D dA B _ _ _ _ _ (dk_rd (k := 1) (i := 0) (x := (X 1 0)) (y := (Y 1 0)) (z := (Z 1 0)) hP rfl rfl rfl rfl)) (dk_rd (k := 1) (i := 0) (x := (X 1 0)) (y := (Y 1 0)) (z := (Z 1 0)) hP rfl rfl rfl rfl) rfl rfl ⟨by decide, by decide⟩ (Nat.le_of_ble_eq_true rfl) ⟨by decide, by decide⟩ (fun _ => rfl) (fun v1_ h1_ n1_ p1_ => ?_)
    obtain ⟨f1_, e1_, p1_⟩ := p1_
    have e1z := e1_.symm
    have f1z := f1_.symm
    subst e1z
    subst f1z
    refine z_topi (y := nI (8 * nc)) (by rw [p1_, HI.1, ← pk_mul]; rfl) ?_
    refine z_icmp_ge (tgt := 91) C dd_F_note_60 (by decide) (fun q1 => ?_) (fun q1 => absurd (by first | exact Int32.le_refl _ | decide) q1)
    exact kx _ hP
  | succ f ih =>
    intro k h9 hk hP
    refine z_iload C dd_F_note_51 rfl ?_
    refine z_aload_n C dd_F_note_53 rfl ?_
    refine gf_F_39 (v := .ref ((ad 1 0))) C dd_F_note_54 (dk_rd (k := 26) (i := g) (x := (X 26 g)) (y := (Y 26 g)) (z := (Z 26 g)) hP hg rfl rfl rfl) rfl ?_
    refine iv_F_61 (sk := fun r => .int r :: [.int ((nI k))]) (zz_f B) C dd_F_note_57 (cc_H_valueCount l D dA B _ _ _ _ _ (dk_rd (k := 1) (i := 0) (x := (X 1 0)) (y := (Y 1 0)) (z := (Z 1 0)) hP rfl rfl rfl rfl)) (dk_rd (k := 1) (i := 0) (x := (X 1 0)) (y := (Y 1 0)) (z := (Z 1 0)) hP rfl rfl rfl rfl) rfl rfl ⟨by decide, by decide⟩ (Nat.le_of_ble_eq_true rfl) ⟨by decide, by decide⟩ (fun _ => rfl) (fun v1_ h1_ n1_ p1_ => ?_)
    obtain ⟨f1_, e1_, p1_⟩ := p1_
    have e1z := e1_.symm
    have f1z := f1_.symm
    subst e1z
    subst f1z
    refine z_topi (y := nI (8 * nc)) (by rw [p1_, HI.1, ← pk_mul]; rfl) ?_
    refine z_icmp_ge (tgt := 91) C dd_F_note_60 (by decide) (fun q1 => ?_) (fun q1 => ?_)
    · replace q1 : (8 * nc) ≤ k := (@nI_leI (8 * nc) k (by omega) (by omega)).mp q1
      omega
    · replace q1 : ¬ (8 * nc) ≤ k := fun z => q1 ((@nI_leI (8 * nc) k (by omega) (by omega)).mpr z)
      refine z_aload_n C dd_F_note_63 rfl ?_
      refine z_iload C dd_F_note_64 rfl ?_
      refine z_aload_n C dd_F_note_66 rfl ?_
      refine gf_F_39 (v := .ref ((ad 1 0))) C dd_F_note_67 (dk_rd (k := 26) (i := g) (x := (X 26 g)) (y := (Y 26 g)) (z := (Z 26 g)) hP hg rfl rfl rfl) rfl ?_
      refine iv_F_64 (sk := fun r => .int r :: []) (zz_f B) C dd_F_note_70 (cd_A_holdsFor l D dA B _ _ ad ng nM na no X _ Z hP.1 a kd nc k par ha hkd ek h8 HI hx0 (by omega)) (dk_rd (k := 33) (i := a) (x := (X 33 a)) (y := (Y 33 a)) (z := (Z 33 a)) hP ha rfl rfl rfl) rfl rfl ⟨by decide, by decide⟩ (Nat.le_of_ble_eq_true rfl) ⟨by decide, by decide⟩ (fun _ => rfl) (fun v2_ h2_ n2_ p2_ => ?_)
      obtain ⟨f2_, e2_, p2_⟩ := p2_
      have e2z := e2_.symm
      have f2z := f2_.symm
      have p2z := p2_.symm
      subst e2z
      subst f2z
      subst p2z
      refine z_if_eq (tgt := 85) C dd_F_note_73 (by decide) (fun q2 => ?_) (fun q2 => ?_)
      · skip
        refine z_iincN C dd_F_note_85 rfl rfl ?_
        refine z_goto (tgt := 51) C dd_F_note_88 (by decide) ?_
        refine ih (k + 1) _ (by omega) (dk_eY hP (by rw [dk_nt_f (p := (fun v => pu_holds par kd 0 (X 33 a 2) v 0)) (k := k) ((pu_b0 _).mp q2)]))
      · skip
        refine z_aload C dd_F_note_76 rfl ?_
        refine z_iload C dd_F_note_78 rfl ?_
        refine z_dup2_11 C dd_F_note_80 rfl rfl ?_
        refine z_lald (t0 := 1) (N := 64) (f := (dk_nt (Y 28 g) (fun v => pu_holds par kd 0 (X 33 a 2) v 0) w k)) C rfl dd_F_note_81 (dk_rd (k := 28) (i := g) (x := (X 28 g)) (y := (dk_nt (Y 28 g) (fun v => pu_holds par kd 0 (X 33 a 2) v 0) w k)) (z := (Z 28 g)) hP hg rfl dk_s rfl) (vp_in_nI (by omega) (by decide)) ?_
        refine z_topl (y := ((dk_nt (Y 28 g) (fun v => pu_holds par kd 0 (X 33 a 2) v 0) w k) k)) (by rw [nI_clamp (by omega)]) ?_
        refine z_lload_n C dd_F_note_82 rfl ?_
        refine z_lor C dd_F_note_83 ?_
        refine z_last (t0 := 1) (N := 64) (f := (dk_nt (Y 28 g) (fun v => pu_holds par kd 0 (X 33 a 2) v 0) w k)) C rfl dd_F_note_84 (dk_rd (k := 28) (i := g) (x := (X 28 g)) (y := (dk_nt (Y 28 g) (fun v => pu_holds par kd 0 (X 33 a 2) v 0) w k)) (z := (Z 28 g)) hP hg rfl dk_s rfl) (vp_in_nI (by omega) (by decide)) ?_
        refine z_cut (dk_K dA ad (dk_lv ng nM na no) X (dk_is (dk_is Y 28 g (dk_nt (Y 28 g) (fun v => pu_holds par kd 0 (X 33 a 2) v 0) w k)) 28 g (vp_updL (dk_nt (Y 28 g) (fun v => pu_holds par kd 0 (X 33 a 2) v 0) w k) (Int32.toNatClampNeg (nI k)) (((dk_nt (Y 28 g) (fun v => pu_holds par kd 0 (X 33 a 2) v 0) w k) k) ||| w))) Z h) (dk_wY hP hg rfl rfl rfl) rfl rfl rfl (fun h3_ hP3_ => ?_)
        refine z_iincN C dd_F_note_85 rfl rfl ?_
        refine z_goto (tgt := 51) C dd_F_note_88 (by decide) ?_
        refine ih (k + 1) _ (by omega) (dk_eY hP3_ (by rw [dk_ii, nI_clamp (by omega), dk_nt_t (p := (fun v => pu_holds par kd 0 (X 33 a 2) v 0)) (k := k) (pu_bn1.mp q2)]))
set_option maxRecDepth 20000 in
theorem lp29_F_note {D : va_G} {dA : Nat → ClassId} {B : Nat} {p : Program} {l : Launch} {e : Env} {s : State} {m : MethodId} {args : Array Value} {below : List Frame} {meth : Method} {c : Code} {Q : State → Prop} {n : Nat} {nm : String} {ret9 : Option FieldType} {h : zz_H} (C : zz_C D zz_cl (zz_ty dA) B zz_tb (zz_x B) p s m args meth c bb_F_note RR_F ret9 nm) {ad : Nat → Nat → Nat} {ng nM : Nat} {na no : Nat → Nat} {X : dk_X} {Y : dk_Y} {Z : dk_Z} {g a kd nc : Nat} {par : Nat → Int32} {w : Int64} (hg : g < ng) (ha : dk_lv ng nM na no 33 a) (hkd : kd < 4) (ek : X 33 a 0 = nI kd) (h8 : nc ≤ 8) (HI : dk_hi X par nc) (hx0 : kd = 0 → ∃ xd, xd < nc ∧ X 33 a 2 = nI xd) (kx : ∀ h', dk_K dA ad (dk_lv ng nM na no) X (dk_is Y 29 g (dk_nt (Y 29 g) (fun v => pu_holds par kd 0 (X 33 a 2) v 0) w (8 * nc))) Z h h' → zz_W D zz_cl B p l e rm_F_note s m args below meth c Q h' n 0 0 [some (.ref (ad 26 g)), some (.ref (ad 33 a)), some (.long w), none, some (.ref (ad 29 g)), some (.int (nI (8 * nc)))] 91 []) :
    ∀ f k h9, k + f = 8 * nc → dk_K dA ad (dk_lv ng nM na no) X (dk_is Y 29 g (dk_nt (Y 29 g) (fun v => pu_holds par kd 0 (X 33 a 2) v 0) w k)) Z h h9 → zz_W D zz_cl B p l e rm_F_note s m args below meth c Q h9 n 0 0 [some (.ref (ad 26 g)), some (.ref (ad 33 a)), some (.long w), none, some (.ref (ad 29 g)), some (.int (nI k))] 51 [] := by
  intro f
  induction f with
  | zero =>
    intro k h9 hk hP
    have hk9 : k = 8 * nc := by omega
    subst hk9
    refine z_iload C dd_F_note_51 rfl ?_
    refine z_aload_n C dd_F_note_53 rfl ?_
    refine gf_F_39 (v := .ref ((ad 1 0))) C dd_F_note_54 (dk_rd (k := 26) (i := g) (x := (X 26 g)) (y := (Y 26 g)) (z := (Z 26 g)) hP hg rfl rfl rfl) rfl ?_
    refine iv_F_61 (sk := fun r => .int r :: [.int ((nI (8 * nc)))]) (zz_f B) C dd_F_note_57 (cc_H_valueCount l D dA B _ _ _ _ _ (dk_rd (k := 1) (i := 0) (x := (X 1 0)) (y := (Y 1 0)) (z := (Z 1 0)) hP rfl rfl rfl rfl)) (dk_rd (k := 1) (i := 0) (x := (X 1 0)) (y := (Y 1 0)) (z := (Z 1 0)) hP rfl rfl rfl rfl) rfl rfl ⟨by decide, by decide⟩ (Nat.le_of_ble_eq_true rfl) ⟨by decide, by decide⟩ (fun _ => rfl) (fun v1_ h1_ n1_ p1_ => ?_)
    obtain ⟨f1_, e1_, p1_⟩ := p1_
    have e1z := e1_.symm
    have f1z := f1_.symm
    subst e1z
    subst f1z
    refine z_topi (y := nI (8 * nc)) (by rw [p1_, HI.1, ← pk_mul]; rfl) ?_
    refine z_icmp_ge (tgt := 91) C dd_F_note_60 (by decide) (fun q1 => ?_) (fun q1 => absurd (by first | exact Int32.le_refl _ | decide) q1)
    exact kx _ hP
  | succ f ih =>
    intro k h9 hk hP
    refine z_iload C dd_F_note_51 rfl ?_
    refine z_aload_n C dd_F_note_53 rfl ?_
    refine gf_F_39 (v := .ref ((ad 1 0))) C dd_F_note_54 (dk_rd (k := 26) (i := g) (x := (X 26 g)) (y := (Y 26 g)) (z := (Z 26 g)) hP hg rfl rfl rfl) rfl ?_
    refine iv_F_61 (sk := fun r => .int r :: [.int ((nI k))]) (zz_f B) C dd_F_note_57 (cc_H_valueCount l D dA B _ _ _ _ _ (dk_rd (k := 1) (i := 0) (x := (X 1 0)) (y := (Y 1 0)) (z := (Z 1 0)) hP rfl rfl rfl rfl)) (dk_rd (k := 1) (i := 0) (x := (X 1 0)) (y := (Y 1 0)) (z := (Z 1 0)) hP rfl rfl rfl rfl) rfl rfl ⟨by decide, by decide⟩ (Nat.le_of_ble_eq_true rfl) ⟨by decide, by decide⟩ (fun _ => rfl) (fun v1_ h1_ n1_ p1_ => ?_)
    obtain ⟨f1_, e1_, p1_⟩ := p1_
    have e1z := e1_.symm
    have f1z := f1_.symm
    subst e1z
    subst f1z
    refine z_topi (y := nI (8 * nc)) (by rw [p1_, HI.1, ← pk_mul]; rfl) ?_
    refine z_icmp_ge (tgt := 91) C dd_F_note_60 (by decide) (fun q1 => ?_) (fun q1 => ?_)
    · replace q1 : (8 * nc) ≤ k := (@nI_leI (8 * nc) k (by omega) (by omega)).mp q1
      omega
    · replace q1 : ¬ (8 * nc) ≤ k := fun z => q1 ((@nI_leI (8 * nc) k (by omega) (by omega)).mpr z)
      refine z_aload_n C dd_F_note_63 rfl ?_
      refine z_iload C dd_F_note_64 rfl ?_
      refine z_aload_n C dd_F_note_66 rfl ?_
      refine gf_F_39 (v := .ref ((ad 1 0))) C dd_F_note_67 (dk_rd (k := 26) (i := g) (x := (X 26 g)) (y := (Y 26 g)) (z := (Z 26 g)) hP hg rfl rfl rfl) rfl ?_
      refine iv_F_64 (sk := fun r => .int r :: []) (zz_f B) C dd_F_note_70 (cd_A_holdsFor l D dA B _ _ ad ng nM na no X _ Z hP.1 a kd nc k par ha hkd ek h8 HI hx0 (by omega)) (dk_rd (k := 33) (i := a) (x := (X 33 a)) (y := (Y 33 a)) (z := (Z 33 a)) hP ha rfl rfl rfl) rfl rfl ⟨by decide, by decide⟩ (Nat.le_of_ble_eq_true rfl) ⟨by decide, by decide⟩ (fun _ => rfl) (fun v2_ h2_ n2_ p2_ => ?_)
      obtain ⟨f2_, e2_, p2_⟩ := p2_
      have e2z := e2_.symm
      have f2z := f2_.symm
      have p2z := p2_.symm
      subst e2z
      subst f2z
      subst p2z
      refine z_if_eq (tgt := 85) C dd_F_note_73 (by decide) (fun q2 => ?_) (fun q2 => ?_)
      · skip
        refine z_iincN C dd_F_note_85 rfl rfl ?_
        refine z_goto (tgt := 51) C dd_F_note_88 (by decide) ?_
        refine ih (k + 1) _ (by omega) (dk_eY hP (by rw [dk_nt_f (p := (fun v => pu_holds par kd 0 (X 33 a 2) v 0)) (k := k) ((pu_b0 _).mp q2)]))
      · skip
        refine z_aload C dd_F_note_76 rfl ?_
        refine z_iload C dd_F_note_78 rfl ?_
        refine z_dup2_11 C dd_F_note_80 rfl rfl ?_
        refine z_lald (t0 := 1) (N := 64) (f := (dk_nt (Y 29 g) (fun v => pu_holds par kd 0 (X 33 a 2) v 0) w k)) C rfl dd_F_note_81 (dk_rd (k := 29) (i := g) (x := (X 29 g)) (y := (dk_nt (Y 29 g) (fun v => pu_holds par kd 0 (X 33 a 2) v 0) w k)) (z := (Z 29 g)) hP hg rfl dk_s rfl) (vp_in_nI (by omega) (by decide)) ?_
        refine z_topl (y := ((dk_nt (Y 29 g) (fun v => pu_holds par kd 0 (X 33 a 2) v 0) w k) k)) (by rw [nI_clamp (by omega)]) ?_
        refine z_lload_n C dd_F_note_82 rfl ?_
        refine z_lor C dd_F_note_83 ?_
        refine z_last (t0 := 1) (N := 64) (f := (dk_nt (Y 29 g) (fun v => pu_holds par kd 0 (X 33 a 2) v 0) w k)) C rfl dd_F_note_84 (dk_rd (k := 29) (i := g) (x := (X 29 g)) (y := (dk_nt (Y 29 g) (fun v => pu_holds par kd 0 (X 33 a 2) v 0) w k)) (z := (Z 29 g)) hP hg rfl dk_s rfl) (vp_in_nI (by omega) (by decide)) ?_
        refine z_cut (dk_K dA ad (dk_lv ng nM na no) X (dk_is (dk_is Y 29 g (dk_nt (Y 29 g) (fun v => pu_holds par kd 0 (X 33 a 2) v 0) w k)) 29 g (vp_updL (dk_nt (Y 29 g) (fun v => pu_holds par kd 0 (X 33 a 2) v 0) w k) (Int32.toNatClampNeg (nI k)) (((dk_nt (Y 29 g) (fun v => pu_holds par kd 0 (X 33 a 2) v 0) w k) k) ||| w))) Z h) (dk_wY hP hg rfl rfl rfl) rfl rfl rfl (fun h3_ hP3_ => ?_)
        refine z_iincN C dd_F_note_85 rfl rfl ?_
        refine z_goto (tgt := 51) C dd_F_note_88 (by decide) ?_
        refine ih (k + 1) _ (by omega) (dk_eY hP3_ (by rw [dk_ii, nI_clamp (by omega), dk_nt_t (p := (fun v => pu_holds par kd 0 (X 33 a 2) v 0)) (k := k) (pu_bn1.mp q2)]))
def dk_note (X : dk_X) (Y : dk_Y) (par : Nat → Int32) (g a kd wh nc : Nat) (w : Int64) : dk_Y := (if kd = 4 then dk_is Y 26 g (vp_updL (Y 26 g) 5 w) else if kd = 5 then dk_is Y 26 g (vp_updL (Y 26 g) 6 w) else if wh = 0 then dk_is Y 28 g (dk_nt (Y 28 g) (fun v => pu_holds par kd 0 (X 33 a 2) v 0) w (8 * nc)) else dk_is Y 29 g (dk_nt (Y 29 g) (fun v => pu_holds par kd 0 (X 33 a 2) v 0) w (8 * nc)))
set_option maxRecDepth 20000 in
/-- note -/
theorem cd_F_note (l : Launch) (D : va_G) (dA : Nat → ClassId) (B : Nat) (h : zz_H) (n : Nat) (ad : Nat → Nat → Nat) (ng nM : Nat) (na no : Nat → Nat) (X : dk_X) (Y : dk_Y) (Z : dk_Z) (hP0 : dk_P dA ad (dk_lv ng nM na no) X Y Z h) (g a kd wh nc : Nat) (par : Nat → Int32) (w : Int64) (hg : g < ng) (ha : dk_lv ng nM na no 33 a) (hkd : kd < 6) (hwh : wh < 2) (ek : X 33 a 0 = nI kd) (ew : X 33 a 1 = nI wh) (h8 : nc ≤ 8) (HI : dk_hi X par nc) (hx0 : kd = 0 → ∃ xd, xd < nc ∧ X 33 a 2 = nI xd) : zz_M l D zz_cl (zz_ty dA) B zz_tb (zz_x B) yy_F_note (Cond.code yy_F_note bb_F_note 6 none) rm_F_note [.ref ((ad 26 g)), .ref ((ad 33 a)), .long w] h n zz_mv (fun _ h' n' => n' = n ∧ dk_K dA ad (dk_lv ng nM na no) X (dk_note X Y par g a kd wh nc w) Z h h') := by
  refine zz_ofW (zz_f B) [some (.ref ((ad 26 g))), some (.ref ((ad 33 a))), some (.long w), none, none, none] (by decide) rfl rfl (Nat.le_of_ble_eq_true rfl) ?_
  intro p e s m below meth c C
  have hP := dk_rf hP0
  refine z_aload_n C dd_F_note_0 rfl ?_
  refine iv_F_43 (sk := fun r => .int r :: []) (zz_f B) C dd_F_note_1 (cc_A_kind l D dA B _ _ _ _ _ _ _ (dk_rd (k := 33) (i := a) (x := (X 33 a)) (y := (Y 33 a)) (z := (Z 33 a)) hP ha rfl rfl rfl)) (dk_rd (k := 33) (i := a) (x := (X 33 a)) (y := (Y 33 a)) (z := (Z 33 a)) hP ha rfl rfl rfl) rfl rfl ⟨by decide, by decide⟩ (Nat.le_of_ble_eq_true rfl) ⟨by decide, by decide⟩ (fun _ => rfl) (fun v1_ h1_ n1_ p1_ => ?_)
  obtain ⟨f1_, e1_, p1_⟩ := p1_
  have e1z := e1_.symm
  have f1z := f1_.symm
  subst e1z
  subst f1z
  refine z_topi (y := nI kd) (by rw [p1_, ek]) ?_
  refine z_iconst (v := 4) C dd_F_note_4 (by decide) ?_
  refine z_icmp_ne (tgt := 14) C dd_F_note_5 (by decide) (fun q1 => ?_) (fun q1 => ?_)
  · replace q1 : ¬ kd = 4 := fun z => q1 ((@nI_eq kd 4 (by omega) (by omega)).mpr z)
    refine z_aload_n C dd_F_note_14 rfl ?_
    refine iv_F_43 (sk := fun r => .int r :: []) (zz_f B) C dd_F_note_15 (cc_A_kind l D dA B _ _ _ _ _ _ _ (dk_rd (k := 33) (i := a) (x := (X 33 a)) (y := (Y 33 a)) (z := (Z 33 a)) hP ha rfl rfl rfl)) (dk_rd (k := 33) (i := a) (x := (X 33 a)) (y := (Y 33 a)) (z := (Z 33 a)) hP ha rfl rfl rfl) rfl rfl ⟨by decide, by decide⟩ (Nat.le_of_ble_eq_true rfl) ⟨by decide, by decide⟩ (fun _ => rfl) (fun v2_ h2_ n2_ p2_ => ?_)
    obtain ⟨f2_, e2_, p2_⟩ := p2_
    have e2z := e2_.symm
    have f2z := f2_.symm
    subst e2z
    subst f2z
    refine z_topi (y := nI kd) (by rw [p2_, ek]) ?_
    refine z_iconst (v := 5) C dd_F_note_18 (by decide) ?_
    refine z_icmp_ne (tgt := 28) C dd_F_note_19 (by decide) (fun q2 => ?_) (fun q2 => ?_)
    · replace q2 : ¬ kd = 5 := fun z => q2 ((@nI_eq kd 5 (by omega) (by omega)).mpr z)
      refine z_aload_n C dd_F_note_28 rfl ?_
      refine iv_F_47 (sk := fun r => .int r :: []) (zz_f B) C dd_F_note_29 (cc_A_i l D dA B _ _ _ _ _ _ _ (dk_rd (k := 33) (i := a) (x := (X 33 a)) (y := (Y 33 a)) (z := (Z 33 a)) hP ha rfl rfl rfl)) (dk_rd (k := 33) (i := a) (x := (X 33 a)) (y := (Y 33 a)) (z := (Z 33 a)) hP ha rfl rfl rfl) rfl rfl ⟨by decide, by decide⟩ (Nat.le_of_ble_eq_true rfl) ⟨by decide, by decide⟩ (fun _ => rfl) (fun v3_ h3_ n3_ p3_ => ?_)
      obtain ⟨f3_, e3_, p3_⟩ := p3_
      have e3z := e3_.symm
      have f3z := f3_.symm
      subst e3z
      subst f3z
      refine z_topi (y := nI wh) (by rw [p3_, ew]) ?_
      refine z_if_ne (tgt := 42) C dd_F_note_32 (by decide) (fun q3 => ?_) (fun q3 => ?_)
      · replace q3 : ¬ wh = 0 := fun z => q3 ((@nI_eq wh 0 (by omega) (by omega)).mpr z)
        refine z_aload_n C dd_F_note_42 rfl ?_
        refine gf_F_29 (v := .ref ((ad 29 g))) C dd_F_note_43 (dk_rd (k := 26) (i := g) (x := (X 26 g)) (y := (Y 26 g)) (z := (Z 26 g)) hP hg rfl rfl rfl) rfl ?_
        refine z_astore C dd_F_note_46 rfl ?_
        refine z_iconst (v := 0) C dd_F_note_48 (by decide) ?_
        refine z_istore C dd_F_note_49 rfl ?_
        refine lp29_F_note (h := h) C hg ha (by omega) ek h8 HI hx0 (fun h' hP' => z_vret C dd_F_note_91 ⟨rfl, ?_⟩ (by decide) (by decide)) (8 * nc) 0 _ (by omega) (dk_eY hP (by rw [dk_nt_0, dk_id]))
        unfold dk_note
        rw [if_neg q1, if_neg q2, if_neg q3]
        exact hP'
      · replace q3 : wh = 0 := (@nI_eq wh 0 (by omega) (by omega)).mp q3
        refine z_aload_n C dd_F_note_35 rfl ?_
        refine gf_F_25 (v := .ref ((ad 28 g))) C dd_F_note_36 (dk_rd (k := 26) (i := g) (x := (X 26 g)) (y := (Y 26 g)) (z := (Z 26 g)) hP hg rfl rfl rfl) rfl ?_
        refine z_goto (tgt := 46) C dd_F_note_39 (by decide) ?_
        refine z_astore C dd_F_note_46 rfl ?_
        refine z_iconst (v := 0) C dd_F_note_48 (by decide) ?_
        refine z_istore C dd_F_note_49 rfl ?_
        refine lp28_F_note (h := h) C hg ha (by omega) ek h8 HI hx0 (fun h' hP' => z_vret C dd_F_note_91 ⟨rfl, ?_⟩ (by decide) (by decide)) (8 * nc) 0 _ (by omega) (dk_eY hP (by rw [dk_nt_0, dk_id]))
        unfold dk_note
        rw [if_neg q1, if_neg q2, if_pos q3]
        exact hP'
    · replace q2 : kd = 5 := (@nI_eq kd 5 (by omega) (by omega)).mp q2
      refine z_aload_n C dd_F_note_22 rfl ?_
      refine z_lload_n C dd_F_note_23 rfl ?_
      refine pf_F_36 C dd_F_note_24 (dk_rd (k := 26) (i := g) (x := (X 26 g)) (y := (Y 26 g)) (z := (Z 26 g)) hP hg rfl rfl rfl) (Nat.le_of_ble_eq_true rfl) rfl rfl ?_
      refine z_cut (dk_K dA ad (dk_lv ng nM na no) X (dk_is Y 26 g (vp_updL (Y 26 g) 6 w)) Z h) (dk_wY hP hg rfl rfl rfl) rfl rfl rfl (fun h4_ hP4_ => ?_)
      refine z_vret C dd_F_note_27 ⟨rfl, ?_⟩ (by decide) (by decide)
      unfold dk_note
      rw [if_neg q1, if_pos q2]
      exact hP4_
  · replace q1 : kd = 4 := (@nI_eq kd 4 (by omega) (by omega)).mp q1
    refine z_aload_n C dd_F_note_8 rfl ?_
    refine z_lload_n C dd_F_note_9 rfl ?_
    refine pf_F_32 C dd_F_note_10 (dk_rd (k := 26) (i := g) (x := (X 26 g)) (y := (Y 26 g)) (z := (Z 26 g)) hP hg rfl rfl rfl) (Nat.le_of_ble_eq_true rfl) rfl rfl ?_
    refine z_cut (dk_K dA ad (dk_lv ng nM na no) X (dk_is Y 26 g (vp_updL (Y 26 g) 5 w)) Z h) (dk_wY hP hg rfl rfl rfl) rfl rfl rfl (fun h5_ hP5_ => ?_)
    refine z_vret C dd_F_note_13 ⟨rfl, ?_⟩ (by decide) (by decide)
    unfold dk_note
    rw [if_pos q1]
    exact hP5_
