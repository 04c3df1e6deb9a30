theorem dk_FI_X {ad : Nat → Nat → Nat} {ng nM : Nat} {na no : Nat → Nat} {X X' : dk_X} {Y : dk_Y} {Z : dk_Z} {Xr : mq_M} {g nc : Nat} {tf : Nat → Nat} (A : dk_FI ad ng nM na no X Y Z Xr g nc tf) (h1 : X' 26 g = X 26 g) (h2 : ∀ i, X' 33 i = X 33 i) : dk_FI ad ng nM na no X' Y Z Xr g nc tf := by
  unfold dk_FI dk_ts
  simp only [h1, h2]
  exact A
theorem dk_FI_0 {ad : Nat → Nat → Nat} {ng nM : Nat} {na no : Nat → Nat} {X : dk_X} {Y : dk_Y} {Z : dk_Z} {I : mq_M} {g nc : Nat} {tf : Nat → Nat} (e2 : X 26 g 2 = 0) (e5 : Y 26 g 5 = 0) (e6 : Y 26 g 6 = 0) (ev : ∀ v, v < 8 * nc → Y 28 g v = 0 ∧ Y 29 g v = 0) : dk_FI ad ng nM na no X Y Z (pu_g3 I g 0) g nc tf ∧ dk_zt (pu_g3 I g 0) g := by
  have eT : dk_T (pu_g3 I g 0) g = 0 := by
    unfold dk_T
    show (upd (I 18) g 0 g).toNatClampNeg = 0
    rw [pk_us]
    decide
  unfold dk_FI dk_ts dk_zt
  rw [eT]
  exact ⟨⟨⟨e2, fun t ht => absurd ht (by omega)⟩, fun t ht => absurd ht (by omega), ev, e5, e6⟩, fun t ht => absurd ht (by omega)⟩
theorem dk_ls_63 {f : Nat → Bool} {T : Nat} (hT : T ≤ 48) : bl (pu_ls f T) 63 = false := by
  rw [l_ls f T (by omega) 63 (by decide)]
  simp
  omega
theorem dk_FI_ne {ad : Nat → Nat → Nat} {ng nM : Nat} {na no : Nat → Nat} {X : dk_X} {Y : dk_Y} {Z : dk_Z} {Xr : mq_M} {g nc : Nat} {tf : Nat → Nat} (A : dk_FI ad ng nM na no X Y Z Xr g nc tf) (hT : dk_T Xr g ≤ 48) (a b : Nat) (ha : a < 8 * nc) (hb : b < 8 * nc) : ¬ dk_of Y g a b = -1 := by
  intro z
  have e : bl (dk_of Y g a b) 63 = true := by rw [z]; decide
  have e1 := dk_ls_63 (f := dk_fq Xr g 0 a) hT
  have e2 := dk_ls_63 (f := dk_fq Xr g 1 b) hT
  have e3 := dk_ls_63 (f := dk_kq Xr g 4) hT
  have e4 := dk_ls_63 (f := dk_kq Xr g 5) hT
  rw [← (A.2.2.1 a ha).1] at e1
  rw [← (A.2.2.1 b hb).2] at e2
  rw [← A.2.2.2.1] at e3
  rw [← A.2.2.2.2] at e4
  unfold dk_of at e
  split at e
  · rw [l_or, e4] at e
    split at e
    · rw [l_or, l_or, e1, e2, e3] at e
      exact absurd e (by decide)
    · rw [l_or, e1, e2] at e
      exact absurd e (by decide)
  · split at e
    · rw [l_or, l_or, e1, e2, e3] at e
      exact absurd e (by decide)
    · rw [l_or, e1, e2] at e
      exact absurd e (by decide)
theorem dk_by_cg {X X' : dk_X} {ow : Nat → Nat} {m : Nat} (e : ∀ i, X' 30 i 8 = X 30 i 8) : ∀ k, dk_by X' ow m k = dk_by X ow m k
  | 0 => rfl
  | k + 1 => by rw [dk_by, dk_by, dk_by_cg e k, e, e]
theorem dk_IM_X {W W' : dk_X} {Y : dk_Y} {ow : Nat → Nat} {g oc : Nat} {os : Int32} {Pr : Nat → Nat → Prop} (h : dk_IM W Y ow g oc os Pr) (e : ∀ i, W' 30 i 8 = W 30 i 8) : dk_IM W' Y ow g oc os Pr := by
  unfold dk_IM
  simp only [e]
  exact h
/-- what a fresh generic has -/
def dk_FR (ad : Nat → Nat → Nat) (ng nM : Nat) (na no : Nat → Nat) (X : dk_X) (Y : dk_Y) (Z : dk_Z) (I : mq_M) (g nc ar oc : Nat) (ow tf : Nat → Nat) : Prop := dk_FI ad ng nM na no X Y Z (pu_g3 I g nM) g nc tf ∧ (∀ k, k < oc → dk_WM X Y (dk_T (pu_g3 I g nM) g) tf (ow k) (na (ow k))) ∧ dk_IM X Y ow g oc (X 20 g 6) (dk_be (if ar = 2 then 8 * nc else 1) (8 * nc) 0) ∧ ∀ k, k < oc → X 30 (ow k) 9 = dk_by X ow (ow k) oc
/-- what refresh leaves as it was -/
def dk_f6 (g oc : Nat) (ow : Nat → Nat) (X X' : dk_X) (Y Y' : dk_Y) (Z Z' : dk_Z) : Prop := (∀ k i, ¬ ((k = 20 ∨ k = 26) ∧ i = g) → ¬ (k = 30 ∧ ∃ j, j < oc ∧ i = ow j) → X' k i = X k i) ∧ (∀ p, p < 7 → X' 20 g p = X 20 g p) ∧ (∀ i p, p < 8 → X' 30 i p = X 30 i p) ∧ (∀ k i, ¬ ((k = 26 ∨ k = 28 ∨ k = 29) ∧ i = g) → ¬ (k = 30 ∧ ∃ j, j < oc ∧ i = ow j) → Y' k i = Y k i) ∧ ∀ k i, ¬ (k = 27 ∧ i = g) → Z' k i = Z k i
theorem dk_ow_7 {ad : Nat → Nat → Nat} {X X' : dk_X} {Y Y' : dk_Y} {Z Z' : dk_Z} {nM g oc : Nat} {ow : Nat → Nat} (fr : dk_f7 g oc ow X X' Y Y' Z Z') (OW : dk_ow ad X Z nM g oc ow) : dk_ow ad X' Z' nM g oc ow := by
  obtain ⟨a1, a2, a3, a4⟩ := OW
  refine ⟨by rw [fr.1 20 g (by omega)]; exact a1, a2, a3, fun k hk => ?_⟩
  rw [fr.1 30 _ (by omega), fr.2.2 25 g (by omega)]
  exact a4 k hk
theorem dk_ow_4 {ad : Nat → Nat → Nat} {X W : dk_X} {Z : dk_Z} {nM g oc : Nat} {ow : Nat → Nat} (fr : dk_f4 ow oc X W) (OW : dk_ow ad X Z nM g oc ow) : dk_ow ad W Z nM g oc ow := by
  obtain ⟨a1, a2, a3, a4⟩ := OW
  refine ⟨by rw [fr.1 20 g (by decide)]; exact a1, a2, a3, fun k hk => ?_⟩
  obtain ⟨b1, b2, b3⟩ := a4 k hk
  exact ⟨b1, b2, by rw [fr.2.1 _ _ (by decide)]; exact b3⟩
abbrev rm_G_refresh : Room := { frames := 12, cells := 0, slots := 0, locals := 400 }
set_option maxRecDepth 20000 in
theorem lp_G_refresh {D : va_G} {dA : Nat → ClassId} {B : Nat} {p : Program} {l : Launch} {e : Env} {s : State} {m : MethodId} {args : Array Value} {below : List Frame} {meth : Method} {c : Code} {Q : State → Prop} {n : Nat} {nm : String} {ret9 : Option FieldType} {h : zz_H} (C : zz_C D zz_cl (zz_ty dA) B zz_tb (zz_x B) p s m args meth c bb_G_refresh RR_G ret9 nm) {ad : Nat → Nat → Nat} {ng nM : Nat} {na no : Nat → Nat} {X : dk_X} {Y : dk_Y} {Z : dk_Z} {F : Nat → Int32} {I : mq_M} {g oc nc : Nat} {ow : Nat → Nat} (W : pu_W F I nc ng nM) (hg : g < ng) (OW : dk_ow ad X Z nM g oc ow) (EN : dk_en I g nM oc ow) (BS : dk_BS ad nM na X Z I nc) (kx : ∀ X1 Y1 Z1 tf h', (dk_K dA ad (dk_lv ng nM na no) X1 Y1 Z1 h h' ∧ dk_f7 g oc ow X X1 Y Y1 Z Z1 ∧ dk_FI ad ng nM na no X1 Y1 Z1 (pu_g3 I g (dk_nx ow nM oc oc)) g nc tf ∧ (∀ j, j < oc → dk_WM X1 Y1 (dk_T (pu_g3 I g (dk_nx ow nM oc oc)) g) tf (ow j) (na (ow j))) ∧ dk_zt (pu_g3 I g (dk_nx ow nM oc oc)) g) → zz_W D zz_cl B p l e rm_G_refresh s m args below meth c Q h' n 0 0 [some (.ref (ad 20 g)), some (.int (nI oc))] 44 []) :
    ∀ f k X1 Y1 Z1 tf h9, k + f = oc → (dk_K dA ad (dk_lv ng nM na no) X1 Y1 Z1 h h9 ∧ dk_f7 g oc ow X X1 Y Y1 Z Z1 ∧ dk_FI ad ng nM na no X1 Y1 Z1 (pu_g3 I g (dk_nx ow nM oc k)) g nc tf ∧ (∀ j, j < k → dk_WM X1 Y1 (dk_T (pu_g3 I g (dk_nx ow nM oc k)) g) tf (ow j) (na (ow j))) ∧ dk_zt (pu_g3 I g (dk_nx ow nM oc k)) g) → zz_W D zz_cl B p l e rm_G_refresh s m args below meth c Q h9 n 0 0 [some (.ref (ad 20 g)), some (.int (nI k))] 17 [] := by
  intro f
  have o12 := OW.2.1
  have m12 := OW.2.2.1
  have g4 := W.g4
  induction f with
  | zero =>
    intro k X1 Y1 Z1 tf h9 hk J
    have hk9 : k = oc := by omega
    subst hk9
    have J9 := J
    obtain ⟨hP, fr, FI, WM, zt⟩ := J9
    have OW1 := dk_ow_7 fr OW
    refine z_iload_n C dd_G_refresh_17 rfl ?_
    refine z_aload_n C dd_G_refresh_18 rfl ?_
    refine gf_G_24 (v := .int (X1 20 g 5)) C dd_G_refresh_19 (dk_rd (k := 20) (i := g) (x := (X1 20 g)) (y := (Y1 20 g)) (z := (Z1 20 g)) hP hg rfl rfl rfl) rfl ?_
    refine z_topi (y := nI k) OW1.1.symm ?_
    refine z_icmp_ge (tgt := 44) C dd_G_refresh_22 (by decide) (fun q1 => ?_) (fun q1 => absurd (Int32.le_refl _) q1)
    exact kx X1 Y1 Z1 tf h9 J
  | succ f ih =>
    intro k X1 Y1 Z1 tf h9 hk J
    obtain ⟨hP, fr, FI, WM, zt⟩ := J
    have OW1 := dk_ow_7 fr OW
    have BS1 := dk_f7_BS fr BS
    have ok := OW1.2.2.2 k (by omega)
    refine z_iload_n C dd_G_refresh_17 rfl ?_
    refine z_aload_n C dd_G_refresh_18 rfl ?_
    refine gf_G_24 (v := .int (X1 20 g 5)) C dd_G_refresh_19 (dk_rd (k := 20) (i := g) (x := (X1 20 g)) (y := (Y1 20 g)) (z := (Z1 20 g)) hP hg rfl rfl rfl) rfl ?_
    refine z_topi (y := nI oc) OW1.1.symm ?_
    refine z_icmp_ge (tgt := 44) C dd_G_refresh_22 (by decide) (fun q1 => ?_) (fun q1 => ?_)
    · replace q1 : oc ≤ k := (@nI_leI oc k (by omega) (by omega)).mp q1
      omega
    · replace q1 : ¬ oc ≤ k := fun z => q1 ((@nI_leI oc k (by omega) (by omega)).mpr z)
      refine z_aload_n C dd_G_refresh_25 rfl ?_
      refine gf_G_20 (v := .ref ((ad 25 g))) C dd_G_refresh_26 (dk_rd (k := 20) (i := g) (x := (X1 20 g)) (y := (Y1 20 g)) (z := (Z1 20 g)) hP hg rfl rfl rfl) rfl ?_
      refine z_iload_n C dd_G_refresh_29 rfl ?_
      refine z_aald (t0 := 4) (N := 12) (f := (Z1 25 g)) C rfl dd_G_refresh_30 (dk_rd (k := 25) (i := g) (x := (X1 25 g)) (y := (Y1 25 g)) (z := (Z1 25 g)) hP hg rfl rfl rfl) (vp_in_nI (by omega) (by decide)) ?_
      refine z_topr (y := ad 30 (ow k)) (by rw [nI_clamp (by omega), ok.1]; rfl) ?_
      refine z_aload_n C dd_G_refresh_31 rfl ?_
      refine gf_G_57 (v := .ref ((ad 26 g))) C dd_G_refresh_32 (dk_rd (k := 20) (i := g) (x := (X1 20 g)) (y := (Y1 20 g)) (z := (Z1 20 g)) hP hg rfl rfl rfl) rfl ?_
      obtain ⟨c1, c2, c3, c4, c5⟩ := BS1.2.2.2.2 (ow k) ok.2.1
      have hxk : dk_nx ow nM oc k = ow k := if_pos (by omega)
      have hTk : dk_T (pu_g3 I g (dk_nx ow nM oc k)) g ≤ 4 * ow k := by rw [hxk]; exact dk_T_le W (by have := ok.2.1; omega)
      have eg := dk_nx_s EN (show k < oc by omega)
      rw [c4, nI_clamp (by omega)] at eg
      refine iv_G_79 (sk := fun _ => []) (zz_f B) C dd_G_refresh_35 (cd_M_learnCondition l D dA B _ _ ad ng nM na no X1 Y1 Z1 hP.1 g (ow k) nc (pu_g3 I g (dk_nx ow nM oc k)) tf hg (by omega) ok.2.1 c3 BS1.2.2.1 (by have := ok.2.1; omega) (by rw [pu_g3_lo 0 (by omega)]; exact BS1.1) c2 (fun j hj => (c5 j hj).1) (fun j hj => dk_ao_cg (c5 j hj).2.1 rfl (pu_g3_lo 4 (by omega) _) (pu_g3_lo 5 (by omega) _) (pu_g3_lo 6 (by omega) _)) FI zt) (dk_rd (k := 30) (i := (ow k)) (x := (X1 30 (ow k))) (y := (Y1 30 (ow k))) (z := (Z1 30 (ow k))) hP ok.2.1 rfl rfl rfl) rfl rfl ⟨by decide, by decide⟩ (Nat.le_of_ble_eq_true rfl) ⟨by decide, by decide⟩ (fun _ => rfl) (fun _ h1_ n1_ p1_ => ?_)
      obtain ⟨rfl, X2, Y2, Z2, tf2, w1, w2, w3, w4, w5, w6, w7, w8⟩ := p1_
      have hP1_ := dk_tr hP w1
      rw [← eg] at w3 w4 w5 w8
      refine z_iincN C dd_G_refresh_38 rfl rfl ?_
      refine z_goto (tgt := 17) C dd_G_refresh_41 (by decide) ?_
      refine ih (k + 1) X2 Y2 Z2 tf2 _ (by omega) ⟨hP1_, dk_f7_1 fr (show k < oc by omega) w2, w3, fun j hj => ?_, w8⟩
      by_cases z : j = k
      · subst z; exact w4
      · have hlt := EN.2.1 j k (by omega) (by omega)
        exact dk_WM_mono (WM j (by omega)) (fun i => w2.1 33 i (by omega)) w5 w7 (w2.2.1 30 (ow j) (by omega) (fun q => by omega))
set_option maxRecDepth 20000 in
/-- refresh -/
theorem cd_G_refresh (l : Launch) (D : va_G) (dA : Nat → ClassId) (B : Nat) (h : zz_H) (n : Nat) (ad : Nat → Nat → Nat) (ng nM : Nat) (na no : Nat → Nat) (X : dk_X) (Y : dk_Y) (Z : dk_Z) (hP0 : dk_P dA ad (dk_lv ng nM na no) X Y Z h) (F : Nat → Int32) (I : mq_M) (g oc nc ar : Nat) (ow : Nat → Nat) (W : pu_W F I nc ng nM) (hg : g < ng) (OW : dk_ow ad X Z nM g oc ow) (EN : dk_en I g nM oc ow) (BS : dk_BS ad nM na X Z I nc) (ear : X 20 g 0 = nI ar) (har : ar = 1 ∨ ar = 2) (h7 : X 20 g 7 = 0 ∨ X 20 g 7 = 1) : zz_M l D zz_cl (zz_ty dA) B zz_tb (zz_x B) yy_G_refresh (Cond.code yy_G_refresh bb_G_refresh 2 none) rm_G_refresh [.ref ((ad 20 g))] h n zz_mv (fun _ h' n' => n' = n ∧ ((X 20 g 7 = 1 ∧ h' = h) ∨ (X 20 g 7 = 0 ∧ ∃ X' Y' Z' tf, dk_K dA ad (dk_lv ng nM na no) X' Y' Z' h h' ∧ dk_f6 g oc ow X X' Y Y' Z Z' ∧ X' 20 g 7 = 1 ∧ X' 20 g 8 = 0 ∧ dk_FR ad ng nM na no X' Y' Z' I g nc ar oc ow tf))) := by
  refine zz_ofW (zz_f B) [some (.ref ((ad 20 g))), none] (by decide) rfl rfl (Nat.le_of_ble_eq_true rfl) ?_
  intro p e s m below meth c C
  have hP := dk_rf hP0
  refine z_aload_n C dd_G_refresh_0 rfl ?_
  refine gf_G_31 (v := .int (X 20 g 7)) C dd_G_refresh_1 (dk_rd (k := 20) (i := g) (x := (X 20 g)) (y := (Y 20 g)) (z := (Z 20 g)) hP hg rfl rfl rfl) rfl ?_
  refine z_if_eq (tgt := 8) C dd_G_refresh_4 (by decide) (fun q1 => ?_) (fun q1 => ?_)
  · skip
    refine z_aload_n C dd_G_refresh_8 rfl ?_
    refine gf_G_57 (v := .ref ((ad 26 g))) C dd_G_refresh_9 (dk_rd (k := 20) (i := g) (x := (X 20 g)) (y := (Y 20 g)) (z := (Z 20 g)) hP hg rfl rfl rfl) rfl ?_
    refine iv_G_76 (sk := fun _ => []) (zz_f B) C dd_G_refresh_12 (cd_F_forget l D dA B _ _ ad ng nM na no X Y Z hP.1 g hg) (dk_rd (k := 26) (i := g) (x := (X 26 g)) (y := (Y 26 g)) (z := (Z 26 g)) hP hg rfl rfl rfl) rfl rfl ⟨by decide, by decide⟩ (Nat.le_of_ble_eq_true rfl) ⟨by decide, by decide⟩ (fun _ => rfl) (fun _ h1_ n1_ p1_ => ?_)
    obtain ⟨rfl, p1_⟩ := p1_
    have hP1_ := dk_tr hP p1_
    generalize hXe : dk_is X 26 g (upd (X 26 g) 2 0) = Xa at hP1_
    generalize hYe : dk_is (dk_is (dk_is Y 26 g (vp_updL (vp_updL (Y 26 g) 5 0) 6 0)) 28 g (dk_zr (Y 28 g) 64)) 29 g (dk_zr (Y 29 g) 64) = Ya at hP1_
    have fra : dk_f7 g oc ow X Xa Y Ya Z Z := by
      subst hXe
      subst hYe
      refine ⟨fun k i c => dk_n c, fun k i c _ => ?_, fun _ _ _ => rfl⟩
      rw [dk_n (fun z => c ⟨Or.inr (Or.inr z.1), z.2⟩), dk_n (fun z => c ⟨Or.inr (Or.inl z.1), z.2⟩), dk_n (fun z => c ⟨Or.inl z.1, z.2⟩)]
    have h8 := BS.2.2.1
    have FI0 := dk_FI_0 (ad := ad) (ng := ng) (nM := nM) (na := na) (no := no) (X := Xa) (Y := Ya) (Z := Z) (I := I) (g := g) (nc := nc) (tf := fun _ => 0) (by subst hXe; rw [dk_s]; rfl) (by subst hYe; show dk_is Y 26 g (vp_updL (vp_updL (Y 26 g) 5 0) 6 0) 26 g 5 = 0; rw [dk_s]; rfl) (by subst hYe; show dk_is Y 26 g (vp_updL (vp_updL (Y 26 g) 5 0) 6 0) 26 g 6 = 0; rw [dk_s]; rfl) (fun v hv => by
      subst hYe
      refine ⟨?_, ?_⟩
      · show dk_is (dk_is Y 26 g (vp_updL (vp_updL (Y 26 g) 5 0) 6 0)) 28 g (dk_zr (Y 28 g) 64) 28 g v = 0
        rw [dk_s]
        exact if_pos (by omega)
      · rw [dk_s]
        exact if_pos (by omega))
    rw [← dk_nx_0 EN] at FI0
    refine z_iconst (v := 0) C dd_G_refresh_15 (by decide) ?_
    refine z_istore_n C dd_G_refresh_16 rfl ?_
    refine lp_G_refresh (h := h) C W hg OW EN BS (fun X1 Y1 Z1 tf h' J => ?_) oc 0 Xa Ya Z (fun _ => 0) _ (by omega) ⟨hP1_, fra, FI0.1, fun j hj => absurd hj (by omega), FI0.2⟩
    obtain ⟨hP1, fr1, FI1, WM1, zt1⟩ := J
    rw [dk_nx_e] at FI1 WM1 zt1
    have OW1 := dk_ow_7 fr1 OW
    have BS1 := dk_f7_BS fr1 BS
    have hT1 : dk_T (pu_g3 I g nM) g ≤ 48 := by have := dk_T_le (g := g) W (Nat.le_refl nM); have := W.m12; omega
    refine z_aload_n C dd_G_refresh_44 rfl ?_
    refine iv_G_83 (sk := fun _ => []) (zz_f B) C dd_G_refresh_45 (cd_G_findImplied l D dA B _ _ ad ng nM na no X1 Y1 Z1 hP1.1 g oc nc ar ow hg OW1 BS1.1.1 BS1.2.2.1 (by rw [fr1.1 20 g (by omega)]; exact ear) har (fun a b ha hb => dk_FI_ne FI1 hT1 a b ha hb) BS1.2.2.2.1) (dk_rd (k := 20) (i := g) (x := (X1 20 g)) (y := (Y1 20 g)) (z := (Z1 20 g)) hP1 hg rfl rfl rfl) rfl rfl ⟨by decide, by decide⟩ (Nat.le_of_ble_eq_true rfl) ⟨by decide, by decide⟩ (fun _ => rfl) (fun _ h2_ n2_ p2_ => ?_)
    obtain ⟨rfl, X2, p2_, f5, im⟩ := p2_
    have hP2_ := dk_tr hP1 p2_
    have OW2 := dk_f5_ow f5 OW1
    refine z_aload_n C dd_G_refresh_48 rfl ?_
    refine iv_G_86 (sk := fun _ => []) (zz_f B) C dd_G_refresh_49 (cd_G_findBeyond l D dA B _ _ ad ng nM na no X2 Y1 Z1 hP2_.1 g oc ow hg OW2) (dk_rd (k := 20) (i := g) (x := (X2 20 g)) (y := (Y1 20 g)) (z := (Z1 20 g)) hP2_ hg rfl rfl rfl) rfl rfl ⟨by decide, by decide⟩ (Nat.le_of_ble_eq_true rfl) ⟨by decide, by decide⟩ (fun _ => rfl) (fun _ h3_ n3_ p3_ => ?_)
    obtain ⟨rfl, X3, p3_, f4, by3⟩ := p3_
    have hP3_ := dk_tr hP2_ p3_
    refine z_aload_n C dd_G_refresh_52 rfl ?_
    refine z_iconst (v := 0) C dd_G_refresh_53 (by decide) ?_
    refine pf_G_35 C dd_G_refresh_54 (dk_rd (k := 20) (i := g) (x := (X3 20 g)) (y := (Y1 20 g)) (z := (Z1 20 g)) hP3_ hg rfl rfl rfl) (Nat.le_of_ble_eq_true rfl) rfl rfl ?_
    refine z_cut (dk_K dA ad (dk_lv ng nM na no) (dk_is X3 20 g (upd (X3 20 g) 8 0)) Y1 Z1 h) (dk_wX hP3_ hg rfl rfl rfl) rfl rfl rfl (fun h4_ hP4_ => ?_)
    refine z_aload_n C dd_G_refresh_57 rfl ?_
    refine z_iconst (v := 1) C dd_G_refresh_58 (by decide) ?_
    refine pf_G_31 C dd_G_refresh_59 (dk_rd (k := 20) (i := g) (x := (upd (X3 20 g) 8 0)) (y := (Y1 20 g)) (z := (Z1 20 g)) hP4_ hg dk_s rfl rfl) (Nat.le_of_ble_eq_true rfl) rfl rfl ?_
    refine z_cut (dk_K dA ad (dk_lv ng nM na no) (dk_is (dk_is X3 20 g (upd (X3 20 g) 8 0)) 20 g (upd (upd (X3 20 g) 8 0) 7 1)) Y1 Z1 h) (dk_wX hP4_ hg rfl rfl rfl) rfl rfl rfl (fun h5_ hP5_ => ?_)
    refine z_vret C dd_G_refresh_62 ⟨rfl, Or.inr ⟨q1, _, Y1, Z1, tf, hP5_, ?_, ?_, ?_, ?_⟩⟩ (by decide) (by decide)
    · refine ⟨fun k i c c2 => ?_, fun p hp => ?_, fun i p hp => ?_, fun k i c c2 => fr1.2.1 k i c c2, fr1.2.2⟩
      · rw [dk_ii, dk_n (fun z => c ⟨Or.inl z.1, z.2⟩)]
        by_cases c3 : k = 30
        · subst c3
          have c4 : ∀ j, j < oc → ¬ i = ow j := fun j hj e => c2 ⟨rfl, j, hj, e⟩
          rw [f4.2.2 i c4, f5.2.2 i c4]
          exact fr1.1 30 i (by omega)
        · rw [f4.1 k i c3, f5.1 k i c3]
          exact fr1.1 k i (fun z => c ⟨Or.inr z.1, z.2⟩)
      · rw [dk_s, pk_un (by omega), pk_un (by omega), f4.1 20 g (by decide), f5.1 20 g (by decide), fr1.1 20 g (by omega)]
      · show X3 30 i p = X 30 i p
        rw [f4.2.1 i p (by omega), f5.2.1 i p (by omega), fr1.1 30 i (by omega)]
    · rw [dk_s]; rfl
    · rw [dk_s]; rfl
    · refine ⟨?_, fun k hk => ?_, ?_, fun k hk => ?_⟩
      · refine dk_FI_X FI1 ?_ (fun i => ?_)
        · show X3 26 g = X1 26 g
          rw [f4.1 26 g (by decide), f5.1 26 g (by decide)]
        · show X3 33 i = X1 33 i
          rw [f4.1 33 i (by decide), f5.1 33 i (by decide)]
      · refine dk_WM_mono (WM1 k hk) (fun i => ?_) (Nat.le_refl _) (fun _ _ => rfl) rfl
        show X3 33 i = X1 33 i
        rw [f4.1 33 i (by decide), f5.1 33 i (by decide)]
      · have e6 : X1 20 g 6 = dk_is (dk_is X3 20 g (upd (X3 20 g) 8 0)) 20 g (upd (upd (X3 20 g) 8 0) 7 1) 20 g 6 := by
          rw [dk_s, pk_un (by omega), pk_un (by omega), f4.1 20 g (by decide), f5.1 20 g (by decide)]
        rw [← e6]
        refine dk_IM_X im (fun i => ?_)
        show X3 30 i 8 = X2 30 i 8
        exact f4.2.1 i 8 (by decide)
      · refine Eq.trans (by3 k hk) (Eq.symm (dk_by_cg (X := X2) ?_ oc))
        exact fun i => (show X3 30 i 8 = X2 30 i 8 from f4.2.1 i 8 (by decide))
  · skip
    exact z_vret C dd_G_refresh_7 ⟨rfl, Or.inl ⟨h7.elim (fun z => absurd z q1) id, rfl⟩⟩ (by decide) (by decide)
