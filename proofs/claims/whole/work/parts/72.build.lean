abbrev rm_B_build : Room := { frames := 45, cells := 0, slots := 0, locals := 1700 }
/-- the compiled tree of a generic, of the class -/
def dk_tr9 (I : mq_M) (nc nM g ar : Nat) : List tg_N × Int32 := tg_tree (pu_pz (pu_g3 I g nM) g nc ar) (pu_bs I nc nM g ar) (dk_T (pu_g3 I g nM) g) (dk_T (pu_g3 I g nM) g + 1) (List.range (pu_R nc ar)) []
def dk_trG (I : mq_M) (nc nM g ar : Nat) : List tg_N := if (dk_tr9 I nc nM g ar).2 = -1 then [] else (dk_tr9 I nc nM g ar).1
/-- what build leaves as it was -/
def dk_fb (g : Nat) (X X' : dk_X) (Y Y' : dk_Y) : Prop := (∀ k i, ¬ ((k = 20 ∨ k = 21 ∨ k = 22 ∨ k = 23 ∨ k = 24) ∧ i = g) → X' k i = X k i) ∧ (∀ p, p < 8 → X' 20 g p = X 20 g p) ∧ ∀ k i, ¬ (k = 20 ∧ i = g) → ¬ k = 6 → Y' k i = Y k i
theorem dk_gr_0 {X : dk_X} {g : Nat} (h : X 21 g 3 = 0) : dk_gr X g [] := ⟨by decide, h, fun k x hx => by cases hx⟩
theorem tg_sc_T {pas : Nat → Nat → Bool} {T : Nat} {S : List Nat} : tg_sc pas T S < T + 1 := by
  unfold tg_sc
  have := List.length_filter_le (tg_sep pas S) (List.range T)
  rw [List.length_range] at this
  omega
theorem dk_ch_X {X X' : dk_X} {Y : dk_Y} {ow : Nat → Nat} {g oc : Nat} (h : dk_ch X Y ow g oc) (e : ∀ i, X' 30 i = X 30 i) (e8 : X' 20 g = X 20 g) : dk_ch X' Y ow g oc := by
  unfold dk_ch
  rw [e8, dk_pk_cg e]
  exact h
set_option maxRecDepth 20000 in
/-- build -/
theorem cd_B_build (l : Launch) (D : va_G) (dA : Nat → ClassId) (B : Nat) (h : zz_H) (n : Nat) (ad : Nat → Nat → Nat) (ng nM : Nat) (na no : Nat → Nat) (X : dk_X) (Y : dk_Y) (Z : dk_Z) (hP0 : dk_P dA ad (dk_lv ng nM na no) X Y Z h) (F : Nat → Int32) (I : mq_M) (g oc nc ar : Nat) (ow tf : Nat → Nat) (hg : g < ng) (OW : dk_ow ad X Z nM g oc ow) (K : dk_OK F ad ng nM na no X Y Z I g nc ar oc ow tf) (ear : X 20 g 0 = nI ar) (CH : dk_ch X Y ow g oc) : zz_M l D zz_cl (zz_ty dA) B zz_tb (zz_x B) yy_B_build (Cond.code yy_B_build bb_B_build 4 (some FieldType.boolean)) rm_B_build [.ref ((ad 5 0)), .ref ((ad 20 g))] h n zz_mi (fun r h' n' => n' = n ∧ r = pu_b (!decide ((dk_tr9 I nc nM g ar).2 = -1)) ∧ ∃ X' Y', dk_K dA ad (dk_lv ng nM na no) X' Y' Z h h' ∧ dk_gr X' g (dk_trG I nc nM g ar) ∧ dk_fb g X X' Y Y' ∧ dk_ch X' Y' ow g oc) := by
  refine zz_ofW (zz_f B) [some (.ref ((ad 5 0))), some (.ref ((ad 20 g))), none, none] (by decide) rfl rfl (Nat.le_of_ble_eq_true rfl) ?_
  intro p e s m below meth c C
  have hP := dk_rf hP0
  have h8 := K.1.c8
  have h1 := K.1.c1
  have har := K.2.2.2.2.1
  refine z_aload_n C dd_B_build_0 rfl ?_
  refine gf_B_19 (v := .ref ((ad 21 g))) C dd_B_build_1 (dk_rd (k := 20) (i := g) (x := (X 20 g)) (y := (Y 20 g)) (z := (Z 20 g)) hP hg rfl rfl rfl) rfl ?_
  refine z_astore_n C dd_B_build_4 rfl ?_
  refine z_aload_n C dd_B_build_5 rfl ?_
  refine iv_B_25 (sk := fun _ => []) (zz_f B) C dd_B_build_6 (cd_R_clear l D dA B _ _ ad ng nM na no X Y Z hP.1 g hg) (dk_rd (k := 21) (i := g) (x := (X 21 g)) (y := (Y 21 g)) (z := (Z 21 g)) hP hg rfl rfl rfl) rfl rfl ⟨by decide, by decide⟩ (Nat.le_of_ble_eq_true rfl) ⟨by decide, by decide⟩ (fun _ => rfl) (fun _ h1_ n1_ p1_ => ?_)
  obtain ⟨rfl, p1_⟩ := p1_
  have hP1_ := dk_tr hP p1_
  generalize hXe : (dk_is X 21 g (upd (X 21 g) 3 0)) = Xa at hP1_
  have ea : ∀ k i, ¬ (k = 21 ∧ i = g) → Xa k i = X k i := fun k i c => by subst hXe; exact dk_n c
  have ea21 : Xa 21 g 3 = 0 := by subst hXe; rw [dk_s]; exact pk_us
  have OWa : dk_ow ad Xa Z nM g oc ow := ⟨by rw [ea 20 g (by omega)]; exact OW.1, OW.2.1, OW.2.2.1, fun k hk => by rw [ea 30 _ (by omega)]; exact OW.2.2.2 k hk⟩
  have Ka := K.cg (X' := Xa) (Y' := Y) (Z' := Z) (fun k i c => ea k i (by omega)) (by rw [ea 20 g (by omega)]) (fun _ _ _ => rfl) rfl (fun _ => rfl)
  have CHa := dk_ch_X (X' := Xa) CH (fun i => ea 30 i (by omega)) (ea 20 g (by omega))
  refine z_aload_n C dd_B_build_9 rfl ?_
  refine z_aload_n C dd_B_build_10 rfl ?_
  refine z_iconst (v := 0) C dd_B_build_11 (by decide) ?_
  refine z_aload_n C dd_B_build_12 rfl ?_
  refine z_aload_n C dd_B_build_13 rfl ?_
  refine iv_B_30 (sk := fun r => .int r :: [.int 0, .ref ((ad 21 g)), .ref ((ad 5 0))]) (zz_f B) C dd_B_build_14 (cd_B_gather l D dA B _ _ ad ng nM na no Xa Y Z hP1_.1 g oc nc ar ow hg OWa (by rw [ea 1 0 (by omega)]; exact K.2.2.1.1.1) h8 (by rw [ea 20 g (by omega)]; exact ear) har CHa) (dk_rd (k := 5) (i := 0) (x := (Xa 5 0)) (y := (Y 5 0)) (z := (Z 5 0)) hP1_ rfl rfl rfl rfl) rfl rfl ⟨by decide, by decide⟩ (Nat.le_of_ble_eq_true rfl) ⟨by decide, by decide⟩ (fun _ => rfl) (fun v2_ h2_ n2_ p2_ => ?_)
  obtain ⟨rfl, W, V, c9, rfl, w1, w2, w3, w4, w5⟩ := p2_
  have hP2_ := dk_tr hP1_ w1
  have sg := dk_RG_sg h1 har w4
  have hR1 : 0 < pu_R nc ar := by unfold pu_R; split; omega; exact Nat.mul_pos (by omega) (by omega)
  have hc1 : 0 < c9 := by
    obtain ⟨j, _, j2, _⟩ := sg.2 0 (List.mem_range.mpr hR1)
    omega
  have gr0 : dk_gr W g [] := dk_gr_0 (by rw [w3.1 21 g (by omega)]; exact ea21)
  refine z_iconst (v := 0) C dd_B_build_17 (by decide) ?_
  refine iv_B_34 (sk := fun r => .int r :: []) (zz_f B) C dd_B_build_18 (cd_B_treeFor l D dA B ad ng nM na no g hg Ka.vo (fun r q hr hq hz => Ka.det r q hr hq hz) (dp_mu (pu_r1 nc ar) (pu_r2 nc ar) (fun t => (pu_g3 I g nM 19 (48 * g + t)).toNatClampNeg) (pu_pz (pu_g3 I g nM) g nc ar) (dk_T (pu_g3 I g nM) g)) (fun S t0 hS ht hs => Ka.mu S t0 hS ht hs) 31 _ _ W V Z 0 c9 0 (dk_T (pu_g3 I g nM) g + 1) (List.range (pu_R nc ar)) [] hP2_.1 rfl hc1 (by omega) (fun r hr => List.mem_range.mp hr) sg tg_sc_T (by have := @dp_mu_30 (pu_r1 nc ar) (pu_r2 nc ar) (fun t => (pu_g3 I g nM 19 (48 * g + t)).toNatClampNeg) (pu_pz (pu_g3 I g nM) g nc ar) (dk_T (pu_g3 I g nM) g) (List.range (pu_R nc ar)); omega) gr0) (dk_rd (k := 5) (i := 0) (x := (W 5 0)) (y := (V 5 0)) (z := (Z 5 0)) hP2_ rfl rfl rfl rfl) rfl rfl ⟨by decide, by decide⟩ (Nat.le_of_ble_eq_true rfl) ⟨by decide, by decide⟩ (fun _ => rfl) (fun v3_ h3_ n3_ p3_ => ?_)
  obtain ⟨rfl, q1, X2, y2, u1, u2, u3, u4⟩ := p3_
  change v3_ = (dk_tr9 I nc nM g ar).2 at q1
  change dk_gr X2 g (dk_tr9 I nc nM g ar).1 at u2
  have q1z := q1.symm
  subst q1z
  have hP3_ := dk_tr hP2_ u1
  have fx : ∀ k i, ¬ ((k = 20 ∨ k = 21 ∨ k = 22 ∨ k = 23 ∨ k = 24) ∧ i = g) → X2 k i = X k i := fun k i c => by rw [u3 k i (by omega), w3.1 k i (by omega), ea k i (by omega)]
  have fx20 : ∀ p, p < 8 → X2 20 g p = X 20 g p := fun p hp => by rw [u3 20 g (by omega), w3.2.1 p hp, ea 20 g (by omega)]
  have fy : ∀ k i, ¬ (k = 20 ∧ i = g) → ¬ k = 6 → dk_is V 6 0 y2 k i = Y k i := fun k i c c2 => (dk_n (fun z => c2 z.1)).trans (w3.2.2 k i c c2)
  have chz : dk_ch X2 (dk_is V 6 0 y2) ow g oc := dk_ch_Y (dk_ch_X w2 (fun i => u3 30 i (by omega)) (u3 20 g (by omega))) (fun i => rfl) rfl
  refine z_istore_n C dd_B_build_21 rfl ?_
  refine z_iload_n C dd_B_build_22 rfl ?_
  refine z_iconst (v := (-1)) C dd_B_build_23 (by decide) ?_
  refine z_icmp_ne (tgt := 31) C dd_B_build_24 (by decide) (fun q1 => ?_) (fun q1 => ?_)
  · skip
    refine z_iload_n C dd_B_build_31 rfl ?_
    refine z_iconst (v := (-1)) C dd_B_build_32 (by decide) ?_
    refine z_icmp_eq (tgt := 40) C dd_B_build_33 (by decide) (fun q2 => absurd q2 q1) (fun q2 => ?_)
    refine z_iconst (v := 1) C dd_B_build_36 (by decide) ?_
    refine z_goto (tgt := 41) C dd_B_build_37 (by decide) ?_
    refine z_zret C dd_B_build_41 rfl ⟨rfl, by rw [decide_eq_false q1]; rfl, _, _, hP3_, ?_, ⟨fx, fx20, fy⟩, chz⟩ (by decide) (by decide)
    unfold dk_trG
    rw [if_neg q1]
    exact u2
  · skip
    refine z_aload_n C dd_B_build_27 rfl ?_
    refine iv_B_25 (sk := fun _ => []) (zz_f B) C dd_B_build_28 (cd_R_clear l D dA B _ _ ad ng nM na no X2 _ Z hP3_.1 g hg) (dk_rd (k := 21) (i := g) (x := (X2 21 g)) (y := ((dk_is V 6 0 y2) 21 g)) (z := (Z 21 g)) hP3_ hg rfl rfl rfl) rfl rfl ⟨by decide, by decide⟩ (Nat.le_of_ble_eq_true rfl) ⟨by decide, by decide⟩ (fun _ => rfl) (fun _ h4_ n4_ p4_ => ?_)
    obtain ⟨rfl, p4_⟩ := p4_
    have hP4_ := dk_tr hP3_ p4_
    refine z_iload_n C dd_B_build_31 rfl ?_
    refine z_iconst (v := (-1)) C dd_B_build_32 (by decide) ?_
    refine z_icmp_eq (tgt := 40) C dd_B_build_33 (by decide) (fun q3 => ?_) (fun q3 => absurd q1 q3)
    refine z_iconst (v := 0) C dd_B_build_40 (by decide) ?_
    refine z_zret C dd_B_build_41 rfl ⟨rfl, by rw [decide_eq_true q1]; rfl, _, _, hP4_, ?_, ⟨fun k i c => (dk_n (fun z => c ⟨Or.inr (Or.inl z.1), z.2⟩)).trans (fx k i c), fun p hp => fx20 p hp, fy⟩, dk_ch_X chz (fun i => rfl) rfl⟩ (by decide) (by decide)
    unfold dk_trG
    rw [if_pos q1]
    exact dk_gr_0 (by rw [dk_s]; exact pk_us)
