theorem dk_lex {nc ar a b r : Nat} (har : ar = 1 ∨ ar = 2) (h1 : 1 ≤ nc) (hb : b < (if ar = 2 then 8 * nc else 1)) (h : r < pu_rw nc ar a b) : dk_be (if ar = 2 then 8 * nc else 1) a b (pu_r1 nc ar r) (pu_r2 nc ar r) := by
  unfold dk_be
  rcases har with rfl | rfl
  · rw [if_neg (by decide)] at hb ⊢
    unfold pu_rw at h
    unfold pu_r1 pu_r2
    rw [if_pos rfl] at h
    rw [if_pos rfl, if_pos rfl]
    omega
  · rw [if_pos rfl] at hb ⊢
    have e := pu_rw_r (nc := nc) (ar := 2) (r := r) h1
    have h2 := pu_r2_lt (nc := nc) (ar := 2) (r := r) h1
    generalize pu_r1 nc 2 r = r1 at e ⊢
    generalize pu_r2 nc 2 r = r2 at e h2 ⊢
    unfold pu_rw at e h
    rw [if_neg (by decide)] at e h
    rcases Nat.lt_trichotomy r1 a with c | c | c
    · exact Or.inl ⟨c, h2⟩
    · subst c
      exact Or.inr ⟨rfl, by omega⟩
    · exfalso
      have : (a + 1) * (8 * nc) ≤ r1 * (8 * nc) := Nat.mul_le_mul_right _ c
      rw [Nat.add_mul] at this
      omega
theorem dk_neg2 {x : Int32} {be : Nat → Int32} {n : Nat} (hn : n ≤ 12) (h : pu_fm x be n < 0) : pu_fm x be n = -1 ∨ pu_fm x be n = -2 := by
  rcases dk_rg12 (x := x) (be := be) hn with z | z | ⟨m, hm, z⟩
  · exact Or.inr z
  · exact Or.inl z
  · rw [z] at h
    exact absurd h (nI_pos (by omega))
theorem dk_IV.x0 {F : Nat → Int32} {ad : Nat → Nat → Nat} {ng nM : Nat} {na no : Nat → Nat} {X X' : dk_X} {Y : dk_Y} {Z : dk_Z} {I : mq_M} {nc : Nat} {oc : Nat → Nat} {ow : Nat → Nat → Nat} (V : dk_IV F ad ng nM na no X Y Z I nc oc ow) (x0 : ∀ k i, ¬ k = 0 → X' k i = X k i) (h2 : X' 0 0 2 = X 0 0 2) (h4 : X' 0 0 4 = X 0 0 4) : dk_IV F ad ng nM na no X' Y Z I nc oc ow := by
  obtain ⟨⟨v1, v2, v3⟩, v4, ⟨v5, v6, v7, v8, v9⟩, v10⟩ := V
  refine ⟨⟨v1, ?_, v3⟩, fun g9 hg9 => ?_, ⟨by rw [h2]; exact v5, by rw [h4]; exact v6, v7, v8, v9⟩, fun m hm => ?_⟩
  · obtain ⟨b1, b2, b3, b4, b5⟩ := v2
    refine ⟨dk_hi_cg b1 (x0 1 0 (by decide)) (x0 2 0 (by decide)), b2, b3, b4, fun m hm => ?_⟩
    obtain ⟨c1, c2, c3, c4, c5⟩ := b5 m hm
    rw [x0 30 m (by decide)]
    exact ⟨c1, c2, c3, c4, fun k hk => ⟨(c5 k hk).1, dk_ao_cg (c5 k hk).2.1 (x0 33 _ (by decide)) rfl rfl rfl, by rw [x0 33 _ (by decide)]; exact (c5 k hk).2.2⟩⟩
  · obtain ⟨⟨g1, g2, g3, g5, g6⟩, g7, g8, g9'⟩ := v4 g9 hg9
    have e20 := x0 20 g9 (by decide)
    refine ⟨⟨?_, g2, by rw [e20]; exact g3, g5, by rw [e20]; exact g6⟩, ?_, ?_, fun hne => ⟨by rw [e20]; exact (g9' hne).1, (g9' hne).2⟩⟩
    · obtain ⟨o1, o2, o3, o4⟩ := g1
      refine ⟨by rw [e20]; exact o1, o2, o3, fun k hk => ?_⟩
      rw [x0 30 _ (by decide)]
      exact o4 k hk
    · rw [e20]
      rcases g7 with z | ⟨z1, ⟨tf9, z2⟩, z3⟩
      · exact Or.inl z
      · exact Or.inr ⟨z1, ⟨tf9, dk_FR_cg z2 (x0 26 g9 (by decide)) (fun i => x0 33 i (by decide)) (fun k hk => x0 30 _ (by decide)) (by rw [e20]) rfl rfl rfl (fun k hk => rfl) rfl⟩, dk_ch_X z3 (fun i => x0 30 i (by decide)) e20⟩
    · unfold dk_gr
      rw [x0 21 g9 (by decide), x0 22 g9 (by decide), x0 23 g9 (by decide), x0 24 g9 (by decide)]
      exact g8
  · obtain ⟨m1, m2, m3, m4, m5⟩ := v10 m hm
    rw [x0 30 m (by decide)]
    refine ⟨m1, m2, m3, m4, fun k hk => ?_⟩
    rw [x0 34 _ (by decide)]
    exact m5 k hk
theorem dk_IV.wit {F : Nat → Int32} {ad : Nat → Nat → Nat} {ng nM : Nat} {na no : Nat → Nat} {X : dk_X} {Y : dk_Y} {Z : dk_Z} {I : mq_M} {nc : Nat} {oc : Nat → Nat} {ow : Nat → Nat → Nat} {f : Nat → Int32} (V : dk_IV F ad ng nM na no X Y Z I nc oc ow) (h2 : f 2 = X 0 0 2) (h4 : f 4 = X 0 0 4) : dk_IV F ad ng nM na no (dk_is X 0 0 f) Y Z I nc oc ow := V.x0 (fun k i c => dk_n (fun z => c z.1)) (by rw [dk_s, h2]) (by rw [dk_s, h4])
abbrev rm_D_beyond : Room := { frames := 30, cells := 4, slots := 24, locals := 800 }
set_option maxRecDepth 20000 in
/-- beyond -/
theorem cd_D_beyond (l : Launch) (D : va_G) (dA : Nat → ClassId) (B : Nat) (h : zz_H) (n : Nat) (ad : Nat → Nat → Nat) (ng nM : Nat) (na no : Nat → Nat) (X : dk_X) (Y : dk_Y) (Z : dk_Z) (hP0 : dk_P dA ad (dk_lv ng nM na no) X Y Z h) (F : Nat → Int32) (I : mq_M) (nc : Nat) (oc : Nat → Nat) (ow : Nat → Nat → Nat) (IV : dk_IV F ad ng nM na no X Y Z I nc oc ow) (x y : Int32) (hl : l.stackTraces = false) : zz_MX l D zz_cl (zz_ty dA) B zz_tb (zz_x B) yy_D_beyond (Cond.code yy_D_beyond bb_D_beyond 5 (some FieldType.boolean)) rm_D_beyond [.ref ((ad 0 0)), .int x, .int y] h n zz_mi (fun r h' n' => n ≤ n' ∧ ∃ a b g, pu_two I nM x y a b g ∧ g < ng ∧ r = pu_b (bt (pu_B I nc nM g (mq_ar I g) a) b) ∧ ∃ X' Y' Z', dk_K dA ad (dk_lv ng nM na no) X' Y' Z' h h' ∧ dk_IV F ad ng nM na no X' Y' Z' I nc oc ow ∧ X' 0 0 = X 0 0 ∧ X' 7 0 = X 7 0) (fun E h' n' => E = "java/lang/IllegalArgumentException" ∧ h' = h ∧ n ≤ n' ∧ ∀ a b g, ¬ pu_two I nM x y a b g) := by
  refine zz_ofX (zz_f B) [some (.ref ((ad 0 0))), some (.int x), some (.int y), none, none] (by decide) rfl rfl (Nat.le_of_ble_eq_true rfl) ?_
  intro p e s m below meth c C hno
  have hP := dk_rf hP0
  have Wp := IV.1.1
  have g4 := Wp.g4
  have m12 := Wp.m12
  have h8 := Wp.c8
  have h1 := Wp.c1
  refine z_aload_n C dd_D_beyond_0 rfl ?_
  refine z_iload_n C dd_D_beyond_1 rfl ?_
  refine ix_D_104 (sk := fun r => .ref r :: []) (zz_f B) C dd_D_beyond_2 (cc_D_methodAt l D dA B _ _ (ad 0 0) _ _ _ _ _ _ _ _ _ _ (dk_rd (k := 0) (i := 0) (x := (X 0 0)) (y := (Y 0 0)) (z := (Z 0 0)) hP rfl rfl rfl rfl) x (Z 4 0) (dk_rd (k := 4) (i := 0) (x := (X 4 0)) (y := (Y 4 0)) (z := (Z 4 0)) hP rfl rfl rfl rfl) (fun a b => dk_gat_h m12 (by decide) IV.2.2.1.2.2.2.1 a (by rw [← IV.2.2.1.2.1]; exact b)) hl) hno (dk_rd (k := 0) (i := 0) (x := (X 0 0)) (y := (Y 0 0)) (z := (Z 0 0)) hP rfl rfl rfl rfl) rfl rfl ⟨by decide, by decide⟩ (Nat.le_of_ble_eq_true rfl) ⟨by decide, by decide⟩ (fun _ => rfl) (fun E h' n' p9 => ⟨p9.1, p9.2.1, p9.2.2.1, fun a b g z => dk_gat_n (by omega) (by rw [← IV.2.2.1.2.1]; exact p9.2.2.2) a z.1 z.2.2.1⟩) (by decide) (by decide) (fun a1_ h1_ n1_ p1_ => ?_)
  obtain ⟨e1_, f1_, v1_, w1_, x1_⟩ := p1_
  have e1z := e1_.symm
  have f1z := f1_.symm
  subst e1z
  subst f1z
  rw [IV.2.2.1.2.1] at x1_
  obtain ⟨a0, ha0, rfl, rfl⟩ := dk_gat_p (by omega) IV.2.2.1.2.2.2.1 v1_ w1_ x1_
  refine z_astore_n C dd_D_beyond_5 rfl ?_
  refine z_aload_n C dd_D_beyond_6 rfl ?_
  refine z_iload_n C dd_D_beyond_7 rfl ?_
  refine ix_D_104 (sk := fun r => .ref r :: []) (zz_f B) C dd_D_beyond_8 (cc_D_methodAt l D dA B _ _ (ad 0 0) _ _ _ _ _ _ _ _ _ _ (dk_rd (k := 0) (i := 0) (x := (X 0 0)) (y := (Y 0 0)) (z := (Z 0 0)) hP rfl rfl rfl rfl) y (Z 4 0) (dk_rd (k := 4) (i := 0) (x := (X 4 0)) (y := (Y 4 0)) (z := (Z 4 0)) hP rfl rfl rfl rfl) (fun a b => dk_gat_h m12 (by decide) IV.2.2.1.2.2.2.1 a (by rw [← IV.2.2.1.2.1]; exact b)) hl) hno (dk_rd (k := 0) (i := 0) (x := (X 0 0)) (y := (Y 0 0)) (z := (Z 0 0)) hP rfl rfl rfl rfl) rfl rfl ⟨by decide, by decide⟩ (Nat.le_of_ble_eq_true rfl) ⟨by decide, by decide⟩ (fun _ => rfl) (fun E h' n' p9 => ⟨p9.1, p9.2.1, p9.2.2.1, fun a b g z => dk_gat_n (by omega) (by rw [← IV.2.2.1.2.1]; exact p9.2.2.2) b z.2.1 z.2.2.2.1⟩) (by decide) (by decide) (fun a2_ h2_ n2_ p2_ => ?_)
  obtain ⟨e2_, f2_, v2_, w2_, x2_⟩ := p2_
  have e2z := e2_.symm
  have f2z := f2_.symm
  subst e2z
  subst f2z
  rw [IV.2.2.1.2.1] at x2_
  obtain ⟨b0, hb0, rfl, rfl⟩ := dk_gat_p (by omega) IV.2.2.1.2.2.2.1 v2_ w2_ x2_
  obtain ⟨ga, hga, oa⟩ := Wp.own a0 ha0
  obtain ⟨gb, hgb, ob⟩ := Wp.own b0 hb0
  have ea : Z 30 a0 1 = some (ad 20 ga) := by have q := (IV.2.2.2 a0 ha0).1; rw [show mq_of I a0 = ga from by unfold mq_of; rw [oa, nI_clamp (by omega)]] at q; exact q
  have eb : Z 30 b0 1 = some (ad 20 gb) := by have q := (IV.2.2.2 b0 hb0).1; rw [show mq_of I b0 = gb from by unfold mq_of; rw [ob, nI_clamp (by omega)]] at q; exact q
  refine z_astore C dd_D_beyond_11 rfl ?_
  refine z_aload_n C dd_D_beyond_13 rfl ?_
  refine gf_D_108 (v := .ref ((Z 30 a0 1).getD 0)) C dd_D_beyond_14 (dk_rd (k := 30) (i := a0) (x := (X 30 a0)) (y := (Y 30 a0)) (z := (Z 30 a0)) hP ha0 rfl rfl rfl) rfl ?_
  refine z_topr (y := ad 20 ga) (by rw [ea]; rfl) ?_
  refine z_aload C dd_D_beyond_17 rfl ?_
  refine gf_D_108 (v := .ref ((Z 30 b0 1).getD 0)) C dd_D_beyond_19 (dk_rd (k := 30) (i := b0) (x := (X 30 b0)) (y := (Y 30 b0)) (z := (Z 30 b0)) hP hb0 rfl rfl rfl) rfl ?_
  refine z_topr (y := ad 20 gb) (by rw [eb]; rfl) ?_
  refine z_acmp_eq (rx := some (ad 20 ga)) (ry := some (ad 20 gb)) (tgt := 35) C dd_D_beyond_22 (by decide) (fun q => ?_) (fun q => ?_)
  · skip
    have eg : ga = gb := (hP.1.2 20 ga 20 gb hga hgb (Option.some.inj q)).2
    subst eg
    refine z_aload_n C dd_D_beyond_35 rfl ?_
    refine gf_D_108 (v := .ref ((Z 30 a0 1).getD 0)) C dd_D_beyond_36 (dk_rd (k := 30) (i := a0) (x := (X 30 a0)) (y := (Y 30 a0)) (z := (Z 30 a0)) hP ha0 rfl rfl rfl) rfl ?_
    refine z_topr (y := ad 20 ga) (by rw [ea]; rfl) ?_
    obtain ⟨⟨ri1, ri2, ri3, ri4, ri5⟩, ri6, ri7, ri8⟩ := IV.2.1 ga hga
    have h7i : X 20 ga 7 = 0 ∨ X 20 ga 7 = 1 := ri6.elim Or.inl (fun z => Or.inr z.1)
    refine iv_D_158 (sk := fun _ => []) (zz_f B) C dd_D_beyond_39 (cd_G_refresh l D dA B _ _ ad ng nM na no X Y Z hP.1 F I ga (oc ga) nc (mq_ar I ga) (ow ga) IV.1.1 hga ri1 ri2 IV.1.2.1 ri3 ri4 h7i) (dk_rd (k := 20) (i := ga) (x := (X 20 ga)) (y := (Y 20 ga)) (z := (Z 20 ga)) hP hga rfl rfl rfl) rfl rfl ⟨by decide, by decide⟩ (Nat.le_of_ble_eq_true rfl) ⟨by decide, by decide⟩ (fun _ => rfl) (fun _ h3_ n3_ p3_ => ?_)
    obtain ⟨rfl, p3_⟩ := p3_
    obtain ⟨Xf, Yf, Zf, r13, IVf, h7f, frf⟩ := dk_ref_ok hP.1 IV hga p3_
    have hP3_ := dk_tr hP r13
    obtain ⟨tf, K, ch⟩ := IVf.ok hga h7f
    obtain ⟨k8, hk8, ek8⟩ := K.2.2.2.1.2.2 a0 ha0 oa
    have eB : Xf 30 a0 9 = pu_B I nc nM ga (mq_ar I ga) a0 := by have q := K.B hk8; rw [ek8] at q; exact q
    have e0b : Xf 30 b0 0 = nI b0 := (IVf.1.2.1.2.2.2.2 b0 hb0).1
    refine z_aload_n C dd_D_beyond_42 rfl ?_
    refine gf_D_161 (v := .int (Xf 30 a0 9)) C dd_D_beyond_43 (dk_rd (k := 30) (i := a0) (x := (Xf 30 a0)) (y := (Yf 30 a0)) (z := (Zf 30 a0)) hP3_ ha0 rfl rfl rfl) rfl ?_
    refine z_aload C dd_D_beyond_46 rfl ?_
    refine iv_D_164 (sk := fun r => .int r :: [.int ((Xf 30 a0 9))]) (zz_f B) C dd_D_beyond_48 (cc_M_bit l D dA B _ _ _ _ _ _ _ _ _ _ _ _ _ (dk_rd (k := 30) (i := b0) (x := (Xf 30 b0)) (y := (Yf 30 b0)) (z := (Zf 30 b0)) hP3_ hb0 rfl rfl rfl)) (dk_rd (k := 30) (i := b0) (x := (Xf 30 b0)) (y := (Yf 30 b0)) (z := (Zf 30 b0)) hP3_ hb0 rfl rfl rfl) rfl rfl ⟨by decide, by decide⟩ (Nat.le_of_ble_eq_true rfl) ⟨by decide, by decide⟩ (fun _ => rfl) (fun v4_ h4_ n4_ p4_ => ?_)
    obtain ⟨f4_, e4_, p4_⟩ := p4_
    have e4z := e4_.symm
    have f4z := f4_.symm
    subst e4z
    subst f4z
    refine z_topi (y := i1 b0) (by rw [p4_, e0b]) ?_
    refine z_iand C dd_D_beyond_51 ?_
    refine z_if_eq (tgt := 59) C dd_D_beyond_52 (by decide) (fun q1 => ?_) (fun q1 => ?_)
    · skip
      refine z_iconst (v := 0) C dd_D_beyond_59 (by decide) ?_
      refine z_zretX C dd_D_beyond_60 rfl ⟨by omega, a0, b0, ga, ⟨ha0, hb0, rfl, rfl, oa, ob⟩, hga, ?_, Xf, Yf, Zf, hP3_, IVf, by rw [frf.1 0 0 (by omega)], by rw [frf.1 7 0 (by omega)]⟩ (by decide) (by decide)
      rw [← eB]
      rw [(dk_i1 (by omega)).mp q1]
      rfl
    · skip
      refine z_iconst (v := 1) C dd_D_beyond_55 (by decide) ?_
      refine z_goto (tgt := 60) C dd_D_beyond_56 (by decide) ?_
      refine z_zretX C dd_D_beyond_60 rfl ⟨by omega, a0, b0, ga, ⟨ha0, hb0, rfl, rfl, oa, ob⟩, hga, ?_, Xf, Yf, Zf, hP3_, IVf, by rw [frf.1 0 0 (by omega)], by rw [frf.1 7 0 (by omega)]⟩ (by decide) (by decide)
      rw [← eB]
      have q9 : bt (Xf 30 a0 9) b0 = true := by
        cases c9 : bt (Xf 30 a0 9) b0
        · exact absurd ((dk_i1 (by omega)).mpr c9) q1
        · rfl
      rw [q9]
      rfl
  · skip
    have eg : ¬ ga = gb := fun z => q (by rw [z])
    exact tr_IAE "methods of different generics" C hl hno (by decide +kernel) dd_D_beyond_25 dd_D_beyond_28 dd_D_beyond_29 dd_D_beyond_31 dd_D_beyond_34 (by decide) (Nat.le_of_ble_eq_true rfl) (by decide) (by decide) (by decide) (by decide) (fun n' hn => ⟨rfl, rfl, by omega, fun a b g z => by
      obtain ⟨z1, z2, z3, z4, z5, z6⟩ := z
      have ea9 : a0 = a := (nI_eq (by omega) (by omega)).mp z3
      have eb9 : b0 = b := (nI_eq (by omega) (by omega)).mp z4
      subst ea9
      subst eb9
      exact eg ((nI_eq (by omega) (by omega)).mp ((oa.symm.trans z5).trans (z6.symm.trans ob)))⟩)
abbrev rm_D_check : Room := { frames := 30, cells := 2, slots := 12, locals := 800 }
set_option maxRecDepth 20000 in
/-- check -/
theorem cd_D_check (l : Launch) (D : va_G) (dA : Nat → ClassId) (B : Nat) (h : zz_H) (n : Nat) (ad : Nat → Nat → Nat) (ng nM : Nat) (na no : Nat → Nat) (X : dk_X) (Y : dk_Y) (Z : dk_Z) (hP0 : dk_P dA ad (dk_lv ng nM na no) X Y Z h) (F : Nat → Int32) (I : mq_M) (nc : Nat) (oc : Nat → Nat) (ow : Nat → Nat → Nat) (IV : dk_IV F ad ng nM na no X Y Z I nc oc ow) (g : Int32) (hl : l.stackTraces = false) : zz_MX l D zz_cl (zz_ty dA) B zz_tb (zz_x B) yy_D_check (Cond.code yy_D_check bb_D_check 4 (some FieldType.int)) rm_D_check [.ref ((ad 0 0)), .int g] h n zz_mi (fun r h' n' => n ≤ n' ∧ ∃ g0, g0 < ng ∧ g = nI g0 ∧ ∃ X' Y' Z', dk_K dA ad (dk_lv ng nM na no) X' Y' Z' h h' ∧ dk_IV F ad ng nM na no X' Y' Z' I nc oc ow ∧ X' 7 0 = X 7 0 ∧ ((r = 0 ∧ X' 0 0 7 = 0 ∧ ∀ r9, r9 < pu_R nc (mq_ar I g0) → ¬ pu_bs I nc nM g0 (mq_ar I g0) r9 < 0) ∨ ∃ r0, r0 < pu_R nc (mq_ar I g0) ∧ (∀ r9, r9 < r0 → ¬ pu_bs I nc nM g0 (mq_ar I g0) r9 < 0) ∧ pu_bs I nc nM g0 (mq_ar I g0) r0 < 0 ∧ r = - pu_bs I nc nM g0 (mq_ar I g0) r0 ∧ X' 0 0 7 = nI (mq_ar I g0) ∧ X' 0 0 8 = nI (pu_r1 nc (mq_ar I g0) r0) ∧ X' 0 0 9 = nI (pu_r2 nc (mq_ar I g0) r0))) (fun E h' n' => E = "java/lang/IllegalArgumentException" ∧ h' = h ∧ n ≤ n' ∧ ∀ g0, g0 < ng → ¬ g = nI g0) := by
  refine zz_ofX (zz_f B) [some (.ref ((ad 0 0))), some (.int g), none, none] (by decide) rfl rfl (Nat.le_of_ble_eq_true rfl) ?_
  intro p e s m below meth c C hno
  have hP := dk_rf hP0
  have Wp := IV.1.1
  have g4 := Wp.g4
  have m12 := Wp.m12
  have h8 := Wp.c8
  have h1 := Wp.c1
  refine z_aload_n C dd_D_check_0 rfl ?_
  refine z_iload_n C dd_D_check_1 rfl ?_
  refine ix_D_92 (sk := fun r => .ref r :: []) (zz_f B) C dd_D_check_2 (cc_D_genericAt l D dA B _ _ (ad 0 0) _ _ _ _ _ _ _ _ _ _ (dk_rd (k := 0) (i := 0) (x := (X 0 0)) (y := (Y 0 0)) (z := (Z 0 0)) hP rfl rfl rfl rfl) g (Z 3 0) (dk_rd (k := 3) (i := 0) (x := (X 3 0)) (y := (Y 3 0)) (z := (Z 3 0)) hP rfl rfl rfl rfl) (fun a b => dk_gat_h g4 (by decide) IV.2.2.1.2.2.1 a (by rw [← IV.2.2.1.1]; exact b)) hl) hno (dk_rd (k := 0) (i := 0) (x := (X 0 0)) (y := (Y 0 0)) (z := (Z 0 0)) hP rfl rfl rfl rfl) rfl rfl ⟨by decide, by decide⟩ (Nat.le_of_ble_eq_true rfl) ⟨by decide, by decide⟩ (fun _ => rfl) (fun E h' n' p9 => ⟨p9.1, p9.2.1, p9.2.2.1, fun g0 z => dk_gat_n (by omega) (by rw [← IV.2.2.1.1]; exact p9.2.2.2) g0 z⟩) (by decide) (by decide) (fun a1_ h1_ n1_ p1_ => ?_)
  obtain ⟨e1_, f1_, v1_, w1_, x1_⟩ := p1_
  have e1z := e1_.symm
  have f1z := f1_.symm
  subst e1z
  subst f1z
  rw [IV.2.2.1.1] at x1_
  obtain ⟨g0, hg0, rfl, rfl⟩ := dk_gat_p (by omega) IV.2.2.1.2.2.1 v1_ w1_ x1_
  refine z_astore_n C dd_D_check_5 rfl ?_
  refine z_aload_n C dd_D_check_6 rfl ?_
  obtain ⟨⟨ri1, ri2, ri3, ri4, ri5⟩, ri6, ri7, ri8⟩ := IV.2.1 g0 hg0
  have h7i : X 20 g0 7 = 0 ∨ X 20 g0 7 = 1 := ri6.elim Or.inl (fun z => Or.inr z.1)
  refine iv_D_158 (sk := fun _ => []) (zz_f B) C dd_D_check_7 (cd_G_refresh l D dA B _ _ ad ng nM na no X Y Z hP.1 F I g0 (oc g0) nc (mq_ar I g0) (ow g0) IV.1.1 hg0 ri1 ri2 IV.1.2.1 ri3 ri4 h7i) (dk_rd (k := 20) (i := g0) (x := (X 20 g0)) (y := (Y 20 g0)) (z := (Z 20 g0)) hP hg0 rfl rfl rfl) rfl rfl ⟨by decide, by decide⟩ (Nat.le_of_ble_eq_true rfl) ⟨by decide, by decide⟩ (fun _ => rfl) (fun _ h2_ n2_ p2_ => ?_)
  obtain ⟨rfl, p2_⟩ := p2_
  obtain ⟨Xf, Yf, Zf, r12, IVf, h7f, frf⟩ := dk_ref_ok hP.1 IV hg0 p2_
  have hP2_ := dk_tr hP r12
  obtain ⟨tf, K, ch⟩ := IVf.ok hg0 h7f
  have G1 := IVf.2.1 g0 hg0
  have har2 := G1.1.2.2.2.1
  refine z_aload_n C dd_D_check_10 rfl ?_
  refine iv_D_191 (sk := fun r => .int r :: []) (zz_f B) C dd_D_check_11 (cd_G_firstFault l D dA B _ _ ad ng nM na no Xf Yf Zf hP2_.1 g0 (oc g0) nc (mq_ar I g0) (ow g0) hg0 G1.1.1 IVf.1.2.1.1.1 h8 G1.1.2.2.1 har2 ch) (dk_rd (k := 20) (i := g0) (x := (Xf 20 g0)) (y := (Yf 20 g0)) (z := (Zf 20 g0)) hP2_ hg0 rfl rfl rfl) rfl rfl ⟨by decide, by decide⟩ (Nat.le_of_ble_eq_true rfl) ⟨by decide, by decide⟩ (fun _ => rfl) (fun v3_ h3_ n3_ p3_ => ?_)
  obtain ⟨rfl, W, V, w1, w2, w3, w4⟩ := p3_
  have hP3_ := dk_tr hP2_ w1
  have IV2 := IVf.chosen hg0 h7f w2 w3
  rcases w4 with ⟨a, b, ha, hb, hq, hn9, rfl⟩ | ⟨hn9, rfl⟩
  · skip
    have hb8 : b < 8 * nc := by
      split at hb
      · exact hb
      · omega
    have hb1 : mq_ar I g0 = 1 → b = 0 := by
      intro z
      rw [if_neg (by omega)] at hb
      omega
    have ebs := K.best ha hb8 hb1
    rw [ebs] at hq
    refine z_istore_n C dd_D_check_14 rfl ?_
    refine z_iload_n C dd_D_check_15 rfl ?_
    refine z_if_ge (tgt := 26) C dd_D_check_16 (by decide) (fun q1 => ?_) (fun q1 => ?_)
    · replace q1 : 0 ≤ (a * 64 + b) := (@nI_leI 0 (a * 64 + b) (by omega) (by omega)).mp q1
      refine z_aload_n C dd_D_check_26 rfl ?_
      refine z_aload_n C dd_D_check_27 rfl ?_
      refine gf_D_112 (v := .int (W 20 g0 0)) C dd_D_check_28 (dk_rd (k := 20) (i := g0) (x := (W 20 g0)) (y := (V 20 g0)) (z := (Zf 20 g0)) hP3_ hg0 rfl rfl rfl) rfl ?_
      refine z_topi (y := nI (mq_ar I g0)) (by rw [w3.2.1 0 (by decide)]; exact G1.1.2.2.1.symm) ?_
      refine pf_D_49 C dd_D_check_31 (dk_rd (k := 0) (i := 0) (x := (W 0 0)) (y := (V 0 0)) (z := (Zf 0 0)) hP3_ rfl rfl rfl rfl) (Nat.le_of_ble_eq_true rfl) rfl rfl ?_
      refine z_cut (dk_K dA ad (dk_lv ng nM na no) (dk_is W 0 0 (upd (W 0 0) 7 (nI (mq_ar I g0)))) V Zf h) (dk_wX hP3_ rfl rfl rfl rfl) rfl rfl rfl (fun h4_ hP4_ => ?_)
      refine z_aload_n C dd_D_check_34 rfl ?_
      refine z_iload_n C dd_D_check_35 rfl ?_
      refine is_D_194 (sk := fun r => .int r :: [.ref ((ad 0 0))]) (zz_f B) C dd_D_check_36 (cc_G_firstOfRow l D dA B _ _ _) rfl rfl ⟨by decide, by decide⟩ (Nat.le_of_ble_eq_true rfl) ⟨by decide, by decide⟩ (fun _ => rfl) (fun v5_ h5_ n5_ p5_ => ?_)
      obtain ⟨f5_, e5_, p5_⟩ := p5_
      have e5z := e5_.symm
      have f5z := f5_.symm
      subst e5z
      subst f5z
      refine z_topi (y := nI a) (by rw [p5_]; exact (congrArg nI (show (a * 64 + b) / 64 = a by omega)).symm.trans (@pk_div (a * 64 + b) 64 (by omega) (by decide) (by decide)).symm) ?_
      refine pf_D_52 C dd_D_check_39 (dk_rd (k := 0) (i := 0) (x := (upd (W 0 0) 7 (nI (mq_ar I g0)))) (y := (V 0 0)) (z := (Zf 0 0)) hP4_ rfl dk_s rfl rfl) (Nat.le_of_ble_eq_true rfl) rfl rfl ?_
      refine z_cut (dk_K dA ad (dk_lv ng nM na no) (dk_is (dk_is W 0 0 (upd (W 0 0) 7 (nI (mq_ar I g0)))) 0 0 (upd (upd (W 0 0) 7 (nI (mq_ar I g0))) 8 (nI a))) V Zf h) (dk_wX hP4_ rfl rfl rfl rfl) rfl rfl rfl (fun h6_ hP6_ => ?_)
      refine z_aload_n C dd_D_check_42 rfl ?_
      refine z_iload_n C dd_D_check_43 rfl ?_
      refine is_D_197 (sk := fun r => .int r :: [.ref ((ad 0 0))]) (zz_f B) C dd_D_check_44 (cc_G_secondOfRow l D dA B _ _ _) rfl rfl ⟨by decide, by decide⟩ (Nat.le_of_ble_eq_true rfl) ⟨by decide, by decide⟩ (fun _ => rfl) (fun v7_ h7_ n7_ p7_ => ?_)
      obtain ⟨f7_, e7_, p7_⟩ := p7_
      have e7z := e7_.symm
      have f7z := f7_.symm
      subst e7z
      subst f7z
      refine z_topi (y := nI b) (by rw [p7_]; exact (congrArg nI (show (a * 64 + b) % 64 = b by omega)).symm.trans (@pk_rem (a * 64 + b) 64 (by omega) (by decide) (by decide)).symm) ?_
      refine pf_D_55 C dd_D_check_47 (dk_rd (k := 0) (i := 0) (x := (upd (upd (W 0 0) 7 (nI (mq_ar I g0))) 8 (nI a))) (y := (V 0 0)) (z := (Zf 0 0)) hP6_ rfl dk_s rfl rfl) (Nat.le_of_ble_eq_true rfl) rfl rfl ?_
      refine z_cut (dk_K dA ad (dk_lv ng nM na no) (dk_is (dk_is (dk_is W 0 0 (upd (W 0 0) 7 (nI (mq_ar I g0)))) 0 0 (upd (upd (W 0 0) 7 (nI (mq_ar I g0))) 8 (nI a))) 0 0 (upd (upd (upd (W 0 0) 7 (nI (mq_ar I g0))) 8 (nI a)) 9 (nI b))) V Zf h) (dk_wX hP6_ rfl rfl rfl rfl) rfl rfl rfl (fun h8_ hP8_ => ?_)
      refine z_aload_n C dd_D_check_50 rfl ?_
      refine z_aload_n C dd_D_check_51 rfl ?_
      refine gf_D_174 (v := .ref ((ad 26 g0))) C dd_D_check_52 (dk_rd (k := 20) (i := g0) (x := (W 20 g0)) (y := (V 20 g0)) (z := (Zf 20 g0)) hP8_ hg0 rfl rfl rfl) rfl ?_
      refine z_aload_n C dd_D_check_55 rfl ?_
      refine gf_D_52 (v := .int (nI a)) C dd_D_check_56 (dk_rd (k := 0) (i := 0) (x := (upd (upd (upd (W 0 0) 7 (nI (mq_ar I g0))) 8 (nI a)) 9 (nI b))) (y := (V 0 0)) (z := (Zf 0 0)) hP8_ rfl dk_s rfl rfl) rfl ?_
      refine z_aload_n C dd_D_check_59 rfl ?_
      refine gf_D_55 (v := .int (nI b)) C dd_D_check_60 (dk_rd (k := 0) (i := 0) (x := (upd (upd (upd (W 0 0) 7 (nI (mq_ar I g0))) 8 (nI a)) 9 (nI b))) (y := (V 0 0)) (z := (Zf 0 0)) hP8_ rfl dk_s rfl rfl) rfl ?_
      refine iv_D_181 (sk := fun r => .long r :: [.ref ((ad 20 g0))]) (zz_f B) C dd_D_check_63 (cd_F_ofRow l D dA B _ _ ad ng nM na no (dk_is (dk_is (dk_is W 0 0 (upd (W 0 0) 7 (nI (mq_ar I g0)))) 0 0 (upd (upd (W 0 0) 7 (nI (mq_ar I g0))) 8 (nI a))) 0 0 (upd (upd (upd (W 0 0) 7 (nI (mq_ar I g0))) 8 (nI a)) 9 (nI b))) V Zf hP8_.1 g0 a b hg0 (by omega) (by omega)) (dk_rd (k := 26) (i := g0) hP8_ hg0 rfl rfl rfl) rfl rfl ⟨by decide, by decide⟩ (Nat.le_of_ble_eq_true rfl) ⟨by decide, by decide⟩ (fun _ => rfl) (fun v9_ h9_ n9_ p9_ => ?_)
      obtain ⟨f9_, e9_, p9_⟩ := p9_
      have e9z := e9_.symm
      have f9z := f9_.symm
      subst e9z
      subst f9z
      have q9_ := p9_.symm
      subst q9_
      rw [dk_ii, dk_ii] at hP8_
      have IV3 := IV2.wit (f := (upd (upd (upd (W 0 0) 7 (nI (mq_ar I g0))) 8 (nI a)) 9 (nI b))) rfl rfl
      refine iv_D_187 (sk := fun r => .int r :: []) (zz_f B) C dd_D_check_66 (cd_G_choose l D dA B _ _ ad ng nM na no (dk_is W 0 0 (upd (upd (upd (W 0 0) 7 (nI (mq_ar I g0))) 8 (nI a)) 9 (nI b))) V Zf hP8_.1 g0 (oc g0) (ow g0) (dk_of V g0 a b) hg0 (IV3.2.1 g0 hg0).1.1 (dk_ch_X w2 (fun i => rfl) rfl)) (dk_rd (k := 20) (i := g0) hP8_ hg0 rfl rfl rfl) rfl rfl ⟨by decide, by decide⟩ (Nat.le_of_ble_eq_true rfl) ⟨by decide, by decide⟩ (fun _ => rfl) (fun v10_ h10_ n10_ p10_ => ?_)
      obtain ⟨rfl, q9, X3, Y3, y1, y2, y3⟩ := p10_
      have hP10_ := dk_tr hP8_ y1
      replace q9 : v10_ = pu_bs I nc nM g0 (mq_ar I g0) (pu_rw nc (mq_ar I g0) a b) := by
        rw [q9, dk_f2_of w3, dk_f2_ap w3]
        refine Eq.trans (dk_pk_cg (X := W) ?_) ((dk_f2_pk w3 _ _ _).trans ebs)
        exact fun i => rfl
      have q9z := q9.symm
      subst q9z
      have IV4 := IV3.chosen hg0 (show W 20 g0 7 = 1 by rw [w3.2.1 7 (by decide)]; exact h7f) y2 y3
      have x00 : X3 0 0 = (upd (upd (upd (W 0 0) 7 (nI (mq_ar I g0))) 8 (nI a)) 9 (nI b)) := by rw [y3.1 0 0 (by omega), dk_s]
      refine z_iconst (v := (-1)) C dd_D_check_69 (by decide) ?_
      refine z_icmp_ne (tgt := 77) C dd_D_check_70 (by decide) (fun q2 => ?_) (fun q2 => ?_)
      · skip
        refine z_iconst (v := 2) C dd_D_check_77 (by decide) ?_
        refine z_iretX C dd_D_check_78 ⟨by omega, g0, hg0, rfl, X3, Y3, Zf, hP10_, IV4, ?_, Or.inr ⟨pu_rw nc (mq_ar I g0) a b, pu_rw_lt ha hb8, fun r9 h9 => ?_, hq, ?_, ?_, ?_, ?_⟩⟩ (by decide) (by decide)
        · rw [y3.1 7 0 (by omega)]
          show W 7 0 = X 7 0
          rw [w3.1 7 0 (by omega), frf.1 7 0 (by omega)]
        · have q := hn9 (pu_r1 nc (mq_ar I g0) r9) (pu_r2 nc (mq_ar I g0) r9) (dk_lex har2 h1 hb h9)
          rw [K.bq (Nat.lt_trans h9 (pu_rw_lt ha hb8))] at q
          exact q
        · rcases dk_neg2 m12 hq with z | z
          · exact absurd z q2
          · rw [show pu_bs I nc nM g0 (mq_ar I g0) (pu_rw nc (mq_ar I g0) a b) = -2 from z]; rfl
        · rw [x00]; rfl
        · rw [x00, pu_r1_rw hb8]; rfl
        · rw [x00, pu_r2_rw hb8 hb1]; rfl
      · skip
        refine z_iconst (v := 1) C dd_D_check_73 (by decide) ?_
        refine z_goto (tgt := 78) C dd_D_check_74 (by decide) ?_
        refine z_iretX C dd_D_check_78 ⟨by omega, g0, hg0, rfl, X3, Y3, Zf, hP10_, IV4, ?_, Or.inr ⟨pu_rw nc (mq_ar I g0) a b, pu_rw_lt ha hb8, fun r9 h9 => ?_, hq, ?_, ?_, ?_, ?_⟩⟩ (by decide) (by decide)
        · rw [y3.1 7 0 (by omega)]
          show W 7 0 = X 7 0
          rw [w3.1 7 0 (by omega), frf.1 7 0 (by omega)]
        · have q := hn9 (pu_r1 nc (mq_ar I g0) r9) (pu_r2 nc (mq_ar I g0) r9) (dk_lex har2 h1 hb h9)
          rw [K.bq (Nat.lt_trans h9 (pu_rw_lt ha hb8))] at q
          exact q
        · rw [q2]; rfl
        · rw [x00]; rfl
        · rw [x00, pu_r1_rw hb8]; rfl
        · rw [x00, pu_r2_rw hb8 hb1]; rfl
    · replace q1 : ¬ 0 ≤ (a * 64 + b) := fun z => q1 ((@nI_leI 0 (a * 64 + b) (by omega) (by omega)).mpr z)
      omega
  · skip
    refine z_istore_n C dd_D_check_14 rfl ?_
    refine z_iload_n C dd_D_check_15 rfl ?_
    refine z_if_ge (tgt := 26) C dd_D_check_16 (by decide) (fun q3 => absurd q3 (by decide)) (fun q3 => ?_)
    refine z_aload_n C dd_D_check_19 rfl ?_
    refine z_iconst (v := 0) C dd_D_check_20 (by decide) ?_
    refine pf_D_49 C dd_D_check_21 (dk_rd (k := 0) (i := 0) (x := (W 0 0)) (y := (V 0 0)) (z := (Zf 0 0)) hP3_ rfl rfl rfl rfl) (Nat.le_of_ble_eq_true rfl) rfl rfl ?_
    refine z_cut (dk_K dA ad (dk_lv ng nM na no) (dk_is W 0 0 (upd (W 0 0) 7 0)) V Zf h) (dk_wX hP3_ rfl rfl rfl rfl) rfl rfl rfl (fun h11_ hP11_ => ?_)
    refine z_iconst (v := 0) C dd_D_check_24 (by decide) ?_
    refine z_iretX C dd_D_check_25 ⟨by omega, g0, hg0, rfl, _, V, Zf, hP11_, IV2.wit rfl rfl, ?_, Or.inl ⟨rfl, ?_, fun r9 h9 => ?_⟩⟩ (by decide) (by decide)
    · show W 7 0 = X 7 0
      rw [w3.1 7 0 (by omega), frf.1 7 0 (by omega)]
    · rw [dk_s]; exact pk_us
    · have q := hn9 (pu_r1 nc (mq_ar I g0) r9) (pu_r2 nc (mq_ar I g0) r9) (Or.inl ⟨pu_r1_lt h9, by
        split
        · exact pu_r2_lt h1
        · rw [show pu_r2 nc (mq_ar I g0) r9 = 0 from if_pos (by omega)]; decide⟩)
      rw [K.bq h9] at q
      exact q
abbrev rm_D_compile : Room := { frames := 60, cells := 2, slots := 12, locals := 2000 }
set_option maxRecDepth 20000 in
/-- compile -/
theorem cd_D_compile (l : Launch) (D : va_G) (dA : Nat → ClassId) (B : Nat) (h : zz_H) (n : Nat) (ad : Nat → Nat → Nat) (ng nM : Nat) (na no : Nat → Nat) (X : dk_X) (Y : dk_Y) (Z : dk_Z) (hP0 : dk_P dA ad (dk_lv ng nM na no) X Y Z h) (F : Nat → Int32) (I : mq_M) (nc : Nat) (oc : Nat → Nat) (ow : Nat → Nat → Nat) (IV : dk_IV F ad ng nM na no X Y Z I nc oc ow) (g : Int32) (hl : l.stackTraces = false) : zz_MX l D zz_cl (zz_ty dA) B zz_tb (zz_x B) yy_D_compile (Cond.code yy_D_compile bb_D_compile 3 (some FieldType.int)) rm_D_compile [.ref ((ad 0 0)), .int g] h n zz_mi (fun r h' n' => n ≤ n' ∧ ∃ g0, g0 < ng ∧ g = nI g0 ∧ ¬ (dk_tr9 I nc nM g0 (mq_ar I g0)).2 = -1 ∧ r = nI (dk_trG I nc nM g0 (mq_ar I g0)).length ∧ ∃ Xf Yf Zf X' Y', dk_IV F ad ng nM na no Xf Yf Zf I nc oc ow ∧ Xf 20 g0 7 = 1 ∧ dk_fr X Xf Z Zf ∧ dk_K dA ad (dk_lv ng nM na no) X' Y' Zf h h' ∧ dk_gr X' g0 (dk_trG I nc nM g0 (mq_ar I g0)) ∧ dk_fb g0 Xf X' Yf Y' ∧ dk_ch X' Y' (ow g0) g0 (oc g0)) (fun E h' n' => n ≤ n' ∧ ((E = "java/lang/IllegalArgumentException" ∧ h' = h ∧ ∀ g0, g0 < ng → ¬ g = nI g0) ∨ (E = "java/lang/IllegalStateException" ∧ ∃ g0, g0 < ng ∧ g = nI g0 ∧ (dk_tr9 I nc nM g0 (mq_ar I g0)).2 = -1 ∧ ∃ Xf Yf Zf X' Y', dk_IV F ad ng nM na no Xf Yf Zf I nc oc ow ∧ Xf 20 g0 7 = 1 ∧ dk_fr X Xf Z Zf ∧ dk_K dA ad (dk_lv ng nM na no) X' Y' Zf h h' ∧ dk_gr X' g0 (dk_trG I nc nM g0 (mq_ar I g0)) ∧ dk_fb g0 Xf X' Yf Y' ∧ dk_ch X' Y' (ow g0) g0 (oc g0)))) := by
  refine zz_ofX (zz_f B) [some (.ref ((ad 0 0))), some (.int g), none] (by decide) rfl rfl (Nat.le_of_ble_eq_true rfl) ?_
  intro p e s m below meth c C hno
  have hP := dk_rf hP0
  have Wp := IV.1.1
  have g4 := Wp.g4
  have m12 := Wp.m12
  have h8 := Wp.c8
  have h1 := Wp.c1
  refine z_aload_n C dd_D_compile_0 rfl ?_
  refine z_iload_n C dd_D_compile_1 rfl ?_
  refine ix_D_92 (sk := fun r => .ref r :: []) (zz_f B) C dd_D_compile_2 (cc_D_genericAt l D dA B _ _ (ad 0 0) _ _ _ _ _ _ _ _ _ _ (dk_rd (k := 0) (i := 0) (x := (X 0 0)) (y := (Y 0 0)) (z := (Z 0 0)) hP rfl rfl rfl rfl) g (Z 3 0) (dk_rd (k := 3) (i := 0) (x := (X 3 0)) (y := (Y 3 0)) (z := (Z 3 0)) hP rfl rfl rfl rfl) (fun a b => dk_gat_h g4 (by decide) IV.2.2.1.2.2.1 a (by rw [← IV.2.2.1.1]; exact b)) hl) hno (dk_rd (k := 0) (i := 0) (x := (X 0 0)) (y := (Y 0 0)) (z := (Z 0 0)) hP rfl rfl rfl rfl) rfl rfl ⟨by decide, by decide⟩ (Nat.le_of_ble_eq_true rfl) ⟨by decide, by decide⟩ (fun _ => rfl) (fun E h' n' p9 => ⟨p9.2.2.1, Or.inl ⟨p9.1, p9.2.1, fun g0 z => dk_gat_n (by omega) (by rw [← IV.2.2.1.1]; exact p9.2.2.2) g0 z⟩⟩) (by decide) (by decide) (fun a1_ h1_ n1_ p1_ => ?_)
  obtain ⟨e1_, f1_, v1_, w1_, x1_⟩ := p1_
  have e1z := e1_.symm
  have f1z := f1_.symm
  subst e1z
  subst f1z
  rw [IV.2.2.1.1] at x1_
  obtain ⟨g0, hg0, rfl, rfl⟩ := dk_gat_p (by omega) IV.2.2.1.2.2.1 v1_ w1_ x1_
  refine z_astore_n C dd_D_compile_5 rfl ?_
  refine z_aload_n C dd_D_compile_6 rfl ?_
  obtain ⟨⟨ri1, ri2, ri3, ri4, ri5⟩, ri6, ri7, ri8⟩ := IV.2.1 g0 hg0
  have h7i : X 20 g0 7 = 0 ∨ X 20 g0 7 = 1 := ri6.elim Or.inl (fun z => Or.inr z.1)
  refine iv_D_158 (sk := fun _ => []) (zz_f B) C dd_D_compile_7 (cd_G_refresh l D dA B _ _ ad ng nM na no X Y Z hP.1 F I g0 (oc g0) nc (mq_ar I g0) (ow g0) IV.1.1 hg0 ri1 ri2 IV.1.2.1 ri3 ri4 h7i) (dk_rd (k := 20) (i := g0) (x := (X 20 g0)) (y := (Y 20 g0)) (z := (Z 20 g0)) hP hg0 rfl rfl rfl) rfl rfl ⟨by decide, by decide⟩ (Nat.le_of_ble_eq_true rfl) ⟨by decide, by decide⟩ (fun _ => rfl) (fun _ h2_ n2_ p2_ => ?_)
  obtain ⟨rfl, p2_⟩ := p2_
  obtain ⟨Xf, Yf, Zf, r12, IVf, h7f, frf⟩ := dk_ref_ok hP.1 IV hg0 p2_
  have hP2_ := dk_tr hP r12
  obtain ⟨tf, K, ch⟩ := IVf.ok hg0 h7f
  have G1 := IVf.2.1 g0 hg0
  have har2 := G1.1.2.2.2.1
  refine z_aload_n C dd_D_compile_10 rfl ?_
  refine gf_D_38 (v := .ref ((ad 5 0))) C dd_D_compile_11 (dk_rd (k := 0) (i := 0) (x := (Xf 0 0)) (y := (Yf 0 0)) (z := (Zf 0 0)) hP2_ rfl rfl rfl rfl) rfl ?_
  refine z_aload_n C dd_D_compile_14 rfl ?_
  refine iv_D_205 (sk := fun r => .int r :: []) (zz_f B) C dd_D_compile_15 (cd_B_build l D dA B _ _ ad ng nM na no Xf Yf Zf hP2_.1 F I g0 (oc g0) nc (mq_ar I g0) (ow g0) tf hg0 G1.1.1 K G1.1.2.2.1 ch) (dk_rd (k := 5) (i := 0) (x := (Xf 5 0)) (y := (Yf 5 0)) (z := (Zf 5 0)) hP2_ rfl rfl rfl rfl) rfl rfl ⟨by decide, by decide⟩ (Nat.le_of_ble_eq_true rfl) ⟨by decide, by decide⟩ (fun _ => rfl) (fun v3_ h3_ n3_ p3_ => ?_)
  obtain ⟨rfl, q9, X3, Y3, y1, y2, y3, y4⟩ := p3_
  have hP3_ := dk_tr hP2_ y1
  have q9z := q9.symm
  subst q9z
  refine z_if_ne (tgt := 31) C dd_D_compile_18 (by decide) (fun q1 => ?_) (fun q1 => ?_)
  · skip
    refine z_aload_n C dd_D_compile_31 rfl ?_
    refine gf_D_211 (v := .ref ((ad 21 g0))) C dd_D_compile_32 (dk_rd (k := 20) (i := g0) (x := (X3 20 g0)) (y := (Y3 20 g0)) (z := (Zf 20 g0)) hP3_ hg0 rfl rfl rfl) rfl ?_
    refine iv_D_215 (sk := fun r => .int r :: []) (zz_f B) C dd_D_compile_35 (cc_R_size l D dA B _ _ _ _ _ _ _ (dk_rd (k := 21) (i := g0) (x := (X3 21 g0)) (y := (Y3 21 g0)) (z := (Zf 21 g0)) hP3_ hg0 rfl rfl rfl)) (dk_rd (k := 21) (i := g0) (x := (X3 21 g0)) (y := (Y3 21 g0)) (z := (Zf 21 g0)) hP3_ hg0 rfl rfl rfl) rfl rfl ⟨by decide, by decide⟩ (Nat.le_of_ble_eq_true rfl) ⟨by decide, by decide⟩ (fun _ => rfl) (fun v4_ h4_ n4_ p4_ => ?_)
    obtain ⟨f4_, e4_, p4_⟩ := p4_
    have e4z := e4_.symm
    have f4z := f4_.symm
    subst e4z
    subst f4z
    have qq := pu_bn1.mp q1
    simp at qq
    exact z_iretX C dd_D_compile_38 ⟨by omega, g0, hg0, rfl, qq, p4_.trans y2.2.1, Xf, Yf, Zf, X3, Y3, IVf, h7f, frf, hP3_, y2, y3, y4⟩ (by decide) (by decide)
  · skip
    exact tr_ISE "the graph is too large" C hl hno (by decide +kernel) dd_D_compile_21 dd_D_compile_24 dd_D_compile_25 dd_D_compile_27 dd_D_compile_30 (by decide) (Nat.le_of_ble_eq_true rfl) (by decide) (by decide) (by decide) (by decide) (fun n' hn => ⟨by omega, Or.inr ⟨rfl, g0, hg0, rfl, (by have qq := (pu_b0 _).mp q1; simpa using qq), Xf, Yf, Zf, X3, Y3, IVf, h7f, frf, hP3_, y2, y3, y4⟩⟩)
