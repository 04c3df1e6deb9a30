section DRN
variable {F : Nat → Int32} {ad : Nat → Nat → Nat} {ng nM : Nat} {na no : Nat → Nat} {X X' : dk_X} {Y Y' : dk_Y} {Z Z' : dk_Z} {I : mq_M} {nc : Nat} {oc : Nat → Nat} {ow : Nat → Nat → Nat}
theorem dk_IV.run (V : dk_IV F ad ng nM na no X Y Z I nc oc ow) (hX : ∀ k i, ¬ k = 20 → ¬ k = 7 → ¬ k = 9 → ¬ k = 10 → X' k i = X k i) (p20 : ∀ i p, p < 8 → X' 20 i p = X 20 i p) (hY : ∀ k i, ¬ k = 20 → Y' k i = Y k i) (hZ : ∀ k i, ¬ k = 7 → ¬ k = 9 → Z' k i = Z k i) (ch : ∀ g, g < ng → X' 20 g 7 = 1 → dk_ch X' Y' (ow g) g (oc g)) : dk_IV F ad ng nM na no X' Y' Z' I nc oc ow := by
  obtain ⟨⟨v1, v2, v3⟩, v4, ⟨v5, v6, v7, v8, v9⟩, v10⟩ := V
  refine ⟨⟨v1, ?_, v3⟩, fun g9 hg9 => ?_, ⟨?_, ?_, ?_, ?_, ?_⟩, fun m hm => ?_⟩
  · obtain ⟨b1, b2, b3, b4, b5⟩ := v2
    refine ⟨dk_hi_cg b1 (hX 1 0 (by decide) (by decide) (by decide) (by decide)) (hX 2 0 (by decide) (by decide) (by decide) (by decide)), b2, b3, b4, fun m hm => ?_⟩
    obtain ⟨c1, c2, c3, c4, c5⟩ := b5 m hm
    rw [hX 30 m (by decide) (by decide) (by decide) (by decide), hZ 31 m (by decide) (by decide)]
    exact ⟨c1, c2, c3, c4, fun k hk => ⟨(c5 k hk).1, dk_ao_cg (c5 k hk).2.1 (hX 33 _ (by decide) (by decide) (by decide) (by decide)) rfl rfl rfl, by rw [hX 33 _ (by decide) (by decide) (by decide) (by decide)]; exact (c5 k hk).2.2⟩⟩
  · obtain ⟨⟨g1, g2, g3, g5, g6⟩, g7, g8, g9'⟩ := v4 g9 hg9
    refine ⟨⟨?_, g2, by rw [p20 g9 0 (by decide)]; exact g3, g5, by rw [p20 g9 6 (by decide)]; exact g6⟩, ?_, ?_, fun hne => ⟨by rw [p20 g9 7 (by decide)]; exact (g9' hne).1, (g9' hne).2⟩⟩
    · obtain ⟨o1, o2, o3, o4⟩ := g1
      refine ⟨by rw [p20 g9 5 (by decide)]; exact o1, o2, o3, fun k hk => ?_⟩
      rw [hX 30 _ (by decide) (by decide) (by decide) (by decide), hZ 25 g9 (by decide) (by decide)]
      exact o4 k hk
    · have c9 := ch g9 hg9
      rw [p20 g9 7 (by decide)] at c9 ⊢
      rcases g7 with z | ⟨z1, ⟨tf9, z2⟩, z3⟩
      · exact Or.inl z
      · exact Or.inr ⟨z1, ⟨tf9, dk_FR_cg z2 (hX 26 g9 (by decide) (by decide) (by decide) (by decide)) (fun i => hX 33 i (by decide) (by decide) (by decide) (by decide)) (fun k hk => hX 30 _ (by decide) (by decide) (by decide) (by decide)) (p20 g9 6 (by decide)) (hY 26 g9 (by decide)) (hY 28 g9 (by decide)) (hY 29 g9 (by decide)) (fun k hk => hY 30 _ (by decide)) (hZ 27 g9 (by decide) (by decide))⟩, c9 z1⟩
    · unfold dk_gr
      rw [hX 21 g9 (by decide) (by decide) (by decide) (by decide), hX 22 g9 (by decide) (by decide) (by decide) (by decide), hX 23 g9 (by decide) (by decide) (by decide) (by decide), hX 24 g9 (by decide) (by decide) (by decide) (by decide)]
      exact g8
  · rw [hX 0 0 (by decide) (by decide) (by decide) (by decide)]; exact v5
  · rw [hX 0 0 (by decide) (by decide) (by decide) (by decide)]; exact v6
  · rw [hZ 3 0 (by decide) (by decide)]; exact v7
  · rw [hZ 4 0 (by decide) (by decide)]; exact v8
  · rw [hZ 8 0 (by decide) (by decide)]; exact v9
  · obtain ⟨m1, m2, m3, m4, m5⟩ := v10 m hm
    rw [hX 30 m (by decide) (by decide) (by decide) (by decide), hZ 30 m (by decide) (by decide), hZ 32 m (by decide) (by decide)]
    refine ⟨m1, m2, m3, m4, fun k hk => ?_⟩
    rw [hX 34 _ (by decide) (by decide) (by decide) (by decide)]
    exact m5 k hk
/-- with all generics fresh a run may begin -/
theorem dk_IV.rw (V : dk_IV F ad ng nM na no X Y Z I nc oc ow) (h7 : ∀ g, g < ng → X 20 g 7 = 1) (z2 : Z 7 0 2 = some (ad 3 0)) (z3 : Z 7 0 3 = some (ad 4 0)) : ∃ TF, dk_RW F ad ng nM na no X Y Z I nc oc ow TF := by
  have hex : ∀ g, ∃ tf, g < ng → dk_OK F ad ng nM na no X Y Z I g nc (mq_ar I g) (oc g) (ow g) tf ∧ dk_ch X Y (ow g) g (oc g) := by
    intro g
    by_cases c : g < ng
    · obtain ⟨tf, K, ch⟩ := V.ok c (h7 g c)
      exact ⟨tf, fun _ => ⟨K, ch⟩⟩
    · exact ⟨fun _ => 0, fun z => absurd z c⟩
  refine ⟨fun g => Classical.choose (hex g), fun g hg => ?_, ⟨V.2.2.1.2.2.1, V.2.2.1.2.2.2.1, V.2.2.1.2.2.2.2, z2, z3⟩, V.2.2.2, V.1.1, V.1.2.2⟩
  obtain ⟨K, ch⟩ := Classical.choose_spec (hex g) hg
  obtain ⟨⟨g1, g2, g3, g5, g6⟩, g7, g8, g9'⟩ := V.2.1 g hg
  refine ⟨g1, K, g3, g8, ch, fun hne => ?_⟩
  obtain ⟨n1, n2, n3, n4, n5, n6⟩ := g9' hne
  refine ⟨n2, n3, n4, fun t ht x y => ?_⟩
  obtain ⟨u1, u2, u3⟩ := n5 t ht
  unfold pu_qz
  rw [u1, u2, u3, pu_g3_lo 0 (by omega)]
end DRN
abbrev rm_D_run : Room := { frames := 80, cells := 4, slots := 24, locals := 2800 }
set_option maxRecDepth 20000 in
theorem lp_D_run {D : va_G} {dA : Nat → ClassId} {B : Nat} {p : Program} {l : Launch} {e : Env} {s : State} {m : MethodId} {args : Array Value} {below : List Frame} {meth : Method} {c : Code} {Q : State → Prop} {n : Nat} {nm : String} {ret9 : Option FieldType} {h : zz_H} (C : zz_C D zz_cl (zz_ty dA) B zz_tb (zz_x B) p s m args meth c bb_D_run RR_D ret9 nm) {ad : Nat → Nat → Nat} {ng nM : Nat} {na no : Nat → Nat} {X : dk_X} {Y : dk_Y} {Z : dk_Z} {F : Nat → Int32} {I : mq_M} {nc : Nat} {oc : Nat → Nat} {ow : Nat → Nat → Nat} {g0 cc ss : Nat} {g x y f9 : Int32} (hcc : cc ≤ 4) (hss : ss ≤ 24) (g4 : ng ≤ 4) (kx : ∀ X1 Y1 Z1 h', (dk_K dA ad (dk_lv ng nM na no) X1 Y1 Z1 h h' ∧ dk_IV F ad ng nM na no X1 Y1 Z1 I nc oc ow ∧ (∀ g9, g9 < ng → X1 20 g9 7 = 1) ∧ X1 0 0 = X 0 0) → zz_W D zz_cl B p l e rm_D_run s m args below meth c Q h' n cc ss [some (.ref (ad 0 0)), some (.int g), some (.int x), some (.int y), some (.int f9), some (.ref (ad 20 g0)), some (.int (nI ng))] 79 []) :
    ∀ f k X1 Y1 Z1 h9, k + f = ng → (dk_K dA ad (dk_lv ng nM na no) X1 Y1 Z1 h h9 ∧ dk_IV F ad ng nM na no X1 Y1 Z1 I nc oc ow ∧ (∀ g9, g9 < k → X1 20 g9 7 = 1) ∧ X1 0 0 = X 0 0) → zz_W D zz_cl B p l e rm_D_run s m args below meth c Q h9 n cc ss [some (.ref (ad 0 0)), some (.int g), some (.int x), some (.int y), some (.int f9), some (.ref (ad 20 g0)), some (.int (nI k))] 54 [] := by
  intro f
  induction f with
  | zero =>
    intro k X1 Y1 Z1 h9 hkf J
    have hk9 : k = ng := by omega
    subst hk9
    have J9 := J
    obtain ⟨hP, IV1, h7a, x00⟩ := J9
    have e2 : X1 0 0 2 = nI k := IV1.2.2.1.1
    refine z_iload C dd_D_run_54 rfl ?_
    refine z_aload_n C dd_D_run_56 rfl ?_
    refine gf_D_22 (v := .int (X1 0 0 2)) C dd_D_run_57 (dk_rd (k := 0) (i := 0) (x := (X1 0 0)) (y := (Y1 0 0)) (z := (Z1 0 0)) hP rfl rfl rfl rfl) rfl ?_
    refine z_topi (y := nI k) e2.symm ?_
    refine z_icmp_ge (tgt := 79) C dd_D_run_60 (by decide) (fun q1 => ?_) (fun q1 => absurd (Int32.le_refl _) q1)
    exact kx X1 Y1 Z1 h9 J
  | succ f ih =>
    intro k X1 Y1 Z1 h9 hkf J
    obtain ⟨hP, IV1, h7a, x00⟩ := J
    have hk : k < ng := by omega
    have e2 : X1 0 0 2 = nI ng := IV1.2.2.1.1
    refine z_iload C dd_D_run_54 rfl ?_
    refine z_aload_n C dd_D_run_56 rfl ?_
    refine gf_D_22 (v := .int (X1 0 0 2)) C dd_D_run_57 (dk_rd (k := 0) (i := 0) (x := (X1 0 0)) (y := (Y1 0 0)) (z := (Z1 0 0)) hP rfl rfl rfl rfl) rfl ?_
    refine z_topi (y := nI ng) e2.symm ?_
    refine z_icmp_ge (tgt := 79) C dd_D_run_60 (by decide) (fun q1 => ?_) (fun q1 => ?_)
    · replace q1 : ng ≤ k := (@nI_leI ng k (by omega) (by omega)).mp q1
      omega
    · replace q1 : ¬ ng ≤ k := fun z => q1 ((@nI_leI ng k (by omega) (by omega)).mpr z)
      refine z_aload_n C dd_D_run_63 rfl ?_
      refine gf_D_18 (v := .ref ((ad 3 0))) C dd_D_run_64 (dk_rd (k := 0) (i := 0) (x := (X1 0 0)) (y := (Y1 0 0)) (z := (Z1 0 0)) hP rfl rfl rfl rfl) rfl ?_
      refine z_iload C dd_D_run_67 rfl ?_
      refine z_aald (t0 := 3) (N := 4) (f := (Z1 3 0)) C rfl dd_D_run_69 (dk_rd (k := 3) (i := 0) (x := (X1 3 0)) (y := (Y1 3 0)) (z := (Z1 3 0)) hP rfl rfl rfl rfl) (vp_in_nI (by omega) (by decide)) ?_
      refine z_topr (y := ad 20 k) (by rw [nI_clamp (by omega), IV1.2.2.1.2.2.1 k hk]; rfl) ?_
      obtain ⟨⟨ri1, ri2, ri3, ri4, ri5⟩, ri6, ri7, ri8⟩ := IV1.2.1 k hk
      have h7i : X1 20 k 7 = 0 ∨ X1 20 k 7 = 1 := ri6.elim Or.inl (fun z => Or.inr z.1)
      refine iv_D_158 (sk := fun _ => []) (zz_f B) C dd_D_run_70 (cd_G_refresh l D dA B _ _ ad ng nM na no X1 Y1 Z1 hP.1 F I k (oc k) nc (mq_ar I k) (ow k) IV1.1.1 hk ri1 ri2 IV1.1.2.1 ri3 ri4 h7i) (dk_rd (k := 20) (i := k) (x := (X1 20 k)) (y := (Y1 20 k)) (z := (Z1 20 k)) hP hk rfl rfl rfl) rfl rfl ⟨by decide, by decide⟩ (Nat.le_of_ble_eq_true rfl) ⟨hcc, hss⟩ (fun _ => rfl) (fun _ h1_ n1_ p1_ => ?_)
      obtain ⟨rfl, p1_⟩ := p1_
      obtain ⟨Xf, Yf, Zf, r11, IVf, h7f, frf⟩ := dk_ref_ok hP.1 IV1 hk p1_
      have hP1_ := dk_tr hP r11
      refine z_iincN C dd_D_run_73 rfl rfl ?_
      refine z_goto (tgt := 54) C dd_D_run_76 (by decide) ?_
      refine ih (k + 1) Xf Yf Zf _ (by omega) ⟨hP1_, IVf, fun g9 h9 => ?_, by rw [frf.1 0 0 (by omega)]; exact x00⟩
      by_cases c9 : g9 = k
      · rw [c9]; exact h7f
      · exact frf.2.2.2.2 g9 (h7a g9 (by omega))
set_option maxRecDepth 20000 in
/-- run -/
theorem cd_D_run (l : Launch) (D : va_G) (dA : Nat → ClassId) (B : Nat) (h : zz_H) (n : Nat) (ad : Nat → Nat → Nat) (ng nM : Nat) (na no : Nat → Nat) (X : dk_X) (Y : dk_Y) (Z : dk_Z) (hP0 : dk_P dA ad (dk_lv ng nM na no) X Y Z h) (F : Nat → Int32) (I : mq_M) (nc : Nat) (oc : Nat → Nat) (ow : Nat → Nat → Nat) (IV : dk_IV F ad ng nM na no X Y Z I nc oc ow) (g x y f9 : Int32) (hl : l.stackTraces = false) : zz_MX l D zz_cl (zz_ty dA) B zz_tb (zz_x B) yy_D_run (Cond.code yy_D_run bb_D_run 7 (some FieldType.int)) rm_D_run [.ref ((ad 0 0)), .int g, .int x, .int y, .int f9] h n zz_mi (fun r h' n' => n ≤ n' ∧ ∃ g9 ar x9 y9 f8, (pu_row I nc ng g x y g9 ar x9 y9 ∧ f8 ≤ 200 ∧ f9 = nI f8) ∧ ∃ X' Y' Z', dk_K dA ad (dk_lv ng nM na no) X' Y' Z' h h' ∧ dk_IV F ad ng nM na no X' Y' Z' I nc oc ow ∧ X' 0 0 = X 0 0 ∧ dk_rs I nc nM (mq_enter (mq_ch I nc nM g9 x9 y9) x9 y9 f8 0 [] 0) [] r X') (fun E h' n' => E = "java/lang/IllegalArgumentException" ∧ h' = h ∧ n ≤ n' ∧ ∀ g9 ar x9 y9 f8, ¬ (pu_row I nc ng g x y g9 ar x9 y9 ∧ f8 ≤ 200 ∧ f9 = nI f8)) := by
  refine zz_ofX (zz_f B) [some (.ref ((ad 0 0))), some (.int g), some (.int x), some (.int y), some (.int f9), none, none] (by decide) rfl rfl (Nat.le_of_ble_eq_true rfl) ?_
  intro p e s m below meth c C hno
  have hP := dk_rf hP0
  have Wp := IV.1.1
  have g4 := Wp.g4
  have m12 := Wp.m12
  have h8 := Wp.c8
  have h1 := Wp.c1
  refine z_aload_n C dd_D_run_0 rfl ?_
  refine z_iload_n C dd_D_run_1 rfl ?_
  refine ix_D_92 (sk := fun r => .ref r :: []) (zz_f B) C dd_D_run_2 (cc_D_genericAt l D dA B _ _ (ad 0 0) _ _ _ _ _ _ _ _ _ _ (dk_rd (k := 0) (i := 0) (x := (X 0 0)) (y := (Y 0 0)) (z := (Z 0 0)) hP rfl rfl rfl rfl) g (Z 3 0) (dk_rd (k := 3) (i := 0) (x := (X 3 0)) (y := (Y 3 0)) (z := (Z 3 0)) hP rfl rfl rfl rfl) (fun a b => dk_gat_h g4 (by decide) IV.2.2.1.2.2.1 a (by rw [← IV.2.2.1.1]; exact b)) hl) hno (dk_rd (k := 0) (i := 0) (x := (X 0 0)) (y := (Y 0 0)) (z := (Z 0 0)) hP rfl rfl rfl rfl) rfl rfl ⟨by decide, by decide⟩ (Nat.le_of_ble_eq_true rfl) ⟨by decide, by decide⟩ (fun _ => rfl) (fun E h' n' p9 => ⟨p9.1, p9.2.1, p9.2.2.1, fun g9 ar x9 y9 f8 z => dk_gat_n (by omega) (by rw [← IV.2.2.1.1]; exact p9.2.2.2) g9 z.1.1 z.1.2.1⟩) (by decide) (by decide) (fun a1_ h1_ n1_ p1_ => ?_)
  obtain ⟨e1_, f1_, v1_, w1_, x1_⟩ := p1_
  have e1z := e1_.symm
  have f1z := f1_.symm
  subst e1z
  subst f1z
  rw [IV.2.2.1.1] at x1_
  obtain ⟨g0, hg0, rfl, rfl⟩ := dk_gat_p (by omega) IV.2.2.1.2.2.1 v1_ w1_ x1_
  have G0 := IV.2.1 g0 hg0
  obtain ⟨ar, har2, har⟩ := Wp.ar g0 hg0
  have ear : mq_ar I g0 = ar := by unfold mq_ar; rw [har, nI_clamp (by omega)]
  refine z_astore C dd_D_run_5 rfl ?_
  refine z_aload_n C dd_D_run_7 rfl ?_
  refine z_aload C dd_D_run_8 rfl ?_
  refine z_iload_n C dd_D_run_10 rfl ?_
  refine z_iload_n C dd_D_run_11 rfl ?_
  refine iv_D_168 (sk := fun r => .int r :: []) (zz_f B) C dd_D_run_12 (cd_D_isRow l D dA B _ _ ad ng nM na no X Y Z hP.1 nc g0 ar hg0 h8 IV.1.2.1.1.1 (by rw [G0.1.2.2.1, ear]) har2 x y) (dk_rd (k := 0) (i := 0) (x := (X 0 0)) (y := (Y 0 0)) (z := (Z 0 0)) hP rfl rfl rfl rfl) rfl rfl ⟨by decide, by decide⟩ (Nat.le_of_ble_eq_true rfl) ⟨by decide, by decide⟩ (fun _ => rfl) (fun v2_ h2_ n2_ p2_ => ?_)
  obtain ⟨f2_, e2_, p2_⟩ := p2_
  have e2z := e2_.symm
  have f2z := f2_.symm
  subst e2z
  subst f2z
  have q2_ := p2_.symm
  subst q2_
  refine z_if_ne (tgt := 28) C dd_D_run_15 (by decide) (fun q1 => ?_) (fun q1 => ?_)
  · skip
    refine z_iload C dd_D_run_28 rfl ?_
    refine z_if_lt (tgt := 41) C dd_D_run_30 (by decide) (fun q2 => ?_) (fun q2 => ?_)
    · skip
      exact tr_IAE "no such fuel" C hl hno (by decide +kernel) dd_D_run_41 dd_D_run_44 dd_D_run_45 dd_D_run_47 dd_D_run_50 (by decide) (Nat.le_of_ble_eq_true rfl) (by decide) (by decide) (by decide) (by decide) (fun n' hn => ⟨rfl, rfl, by omega, fun g9 ar9 x9 y9 f8 z => by have hz := z.2.1; exact absurd (z.2.2 ▸ q2) (nI_pos (by omega))⟩)
    · skip
      refine z_iload C dd_D_run_33 rfl ?_
      refine z_sipush (v := 200) C dd_D_run_35 (by decide) ?_
      refine z_icmp_le (tgt := 51) C dd_D_run_38 (by decide) (fun q3 => ?_) (fun q3 => ?_)
      · skip
        refine z_iconst (v := 0) C dd_D_run_51 (by decide) ?_
        refine z_istore C dd_D_run_52 rfl ?_
        obtain ⟨x0, y0, hx0, rfl, hy⟩ := (pu_ir_t h1 h8 har2).mp (pu_bn1.mp q1)
        obtain ⟨f0, hf0, rfl⟩ := nI_of q2
        have hf2 : f0 ≤ 200 := (@nI_leI f0 200 (by omega) (by omega)).mp q3
        refine lp_D_run (h := h) (X := X) (Y := Y) (Z := Z) C (by decide) (by decide) g4 (fun X1 Y1 Z1 h' J => ?_) ng 0 X Y Z _ (by omega) ⟨hP, IV, fun g9 h9 => absurd h9 (by omega), rfl⟩
        obtain ⟨hPa, IVa, h7a, x00⟩ := J
        refine z_aload_n C dd_D_run_79 rfl ?_
        refine gf_D_45 (v := .ref ((ad 7 0))) C dd_D_run_80 (dk_rd (k := 0) (i := 0) (x := (X1 0 0)) (y := (Y1 0 0)) (z := (Z1 0 0)) hPa rfl rfl rfl rfl) rfl ?_
        refine z_aload_n C dd_D_run_83 rfl ?_
        refine gf_D_18 (v := .ref ((ad 3 0))) C dd_D_run_84 (dk_rd (k := 0) (i := 0) (x := (X1 0 0)) (y := (Y1 0 0)) (z := (Z1 0 0)) hPa rfl rfl rfl rfl) rfl ?_
        refine z_aload_n C dd_D_run_87 rfl ?_
        refine gf_D_28 (v := .ref ((ad 4 0))) C dd_D_run_88 (dk_rd (k := 0) (i := 0) (x := (X1 0 0)) (y := (Y1 0 0)) (z := (Z1 0 0)) hPa rfl rfl rfl rfl) rfl ?_
        refine z_iload C dd_D_run_91 rfl ?_
        refine iv_D_236 (sk := fun _ => []) (zz_f B) C dd_D_run_93 (cd_N_load l D dA B _ _ ad ng nM na no X1 Y1 Z1 hPa.1 (nI f0)) (dk_rd (k := 7) (i := 0) (x := (X1 7 0)) (y := (Y1 7 0)) (z := (Z1 7 0)) hPa rfl rfl rfl rfl) rfl rfl ⟨by decide, by decide⟩ (Nat.le_of_ble_eq_true rfl) ⟨by decide, by decide⟩ (fun _ => rfl) (fun _ h3_ n3_ p3_ => ?_)
        obtain ⟨rfl, p3_⟩ := p3_
        have hP3_ := dk_tr hPa p3_
        have IVb : dk_IV F ad ng nM na no (dk_is X1 7 0 (upd (upd (X1 7 0) 0 (nI f0)) 1 0)) Y1 (dk_is Z1 7 0 (va_up (va_up (Z1 7 0) 2 (some (ad 3 0))) 3 (some (ad 4 0)))) I nc oc ow := IVa.run (fun k9 i9 _ c2 _ _ => dk_n (fun z => c2 z.1)) (fun _ _ _ => rfl) (fun _ _ _ => rfl) (fun k9 i9 c2 _ => dk_n (fun z => c2 z.1)) (fun g9 h9 _ => by obtain ⟨_, _, ch⟩ := IVa.ok h9 (h7a g9 h9); exact dk_ch_X ch (fun i => rfl) rfl)
        obtain ⟨TF, RWb⟩ := IVb.rw (fun g9 h9 => h7a g9 h9) (by rw [dk_s]; rfl) (by rw [dk_s]; rfl)
        have G1 := IVa.2.1 g0 hg0
        refine z_aload_n C dd_D_run_96 rfl ?_
        refine gf_D_45 (v := .ref ((ad 7 0))) C dd_D_run_97 (dk_rd (k := 0) (i := 0) (x := (X1 0 0)) (y := (Y1 0 0)) (z := (Z1 0 0)) hP3_ rfl rfl rfl rfl) rfl ?_
        refine z_aload C dd_D_run_100 rfl ?_
        refine z_iload_n C dd_D_run_102 rfl ?_
        refine z_aload C dd_D_run_103 rfl ?_
        refine z_iload_n C dd_D_run_105 rfl ?_
        refine iv_D_178 (sk := fun r => .int r :: [.int ((nI x0)), .ref ((ad 20 g0)), .ref ((ad 7 0))]) (zz_f B) C dd_D_run_106 (cc_G_secondOrNone l D dA B _ _ _ _ _ _ _ _ _ _ _ _ _ _ (dk_rd (k := 20) (i := g0) (x := (X1 20 g0)) (y := (Y1 20 g0)) (z := (Z1 20 g0)) hP3_ hg0 rfl rfl rfl) y) (dk_rd (k := 20) (i := g0) (x := (X1 20 g0)) (y := (Y1 20 g0)) (z := (Z1 20 g0)) hP3_ hg0 rfl rfl rfl) rfl rfl ⟨by decide, by decide⟩ (Nat.le_of_ble_eq_true rfl) ⟨by decide, by decide⟩ (fun _ => rfl) (fun v4_ h4_ n4_ p4_ => ?_)
        obtain ⟨f4_, e4_, p4_⟩ := p4_
        have e4z := e4_.symm
        have f4z := f4_.symm
        subst e4z
        subst f4z
        have ey : v4_ = nI y0 := by
          have e20 : X1 20 g0 0 = nI ar := by rw [G1.1.2.2.1, ear]
          rw [e20] at p4_
          rcases har2 with rfl | rfl
          · rcases p4_ with ⟨_, z⟩ | ⟨z, _⟩
            · rw [z, hy.2.1 rfl]; rfl
            · exact absurd z (by decide)
          · rcases p4_ with ⟨z, _⟩ | ⟨_, z⟩
            · exact absurd (by decide) z
            · rw [z]; exact hy.2.2 rfl
        have eyz := ey.symm
        subst eyz
        refine z_iconst (v := 0) C dd_D_run_109 (by decide) ?_
        refine iv_D_240 (sk := fun r => .int r :: []) (zz_f B) C dd_D_run_110 ((cd_N_calls l D dA B F ad ng nM na no I nc oc ow TF 8).1 _ _ (dk_is X1 7 0 (upd (upd (X1 7 0) 0 (nI f0)) 1 0)) Y1 (dk_is Z1 7 0 (va_up (va_up (Z1 7 0) 2 (some (ad 3 0))) 3 (some (ad 4 0)))) [] g0 x0 y0 f0 0 0 hP3_.1 RWb rfl hg0 hx0 hy.1 (by rw [ear]; exact hy.2.1) (by rw [dk_s]; rfl) hf2 (by rw [dk_s]; rfl)) (dk_rd (k := 7) (i := 0) (x := (upd (upd (X1 7 0) 0 (nI f0)) 1 0)) (y := (Y1 7 0)) (z := (va_up (va_up (Z1 7 0) 2 (some (ad 3 0))) 3 (some (ad 4 0)))) hP3_ rfl dk_s rfl dk_s) rfl rfl ⟨by decide, by decide⟩ (Nat.le_of_ble_eq_true rfl) ⟨by decide, by decide⟩ (fun _ => rfl) (fun v5_ h5_ n5_ p5_ => ?_)
        obtain ⟨rfl, X8, Y8, Z8, u1, u2, u3, u4⟩ := p5_
        exact z_iretX C dd_D_run_113 ⟨by omega, g0, ar, x0, y0, f0, ⟨⟨hg0, rfl, har2, har, hx0, rfl, hy⟩, hf2, rfl⟩, X8, Y8, Z8, dk_tr hP3_ u1, IVb.run (fun k9 i9 c1 c2 c3 c4 => u2.1 k9 i9 c1 c2 (by omega)) u2.2.1 u2.2.2.1 (fun k9 i9 c1 c2 => u2.2.2.2 k9 i9 (by omega)) (fun g9 h9 _ => u3 g9 h9), (u2.1 0 0 (by decide) (by decide) (by omega)).trans x00, u4⟩ (by decide) (by decide)
      · skip
        exact tr_IAE "no such fuel" C hl hno (by decide +kernel) dd_D_run_41 dd_D_run_44 dd_D_run_45 dd_D_run_47 dd_D_run_50 (by decide) (Nat.le_of_ble_eq_true rfl) (by decide) (by decide) (by decide) (by decide) (fun n' hn => ⟨rfl, rfl, by omega, fun g9 ar9 x9 y9 f8 z => by have hz := z.2.1; exact absurd ((@nI_leI f8 200 (by omega) (by omega)).mpr z.2.1) (z.2.2 ▸ q3)⟩)
  · skip
    exact tr_IAE "no such value" C hl hno (by decide +kernel) dd_D_run_18 dd_D_run_21 dd_D_run_22 dd_D_run_24 dd_D_run_27 (by decide) (Nat.le_of_ble_eq_true rfl) (by decide) (by decide) (by decide) (by decide) (fun n' hn => ⟨rfl, rfl, by omega, fun g9 ar9 x9 y9 f8 z => pu_norow Wp hg0 har har2 ((pu_b0 _).mp q1) g9 ar9 x9 y9 z.1⟩)
