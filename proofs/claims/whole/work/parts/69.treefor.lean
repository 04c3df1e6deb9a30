abbrev rm_B_treeFor (k : Nat) : Room := { frames := 8 + k, cells := 0, slots := 0, locals := 300 + 40 * k }
set_option maxRecDepth 20000 in
/-- treeFor: k levels are left -/
theorem cd_B_treeFor (l : Launch) (D : va_G) (dA : Nat → ClassId) (B : Nat) (ad : Nat → Nat → Nat) (ng nM : Nat) (na no : Nat → Nat) (g : Nat) (hg : g < ng) {rv : Nat → Int64} {pas : Nat → Nat → Bool} {be : Nat → Int32} {hb : Int32 → Nat → Bool} {T : Nat} {Pp : Nat → Prop} (V : dk_vo rv pas be hb T Pp) (det : ∀ r q, Pp r → Pp q → (∀ i, i < T → pas r i = pas q i) → be r = be q) (mu : List Nat → Nat) (hmu : ∀ S t0, (∀ r, r ∈ S → Pp r) → t0 < T → tg_sep pas S t0 = true → mu (S.filter fun r => pas r t0) < mu S ∧ mu (S.filter fun r => !pas r t0) < mu S) :
    ∀ (k : Nat) (h : zz_H) (n : Nat) (X : dk_X) (Y : dk_Y) (Z : dk_Z) (f t dep fu : Nat) (S : List Nat) (G : List tg_N), dk_P dA ad (dk_lv ng nM na no) X Y Z h → dep + k = 31 → f < t → t ≤ 4096 → (∀ r, r ∈ S → Pp r) → dk_sg (Y 6 0) f t S rv → tg_sc pas T S < fu → mu S + dep ≤ 30 → dk_gr X g G →
      zz_M l D zz_cl (zz_ty dA) B zz_tb (zz_x B) yy_B_treeFor (Cond.code yy_B_treeFor bb_B_treeFor 11 (some FieldType.int)) (rm_B_treeFor k) [.ref (ad 5 0), .ref (ad 21 g), .int (nI f), .int (nI t), .int (nI dep)] h n zz_mi (fun r h' n' => n' = n ∧ r = (tg_tree pas be T fu S G).2 ∧ ∃ X' y', dk_K dA ad (dk_lv ng nM na no) X' (dk_is Y 6 0 y') Z h h' ∧ dk_gr X' g (tg_tree pas be T fu S G).1 ∧ dk_f8 g X X' ∧ ∀ j, (j < f ∨ t ≤ j) → y' j = Y 6 0 j) := by
  intro k
  induction k with
  | zero =>
    intro h n X Y Z f t dep fu S G hP0 hd hft ht hS sg hfu hm GR
    exact absurd hd (by omega)
  | succ k ih =>
    intro h n X Y Z f t dep fu S G hP0 hd hft ht hS sg hfu hm GR
    obtain ⟨fu, rfl⟩ : ∃ f9, fu = f9 + 1 := ⟨fu - 1, by omega⟩
    obtain ⟨r0, S, rfl⟩ : ∃ r0 S9, S = r0 :: S9 := by
      obtain ⟨r, r1, _⟩ := sg.1 f (Nat.le_refl _) hft
      cases S with
      | nil => cases r1
      | cons r0 S9 => exact ⟨r0, S9, rfl⟩
    refine zz_ofW (zz_f B) [some (.ref (ad 5 0)), some (.ref (ad 21 g)), some (.int (nI f)), some (.int (nI t)), some (.int (nI dep)), none, none, none, none, none, none] (by decide) rfl rfl (Nat.le_of_ble_eq_true rfl) ?_
    intro p e s m below meth c C
    have hP := dk_rf hP0
    have hTl := V.1
    refine z_iload C dd_B_treeFor_0 rfl ?_
    refine z_bipush (v := 30) C dd_B_treeFor_2 (by decide) ?_
    refine z_icmp_le (tgt := 9) C dd_B_treeFor_4 (by decide) (fun q1 => ?_) (fun q1 => ?_)
    · replace q1 : dep ≤ 30 := (@nI_leI dep 30 (by omega) (by omega)).mp q1
      refine z_aload_n C dd_B_treeFor_9 rfl ?_
      refine z_iload_n C dd_B_treeFor_10 rfl ?_
      refine z_iload_n C dd_B_treeFor_11 rfl ?_
      refine iv_B_57 (sk := fun r => .long r :: []) (zz_f B) C dd_B_treeFor_12 (cd_B_differing l D dA B _ _ ad ng nM na no X Y Z hP.1 f t (by omega) ht) (dk_rd (k := 5) (i := 0) (x := (X 5 0)) (y := (Y 5 0)) (z := (Z 5 0)) hP rfl rfl rfl rfl) rfl rfl (by refine ⟨?_, ?_⟩ <;> dsimp only [rm_B_treeFor, rm_B_differing, rm_R_leafFor, rm_J_ntz, rm_B_bringForward, rm_R_nodeFor] <;> omega) (Nat.le_of_ble_eq_true rfl) ⟨Nat.le_refl _, Nat.le_refl _⟩ (fun _ => rfl) (fun v1_ h1_ n1_ p1_ => ?_)
      obtain ⟨f1_, e1_, p1_⟩ := p1_
      have e1z := e1_.symm
      have f1z := f1_.symm
      subst e1z
      subst f1z
      have q1_ := p1_.symm
      subst q1_
      refine z_lstore C dd_B_treeFor_15 rfl ?_
      refine z_lload C dd_B_treeFor_17 rfl ?_
      refine z_bipush (v := 48) C dd_B_treeFor_19 (by decide) ?_
      refine z_lushr C dd_B_treeFor_21 ?_
      refine z_topl (y := l48 (dk_df (Y 6 0) f t)) rfl ?_
      refine z_lconst (v := 0) C dd_B_treeFor_22 (by decide) ?_
      refine z_lcmp C dd_B_treeFor_23 ?_
      refine z_if_ne (tgt := 45) C dd_B_treeFor_24 (by decide) (fun q2 => ?_) (fun q2 => ?_)
      · skip
        refine z_lload C dd_B_treeFor_45 rfl ?_
        have h1 : ¬ tg_one be (r0 :: S) = true := fun z => q2 ((pu_lcmp _ _).mpr ((dk_one V hS sg (by omega)).mpr z))
        obtain ⟨t0, k1, k2, k3, k4, k5⟩ := dk_first V hS sg (by omega) det h1
        obtain ⟨m1, m2⟩ := hmu _ t0 hS k1 k3
        obtain ⟨s1, s2⟩ := tg_sc_lt (T := T) k1 k3
        rw [tg_tree_split h1 k2]
        refine is_B_64 (sk := fun r => .int r :: []) (zz_f B) C dd_B_treeFor_47 (cd_J_ntz l D dA B _ _ (dk_df (Y 6 0) f t) t0 (by omega) k4 k5) rfl rfl (by refine ⟨?_, ?_⟩ <;> dsimp only [rm_B_treeFor, rm_B_differing, rm_R_leafFor, rm_J_ntz, rm_B_bringForward, rm_R_nodeFor] <;> omega) (Nat.le_of_ble_eq_true rfl) ⟨Nat.le_refl _, Nat.le_refl _⟩ (fun _ => rfl) (fun v2_ h2_ n2_ p2_ => ?_)
        obtain ⟨f2_, e2_, p2_⟩ := p2_
        have e2z := e2_.symm
        have f2z := f2_.symm
        subst e2z
        subst f2z
        have q2_ := p2_.symm
        subst q2_
        refine z_istore C dd_B_treeFor_50 rfl ?_
        refine z_aload_n C dd_B_treeFor_52 rfl ?_
        refine z_iload_n C dd_B_treeFor_53 rfl ?_
        refine z_iload_n C dd_B_treeFor_54 rfl ?_
        refine z_lconst (v := 1) C dd_B_treeFor_55 (by decide) ?_
        refine z_iload C dd_B_treeFor_56 rfl ?_
        refine z_lshl C dd_B_treeFor_58 ?_
        refine z_topl (y := lg1 t0) rfl ?_
        refine iv_B_69 (sk := fun r => .int r :: []) (zz_f B) C dd_B_treeFor_59 (cd_B_bringForward l D dA B _ _ ad ng nM na no X Y Z hP.1 f t (lg1 t0) (by omega) ht) (dk_rd (k := 5) (i := 0) (x := (X 5 0)) (y := (Y 5 0)) (z := (Z 5 0)) hP rfl rfl rfl rfl) rfl rfl (by refine ⟨?_, ?_⟩ <;> dsimp only [rm_B_treeFor, rm_B_differing, rm_R_leafFor, rm_J_ntz, rm_B_bringForward, rm_R_nodeFor] <;> omega) (Nat.le_of_ble_eq_true rfl) ⟨Nat.le_refl _, Nat.le_refl _⟩ (fun _ => rfl) (fun v3_ h3_ n3_ p3_ => ?_)
        obtain ⟨rfl, y2, mi, rfl, w1, bf⟩ := p3_
        have hP3_ := dk_tr hP w1
        obtain ⟨g1, g2⟩ := dk_split V hS sg k1 bf
        have bm := bf.1
        have hfm : f < mi := by
          unfold tg_sep at k3
          rw [Bool.and_eq_true, List.any_eq_true, List.any_eq_true] at k3
          obtain ⟨⟨r, r1, r2⟩, _⟩ := k3
          obtain ⟨j, j1, j2, _⟩ := g1.2 r (List.mem_filter.mpr ⟨r1, r2⟩)
          omega
        have hmt : mi < t := by
          unfold tg_sep at k3
          rw [Bool.and_eq_true, List.any_eq_true, List.any_eq_true] at k3
          obtain ⟨_, r, r1, r2⟩ := k3
          obtain ⟨j, j1, j2, _⟩ := g2.2 r (List.mem_filter.mpr ⟨r1, r2⟩)
          omega
        refine z_istore C dd_B_treeFor_62 rfl ?_
        refine z_aload_n C dd_B_treeFor_64 rfl ?_
        refine z_aload_n C dd_B_treeFor_65 rfl ?_
        refine z_iload_n C dd_B_treeFor_66 rfl ?_
        refine z_iload C dd_B_treeFor_67 rfl ?_
        refine z_iload C dd_B_treeFor_69 rfl ?_
        refine z_iconst (v := 1) C dd_B_treeFor_71 (by decide) ?_
        refine z_iadd C dd_B_treeFor_72 ?_
        refine z_topi (y := nI (dep + 1)) (by first | exact (nI_add _ _).symm | (rw [← nI_add]; rfl)) ?_
        refine iv_B_34 (sk := fun r => .int r :: []) (zz_f B) C dd_B_treeFor_73 (ih _ _ X (dk_is Y 6 0 y2) Z f mi (dep + 1) fu _ G hP3_.1 (by omega) hfm (by omega) (fun r hr => hS r (List.mem_filter.mp hr).1) g1 (by omega) (by omega) GR) (dk_rd (k := 5) (i := 0) (x := (X 5 0)) (y := (Y 5 0)) (z := (Z 5 0)) hP3_ rfl rfl rfl rfl) rfl rfl (by refine ⟨?_, ?_⟩ <;> dsimp only [rm_B_treeFor, rm_B_differing, rm_R_leafFor, rm_J_ntz, rm_B_bringForward, rm_R_nodeFor] <;> omega) (Nat.le_of_ble_eq_true rfl) ⟨Nat.le_refl _, Nat.le_refl _⟩ (fun _ => rfl) (fun v4_ h4_ n4_ p4_ => ?_)
        obtain ⟨rfl, q1, X1, y3, u1, u2, u3, u4⟩ := p4_
        have q1z := q1.symm
        subst q1z
        rw [dk_ii] at u1
        have hP4_ := dk_tr hP3_ u1
        have u4b : ∀ j, (j < f ∨ mi ≤ j) → y3 j = y2 j := u4
        refine z_istore C dd_B_treeFor_76 rfl ?_
        refine z_iload C dd_B_treeFor_78 rfl ?_
        refine z_iconst (v := (-1)) C dd_B_treeFor_80 (by decide) ?_
        refine z_icmp_ne (tgt := 86) C dd_B_treeFor_81 (by decide) (fun q3 => ?_) (fun q3 => ?_)
        · skip
          refine z_aload_n C dd_B_treeFor_86 rfl ?_
          refine z_aload_n C dd_B_treeFor_87 rfl ?_
          refine z_iload C dd_B_treeFor_88 rfl ?_
          refine z_iload_n C dd_B_treeFor_90 rfl ?_
          refine z_iload C dd_B_treeFor_91 rfl ?_
          refine z_iconst (v := 1) C dd_B_treeFor_93 (by decide) ?_
          refine z_iadd C dd_B_treeFor_94 ?_
          refine z_topi (y := nI (dep + 1)) (by first | exact (nI_add _ _).symm | (rw [← nI_add]; rfl)) ?_
          have g3 : dk_sg (dk_is Y 6 0 y3 6 0) mi t ((r0 :: S).filter fun r => !pas r t0) rv := by
            rw [dk_s]
            refine ⟨fun j h1 h2 => ?_, fun r hr => ?_⟩
            · rw [u4b j (by omega)]; exact g2.1 j h1 h2
            · obtain ⟨j, j1, j2, j3⟩ := g2.2 r hr
              exact ⟨j, j1, j2, by rw [u4b j (by omega)]; exact j3⟩
          refine iv_B_34 (sk := fun r => .int r :: []) (zz_f B) C dd_B_treeFor_95 (ih _ _ X1 (dk_is Y 6 0 y3) Z mi t (dep + 1) fu _ _ hP4_.1 (by omega) hmt ht (fun r hr => hS r (List.mem_filter.mp hr).1) g3 (by omega) (by omega) u2) (dk_rd (k := 5) (i := 0) (x := (X1 5 0)) (y := (Y 5 0)) (z := (Z 5 0)) hP4_ rfl rfl rfl rfl) rfl rfl (by refine ⟨?_, ?_⟩ <;> dsimp only [rm_B_treeFor, rm_B_differing, rm_R_leafFor, rm_J_ntz, rm_B_bringForward, rm_R_nodeFor] <;> omega) (Nat.le_of_ble_eq_true rfl) ⟨Nat.le_refl _, Nat.le_refl _⟩ (fun _ => rfl) (fun v5_ h5_ n5_ p5_ => ?_)
          obtain ⟨rfl, q2, X2, y4, x1, x2, x3, x4⟩ := p5_
          have q2z := q2.symm
          subst q2z
          rw [dk_ii] at x1
          have hP5_ := dk_tr hP4_ x1
          have x4b : ∀ j, (j < mi ∨ t ≤ j) → y4 j = y3 j := x4
          refine z_istore C dd_B_treeFor_98 rfl ?_
          refine z_iload C dd_B_treeFor_100 rfl ?_
          refine z_iconst (v := (-1)) C dd_B_treeFor_102 (by decide) ?_
          refine z_icmp_ne (tgt := 108) C dd_B_treeFor_103 (by decide) (fun q4 => ?_) (fun q4 => ?_)
          · skip
            refine z_aload_n C dd_B_treeFor_108 rfl ?_
            refine z_iload C dd_B_treeFor_109 rfl ?_
            refine z_iload C dd_B_treeFor_111 rfl ?_
            refine z_iload C dd_B_treeFor_113 rfl ?_
            refine iv_B_73 (sk := fun r => .int r :: []) (zz_f B) C dd_B_treeFor_115 (cd_R_nodeFor l D dA B _ _ ad ng nM na no X2 _ Z hP5_.1 g (tg_tree pas be T fu ((r0 :: S).filter fun r => !pas r t0) (tg_tree pas be T fu ((r0 :: S).filter fun r => pas r t0) G).1).1 (nI t0) (tg_tree pas be T fu ((r0 :: S).filter fun r => pas r t0) G).2 (tg_tree pas be T fu ((r0 :: S).filter fun r => !pas r t0) (tg_tree pas be T fu ((r0 :: S).filter fun r => pas r t0) G).1).2 hg x2) (dk_rd (k := 21) (i := g) (x := (X2 21 g)) (y := (Y 21 g)) (z := (Z 21 g)) hP5_ hg rfl rfl rfl) rfl rfl (by refine ⟨?_, ?_⟩ <;> dsimp only [rm_B_treeFor, rm_B_differing, rm_R_leafFor, rm_J_ntz, rm_B_bringForward, rm_R_nodeFor] <;> omega) (Nat.le_of_ble_eq_true rfl) ⟨Nat.le_refl _, Nat.le_refl _⟩ (fun _ => rfl) (fun v6_ h6_ n6_ p6_ => ?_)
            obtain ⟨rfl, q9, X', w1, w2, w3⟩ := p6_
            rw [if_neg q3, if_neg q4]
            exact z_iret C dd_B_treeFor_118 ⟨rfl, q9, X', y4, dk_tr hP5_ w1, w2, dk_f8_tr u3 (dk_f8_tr x3 w3), fun j hj => (x4b j (by omega)).trans ((u4b j (by omega)).trans (bf.2.1 j hj))⟩ (Nat.zero_le _) (Nat.zero_le _)
          · skip
            refine z_iconst (v := (-1)) C dd_B_treeFor_106 (by decide) ?_
            rw [if_neg q3, if_pos q4]
            exact z_iret C dd_B_treeFor_107 ⟨rfl, rfl, X2, y4, hP5_, x2, dk_f8_tr u3 x3, fun j hj => (x4b j (by omega)).trans ((u4b j (by omega)).trans (bf.2.1 j hj))⟩ (Nat.zero_le _) (Nat.zero_le _)
        · skip
          refine z_iconst (v := (-1)) C dd_B_treeFor_84 (by decide) ?_
          rw [if_pos q3]
          exact z_iret C dd_B_treeFor_85 ⟨rfl, rfl, X1, y3, hP4_, u2, u3, fun j hj => (u4b j (by omega)).trans (bf.2.1 j hj)⟩ (Nat.zero_le _) (Nat.zero_le _)
      · skip
        refine z_aload_n C dd_B_treeFor_27 rfl ?_
        refine z_aload_n C dd_B_treeFor_28 rfl ?_
        refine gf_B_13 (v := .ref ((ad 6 0))) C dd_B_treeFor_29 (dk_rd (k := 5) (i := 0) (x := (X 5 0)) (y := (Y 5 0)) (z := (Z 5 0)) hP rfl rfl rfl rfl) rfl ?_
        refine z_iload_n C dd_B_treeFor_32 rfl ?_
        refine z_lald (t0 := 1) (N := 4096) (f := (Y 6 0)) C rfl dd_B_treeFor_33 (dk_rd (k := 6) (i := 0) (x := (X 6 0)) (y := (Y 6 0)) (z := (Z 6 0)) hP rfl rfl rfl rfl) (vp_in_nI (by omega) (by decide)) ?_
        refine z_topl (y := ((Y 6 0) f)) (by rw [nI_clamp (by omega)]) ?_
        refine z_bipush (v := 48) C dd_B_treeFor_34 (by decide) ?_
        refine z_lushr C dd_B_treeFor_36 ?_
        refine z_topl (y := l48 ((Y 6 0) f)) rfl ?_
        refine z_l2i C dd_B_treeFor_37 ?_
        refine z_bipush (v := (-2)) C dd_B_treeFor_38 (by decide) ?_
        refine z_iadd C dd_B_treeFor_40 ?_
        have h1 := (dk_one V hS sg (by omega)).mp ((pu_lcmp _ _).mp q2)
        have e9 := dk_leaf V hS sg hft h1 (List.mem_cons_self (a := r0) (l := S))
        refine z_topi (y := be r0) e9.symm ?_
        refine iv_B_60 (sk := fun r => .int r :: []) (zz_f B) C dd_B_treeFor_41 (cd_R_leafFor l D dA B _ _ ad ng nM na no X Y Z hP.1 g G (be r0) hg GR) (dk_rd (k := 21) (i := g) (x := (X 21 g)) (y := (Y 21 g)) (z := (Z 21 g)) hP hg rfl rfl rfl) rfl rfl (by refine ⟨?_, ?_⟩ <;> dsimp only [rm_B_treeFor, rm_B_differing, rm_R_leafFor, rm_J_ntz, rm_B_bringForward, rm_R_nodeFor] <;> omega) (Nat.le_of_ble_eq_true rfl) ⟨Nat.le_refl _, Nat.le_refl _⟩ (fun _ => rfl) (fun v7_ h7_ n7_ p7_ => ?_)
        obtain ⟨rfl, q9, X', w1, w2, w3⟩ := p7_
        rw [tg_tree_leaf h1]
        exact z_iret C dd_B_treeFor_44 ⟨rfl, q9, X', Y 6 0, dk_eY (dk_tr hP w1) dk_id.symm, w2, w3, fun _ _ => rfl⟩ (Nat.zero_le _) (Nat.zero_le _)
    · replace q1 : ¬ dep ≤ 30 := fun z => q1 ((@nI_leI dep 30 (by omega) (by omega)).mpr z)
      omega
