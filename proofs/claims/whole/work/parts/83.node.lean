theorem mq_G_at {I : mq_M} {g k : Nat} (hk : k < (mq_G I g).length) : (mq_G I g)[k]? = some (I 15 (80 * g + k), I 16 (80 * g + k), I 17 (80 * g + k)) := by
  unfold mq_G at hk ⊢
  simp at hk
  simp [hk]
theorem dk_iv2 {x : Int32} : pu_iv x 0 (nI 2) = true ↔ ∃ w, w < 3 ∧ x = nI w := by
  have e : (nI 2 : Int32) = nI 3 - 1 := by decide
  rw [e, pu_iv_0 (by decide)]
theorem dk_ivn {x : Int32} {N : Nat} (hN : N < 2 ^ 30) (h : x < 0 ∨ ¬ x < nI N) : pu_iv x 0 (nI N - 1) = false := by
  cases c : pu_iv x 0 (nI N - 1)
  · rfl
  · obtain ⟨k, h1, h2⟩ := (pu_iv_0 hN).mp c
    exact absurd h2 (dk_gat_n (by omega) h k h1)
theorem dk_iv2n {x : Int32} (h : x < 0 ∨ ¬ x ≤ 2) : pu_iv x 0 (nI 2) = false := by
  cases c : pu_iv x 0 (nI 2)
  · rfl
  · obtain ⟨k, h1, rfl⟩ := dk_iv2.mp c
    rcases h with z | z
    · exact absurd z (nI_pos (by omega))
    · exact absurd ((@nI_leI k 2 (by omega) (by omega)).mpr (by omega)) z
theorem dk_iv2y {x : Int32} (h1 : ¬ x < 0) (h2 : x ≤ 2) : ∃ w, w < 3 ∧ x = nI w := by
  obtain ⟨j, hj, rfl⟩ := nI_of h1
  exact ⟨j, by have := (@nI_leI j 2 (by omega) (by omega)).mp h2; omega, rfl⟩
abbrev rm_D_compiledAt : Room := { frames := 10, cells := 2, slots := 12, locals := 200 }
set_option maxRecDepth 20000 in
/-- compiledAt -/
theorem cd_D_compiledAt (l : Launch) (D : va_G) (dA : Nat → ClassId) (B : Nat) (h : zz_H) (n : Nat) (ad : Nat → Nat → Nat) (ng nM : Nat) (na no : Nat → Nat) (X : dk_X) (Y : dk_Y) (Z : dk_Z) (hP0 : dk_P dA ad (dk_lv ng nM na no) X Y Z h) (F : Nat → Int32) (I : mq_M) (nc : Nat) (oc : Nat → Nat) (ow : Nat → Nat → Nat) (IV : dk_IV F ad ng nM na no X Y Z I nc oc ow) (x z : Int32) (hl : l.stackTraces = false) : zz_MX l D zz_cl (zz_ty dA) B zz_tb (zz_x B) yy_D_compiledAt (Cond.code yy_D_compiledAt bb_D_compiledAt 4 (some (FieldType.object "DispatchDesk$Generic"))) rm_D_compiledAt [.ref ((ad 0 0)), .int x, .int z] h n zz_mr (fun a h' n' => h' = h ∧ n ≤ n' ∧ ∃ g9 w9, (g9 < ng ∧ x = nI g9 ∧ w9 < 3 ∧ z = nI w9) ∧ ¬ (mq_G I g9).length = 0 ∧ a = ad 20 g9) (fun E h' n' => h' = h ∧ n ≤ n' ∧ ((E = "java/lang/IllegalArgumentException" ∧ (pu_iv x 0 (nI ng - 1) && pu_iv z 0 (nI 2)) = false) ∨ (E = "java/lang/IllegalStateException" ∧ ∃ g9 w9, (g9 < ng ∧ x = nI g9 ∧ w9 < 3 ∧ z = nI w9) ∧ (mq_G I g9).length = 0))) := by
  refine zz_ofX (zz_f B) [some (.ref ((ad 0 0))), some (.int x), some (.int z), none] (by decide) rfl rfl (Nat.le_of_ble_eq_true rfl) ?_
  intro p e s m below meth c C hno
  have hP := dk_rf hP0
  have Wp := IV.1.1
  have g4 := Wp.g4
  have m12 := Wp.m12
  have h8 := Wp.c8
  have h1 := Wp.c1
  refine z_aload_n C dd_D_compiledAt_0 rfl ?_
  refine z_iload_n C dd_D_compiledAt_1 rfl ?_
  refine ix_D_92 (sk := fun r => .ref r :: []) (zz_f B) C dd_D_compiledAt_2 (cc_D_genericAt l D dA B _ _ (ad 0 0) _ _ _ _ _ _ _ _ _ _ (dk_rd (k := 0) (i := 0) (x := (X 0 0)) (y := (Y 0 0)) (z := (Z 0 0)) hP rfl rfl rfl rfl) x (Z 3 0) (dk_rd (k := 3) (i := 0) (x := (X 3 0)) (y := (Y 3 0)) (z := (Z 3 0)) hP rfl rfl rfl rfl) (fun a b => dk_gat_h g4 (by decide) IV.2.2.1.2.2.1 a (by rw [← IV.2.2.1.1]; exact b)) hl) hno (dk_rd (k := 0) (i := 0) (x := (X 0 0)) (y := (Y 0 0)) (z := (Z 0 0)) hP rfl rfl rfl rfl) rfl rfl ⟨by decide, by decide⟩ (Nat.le_of_ble_eq_true rfl) ⟨by decide, by decide⟩ (fun _ => rfl) (fun E h' n' p9 => ⟨p9.2.1, p9.2.2.1, Or.inl ⟨p9.1, by rw [dk_ivn (by omega) (by rw [← IV.2.2.1.1]; exact p9.2.2.2)]; rfl⟩⟩) (by decide) (by decide) (fun a1_ h1_ n1_ p1_ => ?_)
  obtain ⟨e1_, f1_, v1_, w1_, x1_⟩ := p1_
  have e1z := e1_.symm
  have f1z := f1_.symm
  subst e1z
  subst f1z
  rw [IV.2.2.1.1] at x1_
  obtain ⟨g0, hg0, rfl, rfl⟩ := dk_gat_p (by omega) IV.2.2.1.2.2.1 v1_ w1_ x1_
  have G0 := IV.2.1 g0 hg0
  have gr := G0.2.2.1
  have hl80 := gr.1
  refine z_astore_n C dd_D_compiledAt_5 rfl ?_
  refine z_iload_n C dd_D_compiledAt_6 rfl ?_
  refine z_if_lt (tgt := 15) C dd_D_compiledAt_7 (by decide) (fun q1 => ?_) (fun q1 => ?_)
  · skip
    exact tr_IAE "no such what" C hl hno (by decide +kernel) dd_D_compiledAt_15 dd_D_compiledAt_18 dd_D_compiledAt_19 dd_D_compiledAt_21 dd_D_compiledAt_24 (by decide) (Nat.le_of_ble_eq_true rfl) (by decide) (by decide) (by decide) (by decide) (fun n' hn => ⟨rfl, by omega, Or.inl ⟨rfl, by rw [dk_iv2n (Or.inl q1)]; exact Bool.and_false _⟩⟩)
  · skip
    refine z_iload_n C dd_D_compiledAt_10 rfl ?_
    refine z_iconst (v := 2) C dd_D_compiledAt_11 (by decide) ?_
    refine z_icmp_le (tgt := 25) C dd_D_compiledAt_12 (by decide) (fun q2 => ?_) (fun q2 => ?_)
    · skip
      refine z_aload_n C dd_D_compiledAt_25 rfl ?_
      refine gf_D_211 (v := .ref ((ad 21 g0))) C dd_D_compiledAt_26 (dk_rd (k := 20) (i := g0) (x := (X 20 g0)) (y := (Y 20 g0)) (z := (Z 20 g0)) hP hg0 rfl rfl rfl) rfl ?_
      obtain ⟨w9, hw9, rfl⟩ := dk_iv2y q1 q2
      refine iv_D_256 (sk := fun r => .int r :: []) (zz_f B) C dd_D_compiledAt_29 (cc_R_isEmpty l D dA B _ _ _ _ _ _ _ (dk_rd (k := 21) (i := g0) (x := (X 21 g0)) (y := (Y 21 g0)) (z := (Z 21 g0)) hP hg0 rfl rfl rfl)) (dk_rd (k := 21) (i := g0) (x := (X 21 g0)) (y := (Y 21 g0)) (z := (Z 21 g0)) hP hg0 rfl rfl rfl) rfl rfl ⟨by decide, by decide⟩ (Nat.le_of_ble_eq_true rfl) ⟨by decide, by decide⟩ (fun _ => rfl) (fun v2_ h2_ n2_ p2_ => ?_)
      obtain ⟨f2_, e2_, p2_⟩ := p2_
      have e2z := e2_.symm
      have f2z := f2_.symm
      subst e2z
      subst f2z
      rw [gr.2.1] at p2_
      rcases p2_ with ⟨z4, z5⟩ | ⟨z4, z5⟩
      · skip
        have z5z := z5.symm
        subst z5z
        have hne : ¬ (mq_G I g0).length = 0 := fun z => z4 (by rw [z]; rfl)
        refine z_if_eq (tgt := 46) C dd_D_compiledAt_32 (by decide) (fun q3 => ?_) (fun q3 => absurd (by decide) q3)
        refine z_aload_n C dd_D_compiledAt_46 rfl ?_
        exact z_aretX C dd_D_compiledAt_47 ⟨rfl, by omega, g0, w9, ⟨hg0, rfl, hw9, rfl⟩, hne, rfl⟩ (by decide) (by decide)
      · skip
        have z5z := z5.symm
        subst z5z
        have hze : (mq_G I g0).length = 0 := (@nI_eq (mq_G I g0).length 0 (by omega) (by omega)).mp z4
        refine z_if_eq (tgt := 46) C dd_D_compiledAt_32 (by decide) (fun q4 => absurd q4 (by decide)) (fun q4 => ?_)
        exact tw_ISE "not compiled" C hl hno (by decide +kernel) dd_D_compiledAt_35 dd_D_compiledAt_38 dd_D_compiledAt_39 dd_D_compiledAt_42 dd_D_compiledAt_45 (by decide) (Nat.le_of_ble_eq_true rfl) (by decide) (by decide) (by decide) (by decide) (fun n' hn => ⟨rfl, by omega, Or.inr ⟨rfl, g0, w9, ⟨hg0, rfl, hw9, rfl⟩, hze⟩⟩)
    · skip
      exact tr_IAE "no such what" C hl hno (by decide +kernel) dd_D_compiledAt_15 dd_D_compiledAt_18 dd_D_compiledAt_19 dd_D_compiledAt_21 dd_D_compiledAt_24 (by decide) (Nat.le_of_ble_eq_true rfl) (by decide) (by decide) (by decide) (by decide) (fun n' hn => ⟨rfl, by omega, Or.inl ⟨rfl, by rw [dk_iv2n (Or.inr q2)]; exact Bool.and_false _⟩⟩)
abbrev rm_D_node : Room := { frames := 14, cells := 4, slots := 24, locals := 300 }
set_option maxRecDepth 20000 in
/-- node -/
theorem cd_D_node (l : Launch) (D : va_G) (dA : Nat → ClassId) (B : Nat) (h : zz_H) (n : Nat) (ad : Nat → Nat → Nat) (ng nM : Nat) (na no : Nat → Nat) (X : dk_X) (Y : dk_Y) (Z : dk_Z) (hP0 : dk_P dA ad (dk_lv ng nM na no) X Y Z h) (F : Nat → Int32) (I : mq_M) (nc : Nat) (oc : Nat → Nat) (ow : Nat → Nat → Nat) (IV : dk_IV F ad ng nM na no X Y Z I nc oc ow) (x y z : Int32) (hl : l.stackTraces = false) : zz_MX l D zz_cl (zz_ty dA) B zz_tb (zz_x B) yy_D_node (Cond.code yy_D_node bb_D_node 5 (some FieldType.int)) rm_D_node [.ref ((ad 0 0)), .int x, .int y, .int z] h n zz_mi (fun r h' n' => h' = h ∧ n ≤ n' ∧ ∃ g9 w9 k9, (g9 < ng ∧ x = nI g9 ∧ w9 < 3 ∧ z = nI w9) ∧ ¬ (mq_G I g9).length = 0 ∧ k9 < (mq_G I g9).length ∧ y = nI k9 ∧ r = I (15 + w9) (80 * g9 + k9)) (fun E h' n' => h' = h ∧ n ≤ n' ∧ ((E = "java/lang/IllegalArgumentException" ∧ (pu_iv x 0 (nI ng - 1) && pu_iv z 0 (nI 2)) = false) ∨ (E = "java/lang/IllegalStateException" ∧ ∃ g9 w9, (g9 < ng ∧ x = nI g9 ∧ w9 < 3 ∧ z = nI w9) ∧ (mq_G I g9).length = 0) ∨ (E = "java/util/NoSuchElementException" ∧ ∃ g9 w9, (g9 < ng ∧ x = nI g9 ∧ w9 < 3 ∧ z = nI w9) ∧ ¬ (mq_G I g9).length = 0 ∧ pu_iv y 0 (nI (mq_G I g9).length - 1) = false))) := by
  refine zz_ofX (zz_f B) [some (.ref ((ad 0 0))), some (.int x), some (.int y), some (.int z), none] (by decide) rfl rfl (Nat.le_of_ble_eq_true rfl) ?_
  intro p e s m below meth c C hno
  have hP := dk_rf hP0
  have Wp := IV.1.1
  have g4 := Wp.g4
  have m12 := Wp.m12
  have h8 := Wp.c8
  have h1 := Wp.c1
  refine z_aload_n C dd_D_node_0 rfl ?_
  refine z_iload_n C dd_D_node_1 rfl ?_
  refine z_iload_n C dd_D_node_2 rfl ?_
  refine ix_D_220 (sk := fun r => .ref r :: []) (zz_f B) C dd_D_node_3 (cd_D_compiledAt l D dA B _ _ ad ng nM na no X Y Z hP.1 F I nc oc ow IV x z hl) hno (dk_rd (k := 0) (i := 0) (x := (X 0 0)) (y := (Y 0 0)) (z := (Z 0 0)) hP rfl rfl rfl rfl) rfl rfl ⟨by decide, by decide⟩ (Nat.le_of_ble_eq_true rfl) ⟨by decide, by decide⟩ (fun _ => rfl) (fun E h' n' p9 => ⟨p9.1, p9.2.1, p9.2.2.elim (fun q => Or.inl q) (fun q => Or.inr (Or.inl q))⟩) (by decide) (by decide) (fun a1_ h1_ n1_ p1_ => ?_)
  obtain ⟨e1_, f1_, g0, w9, ⟨hg0, rfl, hw9, rfl⟩, hne, rfl⟩ := p1_
  have e1z := e1_.symm
  subst e1z
  have G0 := IV.2.1 g0 hg0
  have gr := G0.2.2.1
  have hl80 := gr.1
  refine z_astore C dd_D_node_6 rfl ?_
  refine z_iload_n C dd_D_node_8 rfl ?_
  refine z_if_lt (tgt := 24) C dd_D_node_9 (by decide) (fun q1 => ?_) (fun q1 => ?_)
  · skip
    exact tr_NSE "no such node" C hl hno (by decide +kernel) dd_D_node_24 dd_D_node_27 dd_D_node_28 dd_D_node_30 dd_D_node_33 (by decide) (Nat.le_of_ble_eq_true rfl) (by decide) (by decide) (by decide) (by decide) (fun n' hn => ⟨rfl, by omega, Or.inr (Or.inr ⟨rfl, g0, w9, ⟨hg0, rfl, hw9, rfl⟩, hne, dk_ivn (by omega) (Or.inl q1)⟩)⟩)
  · skip
    refine z_iload_n C dd_D_node_12 rfl ?_
    refine z_aload C dd_D_node_13 rfl ?_
    refine gf_D_211 (v := .ref ((ad 21 g0))) C dd_D_node_15 (dk_rd (k := 20) (i := g0) (x := (X 20 g0)) (y := (Y 20 g0)) (z := (Z 20 g0)) hP hg0 rfl rfl rfl) rfl ?_
    refine iv_D_215 (sk := fun r => .int r :: [.int y]) (zz_f B) C dd_D_node_18 (cc_R_size l D dA B _ _ _ _ _ _ _ (dk_rd (k := 21) (i := g0) (x := (X 21 g0)) (y := (Y 21 g0)) (z := (Z 21 g0)) hP hg0 rfl rfl rfl)) (dk_rd (k := 21) (i := g0) (x := (X 21 g0)) (y := (Y 21 g0)) (z := (Z 21 g0)) hP hg0 rfl rfl rfl) rfl rfl ⟨by decide, by decide⟩ (Nat.le_of_ble_eq_true rfl) ⟨by decide, by decide⟩ (fun _ => rfl) (fun v2_ h2_ n2_ p2_ => ?_)
    obtain ⟨f2_, e2_, p2_⟩ := p2_
    have e2z := e2_.symm
    have f2z := f2_.symm
    subst e2z
    subst f2z
    refine z_topi (y := nI (mq_G I g0).length) (by rw [p2_, gr.2.1]) ?_
    refine z_icmp_lt (tgt := 34) C dd_D_node_21 (by decide) (fun q2 => ?_) (fun q2 => ?_)
    · skip
      refine z_aload C dd_D_node_34 rfl ?_
      refine gf_D_211 (v := .ref ((ad 21 g0))) C dd_D_node_36 (dk_rd (k := 20) (i := g0) (x := (X 20 g0)) (y := (Y 20 g0)) (z := (Z 20 g0)) hP hg0 rfl rfl rfl) rfl ?_
      refine z_iload_n C dd_D_node_39 rfl ?_
      refine z_iload_n C dd_D_node_40 rfl ?_
      obtain ⟨k9, hk9, rfl⟩ := nI_of q1
      have hk : k9 < (mq_G I g0).length := (nI_ltI (by omega) (by omega)).mp q2
      obtain ⟨t1, t2, t3⟩ := gr.2.2 k9 _ (mq_G_at hk)
      refine iv_D_226 (sk := fun r => .int r :: []) (zz_f B) C dd_D_node_41 (cc_R_part l D dA B _ _ _ _ _ _ _ (dk_rd (k := 21) (i := g0) (x := (X 21 g0)) (y := (Y 21 g0)) (z := (Z 21 g0)) hP hg0 rfl rfl rfl) _ _ _ (dk_rd (k := 22) (i := g0) (x := (X 22 g0)) (y := (Y 22 g0)) (z := (Z 22 g0)) hP hg0 rfl rfl rfl) (dk_rd (k := 23) (i := g0) (x := (X 23 g0)) (y := (Y 23 g0)) (z := (Z 23 g0)) hP hg0 rfl rfl rfl) (dk_rd (k := 24) (i := g0) (x := (X 24 g0)) (y := (Y 24 g0)) (z := (Z 24 g0)) hP hg0 rfl rfl rfl) (nI k9) (nI w9) (vp_in_nI (by omega) (by decide))) (dk_rd (k := 21) (i := g0) (x := (X 21 g0)) (y := (Y 21 g0)) (z := (Z 21 g0)) hP hg0 rfl rfl rfl) rfl rfl ⟨by decide, by decide⟩ (Nat.le_of_ble_eq_true rfl) ⟨by decide, by decide⟩ (fun _ => rfl) (fun v3_ h3_ n3_ p3_ => ?_)
      obtain ⟨f3_, e3_, p3_⟩ := p3_
      have e3z := e3_.symm
      have f3z := f3_.symm
      subst e3z
      subst f3z
      rw [nI_clamp (by omega), t1, t2, t3] at p3_
      refine z_iretX C dd_D_node_44 ⟨rfl, by omega, g0, w9, k9, ⟨hg0, rfl, hw9, rfl⟩, hne, hk, rfl, ?_⟩ (by decide) (by decide)
      have hw3 : w9 = 0 ∨ w9 = 1 ∨ w9 = 2 := by omega
      rcases hw3 with rfl | rfl | rfl
      · rcases p3_ with ⟨q, _⟩ | ⟨q, _⟩ | ⟨_, q⟩
        · exact absurd (by decide) q
        · exact absurd (by decide) q
        · exact q
      · rcases p3_ with ⟨_, q, _⟩ | ⟨_, _, q⟩ | ⟨q, _⟩
        · exact absurd (by decide) q
        · exact q
        · exact absurd q (by decide)
      · rcases p3_ with ⟨_, _, q⟩ | ⟨_, q, _⟩ | ⟨q, _⟩
        · exact q
        · exact absurd q (by decide)
        · exact absurd q (by decide)
    · skip
      exact tr_NSE "no such node" C hl hno (by decide +kernel) dd_D_node_24 dd_D_node_27 dd_D_node_28 dd_D_node_30 dd_D_node_33 (by decide) (Nat.le_of_ble_eq_true rfl) (by decide) (by decide) (by decide) (by decide) (fun n' hn => ⟨rfl, by omega, Or.inr (Or.inr ⟨rfl, g0, w9, ⟨hg0, rfl, hw9, rfl⟩, hne, dk_ivn (by omega) (Or.inr q2)⟩)⟩)
abbrev rm_F_part : Room := { frames := 3, cells := 0, slots := 0, locals := 60 }
set_option maxRecDepth 20000 in
/-- part -/
theorem cd_F_part (l : Launch) (D : va_G) (dA : Nat → ClassId) (B : Nat) (h : zz_H) (n : Nat) (ad : Nat → Nat → Nat) (ng nM : Nat) (na no : Nat → Nat) (X : dk_X) (Y : dk_Y) (Z : dk_Z) (hP0 : dk_P dA ad (dk_lv ng nM na no) X Y Z h) (g T : Nat) (tf : Nat → Nat) (hg : g < ng) (TS : dk_ts ad ng nM na no X Z g T tf) (hT : T ≤ 48) (k9 w9 : Nat) (hk : k9 < T) (hw : w9 < 3) : zz_M l D zz_cl (zz_ty dA) B zz_tb (zz_x B) yy_F_part (Cond.code yy_F_part bb_F_part 4 (some FieldType.int)) rm_F_part [.ref ((ad 26 g)), .int ((nI k9)), .int ((nI w9))] h n zz_mi (fun r h' n' => n' = n ∧ h' = h ∧ r = X 33 (tf k9) w9) := by
  refine zz_ofW (zz_f B) [some (.ref ((ad 26 g))), some (.int ((nI k9))), some (.int ((nI w9))), none] (by decide) rfl rfl (Nat.le_of_ble_eq_true rfl) ?_
  intro p e s m below meth c C
  have hP := dk_rf hP0
  have ht := TS.2 k9 hk
  refine z_aload_n C dd_F_part_0 rfl ?_
  refine gf_F_15 (v := .ref ((ad 27 g))) C dd_F_part_1 (dk_rd (k := 26) (i := g) (x := (X 26 g)) (y := (Y 26 g)) (z := (Z 26 g)) hP hg rfl rfl rfl) rfl ?_
  refine z_iload_n C dd_F_part_4 rfl ?_
  refine z_aald (t0 := 5) (N := 48) (f := (Z 27 g)) C rfl dd_F_part_5 (dk_rd (k := 27) (i := g) (x := (X 27 g)) (y := (Y 27 g)) (z := (Z 27 g)) hP hg rfl rfl rfl) (vp_in_nI (by omega) (by decide)) ?_
  refine z_topr (y := ad 33 (tf k9)) (by rw [nI_clamp (by omega), ht.1]; rfl) ?_
  refine z_astore_n C dd_F_part_6 rfl ?_
  refine z_iload_n C dd_F_part_7 rfl ?_
  refine z_if_ne (tgt := 18) C dd_F_part_8 (by decide) (fun q1 => ?_) (fun q1 => ?_)
  · replace q1 : ¬ w9 = 0 := fun z => q1 ((@nI_eq w9 0 (by omega) (by omega)).mpr z)
    refine z_iload_n C dd_F_part_18 rfl ?_
    refine z_iconst (v := 1) C dd_F_part_19 (by decide) ?_
    refine z_icmp_ne (tgt := 30) C dd_F_part_20 (by decide) (fun q2 => ?_) (fun q2 => ?_)
    · replace q2 : ¬ w9 = 1 := fun z => q2 ((@nI_eq w9 1 (by omega) (by omega)).mpr z)
      refine z_aload_n C dd_F_part_30 rfl ?_
      refine iv_F_50 (sk := fun r => .int r :: []) (zz_f B) C dd_F_part_31 (cc_A_x l D dA B _ _ _ _ _ _ _ (dk_rd (k := 33) (i := (tf k9)) (x := (X 33 (tf k9))) (y := (Y 33 (tf k9))) (z := (Z 33 (tf k9))) hP ht.2 rfl rfl rfl)) (dk_rd (k := 33) (i := (tf k9)) (x := (X 33 (tf k9))) (y := (Y 33 (tf k9))) (z := (Z 33 (tf k9))) hP ht.2 rfl rfl rfl) rfl rfl ⟨by decide, by decide⟩ (Nat.le_of_ble_eq_true rfl) ⟨by decide, by decide⟩ (fun _ => rfl) (fun v1_ h1_ n1_ p1_ => ?_)
      obtain ⟨f1_, e1_, p1_⟩ := p1_
      have e1z := e1_.symm
      have f1z := f1_.symm
      subst e1z
      subst f1z
      have e9 : w9 = 2 := by omega
      subst e9
      have q1_ := p1_.symm
      subst q1_
      exact z_iret C dd_F_part_34 ⟨rfl, rfl, rfl⟩ (by decide) (by decide)
    · replace q2 : w9 = 1 := (@nI_eq w9 1 (by omega) (by omega)).mp q2
      refine z_aload_n C dd_F_part_23 rfl ?_
      refine iv_F_47 (sk := fun r => .int r :: []) (zz_f B) C dd_F_part_24 (cc_A_i l D dA B _ _ _ _ _ _ _ (dk_rd (k := 33) (i := (tf k9)) (x := (X 33 (tf k9))) (y := (Y 33 (tf k9))) (z := (Z 33 (tf k9))) hP ht.2 rfl rfl rfl)) (dk_rd (k := 33) (i := (tf k9)) (x := (X 33 (tf k9))) (y := (Y 33 (tf k9))) (z := (Z 33 (tf k9))) hP ht.2 rfl rfl rfl) rfl rfl ⟨by decide, by decide⟩ (Nat.le_of_ble_eq_true rfl) ⟨by decide, by decide⟩ (fun _ => rfl) (fun v2_ h2_ n2_ p2_ => ?_)
      obtain ⟨f2_, e2_, p2_⟩ := p2_
      have e2z := e2_.symm
      have f2z := f2_.symm
      subst e2z
      subst f2z
      have e9 : w9 = 1 := by omega
      subst e9
      have q2_ := p2_.symm
      subst q2_
      refine z_goto (tgt := 34) C dd_F_part_27 (by decide) ?_
      exact z_iret C dd_F_part_34 ⟨rfl, rfl, rfl⟩ (by decide) (by decide)
  · replace q1 : w9 = 0 := (@nI_eq w9 0 (by omega) (by omega)).mp q1
    refine z_aload_n C dd_F_part_11 rfl ?_
    refine iv_F_43 (sk := fun r => .int r :: []) (zz_f B) C dd_F_part_12 (cc_A_kind l D dA B _ _ _ _ _ _ _ (dk_rd (k := 33) (i := (tf k9)) (x := (X 33 (tf k9))) (y := (Y 33 (tf k9))) (z := (Z 33 (tf k9))) hP ht.2 rfl rfl rfl)) (dk_rd (k := 33) (i := (tf k9)) (x := (X 33 (tf k9))) (y := (Y 33 (tf k9))) (z := (Z 33 (tf k9))) hP ht.2 rfl rfl rfl) rfl rfl ⟨by decide, by decide⟩ (Nat.le_of_ble_eq_true rfl) ⟨by decide, by decide⟩ (fun _ => rfl) (fun v3_ h3_ n3_ p3_ => ?_)
    obtain ⟨f3_, e3_, p3_⟩ := p3_
    have e3z := e3_.symm
    have f3z := f3_.symm
    subst e3z
    subst f3z
    have e9 : w9 = 0 := by omega
    subst e9
    have q3_ := p3_.symm
    subst q3_
    refine z_goto (tgt := 34) C dd_F_part_15 (by decide) ?_
    exact z_iret C dd_F_part_34 ⟨rfl, rfl, rfl⟩ (by decide) (by decide)
abbrev rm_D_test : Room := { frames := 14, cells := 4, slots := 24, locals := 300 }
set_option maxRecDepth 20000 in
/-- test -/
theorem cd_D_test (l : Launch) (D : va_G) (dA : Nat → ClassId) (B : Nat) (h : zz_H) (n : Nat) (ad : Nat → Nat → Nat) (ng nM : Nat) (na no : Nat → Nat) (X : dk_X) (Y : dk_Y) (Z : dk_Z) (hP0 : dk_P dA ad (dk_lv ng nM na no) X Y Z h) (F : Nat → Int32) (I : mq_M) (nc : Nat) (oc : Nat → Nat) (ow : Nat → Nat → Nat) (IV : dk_IV F ad ng nM na no X Y Z I nc oc ow) (x y z : Int32) (hl : l.stackTraces = false) : zz_MX l D zz_cl (zz_ty dA) B zz_tb (zz_x B) yy_D_test (Cond.code yy_D_test bb_D_test 5 (some FieldType.int)) rm_D_test [.ref ((ad 0 0)), .int x, .int y, .int z] h n zz_mi (fun r h' n' => h' = h ∧ n ≤ n' ∧ ∃ g9 w9 k9, (g9 < ng ∧ x = nI g9 ∧ w9 < 3 ∧ z = nI w9) ∧ ¬ (mq_G I g9).length = 0 ∧ k9 < (dk_T (pu_g3 I g9 nM) g9) ∧ y = nI k9 ∧ r = I (19 + w9) (48 * g9 + k9)) (fun E h' n' => h' = h ∧ n ≤ n' ∧ ((E = "java/lang/IllegalArgumentException" ∧ (pu_iv x 0 (nI ng - 1) && pu_iv z 0 (nI 2)) = false) ∨ (E = "java/lang/IllegalStateException" ∧ ∃ g9 w9, (g9 < ng ∧ x = nI g9 ∧ w9 < 3 ∧ z = nI w9) ∧ (mq_G I g9).length = 0) ∨ (E = "java/util/NoSuchElementException" ∧ ∃ g9 w9, (g9 < ng ∧ x = nI g9 ∧ w9 < 3 ∧ z = nI w9) ∧ ¬ (mq_G I g9).length = 0 ∧ pu_iv y 0 (nI (dk_T (pu_g3 I g9 nM) g9) - 1) = false))) := by
  refine zz_ofX (zz_f B) [some (.ref ((ad 0 0))), some (.int x), some (.int y), some (.int z), none] (by decide) rfl rfl (Nat.le_of_ble_eq_true rfl) ?_
  intro p e s m below meth c C hno
  have hP := dk_rf hP0
  have Wp := IV.1.1
  have g4 := Wp.g4
  have m12 := Wp.m12
  have h8 := Wp.c8
  have h1 := Wp.c1
  refine z_aload_n C dd_D_test_0 rfl ?_
  refine z_iload_n C dd_D_test_1 rfl ?_
  refine z_iload_n C dd_D_test_2 rfl ?_
  refine ix_D_220 (sk := fun r => .ref r :: []) (zz_f B) C dd_D_test_3 (cd_D_compiledAt l D dA B _ _ ad ng nM na no X Y Z hP.1 F I nc oc ow IV x z hl) hno (dk_rd (k := 0) (i := 0) (x := (X 0 0)) (y := (Y 0 0)) (z := (Z 0 0)) hP rfl rfl rfl rfl) rfl rfl ⟨by decide, by decide⟩ (Nat.le_of_ble_eq_true rfl) ⟨by decide, by decide⟩ (fun _ => rfl) (fun E h' n' p9 => ⟨p9.1, p9.2.1, p9.2.2.elim (fun q => Or.inl q) (fun q => Or.inr (Or.inl q))⟩) (by decide) (by decide) (fun a1_ h1_ n1_ p1_ => ?_)
  obtain ⟨e1_, f1_, g0, w9, ⟨hg0, rfl, hw9, rfl⟩, hne, rfl⟩ := p1_
  have e1z := e1_.symm
  subst e1z
  have G0 := IV.2.1 g0 hg0
  have gr := G0.2.2.1
  have hl80 := gr.1
  obtain ⟨n1, n2, n3, n4, n5, n6⟩ := G0.2.2.2 hne
  obtain ⟨tf, K, ch⟩ := IV.ok hg0 n1
  have hT := K.T
  refine z_astore C dd_D_test_6 rfl ?_
  refine z_iload_n C dd_D_test_8 rfl ?_
  refine z_if_lt (tgt := 24) C dd_D_test_9 (by decide) (fun q1 => ?_) (fun q1 => ?_)
  · skip
    exact tr_NSE "no such test" C hl hno (by decide +kernel) dd_D_test_24 dd_D_test_27 dd_D_test_28 dd_D_test_30 dd_D_test_33 (by decide) (Nat.le_of_ble_eq_true rfl) (by decide) (by decide) (by decide) (by decide) (fun n' hn => ⟨rfl, by omega, Or.inr (Or.inr ⟨rfl, g0, w9, ⟨hg0, rfl, hw9, rfl⟩, hne, dk_ivn (by omega) (Or.inl q1)⟩)⟩)
  · skip
    refine z_iload_n C dd_D_test_12 rfl ?_
    refine z_aload C dd_D_test_13 rfl ?_
    refine gf_D_174 (v := .ref ((ad 26 g0))) C dd_D_test_15 (dk_rd (k := 20) (i := g0) (x := (X 20 g0)) (y := (Y 20 g0)) (z := (Z 20 g0)) hP hg0 rfl rfl rfl) rfl ?_
    refine iv_D_230 (sk := fun r => .int r :: [.int y]) (zz_f B) C dd_D_test_18 (cc_F_size l D dA B _ _ _ _ _ _ _ _ _ _ (dk_rd (k := 26) (i := g0) (x := (X 26 g0)) (y := (Y 26 g0)) (z := (Z 26 g0)) hP hg0 rfl rfl rfl)) (dk_rd (k := 26) (i := g0) (x := (X 26 g0)) (y := (Y 26 g0)) (z := (Z 26 g0)) hP hg0 rfl rfl rfl) rfl rfl ⟨by decide, by decide⟩ (Nat.le_of_ble_eq_true rfl) ⟨by decide, by decide⟩ (fun _ => rfl) (fun v2_ h2_ n2_ p2_ => ?_)
    obtain ⟨f2_, e2_, p2_⟩ := p2_
    have e2z := e2_.symm
    have f2z := f2_.symm
    subst e2z
    subst f2z
    refine z_topi (y := nI (dk_T (pu_g3 I g0 nM) g0)) (by rw [p2_, K.2.1.1.1.1]) ?_
    refine z_icmp_lt (tgt := 34) C dd_D_test_21 (by decide) (fun q2 => ?_) (fun q2 => ?_)
    · skip
      refine z_aload C dd_D_test_34 rfl ?_
      refine gf_D_174 (v := .ref ((ad 26 g0))) C dd_D_test_36 (dk_rd (k := 20) (i := g0) (x := (X 20 g0)) (y := (Y 20 g0)) (z := (Z 20 g0)) hP hg0 rfl rfl rfl) rfl ?_
      refine z_iload_n C dd_D_test_39 rfl ?_
      refine z_iload_n C dd_D_test_40 rfl ?_
      obtain ⟨k9, hk9, rfl⟩ := nI_of q1
      have hk : k9 < (dk_T (pu_g3 I g0 nM) g0) := (nI_ltI (by omega) (by omega)).mp q2
      obtain ⟨t1, t2, t3⟩ := K.2.1.1.2.1 k9 hk
      obtain ⟨u1, u2, u3⟩ := n5 k9 hk
      refine iv_D_233 (sk := fun r => .int r :: []) (zz_f B) C dd_D_test_41 (cd_F_part l D dA B _ _ ad ng nM na no X Y Z hP.1 g0 (dk_T (pu_g3 I g0 nM) g0) tf hg0 K.2.1.1.1 hT k9 w9 hk hw9) (dk_rd (k := 26) (i := g0) (x := (X 26 g0)) (y := (Y 26 g0)) (z := (Z 26 g0)) hP hg0 rfl rfl rfl) rfl rfl ⟨by decide, by decide⟩ (Nat.le_of_ble_eq_true rfl) ⟨by decide, by decide⟩ (fun _ => rfl) (fun v3_ h3_ n3_ p3_ => ?_)
      obtain ⟨f3_, e3_, p3_⟩ := p3_
      have e3z := e3_.symm
      have f3z := f3_.symm
      subst e3z
      subst f3z
      refine z_iretX C dd_D_test_44 ⟨rfl, by omega, g0, w9, k9, ⟨hg0, rfl, hw9, rfl⟩, hne, hk, rfl, ?_⟩ (by decide) (by decide)
      have hw3 : w9 = 0 ∨ w9 = 1 ∨ w9 = 2 := by omega
      rcases hw3 with rfl | rfl | rfl
      · rw [p3_, t1, ← u1]
      · rw [p3_, t2, ← u2]
      · rw [p3_, t3, ← u3]
    · skip
      exact tr_NSE "no such test" C hl hno (by decide +kernel) dd_D_test_24 dd_D_test_27 dd_D_test_28 dd_D_test_30 dd_D_test_33 (by decide) (Nat.le_of_ble_eq_true rfl) (by decide) (by decide) (by decide) (by decide) (fun n' hn => ⟨rfl, by omega, Or.inr (Or.inr ⟨rfl, g0, w9, ⟨hg0, rfl, hw9, rfl⟩, hne, dk_ivn (by omega) (Or.inr q2)⟩)⟩)
