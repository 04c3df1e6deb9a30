abbrev rm_N_walk : Room := { frames := 3, cells := 0, slots := 0, locals := 60 }
set_option maxRecDepth 20000 in
theorem lp_N_walk {D : va_G} {dA : Nat → ClassId} {B : Nat} {p : Program} {l : Launch} {e : Env} {s : State} {m : MethodId} {args : Array Value} {below : List Frame} {meth : Method} {c : Code} {Q : State → Prop} {n : Nat} {nm : String} {ret9 : Option FieldType} {h : zz_H} (C : zz_C D zz_cl (zz_ty dA) B zz_tb (zz_x B) p s m args meth c bb_N_walk RR_N ret9 nm) {ad : Nat → Nat → Nat} {ng nM : Nat} {na no : Nat → Nat} {X : dk_X} {Y : dk_Y} {Z : dk_Z} {g T : Nat} {G : List tg_N} {w : Int64} {pz : Nat → Bool} (hg : g < ng) (GR : dk_gr X g G) (hw : tg_wf G T) (hT : T ≤ 48) (hlf : ∀ (k : Nat) (x : tg_N), G[k]? = some x → x.1 < 0 → x.1 = -1) (hpz : ∀ t, t < T → bl w t = pz t) :
    ∀ fuel k c9 st h9, k < fuel → k < G.length → st + k + 1 ≤ G.length → dk_K dA ad (dk_lv ng nM na no) (dk_is X 7 0 (upd (X 7 0) 1 (nI c9))) Y Z h h9 → (∀ h' k' st', dk_K dA ad (dk_lv ng nM na no) (dk_is X 7 0 (upd (X 7 0) 1 (nI (c9 + (tg_go G pz fuel k).2)))) Y Z h h' → k' < 80 → X 23 g k' = (tg_go G pz fuel k).1 → zz_W D zz_cl B p l e rm_N_walk s m args below meth c Q h' n 0 0 [some (.ref (ad 7 0)), some (.ref (ad 21 g)), some (.long w), none, some (.int (nI k')), some (.int (nI st'))] 50 []) → zz_W D zz_cl B p l e rm_N_walk s m args below meth c Q h9 n 0 0 [some (.ref (ad 7 0)), some (.ref (ad 21 g)), some (.long w), none, some (.int (nI k)), some (.int (nI st))] 9 [] := by
  intro fuel
  have hl80 := GR.1
  induction fuel with
  | zero => intro k c9 st h9 hk; omega
  | succ fuel ih =>
    intro k c9 st h9 hk hl hst hP kx
    obtain ⟨x9, hx9⟩ : ∃ x9, G[k]? = some x9 := ⟨_, List.getElem?_eq_getElem hl⟩
    obtain ⟨n1, n2, n3⟩ := GR.2.2 k x9 hx9
    rw [tg_go, hx9] at kx
    refine z_iload C dd_N_walk_9 rfl ?_
    refine z_bipush (v := 80) C dd_N_walk_11 (by decide) ?_
    refine z_icmp_ge (tgt := 50) C dd_N_walk_13 (by decide) (fun q1 => ?_) (fun q1 => ?_)
    · replace q1 : 80 ≤ st := (@nI_leI 80 st (by omega) (by omega)).mp q1
      omega
    · replace q1 : ¬ 80 ≤ st := fun z => q1 ((@nI_leI 80 st (by omega) (by omega)).mpr z)
      refine z_aload_n C dd_N_walk_16 rfl ?_
      refine z_iload C dd_N_walk_17 rfl ?_
      refine iv_N_96 (sk := fun r => .int r :: []) (zz_f B) C dd_N_walk_19 (cc_R_isLeaf l D dA B _ _ _ _ _ _ _ (dk_rd (k := 21) (i := g) (x := (X 21 g)) (y := (Y 21 g)) (z := (Z 21 g)) hP hg rfl rfl rfl) _ _ _ (dk_rd (k := 22) (i := g) (x := (X 22 g)) (y := (Y 22 g)) (z := (Z 22 g)) hP hg rfl rfl rfl) (dk_rd (k := 23) (i := g) (x := (X 23 g)) (y := (Y 23 g)) (z := (Z 23 g)) hP hg rfl rfl rfl) (dk_rd (k := 24) (i := g) (x := (X 24 g)) (y := (Y 24 g)) (z := (Z 24 g)) hP hg rfl rfl rfl) (nI k) (vp_in_nI (by omega) (by decide))) (dk_rd (k := 21) (i := g) (x := (X 21 g)) (y := (Y 21 g)) (z := (Z 21 g)) hP hg rfl rfl rfl) rfl rfl ⟨by decide, by decide⟩ (Nat.le_of_ble_eq_true rfl) ⟨by decide, by decide⟩ (fun _ => rfl) (fun v1_ h1_ n1_ p1_ => ?_)
      obtain ⟨f1_, e1_, p1_⟩ := p1_
      have e1z := e1_.symm
      have f1z := f1_.symm
      subst e1z
      subst f1z
      rw [nI_clamp (by omega), n1] at p1_
      rcases hw k x9 hx9 with hlt | ⟨t, a, b, ht, rfl, hak, hbk⟩
      · skip
        have hx1 := hlf k x9 hx9 hlt
        simp only [if_pos hlt] at kx
        have e9 : v1_ = 1 := by rcases p1_ with ⟨z1, z2⟩ | ⟨z1, z2⟩; exact absurd hx1 z1; exact z2
        have e9z := e9.symm
        subst e9z
        refine z_if_ne (tgt := 50) C dd_N_walk_22 (by decide) (fun _ => ?_) (fun z => absurd z (by decide))
        exact kx _ k st hP (by omega) n2
      · skip
        have hnl : ¬ nI t < 0 := nI_pos (by omega)
        simp only [if_neg hnl, nI_clamp (show t < 2 ^ 31 by omega), nI_clamp (show a < 2 ^ 31 by omega), nI_clamp (show b < 2 ^ 31 by omega)] at kx
        have e9 : v1_ = 0 := by rcases p1_ with ⟨z1, z2⟩ | ⟨z1, z2⟩; exact z2; exact absurd (show nI t < 0 by rw [show nI t = -1 from z1]; decide) hnl
        have e9z := e9.symm
        subst e9z
        refine z_if_ne (tgt := 50) C dd_N_walk_22 (by decide) (fun q2 => absurd (by decide) q2) (fun q2 => ?_)
        refine z_aload_n C dd_N_walk_25 rfl ?_
        refine z_dup C dd_N_walk_26 rfl ?_
        refine gf_N_13 (v := .int (nI c9)) C dd_N_walk_27 (dk_rd (k := 7) (i := 0) (x := (upd (X 7 0) 1 (nI c9))) (y := (Y 7 0)) (z := (Z 7 0)) hP rfl dk_s rfl rfl) rfl ?_
        refine z_iconst (v := 1) C dd_N_walk_30 (by decide) ?_
        refine z_iadd C dd_N_walk_31 ?_
        refine z_topi (y := nI (c9 + 1)) (by first | exact (nI_add _ _).symm | (rw [← nI_add]; rfl)) ?_
        refine pf_N_13 C dd_N_walk_32 (dk_rd (k := 7) (i := 0) (x := (upd (X 7 0) 1 (nI c9))) (y := (Y 7 0)) (z := (Z 7 0)) hP rfl dk_s rfl rfl) (Nat.le_of_ble_eq_true rfl) rfl rfl ?_
        refine z_cut (dk_K dA ad (dk_lv ng nM na no) (dk_is (dk_is X 7 0 (upd (X 7 0) 1 (nI c9))) 7 0 (upd (upd (X 7 0) 1 (nI c9)) 1 (nI (c9 + 1)))) Y Z h) (dk_wX hP rfl rfl rfl rfl) rfl rfl rfl (fun h2_ hP2_ => ?_)
        refine z_aload_n C dd_N_walk_35 rfl ?_
        refine z_iload C dd_N_walk_36 rfl ?_
        refine z_lload_n C dd_N_walk_38 rfl ?_
        refine iv_N_100 (sk := fun r => .int r :: []) (zz_f B) C dd_N_walk_39 (cc_R_follow l D dA B _ _ _ _ _ _ _ (dk_rd (k := 21) (i := g) (x := (X 21 g)) (y := (Y 21 g)) (z := (Z 21 g)) hP2_ hg rfl rfl rfl) _ _ _ (dk_rd (k := 22) (i := g) (x := (X 22 g)) (y := (Y 22 g)) (z := (Z 22 g)) hP2_ hg rfl rfl rfl) (dk_rd (k := 23) (i := g) (x := (X 23 g)) (y := (Y 23 g)) (z := (Z 23 g)) hP2_ hg rfl rfl rfl) (dk_rd (k := 24) (i := g) (x := (X 24 g)) (y := (Y 24 g)) (z := (Z 24 g)) hP2_ hg rfl rfl rfl) (nI k) w (vp_in_nI (by omega) (by decide))) (dk_rd (k := 21) (i := g) (x := (X 21 g)) (y := (Y 21 g)) (z := (Z 21 g)) hP2_ hg rfl rfl rfl) rfl rfl ⟨by decide, by decide⟩ (Nat.le_of_ble_eq_true rfl) ⟨by decide, by decide⟩ (fun _ => rfl) (fun v4_ h4_ n4_ p4_ => ?_)
        obtain ⟨f4_, e4_, p4_⟩ := p4_
        have e4z := e4_.symm
        have f4z := f4_.symm
        subst e4z
        subst f4z
        rw [nI_clamp (by omega), n1, n2, n3] at p4_
        have e8 : v4_ = nI (if pz t = true then a else b) := by
          rcases p4_ with ⟨z1, z2⟩ | ⟨z1, z2⟩
          · have q := (l_lb0 (x := w) (t := t) (by omega)).mp ((pu_lcmp _ _).mp z1)
            rw [z2, if_neg (by rw [← hpz t ht, q]; decide)]
          · have q : ¬ pu_lb w t = 0 := fun z => z1 ((pu_lcmp _ _).mpr z)
            have q2 : bl w t = true := by
              cases c : bl w t
              · exact absurd ((l_lb0 (by omega)).mpr c) q
              · rfl
            rw [z2, if_pos (by rw [← hpz t ht]; exact q2)]
        have e8z := e8.symm
        subst e8z
        refine z_istore C dd_N_walk_42 rfl ?_
        refine z_iincN C dd_N_walk_44 rfl rfl ?_
        refine z_goto (tgt := 9) C dd_N_walk_47 (by decide) ?_
        have hab : (if pz t = true then a else b) < k := by split <;> omega
        refine ih _ (c9 + 1) (st + 1) _ (by omega) (by omega) (by omega) (dk_eX hP2_ ?_) (fun h' k' st' q1 q2 q3 => kx h' k' st' (dk_eX q1 (by rw [Nat.add_assoc, Nat.add_comm 1])) q2 q3)
        rw [dk_ii, upd_upd]
set_option maxRecDepth 20000 in
/-- walk -/
theorem cd_N_walk (l : Launch) (D : va_G) (dA : Nat → ClassId) (B : Nat) (h : zz_H) (n : Nat) (ad : Nat → Nat → Nat) (ng nM : Nat) (na no : Nat → Nat) (X : dk_X) (Y : dk_Y) (Z : dk_Z) (hP0 : dk_P dA ad (dk_lv ng nM na no) X Y Z h) (g T : Nat) (G : List tg_N) (w : Int64) (pz : Nat → Bool) (hg : g < ng) (GR : dk_gr X g G) (hw : tg_wf G T) (hT : T ≤ 48) (hlf : ∀ (k : Nat) (x : tg_N), G[k]? = some x → x.1 < 0 → x.1 = -1) (hpz : ∀ t, t < T → bl w t = pz t) (hne : ¬ G.length = 0) (th : Nat) (e1 : X 7 0 1 = nI th) : zz_M l D zz_cl (zz_ty dA) B zz_tb (zz_x B) yy_N_walk (Cond.code yy_N_walk bb_N_walk 6 (some FieldType.int)) rm_N_walk [.ref ((ad 7 0)), .ref ((ad 21 g)), .long w] h n zz_mi (fun r h' n' => n' = n ∧ r = (tg_go G pz G.length (G.length - 1)).1 ∧ dk_K dA ad (dk_lv ng nM na no) (dk_is X 7 0 (upd (X 7 0) 1 (nI (th + (tg_go G pz G.length (G.length - 1)).2)))) Y Z h h') := by
  refine zz_ofW (zz_f B) [some (.ref ((ad 7 0))), some (.ref ((ad 21 g))), some (.long w), none, none, none] (by decide) rfl rfl (Nat.le_of_ble_eq_true rfl) ?_
  intro p e s m below meth c C
  have hP := dk_rf hP0
  have hl80 := GR.1
  have eX : X = dk_is X 7 0 (upd (X 7 0) 1 (nI th)) := by
    have q : upd (X 7 0) 1 (nI th) = X 7 0 := by
      funext j
      unfold upd
      split
      · rename_i z
        rw [z, e1]
      · rfl
    rw [q, dk_id]
  refine z_aload_n C dd_N_walk_0 rfl ?_
  refine iv_N_93 (sk := fun r => .int r :: []) (zz_f B) C dd_N_walk_1 (cc_R_root l D dA B _ _ _ _ _ _ _ (dk_rd (k := 21) (i := g) (x := (X 21 g)) (y := (Y 21 g)) (z := (Z 21 g)) hP hg rfl rfl rfl)) (dk_rd (k := 21) (i := g) (x := (X 21 g)) (y := (Y 21 g)) (z := (Z 21 g)) hP hg rfl rfl rfl) rfl rfl ⟨by decide, by decide⟩ (Nat.le_of_ble_eq_true rfl) ⟨by decide, by decide⟩ (fun _ => rfl) (fun v1_ h1_ n1_ p1_ => ?_)
  obtain ⟨f1_, e1_, p1_⟩ := p1_
  have e1z := e1_.symm
  have f1z := f1_.symm
  subst e1z
  subst f1z
  refine z_topi (y := nI (G.length - 1)) (by rw [p1_, GR.2.1, ← @pk_sub G.length 1 (by omega)]; rfl) ?_
  refine z_istore C dd_N_walk_4 rfl ?_
  refine z_iconst (v := 0) C dd_N_walk_6 (by decide) ?_
  refine z_istore C dd_N_walk_7 rfl ?_
  refine lp_N_walk (h := h) C hg GR hw hT hlf hpz G.length (G.length - 1) th 0 _ (by omega) (by omega) (by omega) (dk_eX hP eX) (fun h' k' st' w1 w2 w3 => ?_)
  refine z_aload_n C dd_N_walk_50 rfl ?_
  refine z_iload C dd_N_walk_51 rfl ?_
  refine iv_N_104 (sk := fun r => .int r :: []) (zz_f B) C dd_N_walk_53 (cc_R_methodAt l D dA B _ _ _ _ _ _ _ (dk_rd (k := 21) (i := g) (x := (X 21 g)) (y := (Y 21 g)) (z := (Z 21 g)) w1 hg rfl rfl rfl) _ _ _ (dk_rd (k := 22) (i := g) (x := (X 22 g)) (y := (Y 22 g)) (z := (Z 22 g)) w1 hg rfl rfl rfl) (dk_rd (k := 23) (i := g) (x := (X 23 g)) (y := (Y 23 g)) (z := (Z 23 g)) w1 hg rfl rfl rfl) (dk_rd (k := 24) (i := g) (x := (X 24 g)) (y := (Y 24 g)) (z := (Z 24 g)) w1 hg rfl rfl rfl) (nI k') (vp_in_nI (by omega) (by decide))) (dk_rd (k := 21) (i := g) (x := (X 21 g)) (y := (Y 21 g)) (z := (Z 21 g)) w1 hg rfl rfl rfl) rfl rfl ⟨by decide, by decide⟩ (Nat.le_of_ble_eq_true rfl) ⟨by decide, by decide⟩ (fun _ => rfl) (fun v2_ h2_ n2_ p2_ => ?_)
  obtain ⟨f2_, e2_, p2_⟩ := p2_
  have e2z := e2_.symm
  have f2z := f2_.symm
  subst e2z
  subst f2z
  rw [nI_clamp (by omega), w3] at p2_
  exact z_iret C dd_N_walk_56 ⟨rfl, p2_, w1⟩ (by decide) (by decide)
