/-! the class's nodes of generic g are the list G -/
def dk_gr (X : dk_X) (g : Nat) (G : List tg_N) : Prop := G.length ≤ 80 ∧ X 21 g 3 = nI G.length ∧ ∀ (k : Nat) (x : tg_N), G[k]? = some x → X 22 g k = x.1 ∧ X 23 g k = x.2.1 ∧ X 24 g k = x.2.2
/-- only the nodes of g are others -/
def dk_f8 (g : Nat) (X X' : dk_X) : Prop := ∀ k i, ¬ ((k = 21 ∨ k = 22 ∨ k = 23 ∨ k = 24) ∧ i = g) → X' k i = X k i
theorem dk_f8_tr {g : Nat} {X X' X2 : dk_X} (a : dk_f8 g X X') (b : dk_f8 g X' X2) : dk_f8 g X X2 := fun k i h => (b k i h).trans (a k i h)
theorem tg_nw {G : List tg_N} {x : tg_N} (h : ∀ j : Nat, j < G.length → ¬ G[j]? = some x) : tg_ix x G 0 = none := tg_ix_none G 0 (fun j z => by
  rcases Nat.lt_or_ge j G.length with c | c
  · exact h j c z
  · rw [List.getElem?_eq_none c] at z
    cases z)
abbrev rm_R_nodeFor : Room := { frames := 1, cells := 0, slots := 0, locals := 0 }
set_option maxRecDepth 20000 in
theorem lp_R_nodeFor {D : va_G} {dA : Nat → ClassId} {B : Nat} {p : Program} {l : Launch} {e : Env} {s : State} {m : MethodId} {args : Array Value} {below : List Frame} {meth : Method} {c : Code} {Q : State → Prop} {n : Nat} {nm : String} {ret9 : Option FieldType} {h : zz_H} (C : zz_C D zz_cl (zz_ty dA) B zz_tb (zz_x B) p s m args meth c bb_R_nodeFor RR_R ret9 nm) {ad : Nat → Nat → Nat} {ng nM : Nat} {na no : Nat → Nat} {X : dk_X} {Y : dk_Y} {Z : dk_Z} {g : Nat} {G : List tg_N} {t p9 o : Int32} (hP : dk_K dA ad (dk_lv ng nM na no) X Y Z h h) (hg : g < ng) (GR : dk_gr X g G)
    (k1 : ∀ k, k < G.length → G[k]? = some (t, p9, o) → (∀ j : Nat, j < k → ¬ G[j]? = some (t, p9, o)) → zz_W D zz_cl B p l e rm_R_nodeFor s m args below meth c Q h n 0 0 [some (.ref (ad 21 g)), some (.int t), some (.int p9), some (.int o), some (.int (nI k))] 47 [.int (nI k)])
    (k2 : (∀ j : Nat, j < G.length → ¬ G[j]? = some (t, p9, o)) → zz_W D zz_cl B p l e rm_R_nodeFor s m args below meth c Q h n 0 0 [some (.ref (ad 21 g)), some (.int t), some (.int p9), some (.int o), some (.int (nI G.length))] 54 []) :
    ∀ f k, k + f = G.length → (∀ j : Nat, j < k → ¬ G[j]? = some (t, p9, o)) → zz_W D zz_cl B p l e rm_R_nodeFor s m args below meth c Q h n 0 0 [some (.ref (ad 21 g)), some (.int t), some (.int p9), some (.int o), some (.int (nI k))] 3 [] := by
  intro f
  have hl80 := GR.1
  induction f with
  | zero =>
    intro k hk hn
    have hk9 : k = G.length := by omega
    subst hk9
    refine z_iload C dd_R_nodeFor_3 rfl ?_
    refine z_aload_n C dd_R_nodeFor_5 rfl ?_
    refine gf_R_19 (v := .int (X 21 g 3)) C dd_R_nodeFor_6 (dk_rd (k := 21) (i := g) (x := (X 21 g)) (y := (Y 21 g)) (z := (Z 21 g)) hP hg rfl rfl rfl) rfl ?_
    refine z_topi (y := nI G.length) GR.2.1.symm ?_
    refine z_icmp_ge (tgt := 54) C dd_R_nodeFor_9 (by decide) (fun q1 => ?_) (fun q1 => absurd (Int32.le_refl _) q1)
    exact k2 hn
  | succ f ih =>
    intro k hk hn
    obtain ⟨x9, ex⟩ : ∃ x9, G[k]? = some x9 := ⟨_, List.getElem?_eq_getElem (show k < G.length by omega)⟩
    have gx := GR.2.2 k x9 ex
    refine z_iload C dd_R_nodeFor_3 rfl ?_
    refine z_aload_n C dd_R_nodeFor_5 rfl ?_
    refine gf_R_19 (v := .int (X 21 g 3)) C dd_R_nodeFor_6 (dk_rd (k := 21) (i := g) (x := (X 21 g)) (y := (Y 21 g)) (z := (Z 21 g)) hP hg rfl rfl rfl) rfl ?_
    refine z_topi (y := nI G.length) GR.2.1.symm ?_
    refine z_icmp_ge (tgt := 54) C dd_R_nodeFor_9 (by decide) (fun q1 => ?_) (fun q1 => ?_)
    · replace q1 : G.length ≤ k := (@nI_leI G.length k (by omega) (by omega)).mp q1
      omega
    · replace q1 : ¬ G.length ≤ k := fun z => q1 ((@nI_leI G.length k (by omega) (by omega)).mpr z)
      refine z_aload_n C dd_R_nodeFor_12 rfl ?_
      refine gf_R_9 (v := .ref ((ad 22 g))) C dd_R_nodeFor_13 (dk_rd (k := 21) (i := g) (x := (X 21 g)) (y := (Y 21 g)) (z := (Z 21 g)) hP hg rfl rfl rfl) rfl ?_
      refine z_iload C dd_R_nodeFor_16 rfl ?_
      refine z_iald (t0 := 0) (N := 80) (f := (X 22 g)) C rfl dd_R_nodeFor_18 (dk_rd (k := 22) (i := g) (x := (X 22 g)) (y := (Y 22 g)) (z := (Z 22 g)) hP hg rfl rfl rfl) (vp_in_nI (by omega) (by decide)) ?_
      refine z_topi (y := ((X 22 g) k)) (by rw [nI_clamp (by omega)]) ?_
      refine z_iload_n C dd_R_nodeFor_19 rfl ?_
      refine z_icmp_ne (tgt := 48) C dd_R_nodeFor_20 (by decide) (fun q2 => ?_) (fun q2 => ?_)
      · skip
        refine z_iincN C dd_R_nodeFor_48 rfl rfl ?_
        refine z_goto (tgt := 3) C dd_R_nodeFor_51 (by decide) ?_
        refine ih (k + 1) (by omega) (fun j hj z => ?_)
        by_cases c : j = k
        · subst c
          rw [ex] at z
          have z2 := Option.some.inj z
          exact q2 (by rw [gx.1, z2])
        · exact hn j (by omega) z
      · skip
        refine z_aload_n C dd_R_nodeFor_23 rfl ?_
        refine gf_R_13 (v := .ref ((ad 23 g))) C dd_R_nodeFor_24 (dk_rd (k := 21) (i := g) (x := (X 21 g)) (y := (Y 21 g)) (z := (Z 21 g)) hP hg rfl rfl rfl) rfl ?_
        refine z_iload C dd_R_nodeFor_27 rfl ?_
        refine z_iald (t0 := 0) (N := 80) (f := (X 23 g)) C rfl dd_R_nodeFor_29 (dk_rd (k := 23) (i := g) (x := (X 23 g)) (y := (Y 23 g)) (z := (Z 23 g)) hP hg rfl rfl rfl) (vp_in_nI (by omega) (by decide)) ?_
        refine z_topi (y := ((X 23 g) k)) (by rw [nI_clamp (by omega)]) ?_
        refine z_iload_n C dd_R_nodeFor_30 rfl ?_
        refine z_icmp_ne (tgt := 48) C dd_R_nodeFor_31 (by decide) (fun q3 => ?_) (fun q3 => ?_)
        · skip
          refine z_iincN C dd_R_nodeFor_48 rfl rfl ?_
          refine z_goto (tgt := 3) C dd_R_nodeFor_51 (by decide) ?_
          refine ih (k + 1) (by omega) (fun j hj z => ?_)
          by_cases c : j = k
          · subst c
            rw [ex] at z
            have z2 := Option.some.inj z
            exact q3 (by rw [gx.2.1, z2])
          · exact hn j (by omega) z
        · skip
          refine z_aload_n C dd_R_nodeFor_34 rfl ?_
          refine gf_R_16 (v := .ref ((ad 24 g))) C dd_R_nodeFor_35 (dk_rd (k := 21) (i := g) (x := (X 21 g)) (y := (Y 21 g)) (z := (Z 21 g)) hP hg rfl rfl rfl) rfl ?_
          refine z_iload C dd_R_nodeFor_38 rfl ?_
          refine z_iald (t0 := 0) (N := 80) (f := (X 24 g)) C rfl dd_R_nodeFor_40 (dk_rd (k := 24) (i := g) (x := (X 24 g)) (y := (Y 24 g)) (z := (Z 24 g)) hP hg rfl rfl rfl) (vp_in_nI (by omega) (by decide)) ?_
          refine z_topi (y := ((X 24 g) k)) (by rw [nI_clamp (by omega)]) ?_
          refine z_iload_n C dd_R_nodeFor_41 rfl ?_
          refine z_icmp_ne (tgt := 48) C dd_R_nodeFor_42 (by decide) (fun q4 => ?_) (fun q4 => ?_)
          · skip
            refine z_iincN C dd_R_nodeFor_48 rfl rfl ?_
            refine z_goto (tgt := 3) C dd_R_nodeFor_51 (by decide) ?_
            refine ih (k + 1) (by omega) (fun j hj z => ?_)
            by_cases c : j = k
            · subst c
              rw [ex] at z
              have z2 := Option.some.inj z
              exact q4 (by rw [gx.2.2, z2])
            · exact hn j (by omega) z
          · skip
            refine z_iload C dd_R_nodeFor_45 rfl ?_
            exact k1 k (by omega) (by rw [ex]; exact congrArg some (Prod.ext (gx.1.symm.trans q2) (Prod.ext (gx.2.1.symm.trans q3) (gx.2.2.symm.trans q4)))) hn
set_option maxRecDepth 20000 in
/-- nodeFor -/
theorem cd_R_nodeFor (l : Launch) (D : va_G) (dA : Nat → ClassId) (B : Nat) (h : zz_H) (n : Nat) (ad : Nat → Nat → Nat) (ng nM : Nat) (na no : Nat → Nat) (X : dk_X) (Y : dk_Y) (Z : dk_Z) (hP0 : dk_P dA ad (dk_lv ng nM na no) X Y Z h) (g : Nat) (G : List tg_N) (t p9 o : Int32) (hg : g < ng) (GR : dk_gr X g G) : zz_M l D zz_cl (zz_ty dA) B zz_tb (zz_x B) yy_R_nodeFor (Cond.code yy_R_nodeFor bb_R_nodeFor 5 (some FieldType.int)) rm_R_nodeFor [.ref ((ad 21 g)), .int t, .int p9, .int o] h n zz_mi (fun r h' n' => n' = n ∧ r = (tg_add G (t, p9, o)).2 ∧ ∃ X', dk_K dA ad (dk_lv ng nM na no) X' Y Z h h' ∧ dk_gr X' g (tg_add G (t, p9, o)).1 ∧ dk_f8 g X X') := by
  refine zz_ofW (zz_f B) [some (.ref ((ad 21 g))), some (.int t), some (.int p9), some (.int o), none] (by decide) rfl rfl (Nat.le_of_ble_eq_true rfl) ?_
  intro p e s m below meth c C
  have hP := dk_rf hP0
  have hl80 := GR.1
  refine z_iconst (v := 0) C dd_R_nodeFor_0 (by decide) ?_
  refine z_istore C dd_R_nodeFor_1 rfl ?_
  refine lp_R_nodeFor C hP hg GR (fun k w1 w2 w3 => ?_) (fun hn => ?_) G.length 0 (by omega) (fun j hj => absurd hj (by omega))
  · have e9 : tg_add G (t, p9, o) = (G, nI k) := by
      unfold tg_add
      rw [tg_ix_some G k 0 w2 w3, Nat.zero_add]
    rw [e9]
    exact z_iret C dd_R_nodeFor_47 ⟨rfl, rfl, X, hP, GR, fun _ _ _ => rfl⟩ (by decide) (by decide)
  · skip
    have hix := tg_nw hn
    refine z_aload_n C dd_R_nodeFor_54 rfl ?_
    refine gf_R_19 (v := .int (X 21 g 3)) C dd_R_nodeFor_55 (dk_rd (k := 21) (i := g) (x := (X 21 g)) (y := (Y 21 g)) (z := (Z 21 g)) hP hg rfl rfl rfl) rfl ?_
    refine z_topi (y := nI G.length) GR.2.1.symm ?_
    refine z_bipush (v := 80) C dd_R_nodeFor_58 (by decide) ?_
    refine z_icmp_lt (tgt := 65) C dd_R_nodeFor_60 (by decide) (fun q1 => ?_) (fun q1 => ?_)
    · replace q1 : G.length < 80 := (@nI_ltI G.length 80 (by omega) (by omega)).mp q1
      refine z_aload_n C dd_R_nodeFor_65 rfl ?_
      refine gf_R_9 (v := .ref ((ad 22 g))) C dd_R_nodeFor_66 (dk_rd (k := 21) (i := g) (x := (X 21 g)) (y := (Y 21 g)) (z := (Z 21 g)) hP hg rfl rfl rfl) rfl ?_
      refine z_aload_n C dd_R_nodeFor_69 rfl ?_
      refine gf_R_19 (v := .int (X 21 g 3)) C dd_R_nodeFor_70 (dk_rd (k := 21) (i := g) (x := (X 21 g)) (y := (Y 21 g)) (z := (Z 21 g)) hP hg rfl rfl rfl) rfl ?_
      refine z_topi (y := nI G.length) GR.2.1.symm ?_
      refine z_iload_n C dd_R_nodeFor_73 rfl ?_
      refine z_iast (t0 := 0) (N := 80) (f := (X 22 g)) C rfl dd_R_nodeFor_74 (dk_rd (k := 22) (i := g) (x := (X 22 g)) (y := (Y 22 g)) (z := (Z 22 g)) hP hg rfl rfl rfl) (vp_in_nI (by omega) (by decide)) ?_
      refine z_cut (dk_K dA ad (dk_lv ng nM na no) (dk_is X 22 g (upd (X 22 g) (Int32.toNatClampNeg (nI G.length)) t)) Y Z h) (dk_wX hP hg rfl rfl rfl) rfl rfl rfl (fun h1_ hP1_ => ?_)
      refine z_aload_n C dd_R_nodeFor_75 rfl ?_
      refine gf_R_13 (v := .ref ((ad 23 g))) C dd_R_nodeFor_76 (dk_rd (k := 21) (i := g) (x := (X 21 g)) (y := (Y 21 g)) (z := (Z 21 g)) hP1_ hg rfl rfl rfl) rfl ?_
      refine z_aload_n C dd_R_nodeFor_79 rfl ?_
      refine gf_R_19 (v := .int (X 21 g 3)) C dd_R_nodeFor_80 (dk_rd (k := 21) (i := g) (x := (X 21 g)) (y := (Y 21 g)) (z := (Z 21 g)) hP1_ hg rfl rfl rfl) rfl ?_
      refine z_topi (y := nI G.length) GR.2.1.symm ?_
      refine z_iload_n C dd_R_nodeFor_83 rfl ?_
      refine z_iast (t0 := 0) (N := 80) (f := (X 23 g)) C rfl dd_R_nodeFor_84 (dk_rd (k := 23) (i := g) (x := (X 23 g)) (y := (Y 23 g)) (z := (Z 23 g)) hP1_ hg rfl rfl rfl) (vp_in_nI (by omega) (by decide)) ?_
      refine z_cut (dk_K dA ad (dk_lv ng nM na no) (dk_is (dk_is X 22 g (upd (X 22 g) (Int32.toNatClampNeg (nI G.length)) t)) 23 g (upd (X 23 g) (Int32.toNatClampNeg (nI G.length)) p9)) Y Z h) (dk_wX hP1_ hg rfl rfl rfl) rfl rfl rfl (fun h2_ hP2_ => ?_)
      refine z_aload_n C dd_R_nodeFor_85 rfl ?_
      refine gf_R_16 (v := .ref ((ad 24 g))) C dd_R_nodeFor_86 (dk_rd (k := 21) (i := g) (x := (X 21 g)) (y := (Y 21 g)) (z := (Z 21 g)) hP2_ hg rfl rfl rfl) rfl ?_
      refine z_aload_n C dd_R_nodeFor_89 rfl ?_
      refine gf_R_19 (v := .int (X 21 g 3)) C dd_R_nodeFor_90 (dk_rd (k := 21) (i := g) (x := (X 21 g)) (y := (Y 21 g)) (z := (Z 21 g)) hP2_ hg rfl rfl rfl) rfl ?_
      refine z_topi (y := nI G.length) GR.2.1.symm ?_
      refine z_iload_n C dd_R_nodeFor_93 rfl ?_
      refine z_iast (t0 := 0) (N := 80) (f := (X 24 g)) C rfl dd_R_nodeFor_94 (dk_rd (k := 24) (i := g) (x := (X 24 g)) (y := (Y 24 g)) (z := (Z 24 g)) hP2_ hg rfl rfl rfl) (vp_in_nI (by omega) (by decide)) ?_
      refine z_cut (dk_K dA ad (dk_lv ng nM na no) (dk_is (dk_is (dk_is X 22 g (upd (X 22 g) (Int32.toNatClampNeg (nI G.length)) t)) 23 g (upd (X 23 g) (Int32.toNatClampNeg (nI G.length)) p9)) 24 g (upd (X 24 g) (Int32.toNatClampNeg (nI G.length)) o)) Y Z h) (dk_wX hP2_ hg rfl rfl rfl) rfl rfl rfl (fun h3_ hP3_ => ?_)
      refine z_aload_n C dd_R_nodeFor_95 rfl ?_
      refine z_dup C dd_R_nodeFor_96 rfl ?_
      refine gf_R_19 (v := .int (X 21 g 3)) C dd_R_nodeFor_97 (dk_rd (k := 21) (i := g) (x := (X 21 g)) (y := (Y 21 g)) (z := (Z 21 g)) hP3_ hg rfl rfl rfl) rfl ?_
      refine z_topi (y := nI G.length) GR.2.1.symm ?_
      refine z_dup_x1 C dd_R_nodeFor_100 rfl rfl ?_
      refine z_iconst (v := 1) C dd_R_nodeFor_101 (by decide) ?_
      refine z_iadd C dd_R_nodeFor_102 ?_
      refine z_topi (y := nI (G.length + 1)) (by first | exact (nI_add _ _).symm | (rw [← nI_add]; rfl)) ?_
      refine pf_R_19 C dd_R_nodeFor_103 (dk_rd (k := 21) (i := g) (x := (X 21 g)) (y := (Y 21 g)) (z := (Z 21 g)) hP3_ hg rfl rfl rfl) (Nat.le_of_ble_eq_true rfl) rfl rfl ?_
      refine z_cut (dk_K dA ad (dk_lv ng nM na no) (dk_is (dk_is (dk_is (dk_is X 22 g (upd (X 22 g) (Int32.toNatClampNeg (nI G.length)) t)) 23 g (upd (X 23 g) (Int32.toNatClampNeg (nI G.length)) p9)) 24 g (upd (X 24 g) (Int32.toNatClampNeg (nI G.length)) o)) 21 g (upd (X 21 g) 3 (nI (G.length + 1)))) Y Z h) (dk_wX hP3_ hg rfl rfl rfl) rfl rfl rfl (fun h4_ hP4_ => ?_)
      have e9 : tg_add G (t, p9, o) = (G ++ [(t, p9, o)], nI G.length) := by
        unfold tg_add
        rw [hix]
        exact if_neg (by omega)
      rw [e9]
      rw [nI_clamp (by omega)] at hP4_
      refine z_iret C dd_R_nodeFor_106 ⟨rfl, rfl, _, hP4_, ⟨?_, ?_, fun k x hx => ?_⟩, fun k i c => ?_⟩ (by decide) (by decide)
      · simp; omega
      · rw [dk_s, pk_us]; simp
      · show dk_is X 22 g (upd (X 22 g) G.length t) 22 g k = x.1 ∧ dk_is (dk_is X 22 g (upd (X 22 g) G.length t)) 23 g (upd (X 23 g) G.length p9) 23 g k = x.2.1 ∧ dk_is (dk_is (dk_is X 22 g (upd (X 22 g) G.length t)) 23 g (upd (X 23 g) G.length p9)) 24 g (upd (X 24 g) G.length o) 24 g k = x.2.2
        rw [dk_s, dk_s, dk_s]
        rcases Nat.lt_trichotomy k G.length with c | c | c
        · rw [List.getElem?_append_left c] at hx
          rw [pk_un (by omega), pk_un (by omega), pk_un (by omega)]
          exact GR.2.2 k x hx
        · subst c
          rw [List.getElem?_append_right (Nat.le_refl _), Nat.sub_self] at hx
          have e : (t, p9, o) = x := by simpa using hx
          subst e
          rw [pk_us, pk_us, pk_us]
          exact ⟨rfl, rfl, rfl⟩
        · rw [List.getElem?_eq_none (by simp; omega)] at hx
          cases hx
      · rw [dk_n (fun z => c ⟨Or.inl z.1, z.2⟩), dk_n (fun z => c ⟨Or.inr (Or.inr (Or.inr z.1)), z.2⟩), dk_n (fun z => c ⟨Or.inr (Or.inr (Or.inl z.1)), z.2⟩), dk_n (fun z => c ⟨Or.inr (Or.inl z.1), z.2⟩)]
    · replace q1 : ¬ G.length < 80 := fun z => q1 ((@nI_ltI G.length 80 (by omega) (by omega)).mpr z)
      refine z_iconst (v := (-1)) C dd_R_nodeFor_63 (by decide) ?_
      have e9 : tg_add G (t, p9, o) = (G, -1) := by
        unfold tg_add
        rw [hix]
        exact if_pos (by omega)
      rw [e9]
      exact z_iret C dd_R_nodeFor_64 ⟨rfl, rfl, X, hP, GR, fun _ _ _ => rfl⟩ (by decide) (by decide)
abbrev rm_R_leafFor : Room := { frames := 3, cells := 0, slots := 0, locals := 60 }
set_option maxRecDepth 20000 in
/-- leafFor -/
theorem cd_R_leafFor (l : Launch) (D : va_G) (dA : Nat → ClassId) (B : Nat) (h : zz_H) (n : Nat) (ad : Nat → Nat → Nat) (ng nM : Nat) (na no : Nat → Nat) (X : dk_X) (Y : dk_Y) (Z : dk_Z) (hP0 : dk_P dA ad (dk_lv ng nM na no) X Y Z h) (g : Nat) (G : List tg_N) (v : Int32) (hg : g < ng) (GR : dk_gr X g G) : zz_M l D zz_cl (zz_ty dA) B zz_tb (zz_x B) yy_R_leafFor (Cond.code yy_R_leafFor bb_R_leafFor 2 (some FieldType.int)) rm_R_leafFor [.ref ((ad 21 g)), .int v] h n zz_mi (fun r h' n' => n' = n ∧ r = (tg_add G (-1, v, -1)).2 ∧ ∃ X', dk_K dA ad (dk_lv ng nM na no) X' Y Z h h' ∧ dk_gr X' g (tg_add G (-1, v, -1)).1 ∧ dk_f8 g X X') := by
  refine zz_ofW (zz_f B) [some (.ref ((ad 21 g))), some (.int v)] (by decide) rfl rfl (Nat.le_of_ble_eq_true rfl) ?_
  intro p e s m below meth c C
  have hP := dk_rf hP0
  refine z_aload_n C dd_R_leafFor_0 rfl ?_
  refine z_iconst (v := (-1)) C dd_R_leafFor_1 (by decide) ?_
  refine z_iload_n C dd_R_leafFor_2 rfl ?_
  refine z_iconst (v := (-1)) C dd_R_leafFor_3 (by decide) ?_
  refine iv_R_23 (sk := fun r => .int r :: []) (zz_f B) C dd_R_leafFor_4 (cd_R_nodeFor l D dA B _ _ ad ng nM na no X Y Z hP.1 g G (-1) v (-1) hg GR) (dk_rd (k := 21) (i := g) (x := (X 21 g)) (y := (Y 21 g)) (z := (Z 21 g)) hP hg rfl rfl rfl) rfl rfl ⟨by decide, by decide⟩ (Nat.le_of_ble_eq_true rfl) ⟨by decide, by decide⟩ (fun _ => rfl) (fun v1_ h1_ n1_ p1_ => ?_)
  obtain ⟨rfl, q9, X', w1, w2, w3⟩ := p1_
  exact z_iret C dd_R_leafFor_7 ⟨rfl, q9, X', w1, w2, w3⟩ (by decide) (by decide)
