/-! the tests of a generic: the atoms of its methods, each once -/
def pu_wt (X : Nat → Nat → Int32) (t : Nat) : Prop := ∃ kd wh, kd < 6 ∧ wh < 2 ∧ X 19 t = nI kd ∧ X 20 t = nI wh ∧ (kd = 0 → ∃ xd, xd < 8 ∧ X 21 t = nI xd)
def pu_gI (I X : Nat → Nat → Int32) (g c : Nat) : Prop := (∀ k, k < 18 → X k = I k) ∧ ∃ T, T ≤ c ∧ X 18 g = nI T ∧ ∀ t, t < T → pu_wt X (48 * g + t)
def pu_g0 (X : Nat → Nat → Int32) (g k T : Nat) : Nat → Nat → Int32 := if ((List.range T).any fun t => pu_tq X (48 * g + t) k) = true then X else md_is (md_is (md_is (md_is X 19 (upd (X 19) (48 * g + T) (X 4 k))) 20 (upd (X 20) (48 * g + T) (X 5 k))) 21 (upd (X 21) (48 * g + T) (X 6 k))) 18 (upd (X 18) g (nI (T + 1)))
def pu_g1 (X : Nat → Nat → Int32) (g k : Nat) : Nat → Nat → Int32 := pu_g0 X g k (X 18 g).toNatClampNeg
def pu_g2 (X : Nat → Nat → Int32) (g m : Nat) : Nat → Nat → Nat → Int32
  | 0 => X
  | j + 1 => pu_g1 (pu_g2 X g m j) g (4 * m + j)
def pu_g3 (I : Nat → Nat → Int32) (g : Nat) : Nat → Nat → Nat → Int32
  | 0 => md_is I 18 (upd (I 18) g 0)
  | m + 1 => if I 2 m = nI g then pu_g2 (pu_g3 I g m) g m (I 3 m).toNatClampNeg else pu_g3 I g m
theorem pu_gI_up {I X : Nat → Nat → Int32} {g c c' : Nat} (h : pu_gI I X g c) (hc : c ≤ c') : pu_gI I X g c' := by
  obtain ⟨e, T, hT, eT, hw⟩ := h
  exact ⟨e, T, by omega, eT, hw⟩
theorem pu_g1_inv {I X : Nat → Nat → Int32} {g c k : Nat} (h : pu_gI I X g c) (hw : pu_wa I k) (hc : c < 48) : pu_gI I (pu_g1 X g k) g (c + 1) := by
  obtain ⟨e, T, hT, eT, hs⟩ := h
  unfold pu_g1
  rw [eT, nI_clamp (by omega)]
  unfold pu_g0
  split
  · exact ⟨e, T, by omega, eT, hs⟩
  · refine ⟨fun k hk => ?_, T + 1, by omega, ?_, fun t ht => ?_⟩
    · unfold md_is
      rw [if_neg (by omega), if_neg (by omega), if_neg (by omega), if_neg (by omega)]
      exact e k hk
    · show upd (X 18) g (nI (T + 1)) g = _
      exact pk_us
    · by_cases z : t = T
      · subst z
        obtain ⟨kd, wh, a1, a2, a3, a4, a5, _⟩ := hw
        refine ⟨kd, wh, a1, a2, ?_, ?_, fun z => ?_⟩
        · show upd (X 19) (48 * g + t) (X 4 k) (48 * g + t) = _
          rw [pk_us, e 4 (by decide)]
          exact a3
        · show upd (X 20) (48 * g + t) (X 5 k) (48 * g + t) = _
          rw [pk_us, e 5 (by decide)]
          exact a4
        · obtain ⟨xd, b1, b2⟩ := a5 z
          refine ⟨xd, b1, ?_⟩
          show upd (X 21) (48 * g + t) (X 6 k) (48 * g + t) = _
          rw [pk_us, e 6 (by decide)]
          exact b2
      · obtain ⟨kd, wh, a1, a2, a3, a4, a5⟩ := hs t (by omega)
        refine ⟨kd, wh, a1, a2, ?_, ?_, fun z => ?_⟩
        · show upd (X 19) (48 * g + T) (X 4 k) (48 * g + t) = _
          rw [pk_un (by omega)]
          exact a3
        · show upd (X 20) (48 * g + T) (X 5 k) (48 * g + t) = _
          rw [pk_un (by omega)]
          exact a4
        · obtain ⟨xd, b1, b2⟩ := a5 z
          refine ⟨xd, b1, ?_⟩
          show upd (X 21) (48 * g + T) (X 6 k) (48 * g + t) = _
          rw [pk_un (by omega)]
          exact b2
theorem pu_g2_inv {I X : Nat → Nat → Int32} {g m c : Nat} (h : pu_gI I X g c) : ∀ j, c + j ≤ 48 → (∀ i, i < j → pu_wa I (4 * m + i)) → pu_gI I (pu_g2 X g m j) g (c + j) := by
  intro j
  induction j with
  | zero => intro _ _; exact h
  | succ j ih => intro hc hw; exact pu_g1_inv (c := c + j) (ih (by omega) (fun i hi => hw i (by omega))) (hw j (by omega)) (by omega)
theorem pu_g3_inv {F : Nat → Int32} {I : Nat → Nat → Int32} {nc ng nM g : Nat} (W : pu_W F I nc ng nM) : ∀ m, m ≤ nM → pu_gI I (pu_g3 I g m) g (4 * m) := by
  intro m
  have h12 := W.m12
  induction m with
  | zero =>
    intro _
    refine ⟨fun k hk => ?_, 0, by omega, ?_, fun t ht => absurd ht (by omega)⟩
    · show md_is I 18 (upd (I 18) g 0) k = _
      unfold md_is
      rw [if_neg (by omega)]
    · show upd (I 18) g 0 g = _
      rw [pk_us]
      rfl
  | succ m ih =>
    intro hm
    obtain ⟨a, h1, h2, h3⟩ := W.ats m (by omega)
    rw [pu_g3]
    split
    · rw [h2, nI_clamp (by omega)]
      exact pu_gI_up (pu_g2_inv (ih (by omega)) a (by omega) h3) (by omega)
    · exact pu_gI_up (ih (by omega)) (by omega)
abbrev rm_Q_gather : Room := { frames := 6, cells := 0, slots := 0, locals := 160 }
set_option maxRecDepth 20000 in
theorem lpE_Q_gather {D : va_G} {dA : Nat → ClassId} {B : Nat} {p : Program} {l : Launch} {e : Env} {s : State} {m : MethodId} {args : Array Value} {below : List Frame} {meth : Method} {c : Code} {Q : State → Prop} {n : Nat} {nm : String} {ret9 : Option FieldType} {h : zz_H} (C : zz_C D zz_cl (zz_ty dA) B zz_tb (zz_x B) p s m args meth c bb_Q_gather RR_Q ret9 nm) {q : Nat} {F : Nat → Int32} {I X : Nat → Nat → Int32} {J : Nat → Nat → Int64} {nc ng nM : Nat} (W : pu_W F I nc ng nM) {g0 : Nat} (hg : g0 < ng) {m0 a : Nat} (hm : m0 < nM) (ha : a ≤ 4) (ea : I 3 m0 = nI a) (hwa : ∀ i, i < a → pu_wa I (4 * m0 + i)) (eo : I 2 m0 = nI g0) (hX : pu_gI I X g0 (4 * m0)) (kx : ∀ h9 k9 o4, md_K dA F (pu_g2 X g0 m0 a) J q h h9 → zz_W D zz_cl B p l e rm_Q_gather s m args below meth c Q h9 n 0 0 [some (.ref q), some (.int (nI g0)), some (.int (nI m0)), some (.int (nI k9)), o4] 122 []) :
    ∀ f j h9 o4, j + f = a → md_K dA F (pu_g2 X g0 m0 j) J q h h9 → zz_W D zz_cl B p l e rm_Q_gather s m args below meth c Q h9 n 0 0 [some (.ref q), some (.int (nI g0)), some (.int (nI m0)), some (.int (nI (4 * m0 + j))), o4] 21 [] := by
  intro f
  have h12 := W.m12
  have hg4 := W.g4
  induction f with
  | zero =>
    intro j h9 o4 hf hP
    have hj : j = a := by omega
    subst hj
    obtain ⟨e9, T, hT, eT, hs⟩ := pu_g2_inv hX j (by omega) hwa
    obtain ⟨X9, hX9⟩ : ∃ X9, X9 = pu_g2 X g0 m0 j := ⟨_, rfl⟩
    have hP0 := hP
    rw [← hX9] at hP e9
    have e3 : X9 3 m0 = nI j := by rw [e9 3 (by decide)]; exact ea
    refine z_iload_n C dd_Q_gather_21 rfl ?_
    refine z_iconst (v := 4) C dd_Q_gather_22 (by decide) ?_
    refine z_iload_n C dd_Q_gather_23 rfl ?_
    refine z_imul C dd_Q_gather_24 ?_
    refine z_topi (y := nI (4 * m0)) (by first | exact (pk_mul _ _).symm | (rw [← pk_mul]; rfl)) ?_
    refine z_aload_n C dd_Q_gather_25 rfl ?_
    refine gf_Q_23 (v := .ref (q + 1 + 3)) C dd_Q_gather_26 hP.1.1 rfl ?_
    refine z_iload_n C dd_Q_gather_29 rfl ?_
    refine z_iald (t0 := 0) (N := 12) (f := (X9 3)) C rfl dd_Q_gather_30 (hP.1.2 3 (by decide)) (vp_in_nI (by omega) (by decide)) ?_
    refine z_topi (y := nI j) (by rw [nI_clamp (by omega)]; exact e3.symm) ?_
    refine z_iadd C dd_Q_gather_31 ?_
    refine z_topi (y := nI ((4 * m0) + j)) (by first | exact (nI_add _ _).symm | (rw [← nI_add]; rfl)) ?_
    exact z_icmp_ge (tgt := 122) C dd_Q_gather_32 (by decide) (fun _ => kx _ _ _ hP0) (fun q10 => absurd (nI_le (Nat.le_refl _) (by omega)) q10)
  | succ f ih =>
    intro j h9 o4 hf hP
    obtain ⟨e9, T, hT, eT, hs⟩ := pu_g2_inv hX j (by omega) (fun i hi => hwa i (by omega))
    obtain ⟨X9, hX9⟩ : ∃ X9, X9 = pu_g2 X g0 m0 j := ⟨_, rfl⟩
    rw [← hX9] at hP e9 eT
    have e3 : X9 3 m0 = nI a := by rw [e9 3 (by decide)]; exact ea
    have e2 : X9 2 m0 = nI g0 := by rw [e9 2 (by decide)]; exact eo
    have hst : pu_g2 X g0 m0 (j + 1) = pu_g0 X9 g0 (4 * m0 + j) T := by
      rw [pu_g2, ← hX9, pu_g1, eT, nI_clamp (by omega)]
    refine z_iload_n C dd_Q_gather_21 rfl ?_
    refine z_iconst (v := 4) C dd_Q_gather_22 (by decide) ?_
    refine z_iload_n C dd_Q_gather_23 rfl ?_
    refine z_imul C dd_Q_gather_24 ?_
    refine z_topi (y := nI (4 * m0)) (by first | exact (pk_mul _ _).symm | (rw [← pk_mul]; rfl)) ?_
    refine z_aload_n C dd_Q_gather_25 rfl ?_
    refine gf_Q_23 (v := .ref (q + 1 + 3)) C dd_Q_gather_26 hP.1.1 rfl ?_
    refine z_iload_n C dd_Q_gather_29 rfl ?_
    refine z_iald (t0 := 0) (N := 12) (f := (X9 3)) C rfl dd_Q_gather_30 (hP.1.2 3 (by decide)) (vp_in_nI (by omega) (by decide)) ?_
    refine z_topi (y := nI a) (by rw [nI_clamp (by omega)]; exact e3.symm) ?_
    refine z_iadd C dd_Q_gather_31 ?_
    refine z_topi (y := nI ((4 * m0) + a)) (by first | exact (nI_add _ _).symm | (rw [← nI_add]; rfl)) ?_
    refine z_icmp_ge (tgt := 122) C dd_Q_gather_32 (by decide) (fun q10 => absurd q10 (nI_ge (by omega) (by omega))) (fun _ => ?_)
    refine z_aload_n C dd_Q_gather_35 rfl ?_
    refine gf_Q_20 (v := .ref (q + 1 + 2)) C dd_Q_gather_36 hP.1.1 rfl ?_
    refine z_iload_n C dd_Q_gather_39 rfl ?_
    refine z_iald (t0 := 0) (N := 12) (f := (X9 2)) C rfl dd_Q_gather_40 (hP.1.2 2 (by decide)) (vp_in_nI (by omega) (by decide)) ?_
    refine z_topi (y := nI g0) (by rw [nI_clamp (by omega)]; exact e2.symm) ?_
    refine z_iload_n C dd_Q_gather_41 rfl ?_
    refine z_icmp_ne (tgt := 122) C dd_Q_gather_42 (by decide) (fun q1 => absurd rfl q1) (fun q1 => ?_)
    refine z_aload_n C dd_Q_gather_45 rfl ?_
    refine z_iload_n C dd_Q_gather_46 rfl ?_
    refine z_iload_n C dd_Q_gather_47 rfl ?_
    refine iv_Q_192 (sk := fun r => .int r :: []) (zz_f B) C dd_Q_gather_48 (cc_Q_hasTest l D dA B _ _ q _ _ J hP.1 g0 (4 * m0 + j) T (by omega) (by omega) (by omega) eT) hP.1.1 rfl rfl ⟨by decide, by decide⟩ (Nat.le_of_ble_eq_true rfl) ⟨by decide, by decide⟩ (fun _ => rfl) (fun v1_ h1_ n1_ p1_ => ?_)
    obtain ⟨e1_, f1_, rfl⟩ := p1_
    have e1z := e1_.symm
    have f1z := f1_.symm
    subst e1z
    subst f1z
    refine z_if_ne (tgt := 116) C dd_Q_gather_51 (by decide) (fun q2 => ?_) (fun q2 => ?_)
    · skip
      refine z_iincN C dd_Q_gather_116 rfl rfl ?_
      refine z_goto (tgt := 21) C dd_Q_gather_119 (by decide) ?_
      exact ih (j + 1) _ _ (by omega) (md_Ke hP (by rw [hst, pu_g0, if_pos (pu_bn1.mp q2)]))
    · skip
      refine z_bipush (v := 48) C dd_Q_gather_54 (by decide) ?_
      refine z_iload_n C dd_Q_gather_56 rfl ?_
      refine z_imul C dd_Q_gather_57 ?_
      refine z_topi (y := nI (48 * g0)) (by first | exact (pk_mul _ _).symm | (rw [← pk_mul]; rfl)) ?_
      refine z_aload_n C dd_Q_gather_58 rfl ?_
      refine gf_Q_69 (v := .ref (q + 1 + 18)) C dd_Q_gather_59 hP.1.1 rfl ?_
      refine z_iload_n C dd_Q_gather_62 rfl ?_
      refine z_iald (t0 := 0) (N := 4) (f := (X9 18)) C rfl dd_Q_gather_63 (hP.1.2 18 (by decide)) (vp_in_nI (by omega) (by decide)) ?_
      refine z_topi (y := nI T) (by rw [nI_clamp (by omega)]; exact eT.symm) ?_
      refine z_iadd C dd_Q_gather_64 ?_
      refine z_topi (y := nI ((48 * g0) + T)) (by first | exact (nI_add _ _).symm | (rw [← nI_add]; rfl)) ?_
      refine z_istore C dd_Q_gather_65 rfl ?_
      refine z_aload_n C dd_Q_gather_67 rfl ?_
      refine gf_Q_72 (v := .ref (q + 1 + 19)) C dd_Q_gather_68 hP.1.1 rfl ?_
      refine z_iload C dd_Q_gather_71 rfl ?_
      refine z_aload_n C dd_Q_gather_73 rfl ?_
      refine gf_Q_26 (v := .ref (q + 1 + 4)) C dd_Q_gather_74 hP.1.1 rfl ?_
      refine z_iload_n C dd_Q_gather_77 rfl ?_
      refine z_iald (t0 := 0) (N := 48) (f := (X9 4)) C rfl dd_Q_gather_78 (hP.1.2 4 (by decide)) (vp_in_nI (by omega) (by decide)) ?_
      refine z_topi (y := ((X9 4) (4 * m0 + j))) (by rw [nI_clamp (by omega)]) ?_
      refine z_iast (t0 := 0) (N := 192) (f := (X9 19)) C rfl dd_Q_gather_79 (hP.1.2 19 (by decide)) (vp_in_nI (by omega) (by decide)) ?_
      refine z_cut (md_K dA F (md_is X9 19 (upd (X9 19) (Int32.toNatClampNeg (nI ((48 * g0) + T))) ((X9 4) (4 * m0 + j)))) J q h) (md_wI hP 19 (by decide) rfl) rfl rfl rfl (fun h2_ hP2_ => ?_)
      refine z_aload_n C dd_Q_gather_80 rfl ?_
      refine gf_Q_75 (v := .ref (q + 1 + 20)) C dd_Q_gather_81 hP2_.1.1 rfl ?_
      refine z_iload C dd_Q_gather_84 rfl ?_
      refine z_aload_n C dd_Q_gather_86 rfl ?_
      refine gf_Q_29 (v := .ref (q + 1 + 5)) C dd_Q_gather_87 hP2_.1.1 rfl ?_
      refine z_iload_n C dd_Q_gather_90 rfl ?_
      refine z_iald (t0 := 0) (N := 48) (f := (X9 5)) C rfl dd_Q_gather_91 (hP2_.1.2 5 (by decide)) (vp_in_nI (by omega) (by decide)) ?_
      refine z_topi (y := ((X9 5) (4 * m0 + j))) (by rw [nI_clamp (by omega)]) ?_
      refine z_iast (t0 := 0) (N := 192) (f := (X9 20)) C rfl dd_Q_gather_92 (hP2_.1.2 20 (by decide)) (vp_in_nI (by omega) (by decide)) ?_
      refine z_cut (md_K dA F (md_is (md_is X9 19 (upd (X9 19) (Int32.toNatClampNeg (nI ((48 * g0) + T))) ((X9 4) (4 * m0 + j)))) 20 (upd (X9 20) (Int32.toNatClampNeg (nI ((48 * g0) + T))) ((X9 5) (4 * m0 + j)))) J q h) (md_wI hP2_ 20 (by decide) rfl) rfl rfl rfl (fun h3_ hP3_ => ?_)
      refine z_aload_n C dd_Q_gather_93 rfl ?_
      refine gf_Q_78 (v := .ref (q + 1 + 21)) C dd_Q_gather_94 hP3_.1.1 rfl ?_
      refine z_iload C dd_Q_gather_97 rfl ?_
      refine z_aload_n C dd_Q_gather_99 rfl ?_
      refine gf_Q_32 (v := .ref (q + 1 + 6)) C dd_Q_gather_100 hP3_.1.1 rfl ?_
      refine z_iload_n C dd_Q_gather_103 rfl ?_
      refine z_iald (t0 := 0) (N := 48) (f := (X9 6)) C rfl dd_Q_gather_104 (hP3_.1.2 6 (by decide)) (vp_in_nI (by omega) (by decide)) ?_
      refine z_topi (y := ((X9 6) (4 * m0 + j))) (by rw [nI_clamp (by omega)]) ?_
      refine z_iast (t0 := 0) (N := 192) (f := (X9 21)) C rfl dd_Q_gather_105 (hP3_.1.2 21 (by decide)) (vp_in_nI (by omega) (by decide)) ?_
      refine z_cut (md_K dA F (md_is (md_is (md_is X9 19 (upd (X9 19) (Int32.toNatClampNeg (nI ((48 * g0) + T))) ((X9 4) (4 * m0 + j)))) 20 (upd (X9 20) (Int32.toNatClampNeg (nI ((48 * g0) + T))) ((X9 5) (4 * m0 + j)))) 21 (upd (X9 21) (Int32.toNatClampNeg (nI ((48 * g0) + T))) ((X9 6) (4 * m0 + j)))) J q h) (md_wI hP3_ 21 (by decide) rfl) rfl rfl rfl (fun h4_ hP4_ => ?_)
      refine z_aload_n C dd_Q_gather_106 rfl ?_
      refine gf_Q_69 (v := .ref (q + 1 + 18)) C dd_Q_gather_107 hP4_.1.1 rfl ?_
      refine z_iload_n C dd_Q_gather_110 rfl ?_
      refine z_dup2_11 C dd_Q_gather_111 rfl rfl ?_
      refine z_iald (t0 := 0) (N := 4) (f := (X9 18)) C rfl dd_Q_gather_112 (hP4_.1.2 18 (by decide)) (vp_in_nI (by omega) (by decide)) ?_
      refine z_topi (y := nI T) (by rw [nI_clamp (by omega)]; exact eT.symm) ?_
      refine z_iconst (v := 1) C dd_Q_gather_113 (by decide) ?_
      refine z_iadd C dd_Q_gather_114 ?_
      refine z_topi (y := nI (T + 1)) (by first | exact (nI_add _ _).symm | (rw [← nI_add]; rfl)) ?_
      refine z_iast (t0 := 0) (N := 4) (f := (X9 18)) C rfl dd_Q_gather_115 (hP4_.1.2 18 (by decide)) (vp_in_nI (by omega) (by decide)) ?_
      refine z_cut (md_K dA F (md_is (md_is (md_is (md_is X9 19 (upd (X9 19) (Int32.toNatClampNeg (nI ((48 * g0) + T))) ((X9 4) (4 * m0 + j)))) 20 (upd (X9 20) (Int32.toNatClampNeg (nI ((48 * g0) + T))) ((X9 5) (4 * m0 + j)))) 21 (upd (X9 21) (Int32.toNatClampNeg (nI ((48 * g0) + T))) ((X9 6) (4 * m0 + j)))) 18 (upd (X9 18) (Int32.toNatClampNeg (nI g0)) (nI (T + 1)))) J q h) (md_wI hP4_ 18 (by decide) rfl) rfl rfl rfl (fun h5_ hP5_ => ?_)
      refine z_iincN C dd_Q_gather_116 rfl rfl ?_
      refine z_goto (tgt := 21) C dd_Q_gather_119 (by decide) ?_
      exact ih (j + 1) _ _ (by omega) (md_Ke hP5_ (by rw [hst, pu_g0, if_neg (by rw [(pu_b0 _).mp q2]; decide), nI_clamp (n := 48 * g0 + T) (by omega), nI_clamp (n := g0) (by omega)]))
set_option maxRecDepth 20000 in
theorem lpG_Q_gather {D : va_G} {dA : Nat → ClassId} {B : Nat} {p : Program} {l : Launch} {e : Env} {s : State} {m : MethodId} {args : Array Value} {below : List Frame} {meth : Method} {c : Code} {Q : State → Prop} {n : Nat} {nm : String} {ret9 : Option FieldType} {h : zz_H} (C : zz_C D zz_cl (zz_ty dA) B zz_tb (zz_x B) p s m args meth c bb_Q_gather RR_Q ret9 nm) {q : Nat} {F : Nat → Int32} {I : Nat → Nat → Int32} {J : Nat → Nat → Int64} {nc ng nM : Nat} (W : pu_W F I nc ng nM) {g0 : Nat} (hg : g0 < ng) (kx : ∀ h9 o3 o4, md_K dA F (pu_g3 I g0 nM) J q h h9 → zz_W D zz_cl B p l e rm_Q_gather s m args below meth c Q h9 n 0 0 [some (.ref q), some (.int (nI g0)), some (.int (nI nM)), o3, o4] 128 []) :
    ∀ f m0 h9 o3 o4, m0 + f = nM → md_K dA F (pu_g3 I g0 m0) J q h h9 → zz_W D zz_cl B p l e rm_Q_gather s m args below meth c Q h9 n 0 0 [some (.ref q), some (.int (nI g0)), some (.int (nI m0)), o3, o4] 9 [] := by
  intro f
  have h12 := W.m12
  have hg4 := W.g4
  induction f with
  | zero =>
    intro m0 h9 o3 o4 hf hP
    have hk : m0 = nM := by omega
    subst hk
    refine z_iload_n C dd_Q_gather_9 rfl ?_
    refine z_aload_n C dd_Q_gather_10 rfl ?_
    refine gf_Q_138 (v := .int (F 5)) C dd_Q_gather_11 hP.1.1 rfl ?_
    refine z_topi (y := nI m0) W.fm.symm ?_
    exact z_icmp_ge (tgt := 128) C dd_Q_gather_14 (by decide) (fun _ => kx _ _ _ hP) (fun q10 => absurd (nI_le (Nat.le_refl _) (by omega)) q10)
  | succ f ih =>
    intro m0 h9 o3 o4 hf hP
    obtain ⟨a, ha, ea, hwa⟩ := W.ats m0 (by omega)
    have hI := pu_g3_inv (g := g0) W m0 (by omega)
    refine z_iload_n C dd_Q_gather_9 rfl ?_
    refine z_aload_n C dd_Q_gather_10 rfl ?_
    refine gf_Q_138 (v := .int (F 5)) C dd_Q_gather_11 hP.1.1 rfl ?_
    refine z_topi (y := nI nM) W.fm.symm ?_
    refine z_icmp_ge (tgt := 128) C dd_Q_gather_14 (by decide) (fun q10 => absurd q10 (nI_ge (by omega) (by omega))) (fun _ => ?_)
    refine z_iconst (v := 4) C dd_Q_gather_17 (by decide) ?_
    refine z_iload_n C dd_Q_gather_18 rfl ?_
    refine z_imul C dd_Q_gather_19 ?_
    refine z_topi (y := nI (4 * m0 + 0)) (by rw [Nat.add_zero]; exact (pk_mul 4 m0).symm) ?_
    refine z_istore_n C dd_Q_gather_20 rfl ?_
    by_cases eo : I 2 m0 = nI g0
    · have hst : pu_g3 I g0 (m0 + 1) = pu_g2 (pu_g3 I g0 m0) g0 m0 a := by rw [pu_g3, if_pos eo, ea, nI_clamp (by omega)]
      refine lpE_Q_gather (h := h) (F := F) (I := I) (X := pu_g3 I g0 m0) (J := J) C W hg (by omega : m0 < nM) ha ea hwa eo hI (fun h9 k9 o4 hE => ?_) a 0 _ _ (by omega) hP
      refine z_iincN C dd_Q_gather_122 rfl rfl ?_
      refine z_goto (tgt := 9) C dd_Q_gather_125 (by decide) ?_
      exact ih (m0 + 1) _ _ _ (by omega) (md_Ke hE hst.symm)
    · have hst : pu_g3 I g0 (m0 + 1) = pu_g3 I g0 m0 := by rw [pu_g3, if_neg eo]
      have next : ∀ o3, zz_W D zz_cl B p l e rm_Q_gather s m args below meth c Q h9 n 0 0 [some (.ref q), some (.int (nI g0)), some (.int (nI m0)), o3, o4] 122 [] := by
        intro o3
        refine z_iincN C dd_Q_gather_122 rfl rfl ?_
        refine z_goto (tgt := 9) C dd_Q_gather_125 (by decide) ?_
        exact ih (m0 + 1) _ _ _ (by omega) (md_Ke hP hst.symm)
      obtain ⟨X9, hX9⟩ : ∃ X9, X9 = pu_g3 I g0 m0 := ⟨_, rfl⟩
      have e9 := hI.1
      rw [← hX9] at hP e9
      have e3 : X9 3 m0 = nI a := by rw [e9 3 (by decide)]; exact ea
      have e2 : ¬ X9 2 m0 = nI g0 := by rw [e9 2 (by decide)]; exact eo
      refine z_iload_n C dd_Q_gather_21 rfl ?_
      refine z_iconst (v := 4) C dd_Q_gather_22 (by decide) ?_
      refine z_iload_n C dd_Q_gather_23 rfl ?_
      refine z_imul C dd_Q_gather_24 ?_
      refine z_topi (y := nI (4 * m0)) (by first | exact (pk_mul _ _).symm | (rw [← pk_mul]; rfl)) ?_
      refine z_aload_n C dd_Q_gather_25 rfl ?_
      refine gf_Q_23 (v := .ref (q + 1 + 3)) C dd_Q_gather_26 hP.1.1 rfl ?_
      refine z_iload_n C dd_Q_gather_29 rfl ?_
      refine z_iald (t0 := 0) (N := 12) (f := (X9 3)) C rfl dd_Q_gather_30 (hP.1.2 3 (by decide)) (vp_in_nI (by omega) (by decide)) ?_
      refine z_topi (y := nI a) (by rw [nI_clamp (by omega)]; exact e3.symm) ?_
      refine z_iadd C dd_Q_gather_31 ?_
      refine z_topi (y := nI ((4 * m0) + a)) (by first | exact (nI_add _ _).symm | (rw [← nI_add]; rfl)) ?_
      refine z_icmp_ge (tgt := 122) C dd_Q_gather_32 (by decide) (fun q1 => ?_) (fun q1 => ?_)
      · replace q1 : ((4 * m0) + a) ≤ (4 * m0 + 0) := (@nI_leI ((4 * m0) + a) (4 * m0 + 0) (by omega) (by omega)).mp q1
        exact next _
      · replace q1 : ¬ ((4 * m0) + a) ≤ (4 * m0 + 0) := fun z => q1 ((@nI_leI ((4 * m0) + a) (4 * m0 + 0) (by omega) (by omega)).mpr z)
        refine z_aload_n C dd_Q_gather_35 rfl ?_
        refine gf_Q_20 (v := .ref (q + 1 + 2)) C dd_Q_gather_36 hP.1.1 rfl ?_
        refine z_iload_n C dd_Q_gather_39 rfl ?_
        refine z_iald (t0 := 0) (N := 12) (f := (X9 2)) C rfl dd_Q_gather_40 (hP.1.2 2 (by decide)) (vp_in_nI (by omega) (by decide)) ?_
        refine z_topi (y := ((X9 2) m0)) (by rw [nI_clamp (by omega)]) ?_
        refine z_iload_n C dd_Q_gather_41 rfl ?_
        refine z_icmp_ne (tgt := 122) C dd_Q_gather_42 (by decide) (fun q2 => ?_) (fun q2 => absurd q2 e2)
        exact next _
/-! what a row passes -/
def pu_ls (f : Nat → Bool) : Nat → Int64
  | 0 => 0
  | t + 1 => if f t then pu_ls f t ||| ((1 : Int64) <<< ((nI t).toInt64 &&& 63)) else pu_ls f t
def pu_pz (X : Nat → Nat → Int32) (g nc ar r t : Nat) : Bool := pu_holds (X 0) (X 19 (48 * g + t)).toNatClampNeg (X 20 (48 * g + t)).toNatClampNeg (X 21 (48 * g + t)) (pu_r1 nc ar r) (pu_r2 nc ar r)
def pu_fl (Y A : Nat → Int64) (r : Nat) : Nat → Int64 := fun j => if j < r then A j else Y j
theorem pu_fl_0 (Y A : Nat → Int64) : pu_fl Y A 0 = Y := by
  funext j
  unfold pu_fl
  rw [if_neg (by omega)]
theorem pu_fl_s (Y A : Nat → Int64) (r : Nat) : vp_updL (pu_fl Y A r) r (A r) = pu_fl Y A (r + 1) := by
  funext j
  by_cases e : j = r
  · subst e
    rw [pk_uLs]
    unfold pu_fl
    rw [if_pos (by omega)]
  · rw [pk_uLn e]
    unfold pu_fl
    by_cases c : j < r
    · rw [if_pos c, if_pos (by omega)]
    · rw [if_neg c, if_neg (by omega)]
theorem updL_updL (f : Nat → Int64) (k : Nat) (x y : Int64) : vp_updL (vp_updL f k x) k y = vp_updL f k y := by
  funext j
  by_cases e : j = k
  · subst e
    rw [pk_uLs, pk_uLs]
  · rw [pk_uLn e, pk_uLn e, pk_uLn e]
theorem md_idJ {J : Nat → Nat → Int64} {k : Nat} : md_is J k (J k) = J := by
  funext j
  unfold md_is
  split
  · rename_i e
    rw [e]
  · rfl
def pu_pa (X : Nat → Nat → Int32) (g nc ar T : Nat) : Nat → Int64 := fun r => pu_ls (pu_pz X g nc ar r) T
set_option maxRecDepth 20000 in
theorem lpT_Q_gather {D : va_G} {dA : Nat → ClassId} {B : Nat} {p : Program} {l : Launch} {e : Env} {s : State} {m : MethodId} {args : Array Value} {below : List Frame} {meth : Method} {c : Code} {Q : State → Prop} {n : Nat} {nm : String} {ret9 : Option FieldType} {h : zz_H} (C : zz_C D zz_cl (zz_ty dA) B zz_tb (zz_x B) p s m args meth c bb_Q_gather RR_Q ret9 nm) {q : Nat} {F : Nat → Int32} {I : Nat → Nat → Int32} {J : Nat → Nat → Int64} {nc ng nM : Nat} (W : pu_W F I nc ng nM) {g0 ar T : Nat} (hg : g0 < ng) (har : I 1 g0 = nI ar) (ha : ar = 1 ∨ ar = 2) (hT : T ≤ 48) (eT : I 18 g0 = nI T) (hs : ∀ t, t < T → pu_wt I (48 * g0 + t)) {Y : Nat → Int64} {r0 : Nat} (hr : r0 < pu_R nc ar) (kx : ∀ h9 k9 o4, md_K dA F I (md_is J 22 (vp_updL Y r0 (pu_ls (pu_pz I g0 nc ar r0) T))) q h h9 → zz_W D zz_cl B p l e rm_Q_gather s m args below meth c Q h9 n 0 0 [some (.ref q), some (.int (nI g0)), some (.int (nI r0)), some (.int (nI k9)), o4] 228 []) :
    ∀ f t h9 o4, t + f = T → md_K dA F I (md_is J 22 (vp_updL Y r0 (pu_ls (pu_pz I g0 nc ar r0) t))) q h h9 → zz_W D zz_cl B p l e rm_Q_gather s m args below meth c Q h9 n 0 0 [some (.ref q), some (.int (nI g0)), some (.int (nI r0)), some (.int (nI t)), o4] 148 [] := by
  intro f
  have hR := pu_R_le (nc := nc) (ar := ar) W.c8
  have h12 := W.m12
  have hg4 := W.g4
  have h1 := W.c1
  have h8 := W.c8
  have hg9 : g0 < 4 := by omega
  induction f with
  | zero =>
    intro t h9 o4 hf hP
    have ht : t = T := by omega
    subst ht
    refine z_iload_n C dd_Q_gather_148 rfl ?_
    refine z_aload_n C dd_Q_gather_149 rfl ?_
    refine gf_Q_69 (v := .ref (q + 1 + 18)) C dd_Q_gather_150 hP.1.1 rfl ?_
    refine z_iload_n C dd_Q_gather_153 rfl ?_
    refine z_iald (t0 := 0) (N := 4) (f := (I 18)) C rfl dd_Q_gather_154 (hP.1.2 18 (by decide)) (vp_in_nI (by omega) (by decide)) ?_
    refine z_topi (y := nI t) (by rw [nI_clamp (by omega)]; exact eT.symm) ?_
    exact z_icmp_ge (tgt := 228) C dd_Q_gather_155 (by decide) (fun _ => kx _ _ _ hP) (fun q10 => absurd (nI_le (Nat.le_refl _) (by omega)) q10)
  | succ f ih =>
    intro t h9 o4 hf hP
    obtain ⟨kd, wh, a1, a2, a3, a4, a5⟩ := hs t (by omega)
    have ez : pu_pz I g0 nc ar r0 t = pu_holds (I 0) kd wh (I 21 (48 * g0 + t)) (pu_r1 nc ar r0) (pu_r2 nc ar r0) := by
      unfold pu_pz
      rw [a3, a4, nI_clamp (by omega), nI_clamp (by omega)]
    refine z_iload_n C dd_Q_gather_148 rfl ?_
    refine z_aload_n C dd_Q_gather_149 rfl ?_
    refine gf_Q_69 (v := .ref (q + 1 + 18)) C dd_Q_gather_150 hP.1.1 rfl ?_
    refine z_iload_n C dd_Q_gather_153 rfl ?_
    refine z_iald (t0 := 0) (N := 4) (f := (I 18)) C rfl dd_Q_gather_154 (hP.1.2 18 (by decide)) (vp_in_nI (by omega) (by decide)) ?_
    refine z_topi (y := nI T) (by rw [nI_clamp (by omega)]; exact eT.symm) ?_
    refine z_icmp_ge (tgt := 228) C dd_Q_gather_155 (by decide) (fun q10 => absurd q10 (nI_ge (by omega) (by omega))) (fun _ => ?_)
    refine z_bipush (v := 48) C dd_Q_gather_158 (by decide) ?_
    refine z_iload_n C dd_Q_gather_160 rfl ?_
    refine z_imul C dd_Q_gather_161 ?_
    refine z_topi (y := nI (48 * g0)) (by first | exact (pk_mul _ _).symm | (rw [← pk_mul]; rfl)) ?_
    refine z_iload_n C dd_Q_gather_162 rfl ?_
    refine z_iadd C dd_Q_gather_163 ?_
    refine z_topi (y := nI ((48 * g0) + t)) (by first | exact (nI_add _ _).symm | (rw [← nI_add]; rfl)) ?_
    refine z_istore C dd_Q_gather_164 rfl ?_
    refine z_aload_n C dd_Q_gather_166 rfl ?_
    refine z_aload_n C dd_Q_gather_167 rfl ?_
    refine gf_Q_72 (v := .ref (q + 1 + 19)) C dd_Q_gather_168 hP.1.1 rfl ?_
    refine z_iload C dd_Q_gather_171 rfl ?_
    refine z_iald (t0 := 0) (N := 192) (f := (I 19)) C rfl dd_Q_gather_173 (hP.1.2 19 (by decide)) (vp_in_nI (by omega) (by decide)) ?_
    refine z_topi (y := nI kd) (by rw [nI_clamp (by omega)]; exact a3.symm) ?_
    refine z_aload_n C dd_Q_gather_174 rfl ?_
    refine gf_Q_75 (v := .ref (q + 1 + 20)) C dd_Q_gather_175 hP.1.1 rfl ?_
    refine z_iload C dd_Q_gather_178 rfl ?_
    refine z_iald (t0 := 0) (N := 192) (f := (I 20)) C rfl dd_Q_gather_180 (hP.1.2 20 (by decide)) (vp_in_nI (by omega) (by decide)) ?_
    refine z_topi (y := nI wh) (by rw [nI_clamp (by omega)]; exact a4.symm) ?_
    refine z_aload_n C dd_Q_gather_181 rfl ?_
    refine gf_Q_78 (v := .ref (q + 1 + 21)) C dd_Q_gather_182 hP.1.1 rfl ?_
    refine z_iload C dd_Q_gather_185 rfl ?_
    refine z_iald (t0 := 0) (N := 192) (f := (I 21)) C rfl dd_Q_gather_187 (hP.1.2 21 (by decide)) (vp_in_nI (by omega) (by decide)) ?_
    refine z_topi (y := ((I 21) ((48 * g0) + t))) (by rw [nI_clamp (by omega)]) ?_
    refine z_aload_n C dd_Q_gather_188 rfl ?_
    refine z_iload_n C dd_Q_gather_189 rfl ?_
    refine z_iload_n C dd_Q_gather_190 rfl ?_
    refine iv_Q_157 (sk := fun r => .int r :: [.int (((I 21) ((48 * g0) + t))), .int ((nI wh)), .int ((nI kd)), .ref q]) (zz_f B) C dd_Q_gather_191 (cn_Q_firstOf l D dA B _ _ q _ _ _ hP.1 nc h1 h8 W.fc g0 ar hg9 har ha r0 (by omega)) hP.1.1 rfl rfl ⟨by decide, by decide⟩ (Nat.le_of_ble_eq_true rfl) ⟨by decide, by decide⟩ (fun _ => rfl) (fun v1_ h1_ n1_ p1_ => ?_)
    obtain ⟨e1_, f1_, rfl⟩ := p1_
    have e1z := e1_.symm
    have f1z := f1_.symm
    subst e1z
    subst f1z
    refine z_aload_n C dd_Q_gather_194 rfl ?_
    refine z_iload_n C dd_Q_gather_195 rfl ?_
    refine z_iload_n C dd_Q_gather_196 rfl ?_
    refine iv_Q_161 (sk := fun r => .int r :: [.int ((nI (pu_r1 nc ar r0))), .int (((I 21) ((48 * g0) + t))), .int ((nI wh)), .int ((nI kd)), .ref q]) (zz_f B) C dd_Q_gather_197 (cn_Q_secondOf l D dA B _ _ q _ _ _ hP.1 nc h1 h8 W.fc g0 ar hg9 har ha r0 (by omega)) hP.1.1 rfl rfl ⟨by decide, by decide⟩ (Nat.le_of_ble_eq_true rfl) ⟨by decide, by decide⟩ (fun _ => rfl) (fun v2_ h2_ n2_ p2_ => ?_)
    obtain ⟨e2_, f2_, rfl⟩ := p2_
    have e2z := e2_.symm
    have f2z := f2_.symm
    subst e2z
    subst f2z
    refine iv_Q_149 (sk := fun r => .int r :: []) (zz_f B) C dd_Q_gather_200 (cc_Q_holds l D dA B _ _ q _ _ _ hP.1 kd wh (pu_r1 nc ar r0) (pu_r2 nc ar r0) nc (I 21 (48 * g0 + t)) (nI (pu_r2 nc ar r0)) a1 a2 h8 (pu_r1_lt hr) (Or.inr ⟨rfl, pu_r2_lt h1⟩) a5 W.par) hP.1.1 rfl rfl ⟨by decide, by decide⟩ (Nat.le_of_ble_eq_true rfl) ⟨by decide, by decide⟩ (fun _ => rfl) (fun v3_ h3_ n3_ p3_ => ?_)
    obtain ⟨e3_, f3_, rfl⟩ := p3_
    have e3z := e3_.symm
    have f3z := f3_.symm
    subst e3z
    subst f3z
    refine z_topi (y := pu_b (pu_pz I g0 nc ar r0 t)) (congrArg pu_b ez) ?_
    refine z_if_eq (tgt := 222) C dd_Q_gather_203 (by decide) (fun q1 => ?_) (fun q1 => ?_)
    · skip
      refine z_iincN C dd_Q_gather_222 rfl rfl ?_
      refine z_goto (tgt := 148) C dd_Q_gather_225 (by decide) ?_
      exact ih (t + 1) _ _ (by omega) (md_KJ hP (by rw [pu_ls, if_neg (by rw [(pu_b0 _).mp q1]; decide)]))
    · skip
      refine z_aload_n C dd_Q_gather_206 rfl ?_
      refine gf_Q_81 (v := .ref (q + 1 + 22)) C dd_Q_gather_207 hP.1.1 rfl ?_
      refine z_iload_n C dd_Q_gather_210 rfl ?_
      refine z_aload_n C dd_Q_gather_211 rfl ?_
      refine gf_Q_81 (v := .ref (q + 1 + 22)) C dd_Q_gather_212 hP.1.1 rfl ?_
      refine z_iload_n C dd_Q_gather_215 rfl ?_
      refine z_lald (t0 := 1) (N := 4096) (f := (vp_updL Y r0 (pu_ls (pu_pz I g0 nc ar r0) t))) C rfl dd_Q_gather_216 (hP.1.2 22 (by decide)) (vp_in_nI (by omega) (by decide)) ?_
      refine z_topl (y := ((vp_updL Y r0 (pu_ls (pu_pz I g0 nc ar r0) t)) r0)) (by rw [nI_clamp (by omega)]) ?_
      refine z_lconst (v := 1) C dd_Q_gather_217 (by decide) ?_
      refine z_iload_n C dd_Q_gather_218 rfl ?_
      refine z_lshl C dd_Q_gather_219 ?_
      refine z_lor C dd_Q_gather_220 ?_
      refine z_last (t0 := 1) (N := 4096) (f := (vp_updL Y r0 (pu_ls (pu_pz I g0 nc ar r0) t))) C rfl dd_Q_gather_221 (hP.1.2 22 (by decide)) (vp_in_nI (by omega) (by decide)) ?_
      refine z_cut (md_K dA F I (md_is (md_is J 22 (vp_updL Y r0 (pu_ls (pu_pz I g0 nc ar r0) t))) 22 (vp_updL (vp_updL Y r0 (pu_ls (pu_pz I g0 nc ar r0) t)) (Int32.toNatClampNeg (nI r0)) (((vp_updL Y r0 (pu_ls (pu_pz I g0 nc ar r0) t)) r0) ||| (1 <<< (Int32.toInt64 (nI t) &&& 63))))) q h) (md_wJ hP 22 (by decide) rfl) rfl rfl rfl (fun h4_ hP4_ => ?_)
      refine z_iincN C dd_Q_gather_222 rfl rfl ?_
      refine z_goto (tgt := 148) C dd_Q_gather_225 (by decide) ?_
      exact ih (t + 1) _ _ (by omega) (md_KJ hP4_ (by rw [md_ii, nI_clamp (n := r0) (by omega), updL_updL, pk_uLs, pu_ls, if_pos (pu_bn1.mp q1)]))
set_option maxRecDepth 20000 in
theorem lpR_Q_gather {D : va_G} {dA : Nat → ClassId} {B : Nat} {p : Program} {l : Launch} {e : Env} {s : State} {m : MethodId} {args : Array Value} {below : List Frame} {meth : Method} {c : Code} {Q : State → Prop} {n : Nat} {nm : String} {ret9 : Option FieldType} {h : zz_H} (C : zz_C D zz_cl (zz_ty dA) B zz_tb (zz_x B) p s m args meth c bb_Q_gather RR_Q ret9 nm) {q : Nat} {F : Nat → Int32} {I : Nat → Nat → Int32} {J : Nat → Nat → Int64} {nc ng nM : Nat} (W : pu_W F I nc ng nM) {g0 ar T : Nat} (hg : g0 < ng) (har : I 1 g0 = nI ar) (ha : ar = 1 ∨ ar = 2) (hT : T ≤ 48) (eT : I 18 g0 = nI T) (hs : ∀ t, t < T → pu_wt I (48 * g0 + t)) (kx : ∀ h9 o2 o3 o4, md_K dA F I (md_is J 22 (pu_fl (J 22) (pu_pa I g0 nc ar T) (pu_R nc ar))) q h h9 → zz_W D zz_cl B p l e rm_Q_gather s m args below meth c Q h9 n 0 0 [some (.ref q), some (.int (nI g0)), o2, o3, o4] 234 []) :
    ∀ f r0 h9 o3 o4, r0 + f = pu_R nc ar → md_K dA F I (md_is J 22 (pu_fl (J 22) (pu_pa I g0 nc ar T) r0)) q h h9 → zz_W D zz_cl B p l e rm_Q_gather s m args below meth c Q h9 n 0 0 [some (.ref q), some (.int (nI g0)), some (.int (nI r0)), o3, o4] 130 [] := by
  intro f
  have hR := pu_R_le (nc := nc) (ar := ar) W.c8
  have h12 := W.m12
  have hg4 := W.g4
  have h1 := W.c1
  have h8 := W.c8
  have hg9 : g0 < 4 := by omega
  induction f with
  | zero =>
    intro r0 h9 o3 o4 hf hP
    have hr9 : r0 = pu_R nc ar := by omega
    subst hr9
    refine z_iload_n C dd_Q_gather_130 rfl ?_
    refine z_aload_n C dd_Q_gather_131 rfl ?_
    refine z_iload_n C dd_Q_gather_132 rfl ?_
    refine iv_Q_153 (sk := fun r => .int r :: [.int (nI (pu_R nc ar))]) (zz_f B) C dd_Q_gather_133 (cn_Q_rows l D dA B _ _ q F _ _ hP.1 nc h1 h8 W.fc g0 ar hg9 har ha) hP.1.1 rfl rfl ⟨by decide, by decide⟩ (Nat.le_of_ble_eq_true rfl) ⟨by decide, by decide⟩ (fun _ => rfl) (fun v1_ h1_ n1_ p1_ => ?_)
    obtain ⟨e1_, f1_, rfl⟩ := p1_
    have e1z := e1_.symm
    have f1z := f1_.symm
    subst e1z
    subst f1z
    exact z_icmp_ge (tgt := 234) C dd_Q_gather_136 (by decide) (fun _ => kx _ _ o3 o4 hP) (fun q10 => absurd (nI_le (Nat.le_refl _) (by omega)) q10)
  | succ f ih =>
    intro r0 h9 o3 o4 hf hP
    refine z_iload_n C dd_Q_gather_130 rfl ?_
    refine z_aload_n C dd_Q_gather_131 rfl ?_
    refine z_iload_n C dd_Q_gather_132 rfl ?_
    refine iv_Q_153 (sk := fun r => .int r :: [.int (nI r0)]) (zz_f B) C dd_Q_gather_133 (cn_Q_rows l D dA B _ _ q F _ _ hP.1 nc h1 h8 W.fc g0 ar hg9 har ha) hP.1.1 rfl rfl ⟨by decide, by decide⟩ (Nat.le_of_ble_eq_true rfl) ⟨by decide, by decide⟩ (fun _ => rfl) (fun v1_ h1_ n1_ p1_ => ?_)
    obtain ⟨e1_, f1_, rfl⟩ := p1_
    have e1z := e1_.symm
    have f1z := f1_.symm
    subst e1z
    subst f1z
    refine z_icmp_ge (tgt := 234) C dd_Q_gather_136 (by decide) (fun q10 => absurd q10 (nI_ge (by omega) (by omega))) (fun _ => ?_)
    refine z_aload_n C dd_Q_gather_139 rfl ?_
    refine gf_Q_81 (v := .ref (q + 1 + 22)) C dd_Q_gather_140 hP.1.1 rfl ?_
    refine z_iload_n C dd_Q_gather_143 rfl ?_
    refine z_lconst (v := 0) C dd_Q_gather_144 (by decide) ?_
    refine z_last (t0 := 1) (N := 4096) (f := (pu_fl (J 22) (pu_pa I g0 nc ar T) r0)) C rfl dd_Q_gather_145 (hP.1.2 22 (by decide)) (vp_in_nI (by omega) (by decide)) ?_
    refine z_cut (md_K dA F I (md_is (md_is J 22 (pu_fl (J 22) (pu_pa I g0 nc ar T) r0)) 22 (vp_updL (pu_fl (J 22) (pu_pa I g0 nc ar T) r0) (Int32.toNatClampNeg (nI r0)) 0)) q h) (md_wJ hP 22 (by decide) rfl) rfl rfl rfl (fun h1_ hP1_ => ?_)
    refine z_iconst (v := nI 0) C dd_Q_gather_146 (by decide) ?_
    refine z_istore_n C dd_Q_gather_147 rfl ?_
    refine lpT_Q_gather (h := h) (F := F) (I := I) (J := J) (Y := (pu_fl (J 22) (pu_pa I g0 nc ar T) r0)) C W hg har ha hT eT hs (by omega : r0 < pu_R nc ar) (fun h9 k9 o4 hE => ?_) T 0 _ _ (by omega) (md_KJ hP1_ (by rw [md_ii, nI_clamp (n := r0) (by omega)]; rfl))
    refine z_iincN C dd_Q_gather_228 rfl rfl ?_
    refine z_goto (tgt := 130) C dd_Q_gather_231 (by decide) ?_
    exact ih (r0 + 1) _ _ _ (by omega) (md_KJ hE (by rw [← pu_fl_s]; rfl))
def pu_gT (I : Nat → Nat → Int32) (g nM : Nat) : Nat := (pu_g3 I g nM 18 g).toNatClampNeg
def pu_gJ (I : Nat → Nat → Int32) (J : Nat → Nat → Int64) (nc nM g ar : Nat) : Nat → Nat → Int64 := md_is J 22 (pu_fl (J 22) (pu_pa (pu_g3 I g nM) g nc ar (pu_gT I g nM)) (pu_R nc ar))
set_option maxRecDepth 20000 in
/-- gather -/
theorem cc_Q_gather (l : Launch) (D : va_G) (dA : Nat → ClassId) (B : Nat) (h : zz_H) (n : Nat) (q : Nat) (F : Nat → Int32) (I : Nat → Nat → Int32) (J : Nat → Nat → Int64) (hP0 : md_P dA F I J q h) (nc ng nM : Nat) (W : pu_W F I nc ng nM) (g0 ar : Nat) (hg : g0 < ng) (har : I 1 g0 = nI ar) (ha : ar = 1 ∨ ar = 2) : zz_M l D zz_cl (zz_ty dA) B zz_tb (zz_x B) yy_Q_gather (Cond.code yy_Q_gather bb_Q_gather 5 none) rm_Q_gather [.ref q, .int ((nI g0))] h n zz_mv (fun _ h' n' => md_K dA F (pu_g3 I g0 nM) (pu_gJ I J nc nM g0 ar) q h h' ∧ n' = n) := by
  refine zz_ofW (zz_f B) [some (.ref q), some (.int ((nI g0))), none, none, none] (by decide) rfl rfl (Nat.le_of_ble_eq_true rfl) ?_
  intro p e s m below meth c C
  have hg4 := W.g4
  have h12 := W.m12
  have hP := md_rf hP0
  refine z_aload_n C dd_Q_gather_0 rfl ?_
  refine gf_Q_69 (v := .ref (q + 1 + 18)) C dd_Q_gather_1 hP.1.1 rfl ?_
  refine z_iload_n C dd_Q_gather_4 rfl ?_
  refine z_iconst (v := 0) C dd_Q_gather_5 (by decide) ?_
  refine z_iast (t0 := 0) (N := 4) (f := (I 18)) C rfl dd_Q_gather_6 (hP.1.2 18 (by decide)) (vp_in_nI (by omega) (by decide)) ?_
  refine z_cut (md_K dA F (md_is I 18 (upd (I 18) (Int32.toNatClampNeg (nI g0)) 0)) J q h) (md_wI hP 18 (by decide) rfl) rfl rfl rfl (fun h1_ hP1_ => ?_)
  refine z_iconst (v := nI 0) C dd_Q_gather_7 (by decide) ?_
  refine z_istore_n C dd_Q_gather_8 rfl ?_
  refine lpG_Q_gather (h := h) (F := F) (I := I) (J := J) C W hg (fun h9 o3 o4 hG => ?_) nM 0 _ _ _ (by omega) (md_Ke hP1_ (by rw [nI_clamp (n := g0) (by omega)]; rfl))
  refine z_iconst (v := nI 0) C dd_Q_gather_128 (by decide) ?_
  refine z_istore_n C dd_Q_gather_129 rfl ?_
  obtain ⟨e9, T, hT, eT, hs⟩ := pu_g3_inv (g := g0) W nM (Nat.le_refl _)
  have eTT : pu_gT I g0 nM = T := by unfold pu_gT; rw [eT, nI_clamp (by omega)]
  refine lpR_Q_gather (h := h) (F := F) (I := pu_g3 I g0 nM) (J := J) C (pu_W_cg W (fun k hk => e9 k (by omega))) hg (by rw [e9 1 (by decide)]; exact har) ha (by omega : T ≤ 48) eT hs (fun h9 o2 o3 o4 hR => ?_) (pu_R nc ar) 0 _ _ _ (by omega) (md_KJ hG (by rw [pu_fl_0, md_idJ]))
  exact z_vret C dd_Q_gather_234 ⟨md_KJ hR (by unfold pu_gJ; rw [eTT]), rfl⟩ (by decide) (by decide)
