theorem z_topl {D : va_G} {cl : List vw_C} {B : Nat} {p : Program} {l : Launch} {e : Env} {R : Room} {s : State} {m : MethodId} {args : Array Value} {below : List Frame} {meth : Method} {c : Code} {Q : State → Prop} {h : zz_H} {n cells slots : Nat} {L : List (Option Value)} {pc : Nat} {rest : List Value} {x y : Int64} (hxy : y = x) (k : zz_W D cl B p l e R s m args below meth c Q h n cells slots L pc (.long y :: rest)) : zz_W D cl B p l e R s m args below meth c Q h n cells slots L pc (.long x :: rest) := hxy ▸ k
theorem pu_lcmp (x y : Int64) : lg_cmp x y = 0 ↔ x = y := by
  unfold lg_cmp
  constructor
  · intro h
    split at h
    · exact absurd h (by decide)
    · split at h
      · assumption
      · exact absurd h (by decide)
  · intro h
    subst h
    rw [if_neg (Int64.lt_irrefl), if_pos rfl]
theorem z_loopAny (f : Nat → Bool) (j : Nat) : (List.range (j + 1)).any f = ((List.range j).any f || f j) := by
  rw [List.range_succ, List.any_append]
  simp
/-- a beginning of a tree's work -/
def pu_bgI (I : Nat → Nat → Int32) (f : Nat) (t : Int32) : Nat → Nat → Int32 := md_is (md_is I 25 (upd (I 25) f t)) 26 (upd (I 26) f 0)
def pu_bgJ (J : Nat → Nat → Int64) (f : Nat) (a b : Int64) : Nat → Nat → Int64 := md_is (md_is J 23 (vp_updL (J 23) f a)) 24 (vp_updL (J 24) f b)
theorem md_KJ {dA : Nat → ClassId} {F : Nat → Int32} {I : Nat → Nat → Int32} {J J2 : Nat → Nat → Int64} {q : Nat} {h0 h : zz_H} (hP : md_K dA F I J q h0 h) (e : J = J2) : md_K dA F I J2 q h0 h := e ▸ hP
def pu_in3 (J : Nat → Nat → Int64) (f r : Nat) : Bool := decide (J 22 r &&& J 23 f = J 24 f)
def pu_psh (I : Nat → Nat → Int32) (f t : Nat) (v : Int32) : Nat → Nat → Int32 := md_is (md_is I 34 (upd (I 34) (6 * f + t) v)) 33 (upd (I 33) f (nI (t + 1)))
def pu_tq (I : Nat → Nat → Int32) (t k : Nat) : Bool := decide (I 19 t = I 4 k) && (decide (I 20 t = I 5 k) && decide (I 21 t = I 6 k))
def pu_nq (I : Nat → Nat → Int32) (k : Nat) (t p o : Int32) : Bool := decide (I 15 k = t) && (decide (I 16 k = p) && decide (I 17 k = o))
def pu_mk (I : Nat → Nat → Int32) (g N : Nat) (t p o : Int32) : Nat → Nat → Int32 := md_is (md_is (md_is (md_is I 15 (upd (I 15) (80 * g + N) t)) 16 (upd (I 16) (80 * g + N) p)) 17 (upd (I 17) (80 * g + N) o)) 14 (upd (I 14) g (nI (N + 1)))
abbrev rm_Q_begin : Room := { frames := 1, cells := 0, slots := 0, locals := 0 }
set_option maxRecDepth 20000 in
/-- begin -/
theorem cc_Q_begin (l : Launch) (D : va_G) (dA : Nat → ClassId) (B : Nat) (h : zz_H) (n : Nat) (q : Nat) (F : Nat → Int32) (I : Nat → Nat → Int32) (J : Nat → Nat → Int64) (hP0 : md_P dA F I J q h) (f : Nat) (hf : f < 50) (a b : Int64) (t : Int32) : zz_M l D zz_cl (zz_ty dA) B zz_tb (zz_x B) yy_Q_begin (Cond.code yy_Q_begin bb_Q_begin 7 none) rm_Q_begin [.ref q, .int ((nI f)), .long a, .long b, .int t] h n zz_mv (fun _ h' n' => md_K dA F (pu_bgI I f t) (pu_bgJ J f a b) q h h' ∧ n' = n) := by
  refine zz_ofW (zz_f B) [some (.ref q), some (.int ((nI f))), some (.long a), none, some (.long b), none, some (.int t)] (by decide) rfl rfl (Nat.le_of_ble_eq_true rfl) ?_
  intro p e s m below meth c C
  have hP := md_rf hP0
  refine z_aload_n C dd_Q_begin_0 rfl ?_
  refine gf_Q_85 (v := .ref (q + 1 + 23)) C dd_Q_begin_1 hP.1.1 rfl ?_
  refine z_iload_n C dd_Q_begin_4 rfl ?_
  refine z_lload_n C dd_Q_begin_5 rfl ?_
  refine z_last (t0 := 1) (N := 50) (f := (J 23)) C rfl dd_Q_begin_6 (hP.1.2 23 (by decide)) (vp_in_nI (by omega) (by decide)) ?_
  refine z_cut (md_K dA F I (md_is J 23 (vp_updL (J 23) (Int32.toNatClampNeg (nI f)) a)) q h) (md_wJ hP 23 (by decide) rfl) rfl rfl rfl (fun h1_ hP1_ => ?_)
  refine z_aload_n C dd_Q_begin_7 rfl ?_
  refine gf_Q_88 (v := .ref (q + 1 + 24)) C dd_Q_begin_8 hP1_.1.1 rfl ?_
  refine z_iload_n C dd_Q_begin_11 rfl ?_
  refine z_lload C dd_Q_begin_12 rfl ?_
  refine z_last (t0 := 1) (N := 50) (f := (J 24)) C rfl dd_Q_begin_14 (hP1_.1.2 24 (by decide)) (vp_in_nI (by omega) (by decide)) ?_
  refine z_cut (md_K dA F I (md_is (md_is J 23 (vp_updL (J 23) (Int32.toNatClampNeg (nI f)) a)) 24 (vp_updL (J 24) (Int32.toNatClampNeg (nI f)) b)) q h) (md_wJ hP1_ 24 (by decide) rfl) rfl rfl rfl (fun h2_ hP2_ => ?_)
  refine z_aload_n C dd_Q_begin_15 rfl ?_
  refine gf_Q_91 (v := .ref (q + 1 + 25)) C dd_Q_begin_16 hP2_.1.1 rfl ?_
  refine z_iload_n C dd_Q_begin_19 rfl ?_
  refine z_iload C dd_Q_begin_20 rfl ?_
  refine z_iast (t0 := 0) (N := 50) (f := (I 25)) C rfl dd_Q_begin_22 (hP2_.1.2 25 (by decide)) (vp_in_nI (by omega) (by decide)) ?_
  refine z_cut (md_K dA F (md_is I 25 (upd (I 25) (Int32.toNatClampNeg (nI f)) t)) (md_is (md_is J 23 (vp_updL (J 23) (Int32.toNatClampNeg (nI f)) a)) 24 (vp_updL (J 24) (Int32.toNatClampNeg (nI f)) b)) q h) (md_wI hP2_ 25 (by decide) rfl) rfl rfl rfl (fun h3_ hP3_ => ?_)
  refine z_aload_n C dd_Q_begin_23 rfl ?_
  refine gf_Q_94 (v := .ref (q + 1 + 26)) C dd_Q_begin_24 hP3_.1.1 rfl ?_
  refine z_iload_n C dd_Q_begin_27 rfl ?_
  refine z_iconst (v := 0) C dd_Q_begin_28 (by decide) ?_
  refine z_iast (t0 := 0) (N := 50) (f := (I 26)) C rfl dd_Q_begin_29 (hP3_.1.2 26 (by decide)) (vp_in_nI (by omega) (by decide)) ?_
  refine z_cut (md_K dA F (md_is (md_is I 25 (upd (I 25) (Int32.toNatClampNeg (nI f)) t)) 26 (upd (I 26) (Int32.toNatClampNeg (nI f)) 0)) (md_is (md_is J 23 (vp_updL (J 23) (Int32.toNatClampNeg (nI f)) a)) 24 (vp_updL (J 24) (Int32.toNatClampNeg (nI f)) b)) q h) (md_wI hP3_ 26 (by decide) rfl) rfl rfl rfl (fun h4_ hP4_ => ?_)
  exact z_vret C dd_Q_begin_30 ⟨md_KJ (md_Ke hP4_ (by rw [nI_clamp (by omega)]; rfl)) (by rw [nI_clamp (by omega)]; rfl), rfl⟩ (by decide) (by decide)
abbrev rm_Q_inTree : Room := { frames := 1, cells := 0, slots := 0, locals := 0 }
set_option maxRecDepth 20000 in
/-- inTree -/
theorem cc_Q_inTree (l : Launch) (D : va_G) (dA : Nat → ClassId) (B : Nat) (h : zz_H) (n : Nat) (q : Nat) (F : Nat → Int32) (I : Nat → Nat → Int32) (J : Nat → Nat → Int64) (hP0 : md_P dA F I J q h) (f r0 : Nat) (hf : f < 50) (hr : r0 < 4096) : zz_M l D zz_cl (zz_ty dA) B zz_tb (zz_x B) yy_Q_inTree (Cond.code yy_Q_inTree bb_Q_inTree 3 (some FieldType.boolean)) rm_Q_inTree [.ref q, .int ((nI f)), .int ((nI r0))] h n zz_mi (fun r h' n' => h' = h ∧ n' = n ∧ r = pu_b (pu_in3 J f r0)) := by
  refine zz_ofW (zz_f B) [some (.ref q), some (.int ((nI f))), some (.int ((nI r0)))] (by decide) rfl rfl (Nat.le_of_ble_eq_true rfl) ?_
  intro p e s m below meth c C
  have hP := md_rf hP0
  refine z_aload_n C dd_Q_inTree_0 rfl ?_
  refine gf_Q_81 (v := .ref (q + 1 + 22)) C dd_Q_inTree_1 hP.1.1 rfl ?_
  refine z_iload_n C dd_Q_inTree_4 rfl ?_
  refine z_lald (t0 := 1) (N := 4096) (f := (J 22)) C rfl dd_Q_inTree_5 (hP.1.2 22 (by decide)) (vp_in_nI (by omega) (by decide)) ?_
  refine z_topl (y := ((J 22) r0)) (by rw [nI_clamp (by omega)]) ?_
  refine z_aload_n C dd_Q_inTree_6 rfl ?_
  refine gf_Q_85 (v := .ref (q + 1 + 23)) C dd_Q_inTree_7 hP.1.1 rfl ?_
  refine z_iload_n C dd_Q_inTree_10 rfl ?_
  refine z_lald (t0 := 1) (N := 50) (f := (J 23)) C rfl dd_Q_inTree_11 (hP.1.2 23 (by decide)) (vp_in_nI (by omega) (by decide)) ?_
  refine z_topl (y := ((J 23) f)) (by rw [nI_clamp (by omega)]) ?_
  refine z_land C dd_Q_inTree_12 ?_
  refine z_aload_n C dd_Q_inTree_13 rfl ?_
  refine gf_Q_88 (v := .ref (q + 1 + 24)) C dd_Q_inTree_14 hP.1.1 rfl ?_
  refine z_iload_n C dd_Q_inTree_17 rfl ?_
  refine z_lald (t0 := 1) (N := 50) (f := (J 24)) C rfl dd_Q_inTree_18 (hP.1.2 24 (by decide)) (vp_in_nI (by omega) (by decide)) ?_
  refine z_topl (y := ((J 24) f)) (by rw [nI_clamp (by omega)]) ?_
  refine z_lcmp C dd_Q_inTree_19 ?_
  refine z_if_ne (tgt := 27) C dd_Q_inTree_20 (by decide) (fun q1 => ?_) (fun q1 => ?_)
  · skip
    refine z_iconst (v := 0) C dd_Q_inTree_27 (by decide) ?_
    exact z_zret C dd_Q_inTree_28 rfl ⟨rfl, rfl, by unfold pu_in3; rw [decide_eq_false (fun z => q1 ((pu_lcmp _ _).mpr z))]; rfl⟩ (by decide) (by decide)
  · skip
    refine z_iconst (v := 1) C dd_Q_inTree_23 (by decide) ?_
    refine z_goto (tgt := 28) C dd_Q_inTree_24 (by decide) ?_
    exact z_zret C dd_Q_inTree_28 rfl ⟨rfl, rfl, by unfold pu_in3; rw [decide_eq_true ((pu_lcmp _ _).mp q1)]; rfl⟩ (by decide) (by decide)
abbrev rm_Q_push : Room := { frames := 1, cells := 0, slots := 0, locals := 0 }
set_option maxRecDepth 20000 in
/-- push -/
theorem cc_Q_push (l : Launch) (D : va_G) (dA : Nat → ClassId) (B : Nat) (h : zz_H) (n : Nat) (q : Nat) (F : Nat → Int32) (I : Nat → Nat → Int32) (J : Nat → Nat → Int64) (hP0 : md_P dA F I J q h) (f t : Nat) (hf : f < 9) (ht : t ≤ 6) (et : I 33 f = nI t) (v : Int32) : zz_M l D zz_cl (zz_ty dA) B zz_tb (zz_x B) yy_Q_push (Cond.code yy_Q_push bb_Q_push 3 none) rm_Q_push [.ref q, .int ((nI f)), .int v] h n zz_mv (fun _ h' n' => n' = n ∧ ((t = 6 ∧ md_K dA (md_fs F 45 (-4)) I J q h h') ∨ (t < 6 ∧ md_K dA F (pu_psh I f t v) J q h h'))) := by
  refine zz_ofW (zz_f B) [some (.ref q), some (.int ((nI f))), some (.int v)] (by decide) rfl rfl (Nat.le_of_ble_eq_true rfl) ?_
  intro p e s m below meth c C
  have hP := md_rf hP0
  refine z_aload_n C dd_Q_push_0 rfl ?_
  refine gf_Q_115 (v := .ref (q + 1 + 33)) C dd_Q_push_1 hP.1.1 rfl ?_
  refine z_iload_n C dd_Q_push_4 rfl ?_
  refine z_iald (t0 := 0) (N := 9) (f := (I 33)) C rfl dd_Q_push_5 (hP.1.2 33 (by decide)) (vp_in_nI (by omega) (by decide)) ?_
  refine z_topi (y := nI t) (by rw [nI_clamp (by omega)]; exact et.symm) ?_
  refine z_bipush (v := 6) C dd_Q_push_6 (by decide) ?_
  refine z_icmp_ne (tgt := 18) C dd_Q_push_8 (by decide) (fun q1 => ?_) (fun q1 => ?_)
  · replace q1 : ¬ t = 6 := fun z => q1 ((@nI_eq t 6 (by omega) (by omega)).mpr z)
    refine z_aload_n C dd_Q_push_18 rfl ?_
    refine gf_Q_118 (v := .ref (q + 1 + 34)) C dd_Q_push_19 hP.1.1 rfl ?_
    refine z_bipush (v := 6) C dd_Q_push_22 (by decide) ?_
    refine z_iload_n C dd_Q_push_24 rfl ?_
    refine z_imul C dd_Q_push_25 ?_
    refine z_topi (y := nI (6 * f)) (by first | exact (pk_mul _ _).symm | (rw [← pk_mul]; rfl)) ?_
    refine z_aload_n C dd_Q_push_26 rfl ?_
    refine gf_Q_115 (v := .ref (q + 1 + 33)) C dd_Q_push_27 hP.1.1 rfl ?_
    refine z_iload_n C dd_Q_push_30 rfl ?_
    refine z_iald (t0 := 0) (N := 9) (f := (I 33)) C rfl dd_Q_push_31 (hP.1.2 33 (by decide)) (vp_in_nI (by omega) (by decide)) ?_
    refine z_topi (y := nI t) (by rw [nI_clamp (by omega)]; exact et.symm) ?_
    refine z_iadd C dd_Q_push_32 ?_
    refine z_topi (y := nI ((6 * f) + t)) (by first | exact (nI_add _ _).symm | (rw [← nI_add]; rfl)) ?_
    refine z_iload_n C dd_Q_push_33 rfl ?_
    refine z_iast (t0 := 0) (N := 54) (f := (I 34)) C rfl dd_Q_push_34 (hP.1.2 34 (by decide)) (vp_in_nI (by omega) (by decide)) ?_
    refine z_cut (md_K dA F (md_is I 34 (upd (I 34) (Int32.toNatClampNeg (nI ((6 * f) + t))) v)) J q h) (md_wI hP 34 (by decide) rfl) rfl rfl rfl (fun h1_ hP1_ => ?_)
    refine z_aload_n C dd_Q_push_35 rfl ?_
    refine gf_Q_115 (v := .ref (q + 1 + 33)) C dd_Q_push_36 hP1_.1.1 rfl ?_
    refine z_iload_n C dd_Q_push_39 rfl ?_
    refine z_dup2_11 C dd_Q_push_40 rfl rfl ?_
    refine z_iald (t0 := 0) (N := 9) (f := (I 33)) C rfl dd_Q_push_41 (hP1_.1.2 33 (by decide)) (vp_in_nI (by omega) (by decide)) ?_
    refine z_topi (y := nI t) (by rw [nI_clamp (by omega)]; exact et.symm) ?_
    refine z_iconst (v := 1) C dd_Q_push_42 (by decide) ?_
    refine z_iadd C dd_Q_push_43 ?_
    refine z_topi (y := nI (t + 1)) (by first | exact (nI_add _ _).symm | (rw [← nI_add]; rfl)) ?_
    refine z_iast (t0 := 0) (N := 9) (f := (I 33)) C rfl dd_Q_push_44 (hP1_.1.2 33 (by decide)) (vp_in_nI (by omega) (by decide)) ?_
    refine z_cut (md_K dA F (md_is (md_is I 34 (upd (I 34) (Int32.toNatClampNeg (nI ((6 * f) + t))) v)) 33 (upd (I 33) (Int32.toNatClampNeg (nI f)) (nI (t + 1)))) J q h) (md_wI hP1_ 33 (by decide) rfl) rfl rfl rfl (fun h2_ hP2_ => ?_)
    exact z_vret C dd_Q_push_45 ⟨rfl, Or.inr ⟨by omega, md_Ke hP2_ (by rw [nI_clamp (n := 6 * f + t) (by omega), nI_clamp (n := f) (by omega)]; rfl)⟩⟩ (by decide) (by decide)
  · replace q1 : t = 6 := (@nI_eq t 6 (by omega) (by omega)).mp q1
    refine z_aload_n C dd_Q_push_11 rfl ?_
    refine z_bipush (v := (-4)) C dd_Q_push_12 (by decide) ?_
    refine pf_Q_228 C dd_Q_push_14 hP.1.1 (Nat.le_of_ble_eq_true rfl) rfl rfl ?_
    refine z_cut (md_K dA (md_fs F 45 (-4)) I J q h) (md_wF hP rfl) rfl rfl rfl (fun h3_ hP3_ => ?_)
    exact z_vret C dd_Q_push_17 ⟨rfl, Or.inl ⟨q1, hP3_⟩⟩ (by decide) (by decide)
abbrev rm_Q_node : Room := { frames := 4, cells := 0, slots := 0, locals := 90 }
set_option maxRecDepth 20000 in
/-- node -/
theorem cc_Q_node (l : Launch) (D : va_G) (dA : Nat → ClassId) (B : Nat) (h : zz_H) (n : Nat) (q : Nat) (F : Nat → Int32) (I : Nat → Nat → Int32) (J : Nat → Nat → Int64) (hP0 : md_P dA F I J q h) (nc ng nM : Nat) (W : pu_W F I nc ng nM) (hN : ∀ g, g < ng → ∃ N, N ≤ 80 ∧ I 14 g = nI N) (x y z : Int32) : zz_M l D zz_cl (zz_ty dA) B zz_tb (zz_x B) yy_Q_node (Cond.code yy_Q_node bb_Q_node 6 (some FieldType.int)) rm_Q_node [.ref q, .int x, .int y, .int z] h n zz_mi (fun r h' n' => n' = n ∧ (((pu_iv x 0 (nI ng - 1) && pu_iv z 0 (nI 2)) = false ∧ r = 0 ∧ md_K dA (md_fs F 0 1) I J q h h') ∨ (∃ g9 w9 N9 M9, g9 < ng ∧ x = nI g9 ∧ w9 < 3 ∧ z = nI w9 ∧ I 14 g9 = nI N9 ∧ N9 ≤ 80 ∧ I 14 g9 = nI M9 ∧ M9 ≤ 80 ∧ ((N9 = 0 ∧ r = 0 ∧ md_K dA (md_fs F 0 2) I J q h h') ∨ (¬ N9 = 0 ∧ pu_iv y 0 (nI M9 - 1) = false ∧ r = 0 ∧ md_K dA (md_fs F 0 3) I J q h h') ∨ (¬ N9 = 0 ∧ ∃ k9, k9 < M9 ∧ y = nI k9 ∧ r = I (15 + w9) (80 * g9 + k9) ∧ md_K dA (md_fs F 0 0) I J q h h'))))) := by
  refine zz_ofW (zz_f B) [some (.ref q), some (.int x), some (.int y), some (.int z), none, none] (by decide) rfl rfl (Nat.le_of_ble_eq_true rfl) ?_
  intro p e s m below meth c C
  have hP := md_rf hP0
  have hg4 := W.g4
  refine z_iload_n C dd_Q_node_0 rfl ?_
  refine z_iconst (v := 0) C dd_Q_node_1 (by decide) ?_
  refine z_aload_n C dd_Q_node_2 rfl ?_
  refine gf_Q_135 (v := .int (F 3)) C dd_Q_node_3 hP.1.1 rfl ?_
  refine z_topi (y := nI ng) W.fg.symm ?_
  refine z_iconst (v := 1) C dd_Q_node_6 (by decide) ?_
  refine z_isub C dd_Q_node_7 ?_
  refine is_Q_127 (sk := fun r => .int r :: []) (zz_f B) C dd_Q_node_8 (cn_Q_in l D dA B _ _ _ _ _) rfl rfl ⟨by decide, by decide⟩ (Nat.le_of_ble_eq_true rfl) ⟨by decide, by decide⟩ (fun _ => rfl) (fun v1_ h1_ n1_ p1_ => ?_)
  obtain ⟨e1_, f1_, rfl⟩ := p1_
  have e1z := e1_.symm
  have f1z := f1_.symm
  subst e1z
  subst f1z
  refine z_if_eq (tgt := 27) C dd_Q_node_11 (by decide) (fun q1 => ?_) (fun q1 => ?_)
  · skip
    refine z_iconst (v := 0) C dd_Q_node_27 (by decide) ?_
    refine z_istore C dd_Q_node_28 rfl ?_
    refine z_aload_n C dd_Q_node_30 rfl ?_
    refine z_iload C dd_Q_node_31 rfl ?_
    refine z_if_ne (tgt := 40) C dd_Q_node_33 (by decide) (fun q2 => absurd (by decide) q2) (fun q2 => ?_)
    refine z_iconst (v := 1) C dd_Q_node_36 (by decide) ?_
    refine z_goto (tgt := 74) C dd_Q_node_37 (by decide) ?_
    refine pf_Q_121 C dd_Q_node_74 hP.1.1 (Nat.le_of_ble_eq_true rfl) rfl rfl ?_
    refine z_cut (md_K dA (md_fs F 0 1) I J q h) (md_wF hP rfl) rfl rfl rfl (fun h2_ hP2_ => ?_)
    refine z_aload_n C dd_Q_node_77 rfl ?_
    refine gf_Q_121 (v := .int 1) C dd_Q_node_78 hP2_.1.1 rfl ?_
    refine z_if_le (tgt := 86) C dd_Q_node_81 (by decide) (fun q3 => absurd q3 (by decide)) (fun q3 => ?_)
    refine z_iconst (v := 0) C dd_Q_node_84 (by decide) ?_
    exact z_iret C dd_Q_node_85 ⟨rfl, Or.inl ⟨(by rw [((pu_b0 _).mp q1)]; rfl), rfl, hP2_⟩⟩ (by decide) (by decide)
  · skip
    refine z_iload_n C dd_Q_node_14 rfl ?_
    refine z_iconst (v := 0) C dd_Q_node_15 (by decide) ?_
    refine z_iconst (v := 2) C dd_Q_node_16 (by decide) ?_
    refine is_Q_127 (sk := fun r => .int r :: []) (zz_f B) C dd_Q_node_17 (cn_Q_in l D dA B _ _ _ _ _) rfl rfl ⟨by decide, by decide⟩ (Nat.le_of_ble_eq_true rfl) ⟨by decide, by decide⟩ (fun _ => rfl) (fun v3_ h3_ n3_ p3_ => ?_)
    obtain ⟨e3_, f3_, rfl⟩ := p3_
    have e3z := e3_.symm
    have f3z := f3_.symm
    subst e3z
    subst f3z
    refine z_if_eq (tgt := 27) C dd_Q_node_20 (by decide) (fun q4 => ?_) (fun q4 => ?_)
    · skip
      refine z_iconst (v := 0) C dd_Q_node_27 (by decide) ?_
      refine z_istore C dd_Q_node_28 rfl ?_
      refine z_aload_n C dd_Q_node_30 rfl ?_
      refine z_iload C dd_Q_node_31 rfl ?_
      refine z_if_ne (tgt := 40) C dd_Q_node_33 (by decide) (fun q5 => absurd (by decide) q5) (fun q5 => ?_)
      refine z_iconst (v := 1) C dd_Q_node_36 (by decide) ?_
      refine z_goto (tgt := 74) C dd_Q_node_37 (by decide) ?_
      refine pf_Q_121 C dd_Q_node_74 hP.1.1 (Nat.le_of_ble_eq_true rfl) rfl rfl ?_
      refine z_cut (md_K dA (md_fs F 0 1) I J q h) (md_wF hP rfl) rfl rfl rfl (fun h4_ hP4_ => ?_)
      refine z_aload_n C dd_Q_node_77 rfl ?_
      refine gf_Q_121 (v := .int 1) C dd_Q_node_78 hP4_.1.1 rfl ?_
      refine z_if_le (tgt := 86) C dd_Q_node_81 (by decide) (fun q6 => absurd q6 (by decide)) (fun q6 => ?_)
      refine z_iconst (v := 0) C dd_Q_node_84 (by decide) ?_
      exact z_iret C dd_Q_node_85 ⟨rfl, Or.inl ⟨(by have z2 : pu_iv z 0 (nI 2) = false := ((pu_b0 _).mp q4); rw [z2, Bool.and_false]), rfl, hP4_⟩⟩ (by decide) (by decide)
    · skip
      refine z_iconst (v := 1) C dd_Q_node_23 (by decide) ?_
      refine z_goto (tgt := 28) C dd_Q_node_24 (by decide) ?_
      refine z_istore C dd_Q_node_28 rfl ?_
      refine z_aload_n C dd_Q_node_30 rfl ?_
      refine z_iload C dd_Q_node_31 rfl ?_
      refine z_if_ne (tgt := 40) C dd_Q_node_33 (by decide) (fun q7 => ?_) (fun q7 => absurd q7 (by decide))
      obtain ⟨g0, hg0, rfl⟩ := (pu_iv_0 (by omega)).mp (pu_bn1.mp q1)
      obtain ⟨w0, hw0, rfl⟩ := pu_iv_5 2 (by decide) (pu_bn1.mp q4)
      obtain ⟨N0, hN0, eN0⟩ := hN g0 hg0
      refine z_aload_n C dd_Q_node_40 rfl ?_
      refine gf_Q_57 (v := .ref (q + 1 + 14)) C dd_Q_node_41 hP.1.1 rfl ?_
      refine z_iload_n C dd_Q_node_44 rfl ?_
      refine z_iald (t0 := 0) (N := 4) (f := (I 14)) C rfl dd_Q_node_45 (hP.1.2 14 (by decide)) (vp_in_nI (by omega) (by decide)) ?_
      refine z_topi (y := nI N0) (by rw [nI_clamp (by omega)]; exact eN0.symm) ?_
      refine z_if_ne (tgt := 53) C dd_Q_node_46 (by decide) (fun q8 => ?_) (fun q8 => ?_)
      · replace q8 : ¬ N0 = 0 := fun z => q8 ((@nI_eq N0 0 (by omega) (by omega)).mpr z)
        refine z_iload_n C dd_Q_node_53 rfl ?_
        refine z_iconst (v := 0) C dd_Q_node_54 (by decide) ?_
        refine z_aload_n C dd_Q_node_55 rfl ?_
        refine gf_Q_57 (v := .ref (q + 1 + 14)) C dd_Q_node_56 hP.1.1 rfl ?_
        refine z_iload_n C dd_Q_node_59 rfl ?_
        refine z_iald (t0 := 0) (N := 4) (f := (I 14)) C rfl dd_Q_node_60 (hP.1.2 14 (by decide)) (vp_in_nI (by omega) (by decide)) ?_
        refine z_topi (y := nI N0) (by rw [nI_clamp (by omega)]; exact eN0.symm) ?_
        refine z_iconst (v := 1) C dd_Q_node_61 (by decide) ?_
        refine z_isub C dd_Q_node_62 ?_
        refine is_Q_127 (sk := fun r => .int r :: [.ref q]) (zz_f B) C dd_Q_node_63 (cn_Q_in l D dA B _ _ _ _ _) rfl rfl ⟨by decide, by decide⟩ (Nat.le_of_ble_eq_true rfl) ⟨by decide, by decide⟩ (fun _ => rfl) (fun v5_ h5_ n5_ p5_ => ?_)
        obtain ⟨e5_, f5_, rfl⟩ := p5_
        have e5z := e5_.symm
        have f5z := f5_.symm
        subst e5z
        subst f5z
        refine z_if_eq (tgt := 73) C dd_Q_node_66 (by decide) (fun q9 => ?_) (fun q9 => ?_)
        · skip
          refine z_iconst (v := 3) C dd_Q_node_73 (by decide) ?_
          refine pf_Q_121 C dd_Q_node_74 hP.1.1 (Nat.le_of_ble_eq_true rfl) rfl rfl ?_
          refine z_cut (md_K dA (md_fs F 0 3) I J q h) (md_wF hP rfl) rfl rfl rfl (fun h6_ hP6_ => ?_)
          refine z_aload_n C dd_Q_node_77 rfl ?_
          refine gf_Q_121 (v := .int 3) C dd_Q_node_78 hP6_.1.1 rfl ?_
          refine z_if_le (tgt := 86) C dd_Q_node_81 (by decide) (fun q10 => absurd q10 (by decide)) (fun q10 => ?_)
          refine z_iconst (v := 0) C dd_Q_node_84 (by decide) ?_
          exact z_iret C dd_Q_node_85 ⟨rfl, Or.inr ⟨g0, w0, N0, N0, hg0, rfl, hw0, rfl, eN0, hN0, eN0, hN0, Or.inr (Or.inl ⟨q8, ((pu_b0 _).mp q9), rfl, hP6_⟩)⟩⟩ (by decide) (by decide)
        · skip
          refine z_iconst (v := 0) C dd_Q_node_69 (by decide) ?_
          refine z_goto (tgt := 74) C dd_Q_node_70 (by decide) ?_
          refine pf_Q_121 C dd_Q_node_74 hP.1.1 (Nat.le_of_ble_eq_true rfl) rfl rfl ?_
          refine z_cut (md_K dA (md_fs F 0 0) I J q h) (md_wF hP rfl) rfl rfl rfl (fun h7_ hP7_ => ?_)
          refine z_aload_n C dd_Q_node_77 rfl ?_
          refine gf_Q_121 (v := .int 0) C dd_Q_node_78 hP7_.1.1 rfl ?_
          refine z_if_le (tgt := 86) C dd_Q_node_81 (by decide) (fun q11 => ?_) (fun q11 => absurd (by decide) q11)
          obtain ⟨k0, hk0, rfl⟩ := (pu_iv_0 (by omega)).mp (pu_bn1.mp q9)
          refine z_bipush (v := 80) C dd_Q_node_86 (by decide) ?_
          refine z_iload_n C dd_Q_node_88 rfl ?_
          refine z_imul C dd_Q_node_89 ?_
          refine z_topi (y := nI (80 * g0)) (by first | exact (pk_mul _ _).symm | (rw [← pk_mul]; rfl)) ?_
          refine z_iload_n C dd_Q_node_90 rfl ?_
          refine z_iadd C dd_Q_node_91 ?_
          refine z_topi (y := nI ((80 * g0) + k0)) (by first | exact (nI_add _ _).symm | (rw [← nI_add]; rfl)) ?_
          refine z_istore C dd_Q_node_92 rfl ?_
          refine z_iload_n C dd_Q_node_94 rfl ?_
          refine z_if_ne (tgt := 108) C dd_Q_node_95 (by decide) (fun q12 => ?_) (fun q12 => ?_)
          · replace q12 : ¬ w0 = 0 := fun z => q12 ((@nI_eq w0 0 (by omega) (by omega)).mpr z)
            refine z_iload_n C dd_Q_node_108 rfl ?_
            refine z_iconst (v := 1) C dd_Q_node_109 (by decide) ?_
            refine z_icmp_ne (tgt := 123) C dd_Q_node_110 (by decide) (fun q13 => ?_) (fun q13 => ?_)
            · replace q13 : ¬ w0 = 1 := fun z => q13 ((@nI_eq w0 1 (by omega) (by omega)).mpr z)
              refine z_aload_n C dd_Q_node_123 rfl ?_
              refine gf_Q_66 (v := .ref (q + 1 + 17)) C dd_Q_node_124 hP7_.1.1 rfl ?_
              refine z_iload C dd_Q_node_127 rfl ?_
              refine z_iald (t0 := 0) (N := 320) (f := (I 17)) C rfl dd_Q_node_129 (hP7_.1.2 17 (by decide)) (vp_in_nI (by omega) (by decide)) ?_
              refine z_topi (y := ((I 17) ((80 * g0) + k0))) (by rw [nI_clamp (by omega)]) ?_
              have ew : w0 = 2 := by omega
              subst ew
              exact z_iret C dd_Q_node_130 ⟨rfl, Or.inr ⟨g0, _, N0, N0, hg0, rfl, hw0, rfl, eN0, hN0, eN0, hN0, Or.inr (Or.inr ⟨q8, k0, hk0, rfl, rfl, hP7_⟩)⟩⟩ (by decide) (by decide)
            · replace q13 : w0 = 1 := (@nI_eq w0 1 (by omega) (by omega)).mp q13
              refine z_aload_n C dd_Q_node_113 rfl ?_
              refine gf_Q_63 (v := .ref (q + 1 + 16)) C dd_Q_node_114 hP7_.1.1 rfl ?_
              refine z_iload C dd_Q_node_117 rfl ?_
              refine z_iald (t0 := 0) (N := 320) (f := (I 16)) C rfl dd_Q_node_119 (hP7_.1.2 16 (by decide)) (vp_in_nI (by omega) (by decide)) ?_
              refine z_topi (y := ((I 16) ((80 * g0) + k0))) (by rw [nI_clamp (by omega)]) ?_
              refine z_goto (tgt := 130) C dd_Q_node_120 (by decide) ?_
              have ew : w0 = 1 := by omega
              subst ew
              exact z_iret C dd_Q_node_130 ⟨rfl, Or.inr ⟨g0, _, N0, N0, hg0, rfl, hw0, rfl, eN0, hN0, eN0, hN0, Or.inr (Or.inr ⟨q8, k0, hk0, rfl, rfl, hP7_⟩)⟩⟩ (by decide) (by decide)
          · replace q12 : w0 = 0 := (@nI_eq w0 0 (by omega) (by omega)).mp q12
            refine z_aload_n C dd_Q_node_98 rfl ?_
            refine gf_Q_60 (v := .ref (q + 1 + 15)) C dd_Q_node_99 hP7_.1.1 rfl ?_
            refine z_iload C dd_Q_node_102 rfl ?_
            refine z_iald (t0 := 0) (N := 320) (f := (I 15)) C rfl dd_Q_node_104 (hP7_.1.2 15 (by decide)) (vp_in_nI (by omega) (by decide)) ?_
            refine z_topi (y := ((I 15) ((80 * g0) + k0))) (by rw [nI_clamp (by omega)]) ?_
            refine z_goto (tgt := 130) C dd_Q_node_105 (by decide) ?_
            have ew : w0 = 0 := by omega
            subst ew
            exact z_iret C dd_Q_node_130 ⟨rfl, Or.inr ⟨g0, _, N0, N0, hg0, rfl, hw0, rfl, eN0, hN0, eN0, hN0, Or.inr (Or.inr ⟨q8, k0, hk0, rfl, rfl, hP7_⟩)⟩⟩ (by decide) (by decide)
      · replace q8 : N0 = 0 := (@nI_eq N0 0 (by omega) (by omega)).mp q8
        refine z_iconst (v := 2) C dd_Q_node_49 (by decide) ?_
        refine z_goto (tgt := 74) C dd_Q_node_50 (by decide) ?_
        refine pf_Q_121 C dd_Q_node_74 hP.1.1 (Nat.le_of_ble_eq_true rfl) rfl rfl ?_
        refine z_cut (md_K dA (md_fs F 0 2) I J q h) (md_wF hP rfl) rfl rfl rfl (fun h8_ hP8_ => ?_)
        refine z_aload_n C dd_Q_node_77 rfl ?_
        refine gf_Q_121 (v := .int 2) C dd_Q_node_78 hP8_.1.1 rfl ?_
        refine z_if_le (tgt := 86) C dd_Q_node_81 (by decide) (fun q14 => absurd q14 (by decide)) (fun q14 => ?_)
        refine z_iconst (v := 0) C dd_Q_node_84 (by decide) ?_
        exact z_iret C dd_Q_node_85 ⟨rfl, Or.inr ⟨g0, w0, N0, N0, hg0, rfl, hw0, rfl, eN0, hN0, eN0, hN0, Or.inl ⟨q8, rfl, hP8_⟩⟩⟩ (by decide) (by decide)
abbrev rm_Q_test : Room := { frames := 4, cells := 0, slots := 0, locals := 90 }
set_option maxRecDepth 20000 in
/-- test -/
theorem cc_Q_test (l : Launch) (D : va_G) (dA : Nat → ClassId) (B : Nat) (h : zz_H) (n : Nat) (q : Nat) (F : Nat → Int32) (I : Nat → Nat → Int32) (J : Nat → Nat → Int64) (hP0 : md_P dA F I J q h) (nc ng nM : Nat) (W : pu_W F I nc ng nM) (hN : ∀ g, g < ng → ∃ N, N ≤ 80 ∧ I 14 g = nI N) (hT : ∀ g, g < ng → ∃ N, N ≤ 48 ∧ I 18 g = nI N) (x y z : Int32) : zz_M l D zz_cl (zz_ty dA) B zz_tb (zz_x B) yy_Q_test (Cond.code yy_Q_test bb_Q_test 6 (some FieldType.int)) rm_Q_test [.ref q, .int x, .int y, .int z] h n zz_mi (fun r h' n' => n' = n ∧ (((pu_iv x 0 (nI ng - 1) && pu_iv z 0 (nI 2)) = false ∧ r = 0 ∧ md_K dA (md_fs F 0 1) I J q h h') ∨ (∃ g9 w9 N9 M9, g9 < ng ∧ x = nI g9 ∧ w9 < 3 ∧ z = nI w9 ∧ I 14 g9 = nI N9 ∧ N9 ≤ 80 ∧ I 18 g9 = nI M9 ∧ M9 ≤ 48 ∧ ((N9 = 0 ∧ r = 0 ∧ md_K dA (md_fs F 0 2) I J q h h') ∨ (¬ N9 = 0 ∧ pu_iv y 0 (nI M9 - 1) = false ∧ r = 0 ∧ md_K dA (md_fs F 0 3) I J q h h') ∨ (¬ N9 = 0 ∧ ∃ k9, k9 < M9 ∧ y = nI k9 ∧ r = I (19 + w9) (48 * g9 + k9) ∧ md_K dA (md_fs F 0 0) I J q h h'))))) := by
  refine zz_ofW (zz_f B) [some (.ref q), some (.int x), some (.int y), some (.int z), none, none] (by decide) rfl rfl (Nat.le_of_ble_eq_true rfl) ?_
  intro p e s m below meth c C
  have hP := md_rf hP0
  have hg4 := W.g4
  refine z_iload_n C dd_Q_test_0 rfl ?_
  refine z_iconst (v := 0) C dd_Q_test_1 (by decide) ?_
  refine z_aload_n C dd_Q_test_2 rfl ?_
  refine gf_Q_135 (v := .int (F 3)) C dd_Q_test_3 hP.1.1 rfl ?_
  refine z_topi (y := nI ng) W.fg.symm ?_
  refine z_iconst (v := 1) C dd_Q_test_6 (by decide) ?_
  refine z_isub C dd_Q_test_7 ?_
  refine is_Q_127 (sk := fun r => .int r :: []) (zz_f B) C dd_Q_test_8 (cn_Q_in l D dA B _ _ _ _ _) rfl rfl ⟨by decide, by decide⟩ (Nat.le_of_ble_eq_true rfl) ⟨by decide, by decide⟩ (fun _ => rfl) (fun v1_ h1_ n1_ p1_ => ?_)
  obtain ⟨e1_, f1_, rfl⟩ := p1_
  have e1z := e1_.symm
  have f1z := f1_.symm
  subst e1z
  subst f1z
  refine z_if_eq (tgt := 27) C dd_Q_test_11 (by decide) (fun q1 => ?_) (fun q1 => ?_)
  · skip
    refine z_iconst (v := 0) C dd_Q_test_27 (by decide) ?_
    refine z_istore C dd_Q_test_28 rfl ?_
    refine z_aload_n C dd_Q_test_30 rfl ?_
    refine z_iload C dd_Q_test_31 rfl ?_
    refine z_if_ne (tgt := 40) C dd_Q_test_33 (by decide) (fun q2 => absurd (by decide) q2) (fun q2 => ?_)
    refine z_iconst (v := 1) C dd_Q_test_36 (by decide) ?_
    refine z_goto (tgt := 74) C dd_Q_test_37 (by decide) ?_
    refine pf_Q_121 C dd_Q_test_74 hP.1.1 (Nat.le_of_ble_eq_true rfl) rfl rfl ?_
    refine z_cut (md_K dA (md_fs F 0 1) I J q h) (md_wF hP rfl) rfl rfl rfl (fun h2_ hP2_ => ?_)
    refine z_aload_n C dd_Q_test_77 rfl ?_
    refine gf_Q_121 (v := .int 1) C dd_Q_test_78 hP2_.1.1 rfl ?_
    refine z_if_le (tgt := 86) C dd_Q_test_81 (by decide) (fun q3 => absurd q3 (by decide)) (fun q3 => ?_)
    refine z_iconst (v := 0) C dd_Q_test_84 (by decide) ?_
    exact z_iret C dd_Q_test_85 ⟨rfl, Or.inl ⟨(by rw [((pu_b0 _).mp q1)]; rfl), rfl, hP2_⟩⟩ (by decide) (by decide)
  · skip
    refine z_iload_n C dd_Q_test_14 rfl ?_
    refine z_iconst (v := 0) C dd_Q_test_15 (by decide) ?_
    refine z_iconst (v := 2) C dd_Q_test_16 (by decide) ?_
    refine is_Q_127 (sk := fun r => .int r :: []) (zz_f B) C dd_Q_test_17 (cn_Q_in l D dA B _ _ _ _ _) rfl rfl ⟨by decide, by decide⟩ (Nat.le_of_ble_eq_true rfl) ⟨by decide, by decide⟩ (fun _ => rfl) (fun v3_ h3_ n3_ p3_ => ?_)
    obtain ⟨e3_, f3_, rfl⟩ := p3_
    have e3z := e3_.symm
    have f3z := f3_.symm
    subst e3z
    subst f3z
    refine z_if_eq (tgt := 27) C dd_Q_test_20 (by decide) (fun q4 => ?_) (fun q4 => ?_)
    · skip
      refine z_iconst (v := 0) C dd_Q_test_27 (by decide) ?_
      refine z_istore C dd_Q_test_28 rfl ?_
      refine z_aload_n C dd_Q_test_30 rfl ?_
      refine z_iload C dd_Q_test_31 rfl ?_
      refine z_if_ne (tgt := 40) C dd_Q_test_33 (by decide) (fun q5 => absurd (by decide) q5) (fun q5 => ?_)
      refine z_iconst (v := 1) C dd_Q_test_36 (by decide) ?_
      refine z_goto (tgt := 74) C dd_Q_test_37 (by decide) ?_
      refine pf_Q_121 C dd_Q_test_74 hP.1.1 (Nat.le_of_ble_eq_true rfl) rfl rfl ?_
      refine z_cut (md_K dA (md_fs F 0 1) I J q h) (md_wF hP rfl) rfl rfl rfl (fun h4_ hP4_ => ?_)
      refine z_aload_n C dd_Q_test_77 rfl ?_
      refine gf_Q_121 (v := .int 1) C dd_Q_test_78 hP4_.1.1 rfl ?_
      refine z_if_le (tgt := 86) C dd_Q_test_81 (by decide) (fun q6 => absurd q6 (by decide)) (fun q6 => ?_)
      refine z_iconst (v := 0) C dd_Q_test_84 (by decide) ?_
      exact z_iret C dd_Q_test_85 ⟨rfl, Or.inl ⟨(by have z2 : pu_iv z 0 (nI 2) = false := ((pu_b0 _).mp q4); rw [z2, Bool.and_false]), rfl, hP4_⟩⟩ (by decide) (by decide)
    · skip
      refine z_iconst (v := 1) C dd_Q_test_23 (by decide) ?_
      refine z_goto (tgt := 28) C dd_Q_test_24 (by decide) ?_
      refine z_istore C dd_Q_test_28 rfl ?_
      refine z_aload_n C dd_Q_test_30 rfl ?_
      refine z_iload C dd_Q_test_31 rfl ?_
      refine z_if_ne (tgt := 40) C dd_Q_test_33 (by decide) (fun q7 => ?_) (fun q7 => absurd q7 (by decide))
      obtain ⟨g0, hg0, rfl⟩ := (pu_iv_0 (by omega)).mp (pu_bn1.mp q1)
      obtain ⟨w0, hw0, rfl⟩ := pu_iv_5 2 (by decide) (pu_bn1.mp q4)
      obtain ⟨N0, hN0, eN0⟩ := hN g0 hg0
      obtain ⟨M0, hM0, eM0⟩ := hT g0 hg0
      refine z_aload_n C dd_Q_test_40 rfl ?_
      refine gf_Q_57 (v := .ref (q + 1 + 14)) C dd_Q_test_41 hP.1.1 rfl ?_
      refine z_iload_n C dd_Q_test_44 rfl ?_
      refine z_iald (t0 := 0) (N := 4) (f := (I 14)) C rfl dd_Q_test_45 (hP.1.2 14 (by decide)) (vp_in_nI (by omega) (by decide)) ?_
      refine z_topi (y := nI N0) (by rw [nI_clamp (by omega)]; exact eN0.symm) ?_
      refine z_if_ne (tgt := 53) C dd_Q_test_46 (by decide) (fun q8 => ?_) (fun q8 => ?_)
      · replace q8 : ¬ N0 = 0 := fun z => q8 ((@nI_eq N0 0 (by omega) (by omega)).mpr z)
        refine z_iload_n C dd_Q_test_53 rfl ?_
        refine z_iconst (v := 0) C dd_Q_test_54 (by decide) ?_
        refine z_aload_n C dd_Q_test_55 rfl ?_
        refine gf_Q_69 (v := .ref (q + 1 + 18)) C dd_Q_test_56 hP.1.1 rfl ?_
        refine z_iload_n C dd_Q_test_59 rfl ?_
        refine z_iald (t0 := 0) (N := 4) (f := (I 18)) C rfl dd_Q_test_60 (hP.1.2 18 (by decide)) (vp_in_nI (by omega) (by decide)) ?_
        refine z_topi (y := nI M0) (by rw [nI_clamp (by omega)]; exact eM0.symm) ?_
        refine z_iconst (v := 1) C dd_Q_test_61 (by decide) ?_
        refine z_isub C dd_Q_test_62 ?_
        refine is_Q_127 (sk := fun r => .int r :: [.ref q]) (zz_f B) C dd_Q_test_63 (cn_Q_in l D dA B _ _ _ _ _) rfl rfl ⟨by decide, by decide⟩ (Nat.le_of_ble_eq_true rfl) ⟨by decide, by decide⟩ (fun _ => rfl) (fun v5_ h5_ n5_ p5_ => ?_)
        obtain ⟨e5_, f5_, rfl⟩ := p5_
        have e5z := e5_.symm
        have f5z := f5_.symm
        subst e5z
        subst f5z
        refine z_if_eq (tgt := 73) C dd_Q_test_66 (by decide) (fun q9 => ?_) (fun q9 => ?_)
        · skip
          refine z_iconst (v := 3) C dd_Q_test_73 (by decide) ?_
          refine pf_Q_121 C dd_Q_test_74 hP.1.1 (Nat.le_of_ble_eq_true rfl) rfl rfl ?_
          refine z_cut (md_K dA (md_fs F 0 3) I J q h) (md_wF hP rfl) rfl rfl rfl (fun h6_ hP6_ => ?_)
          refine z_aload_n C dd_Q_test_77 rfl ?_
          refine gf_Q_121 (v := .int 3) C dd_Q_test_78 hP6_.1.1 rfl ?_
          refine z_if_le (tgt := 86) C dd_Q_test_81 (by decide) (fun q10 => absurd q10 (by decide)) (fun q10 => ?_)
          refine z_iconst (v := 0) C dd_Q_test_84 (by decide) ?_
          exact z_iret C dd_Q_test_85 ⟨rfl, Or.inr ⟨g0, w0, N0, M0, hg0, rfl, hw0, rfl, eN0, hN0, eM0, hM0, Or.inr (Or.inl ⟨q8, ((pu_b0 _).mp q9), rfl, hP6_⟩)⟩⟩ (by decide) (by decide)
        · skip
          refine z_iconst (v := 0) C dd_Q_test_69 (by decide) ?_
          refine z_goto (tgt := 74) C dd_Q_test_70 (by decide) ?_
          refine pf_Q_121 C dd_Q_test_74 hP.1.1 (Nat.le_of_ble_eq_true rfl) rfl rfl ?_
          refine z_cut (md_K dA (md_fs F 0 0) I J q h) (md_wF hP rfl) rfl rfl rfl (fun h7_ hP7_ => ?_)
          refine z_aload_n C dd_Q_test_77 rfl ?_
          refine gf_Q_121 (v := .int 0) C dd_Q_test_78 hP7_.1.1 rfl ?_
          refine z_if_le (tgt := 86) C dd_Q_test_81 (by decide) (fun q11 => ?_) (fun q11 => absurd (by decide) q11)
          obtain ⟨k0, hk0, rfl⟩ := (pu_iv_0 (by omega)).mp (pu_bn1.mp q9)
          refine z_bipush (v := 48) C dd_Q_test_86 (by decide) ?_
          refine z_iload_n C dd_Q_test_88 rfl ?_
          refine z_imul C dd_Q_test_89 ?_
          refine z_topi (y := nI (48 * g0)) (by first | exact (pk_mul _ _).symm | (rw [← pk_mul]; rfl)) ?_
          refine z_iload_n C dd_Q_test_90 rfl ?_
          refine z_iadd C dd_Q_test_91 ?_
          refine z_topi (y := nI ((48 * g0) + k0)) (by first | exact (nI_add _ _).symm | (rw [← nI_add]; rfl)) ?_
          refine z_istore C dd_Q_test_92 rfl ?_
          refine z_iload_n C dd_Q_test_94 rfl ?_
          refine z_if_ne (tgt := 108) C dd_Q_test_95 (by decide) (fun q12 => ?_) (fun q12 => ?_)
          · replace q12 : ¬ w0 = 0 := fun z => q12 ((@nI_eq w0 0 (by omega) (by omega)).mpr z)
            refine z_iload_n C dd_Q_test_108 rfl ?_
            refine z_iconst (v := 1) C dd_Q_test_109 (by decide) ?_
            refine z_icmp_ne (tgt := 123) C dd_Q_test_110 (by decide) (fun q13 => ?_) (fun q13 => ?_)
            · replace q13 : ¬ w0 = 1 := fun z => q13 ((@nI_eq w0 1 (by omega) (by omega)).mpr z)
              refine z_aload_n C dd_Q_test_123 rfl ?_
              refine gf_Q_78 (v := .ref (q + 1 + 21)) C dd_Q_test_124 hP7_.1.1 rfl ?_
              refine z_iload C dd_Q_test_127 rfl ?_
              refine z_iald (t0 := 0) (N := 192) (f := (I 21)) C rfl dd_Q_test_129 (hP7_.1.2 21 (by decide)) (vp_in_nI (by omega) (by decide)) ?_
              refine z_topi (y := ((I 21) ((48 * g0) + k0))) (by rw [nI_clamp (by omega)]) ?_
              have ew : w0 = 2 := by omega
              subst ew
              exact z_iret C dd_Q_test_130 ⟨rfl, Or.inr ⟨g0, _, N0, M0, hg0, rfl, hw0, rfl, eN0, hN0, eM0, hM0, Or.inr (Or.inr ⟨q8, k0, hk0, rfl, rfl, hP7_⟩)⟩⟩ (by decide) (by decide)
            · replace q13 : w0 = 1 := (@nI_eq w0 1 (by omega) (by omega)).mp q13
              refine z_aload_n C dd_Q_test_113 rfl ?_
              refine gf_Q_75 (v := .ref (q + 1 + 20)) C dd_Q_test_114 hP7_.1.1 rfl ?_
              refine z_iload C dd_Q_test_117 rfl ?_
              refine z_iald (t0 := 0) (N := 192) (f := (I 20)) C rfl dd_Q_test_119 (hP7_.1.2 20 (by decide)) (vp_in_nI (by omega) (by decide)) ?_
              refine z_topi (y := ((I 20) ((48 * g0) + k0))) (by rw [nI_clamp (by omega)]) ?_
              refine z_goto (tgt := 130) C dd_Q_test_120 (by decide) ?_
              have ew : w0 = 1 := by omega
              subst ew
              exact z_iret C dd_Q_test_130 ⟨rfl, Or.inr ⟨g0, _, N0, M0, hg0, rfl, hw0, rfl, eN0, hN0, eM0, hM0, Or.inr (Or.inr ⟨q8, k0, hk0, rfl, rfl, hP7_⟩)⟩⟩ (by decide) (by decide)
          · replace q12 : w0 = 0 := (@nI_eq w0 0 (by omega) (by omega)).mp q12
            refine z_aload_n C dd_Q_test_98 rfl ?_
            refine gf_Q_72 (v := .ref (q + 1 + 19)) C dd_Q_test_99 hP7_.1.1 rfl ?_
            refine z_iload C dd_Q_test_102 rfl ?_
            refine z_iald (t0 := 0) (N := 192) (f := (I 19)) C rfl dd_Q_test_104 (hP7_.1.2 19 (by decide)) (vp_in_nI (by omega) (by decide)) ?_
            refine z_topi (y := ((I 19) ((48 * g0) + k0))) (by rw [nI_clamp (by omega)]) ?_
            refine z_goto (tgt := 130) C dd_Q_test_105 (by decide) ?_
            have ew : w0 = 0 := by omega
            subst ew
            exact z_iret C dd_Q_test_130 ⟨rfl, Or.inr ⟨g0, _, N0, M0, hg0, rfl, hw0, rfl, eN0, hN0, eM0, hM0, Or.inr (Or.inr ⟨q8, k0, hk0, rfl, rfl, hP7_⟩)⟩⟩ (by decide) (by decide)
      · replace q8 : N0 = 0 := (@nI_eq N0 0 (by omega) (by omega)).mp q8
        refine z_iconst (v := 2) C dd_Q_test_49 (by decide) ?_
        refine z_goto (tgt := 74) C dd_Q_test_50 (by decide) ?_
        refine pf_Q_121 C dd_Q_test_74 hP.1.1 (Nat.le_of_ble_eq_true rfl) rfl rfl ?_
        refine z_cut (md_K dA (md_fs F 0 2) I J q h) (md_wF hP rfl) rfl rfl rfl (fun h8_ hP8_ => ?_)
        refine z_aload_n C dd_Q_test_77 rfl ?_
        refine gf_Q_121 (v := .int 2) C dd_Q_test_78 hP8_.1.1 rfl ?_
        refine z_if_le (tgt := 86) C dd_Q_test_81 (by decide) (fun q14 => absurd q14 (by decide)) (fun q14 => ?_)
        refine z_iconst (v := 0) C dd_Q_test_84 (by decide) ?_
        exact z_iret C dd_Q_test_85 ⟨rfl, Or.inr ⟨g0, w0, N0, M0, hg0, rfl, hw0, rfl, eN0, hN0, eM0, hM0, Or.inl ⟨q8, rfl, hP8_⟩⟩⟩ (by decide) (by decide)
abbrev rm_Q_hasTest : Room := { frames := 1, cells := 0, slots := 0, locals := 0 }
set_option maxRecDepth 20000 in
theorem lp_Q_hasTest {D : va_G} {dA : Nat → ClassId} {B : Nat} {p : Program} {l : Launch} {e : Env} {s : State} {m : MethodId} {args : Array Value} {below : List Frame} {meth : Method} {c : Code} {Q : State → Prop} {n : Nat} {nm : String} {ret9 : Option FieldType} {h : zz_H} (C : zz_C D zz_cl (zz_ty dA) B zz_tb (zz_x B) p s m args meth c bb_Q_hasTest RR_Q ret9 nm) {q : Nat} {F : Nat → Int32} {I : Nat → Nat → Int32} {J : Nat → Nat → Int64} (hP0 : md_P dA F I J q h) {g0 k0 T : Nat} (hg : g0 < 4) (hk : k0 < 48) (hT : T ≤ 48) (eT : I 18 g0 = nI T) (kx0 : ∀ t9, ((List.range T).any fun t => pu_tq I (48 * g0 + t) k0) = false → zz_W D zz_cl B p l e rm_Q_hasTest s m args below meth c Q h n 0 0 [some (.ref q), some (.int (nI g0)), some (.int (nI k0)), some (.int (nI t9))] 73 []) (kx1 : ∀ t9, ((List.range T).any fun t => pu_tq I (48 * g0 + t) k0) = true → zz_W D zz_cl B p l e rm_Q_hasTest s m args below meth c Q h n 0 0 [some (.ref q), some (.int (nI g0)), some (.int (nI k0)), some (.int (nI t9))] 65 []) :
    ∀ f j, j + f = T → ((List.range j).any fun t => pu_tq I (48 * g0 + t) k0) = false → zz_W D zz_cl B p l e rm_Q_hasTest s m args below meth c Q h n 0 0 [some (.ref q), some (.int (nI g0)), some (.int (nI k0)), some (.int (nI (48 * g0 + j)))] 5 [] := by
  intro f
  have hP := md_rf hP0
  induction f with
  | zero =>
    intro j hf hv
    have hj : j = T := by omega
    subst hj
    refine z_iload_n C dd_Q_hasTest_5 rfl ?_
    refine z_bipush (v := 48) C dd_Q_hasTest_6 (by decide) ?_
    refine z_iload_n C dd_Q_hasTest_8 rfl ?_
    refine z_imul C dd_Q_hasTest_9 ?_
    refine z_topi (y := nI (48 * g0)) (by first | exact (pk_mul _ _).symm | (rw [← pk_mul]; rfl)) ?_
    refine z_aload_n C dd_Q_hasTest_10 rfl ?_
    refine gf_Q_69 (v := .ref (q + 1 + 18)) C dd_Q_hasTest_11 hP.1.1 rfl ?_
    refine z_iload_n C dd_Q_hasTest_14 rfl ?_
    refine z_iald (t0 := 0) (N := 4) (f := (I 18)) C rfl dd_Q_hasTest_15 (hP.1.2 18 (by decide)) (vp_in_nI (by omega) (by decide)) ?_
    refine z_topi (y := nI j) (by rw [nI_clamp (by omega)]; exact eT.symm) ?_
    refine z_iadd C dd_Q_hasTest_16 ?_
    refine z_topi (y := nI ((48 * g0) + j)) (by first | exact (nI_add _ _).symm | (rw [← nI_add]; rfl)) ?_
    exact z_icmp_ge (tgt := 73) C dd_Q_hasTest_17 (by decide) (fun _ => kx0 _ hv) (fun q10 => absurd (nI_le (Nat.le_refl _) (by omega)) q10)
  | succ f ih =>
    intro j hf hv
    refine z_iload_n C dd_Q_hasTest_5 rfl ?_
    refine z_bipush (v := 48) C dd_Q_hasTest_6 (by decide) ?_
    refine z_iload_n C dd_Q_hasTest_8 rfl ?_
    refine z_imul C dd_Q_hasTest_9 ?_
    refine z_topi (y := nI (48 * g0)) (by first | exact (pk_mul _ _).symm | (rw [← pk_mul]; rfl)) ?_
    refine z_aload_n C dd_Q_hasTest_10 rfl ?_
    refine gf_Q_69 (v := .ref (q + 1 + 18)) C dd_Q_hasTest_11 hP.1.1 rfl ?_
    refine z_iload_n C dd_Q_hasTest_14 rfl ?_
    refine z_iald (t0 := 0) (N := 4) (f := (I 18)) C rfl dd_Q_hasTest_15 (hP.1.2 18 (by decide)) (vp_in_nI (by omega) (by decide)) ?_
    refine z_topi (y := nI T) (by rw [nI_clamp (by omega)]; exact eT.symm) ?_
    refine z_iadd C dd_Q_hasTest_16 ?_
    refine z_topi (y := nI ((48 * g0) + T)) (by first | exact (nI_add _ _).symm | (rw [← nI_add]; rfl)) ?_
    refine z_icmp_ge (tgt := 73) C dd_Q_hasTest_17 (by decide) (fun q10 => absurd q10 (nI_ge (by omega) (by omega))) (fun _ => ?_)
    have next : pu_tq I (48 * g0 + j) k0 = false → zz_W D zz_cl B p l e rm_Q_hasTest s m args below meth c Q h n 0 0 [some (.ref q), some (.int (nI g0)), some (.int (nI k0)), some (.int (nI (48 * g0 + j)))] 67 [] := by
      intro hno
      refine z_iincN C dd_Q_hasTest_67 rfl rfl ?_
      refine z_goto (tgt := 5) C dd_Q_hasTest_70 (by decide) ?_
      exact ih (j + 1) (by omega) (by rw [z_loopAny, hv, hno]; rfl)
    refine z_aload_n C dd_Q_hasTest_20 rfl ?_
    refine gf_Q_72 (v := .ref (q + 1 + 19)) C dd_Q_hasTest_21 hP.1.1 rfl ?_
    refine z_iload_n C dd_Q_hasTest_24 rfl ?_
    refine z_iald (t0 := 0) (N := 192) (f := (I 19)) C rfl dd_Q_hasTest_25 (hP.1.2 19 (by decide)) (vp_in_nI (by omega) (by decide)) ?_
    refine z_topi (y := ((I 19) (48 * g0 + j))) (by rw [nI_clamp (by omega)]) ?_
    refine z_aload_n C dd_Q_hasTest_26 rfl ?_
    refine gf_Q_26 (v := .ref (q + 1 + 4)) C dd_Q_hasTest_27 hP.1.1 rfl ?_
    refine z_iload_n C dd_Q_hasTest_30 rfl ?_
    refine z_iald (t0 := 0) (N := 48) (f := (I 4)) C rfl dd_Q_hasTest_31 (hP.1.2 4 (by decide)) (vp_in_nI (by omega) (by decide)) ?_
    refine z_topi (y := ((I 4) k0)) (by rw [nI_clamp (by omega)]) ?_
    refine z_icmp_ne (tgt := 67) C dd_Q_hasTest_32 (by decide) (fun q1 => ?_) (fun q1 => ?_)
    · skip
      exact next (by unfold pu_tq; simp [q1])
    · skip
      refine z_aload_n C dd_Q_hasTest_35 rfl ?_
      refine gf_Q_75 (v := .ref (q + 1 + 20)) C dd_Q_hasTest_36 hP.1.1 rfl ?_
      refine z_iload_n C dd_Q_hasTest_39 rfl ?_
      refine z_iald (t0 := 0) (N := 192) (f := (I 20)) C rfl dd_Q_hasTest_40 (hP.1.2 20 (by decide)) (vp_in_nI (by omega) (by decide)) ?_
      refine z_topi (y := ((I 20) (48 * g0 + j))) (by rw [nI_clamp (by omega)]) ?_
      refine z_aload_n C dd_Q_hasTest_41 rfl ?_
      refine gf_Q_29 (v := .ref (q + 1 + 5)) C dd_Q_hasTest_42 hP.1.1 rfl ?_
      refine z_iload_n C dd_Q_hasTest_45 rfl ?_
      refine z_iald (t0 := 0) (N := 48) (f := (I 5)) C rfl dd_Q_hasTest_46 (hP.1.2 5 (by decide)) (vp_in_nI (by omega) (by decide)) ?_
      refine z_topi (y := ((I 5) k0)) (by rw [nI_clamp (by omega)]) ?_
      refine z_icmp_ne (tgt := 67) C dd_Q_hasTest_47 (by decide) (fun q2 => ?_) (fun q2 => ?_)
      · skip
        exact next (by unfold pu_tq; simp [q1, q2])
      · skip
        refine z_aload_n C dd_Q_hasTest_50 rfl ?_
        refine gf_Q_78 (v := .ref (q + 1 + 21)) C dd_Q_hasTest_51 hP.1.1 rfl ?_
        refine z_iload_n C dd_Q_hasTest_54 rfl ?_
        refine z_iald (t0 := 0) (N := 192) (f := (I 21)) C rfl dd_Q_hasTest_55 (hP.1.2 21 (by decide)) (vp_in_nI (by omega) (by decide)) ?_
        refine z_topi (y := ((I 21) (48 * g0 + j))) (by rw [nI_clamp (by omega)]) ?_
        refine z_aload_n C dd_Q_hasTest_56 rfl ?_
        refine gf_Q_32 (v := .ref (q + 1 + 6)) C dd_Q_hasTest_57 hP.1.1 rfl ?_
        refine z_iload_n C dd_Q_hasTest_60 rfl ?_
        refine z_iald (t0 := 0) (N := 48) (f := (I 6)) C rfl dd_Q_hasTest_61 (hP.1.2 6 (by decide)) (vp_in_nI (by omega) (by decide)) ?_
        refine z_topi (y := ((I 6) k0)) (by rw [nI_clamp (by omega)]) ?_
        refine z_icmp_ne (tgt := 67) C dd_Q_hasTest_62 (by decide) (fun q3 => ?_) (fun q3 => ?_)
        · skip
          exact next (by unfold pu_tq; simp [q1, q2, q3])
        · skip
          exact kx1 _ (List.any_eq_true.mpr ⟨j, List.mem_range.mpr (by omega), by unfold pu_tq; simp [q1, q2, q3]⟩)
set_option maxRecDepth 20000 in
/-- hasTest -/
theorem cc_Q_hasTest (l : Launch) (D : va_G) (dA : Nat → ClassId) (B : Nat) (h : zz_H) (n : Nat) (q : Nat) (F : Nat → Int32) (I : Nat → Nat → Int32) (J : Nat → Nat → Int64) (hP0 : md_P dA F I J q h) (g0 k0 T : Nat) (hg : g0 < 4) (hk : k0 < 48) (hT : T ≤ 48) (eT : I 18 g0 = nI T) : zz_M l D zz_cl (zz_ty dA) B zz_tb (zz_x B) yy_Q_hasTest (Cond.code yy_Q_hasTest bb_Q_hasTest 4 (some FieldType.boolean)) rm_Q_hasTest [.ref q, .int ((nI g0)), .int ((nI k0))] h n zz_mi (fun r h' n' => h' = h ∧ n' = n ∧ r = pu_b ((List.range T).any fun t => pu_tq I (48 * g0 + t) k0)) := by
  refine zz_ofW (zz_f B) [some (.ref q), some (.int ((nI g0))), some (.int ((nI k0))), none] (by decide) rfl rfl (Nat.le_of_ble_eq_true rfl) ?_
  intro p e s m below meth c C
  refine z_bipush (v := 48) C dd_Q_hasTest_0 (by decide) ?_
  refine z_iload_n C dd_Q_hasTest_2 rfl ?_
  refine z_imul C dd_Q_hasTest_3 ?_
  refine z_topi (y := nI (48 * g0)) (by first | exact (pk_mul _ _).symm | (rw [← pk_mul]; rfl)) ?_
  refine z_istore_n C dd_Q_hasTest_4 rfl ?_
  refine lp_Q_hasTest C hP0 hg hk hT eT (fun t9 hv => ?_) (fun t9 hv => ?_) T 0 (by omega) rfl
  · refine z_iconst (v := 0) C dd_Q_hasTest_73 (by decide) ?_
    exact z_zret C dd_Q_hasTest_74 rfl ⟨rfl, rfl, by rw [hv]; rfl⟩ (by decide) (by decide)
  · refine z_iconst (v := 1) C dd_Q_hasTest_65 (by decide) ?_
    exact z_zret C dd_Q_hasTest_66 rfl ⟨rfl, rfl, by rw [hv]; rfl⟩ (by decide) (by decide)
abbrev rm_Q_made : Room := { frames := 1, cells := 0, slots := 0, locals := 0 }
set_option maxRecDepth 20000 in
theorem lp_Q_made {D : va_G} {dA : Nat → ClassId} {B : Nat} {p : Program} {l : Launch} {e : Env} {s : State} {m : MethodId} {args : Array Value} {below : List Frame} {meth : Method} {c : Code} {Q : State → Prop} {n : Nat} {nm : String} {ret9 : Option FieldType} {h : zz_H} (C : zz_C D zz_cl (zz_ty dA) B zz_tb (zz_x B) p s m args meth c bb_Q_made RR_Q ret9 nm) {q : Nat} {F : Nat → Int32} {I : Nat → Nat → Int32} {J : Nat → Nat → Int64} (hP0 : md_P dA F I J q h) {g0 N : Nat} {t1 t2 t3 : Int32} (hg : g0 < 4) (hN : N ≤ 80) (eN : I 14 g0 = nI N) (kx0 : (∀ k, k < N → pu_nq I (80 * g0 + k) t1 t2 t3 = false) → zz_W D zz_cl B p l e rm_Q_made s m args below meth c Q h n 0 0 [some (.ref q), some (.int (nI g0)), some (.int t1), some (.int t2), some (.int t3), some (.int (nI N))] 72 []) (kx1 : ∀ k0, k0 < N → pu_nq I (80 * g0 + k0) t1 t2 t3 = true → (∀ k, k < k0 → pu_nq I (80 * g0 + k) t1 t2 t3 = false) → zz_W D zz_cl B p l e rm_Q_made s m args below meth c Q h n 0 0 [some (.ref q), some (.int (nI g0)), some (.int t1), some (.int t2), some (.int t3), some (.int (nI k0))] 63 []) :
    ∀ f j, j + f = N → (∀ k, k < j → pu_nq I (80 * g0 + k) t1 t2 t3 = false) → zz_W D zz_cl B p l e rm_Q_made s m args below meth c Q h n 0 0 [some (.ref q), some (.int (nI g0)), some (.int t1), some (.int t2), some (.int t3), some (.int (nI j))] 3 [] := by
  intro f
  have hP := md_rf hP0
  induction f with
  | zero =>
    intro j hf hv
    have hj : j = N := by omega
    subst hj
    refine z_iload C dd_Q_made_3 rfl ?_
    refine z_aload_n C dd_Q_made_5 rfl ?_
    refine gf_Q_57 (v := .ref (q + 1 + 14)) C dd_Q_made_6 hP.1.1 rfl ?_
    refine z_iload_n C dd_Q_made_9 rfl ?_
    refine z_iald (t0 := 0) (N := 4) (f := (I 14)) C rfl dd_Q_made_10 (hP.1.2 14 (by decide)) (vp_in_nI (by omega) (by decide)) ?_
    refine z_topi (y := nI j) (by rw [nI_clamp (by omega)]; exact eN.symm) ?_
    exact z_icmp_ge (tgt := 72) C dd_Q_made_11 (by decide) (fun _ => kx0 hv) (fun q10 => absurd (nI_le (Nat.le_refl _) (by omega)) q10)
  | succ f ih =>
    intro j hf hv
    refine z_iload C dd_Q_made_3 rfl ?_
    refine z_aload_n C dd_Q_made_5 rfl ?_
    refine gf_Q_57 (v := .ref (q + 1 + 14)) C dd_Q_made_6 hP.1.1 rfl ?_
    refine z_iload_n C dd_Q_made_9 rfl ?_
    refine z_iald (t0 := 0) (N := 4) (f := (I 14)) C rfl dd_Q_made_10 (hP.1.2 14 (by decide)) (vp_in_nI (by omega) (by decide)) ?_
    refine z_topi (y := nI N) (by rw [nI_clamp (by omega)]; exact eN.symm) ?_
    refine z_icmp_ge (tgt := 72) C dd_Q_made_11 (by decide) (fun q10 => absurd q10 (nI_ge (by omega) (by omega))) (fun _ => ?_)
    have next : pu_nq I (80 * g0 + j) t1 t2 t3 = false → zz_W D zz_cl B p l e rm_Q_made s m args below meth c Q h n 0 0 [some (.ref q), some (.int (nI g0)), some (.int t1), some (.int t2), some (.int t3), some (.int (nI j))] 66 [] := by
      intro hno
      refine z_iincN C dd_Q_made_66 rfl rfl ?_
      refine z_goto (tgt := 3) C dd_Q_made_69 (by decide) ?_
      refine ih (j + 1) (by omega) (fun k hk => ?_)
      rcases Nat.lt_or_ge k j with z | z
      · exact hv k z
      · have e9 : k = j := by omega
        subst e9
        exact hno
    refine z_aload_n C dd_Q_made_14 rfl ?_
    refine gf_Q_60 (v := .ref (q + 1 + 15)) C dd_Q_made_15 hP.1.1 rfl ?_
    refine z_bipush (v := 80) C dd_Q_made_18 (by decide) ?_
    refine z_iload_n C dd_Q_made_20 rfl ?_
    refine z_imul C dd_Q_made_21 ?_
    refine z_topi (y := nI (80 * g0)) (by first | exact (pk_mul _ _).symm | (rw [← pk_mul]; rfl)) ?_
    refine z_iload C dd_Q_made_22 rfl ?_
    refine z_iadd C dd_Q_made_24 ?_
    refine z_topi (y := nI ((80 * g0) + j)) (by first | exact (nI_add _ _).symm | (rw [← nI_add]; rfl)) ?_
    refine z_iald (t0 := 0) (N := 320) (f := (I 15)) C rfl dd_Q_made_25 (hP.1.2 15 (by decide)) (vp_in_nI (by omega) (by decide)) ?_
    refine z_topi (y := ((I 15) ((80 * g0) + j))) (by rw [nI_clamp (by omega)]) ?_
    refine z_iload_n C dd_Q_made_26 rfl ?_
    refine z_icmp_ne (tgt := 66) C dd_Q_made_27 (by decide) (fun q1 => ?_) (fun q1 => ?_)
    · skip
      exact next (by unfold pu_nq; simp [q1])
    · skip
      refine z_aload_n C dd_Q_made_30 rfl ?_
      refine gf_Q_63 (v := .ref (q + 1 + 16)) C dd_Q_made_31 hP.1.1 rfl ?_
      refine z_bipush (v := 80) C dd_Q_made_34 (by decide) ?_
      refine z_iload_n C dd_Q_made_36 rfl ?_
      refine z_imul C dd_Q_made_37 ?_
      refine z_topi (y := nI (80 * g0)) (by first | exact (pk_mul _ _).symm | (rw [← pk_mul]; rfl)) ?_
      refine z_iload C dd_Q_made_38 rfl ?_
      refine z_iadd C dd_Q_made_40 ?_
      refine z_topi (y := nI ((80 * g0) + j)) (by first | exact (nI_add _ _).symm | (rw [← nI_add]; rfl)) ?_
      refine z_iald (t0 := 0) (N := 320) (f := (I 16)) C rfl dd_Q_made_41 (hP.1.2 16 (by decide)) (vp_in_nI (by omega) (by decide)) ?_
      refine z_topi (y := ((I 16) ((80 * g0) + j))) (by rw [nI_clamp (by omega)]) ?_
      refine z_iload_n C dd_Q_made_42 rfl ?_
      refine z_icmp_ne (tgt := 66) C dd_Q_made_43 (by decide) (fun q2 => ?_) (fun q2 => ?_)
      · skip
        exact next (by unfold pu_nq; simp [q1, q2])
      · skip
        refine z_aload_n C dd_Q_made_46 rfl ?_
        refine gf_Q_66 (v := .ref (q + 1 + 17)) C dd_Q_made_47 hP.1.1 rfl ?_
        refine z_bipush (v := 80) C dd_Q_made_50 (by decide) ?_
        refine z_iload_n C dd_Q_made_52 rfl ?_
        refine z_imul C dd_Q_made_53 ?_
        refine z_topi (y := nI (80 * g0)) (by first | exact (pk_mul _ _).symm | (rw [← pk_mul]; rfl)) ?_
        refine z_iload C dd_Q_made_54 rfl ?_
        refine z_iadd C dd_Q_made_56 ?_
        refine z_topi (y := nI ((80 * g0) + j)) (by first | exact (nI_add _ _).symm | (rw [← nI_add]; rfl)) ?_
        refine z_iald (t0 := 0) (N := 320) (f := (I 17)) C rfl dd_Q_made_57 (hP.1.2 17 (by decide)) (vp_in_nI (by omega) (by decide)) ?_
        refine z_topi (y := ((I 17) ((80 * g0) + j))) (by rw [nI_clamp (by omega)]) ?_
        refine z_iload C dd_Q_made_58 rfl ?_
        refine z_icmp_ne (tgt := 66) C dd_Q_made_60 (by decide) (fun q3 => ?_) (fun q3 => ?_)
        · skip
          exact next (by unfold pu_nq; simp [q1, q2, q3])
        · skip
          exact kx1 j (by omega) (by unfold pu_nq; simp [q1, q2, q3]) hv
set_option maxRecDepth 20000 in
/-- made -/
theorem cc_Q_made (l : Launch) (D : va_G) (dA : Nat → ClassId) (B : Nat) (h : zz_H) (n : Nat) (q : Nat) (F : Nat → Int32) (I : Nat → Nat → Int32) (J : Nat → Nat → Int64) (hP0 : md_P dA F I J q h) (g0 N : Nat) (t1 t2 t3 : Int32) (hg : g0 < 4) (hN : N ≤ 80) (eN : I 14 g0 = nI N) : zz_M l D zz_cl (zz_ty dA) B zz_tb (zz_x B) yy_Q_made (Cond.code yy_Q_made bb_Q_made 6 (some FieldType.int)) rm_Q_made [.ref q, .int ((nI g0)), .int t1, .int t2, .int t3] h n zz_mi (fun r h' n' => n' = n ∧ ((∃ k0, k0 < N ∧ pu_nq I (80 * g0 + k0) t1 t2 t3 = true ∧ (∀ k, k < k0 → pu_nq I (80 * g0 + k) t1 t2 t3 = false) ∧ r = nI k0 ∧ md_K dA F I J q h h') ∨ ((∀ k, k < N → pu_nq I (80 * g0 + k) t1 t2 t3 = false) ∧ ((N = 80 ∧ r = -1 ∧ md_K dA F I J q h h') ∨ (N < 80 ∧ r = nI N ∧ md_K dA F (pu_mk I g0 N t1 t2 t3) J q h h'))))) := by
  refine zz_ofW (zz_f B) [some (.ref q), some (.int ((nI g0))), some (.int t1), some (.int t2), some (.int t3), none] (by decide) rfl rfl (Nat.le_of_ble_eq_true rfl) ?_
  intro p e s m below meth c C
  have hP := md_rf hP0
  refine z_iconst (v := nI 0) C dd_Q_made_0 (by decide) ?_
  refine z_istore C dd_Q_made_1 rfl ?_
  refine lp_Q_made C hP0 hg hN eN (fun hv => ?_) (fun k0 hk0 hq hv => ?_) N 0 (by omega) (fun k hk => absurd hk (by omega))
  · skip
    refine z_aload_n C dd_Q_made_72 rfl ?_
    refine gf_Q_57 (v := .ref (q + 1 + 14)) C dd_Q_made_73 hP.1.1 rfl ?_
    refine z_iload_n C dd_Q_made_76 rfl ?_
    refine z_iald (t0 := 0) (N := 4) (f := (I 14)) C rfl dd_Q_made_77 (hP.1.2 14 (by decide)) (vp_in_nI (by omega) (by decide)) ?_
    refine z_topi (y := nI N) (by rw [nI_clamp (by omega)]; exact eN.symm) ?_
    refine z_bipush (v := 80) C dd_Q_made_78 (by decide) ?_
    refine z_icmp_ne (tgt := 85) C dd_Q_made_80 (by decide) (fun q1 => ?_) (fun q1 => ?_)
    · replace q1 : ¬ N = 80 := fun z => q1 ((@nI_eq N 80 (by omega) (by omega)).mpr z)
      refine z_bipush (v := 80) C dd_Q_made_85 (by decide) ?_
      refine z_iload_n C dd_Q_made_87 rfl ?_
      refine z_imul C dd_Q_made_88 ?_
      refine z_topi (y := nI (80 * g0)) (by first | exact (pk_mul _ _).symm | (rw [← pk_mul]; rfl)) ?_
      refine z_aload_n C dd_Q_made_89 rfl ?_
      refine gf_Q_57 (v := .ref (q + 1 + 14)) C dd_Q_made_90 hP.1.1 rfl ?_
      refine z_iload_n C dd_Q_made_93 rfl ?_
      refine z_iald (t0 := 0) (N := 4) (f := (I 14)) C rfl dd_Q_made_94 (hP.1.2 14 (by decide)) (vp_in_nI (by omega) (by decide)) ?_
      refine z_topi (y := nI N) (by rw [nI_clamp (by omega)]; exact eN.symm) ?_
      refine z_iadd C dd_Q_made_95 ?_
      refine z_topi (y := nI ((80 * g0) + N)) (by first | exact (nI_add _ _).symm | (rw [← nI_add]; rfl)) ?_
      refine z_istore C dd_Q_made_96 rfl ?_
      refine z_aload_n C dd_Q_made_98 rfl ?_
      refine gf_Q_60 (v := .ref (q + 1 + 15)) C dd_Q_made_99 hP.1.1 rfl ?_
      refine z_iload C dd_Q_made_102 rfl ?_
      refine z_iload_n C dd_Q_made_104 rfl ?_
      refine z_iast (t0 := 0) (N := 320) (f := (I 15)) C rfl dd_Q_made_105 (hP.1.2 15 (by decide)) (vp_in_nI (by omega) (by decide)) ?_
      refine z_cut (md_K dA F (md_is I 15 (upd (I 15) (Int32.toNatClampNeg (nI ((80 * g0) + N))) t1)) J q h) (md_wI hP 15 (by decide) rfl) rfl rfl rfl (fun h1_ hP1_ => ?_)
      refine z_aload_n C dd_Q_made_106 rfl ?_
      refine gf_Q_63 (v := .ref (q + 1 + 16)) C dd_Q_made_107 hP1_.1.1 rfl ?_
      refine z_iload C dd_Q_made_110 rfl ?_
      refine z_iload_n C dd_Q_made_112 rfl ?_
      refine z_iast (t0 := 0) (N := 320) (f := (I 16)) C rfl dd_Q_made_113 (hP1_.1.2 16 (by decide)) (vp_in_nI (by omega) (by decide)) ?_
      refine z_cut (md_K dA F (md_is (md_is I 15 (upd (I 15) (Int32.toNatClampNeg (nI ((80 * g0) + N))) t1)) 16 (upd (I 16) (Int32.toNatClampNeg (nI ((80 * g0) + N))) t2)) J q h) (md_wI hP1_ 16 (by decide) rfl) rfl rfl rfl (fun h2_ hP2_ => ?_)
      refine z_aload_n C dd_Q_made_114 rfl ?_
      refine gf_Q_66 (v := .ref (q + 1 + 17)) C dd_Q_made_115 hP2_.1.1 rfl ?_
      refine z_iload C dd_Q_made_118 rfl ?_
      refine z_iload C dd_Q_made_120 rfl ?_
      refine z_iast (t0 := 0) (N := 320) (f := (I 17)) C rfl dd_Q_made_122 (hP2_.1.2 17 (by decide)) (vp_in_nI (by omega) (by decide)) ?_
      refine z_cut (md_K dA F (md_is (md_is (md_is I 15 (upd (I 15) (Int32.toNatClampNeg (nI ((80 * g0) + N))) t1)) 16 (upd (I 16) (Int32.toNatClampNeg (nI ((80 * g0) + N))) t2)) 17 (upd (I 17) (Int32.toNatClampNeg (nI ((80 * g0) + N))) t3)) J q h) (md_wI hP2_ 17 (by decide) rfl) rfl rfl rfl (fun h3_ hP3_ => ?_)
      refine z_aload_n C dd_Q_made_123 rfl ?_
      refine gf_Q_57 (v := .ref (q + 1 + 14)) C dd_Q_made_124 hP3_.1.1 rfl ?_
      refine z_iload_n C dd_Q_made_127 rfl ?_
      refine z_dup2_11 C dd_Q_made_128 rfl rfl ?_
      refine z_iald (t0 := 0) (N := 4) (f := (I 14)) C rfl dd_Q_made_129 (hP3_.1.2 14 (by decide)) (vp_in_nI (by omega) (by decide)) ?_
      refine z_topi (y := nI N) (by rw [nI_clamp (by omega)]; exact eN.symm) ?_
      refine z_iconst (v := 1) C dd_Q_made_130 (by decide) ?_
      refine z_iadd C dd_Q_made_131 ?_
      refine z_topi (y := nI (N + 1)) (by first | exact (nI_add _ _).symm | (rw [← nI_add]; rfl)) ?_
      refine z_iast (t0 := 0) (N := 4) (f := (I 14)) C rfl dd_Q_made_132 (hP3_.1.2 14 (by decide)) (vp_in_nI (by omega) (by decide)) ?_
      refine z_cut (md_K dA F (md_is (md_is (md_is (md_is I 15 (upd (I 15) (Int32.toNatClampNeg (nI ((80 * g0) + N))) t1)) 16 (upd (I 16) (Int32.toNatClampNeg (nI ((80 * g0) + N))) t2)) 17 (upd (I 17) (Int32.toNatClampNeg (nI ((80 * g0) + N))) t3)) 14 (upd (I 14) (Int32.toNatClampNeg (nI g0)) (nI (N + 1)))) J q h) (md_wI hP3_ 14 (by decide) rfl) rfl rfl rfl (fun h4_ hP4_ => ?_)
      refine z_aload_n C dd_Q_made_133 rfl ?_
      refine gf_Q_57 (v := .ref (q + 1 + 14)) C dd_Q_made_134 hP4_.1.1 rfl ?_
      refine z_iload_n C dd_Q_made_137 rfl ?_
      refine z_iald (t0 := 0) (N := 4) (f := (upd (I 14) (Int32.toNatClampNeg (nI g0)) (nI (N + 1)))) C rfl dd_Q_made_138 (hP4_.1.2 14 (by decide)) (vp_in_nI (by omega) (by decide)) ?_
      refine z_topi (y := nI (N + 1)) (by rw [nI_clamp (by omega), pk_us]) ?_
      refine z_iconst (v := 1) C dd_Q_made_139 (by decide) ?_
      refine z_isub C dd_Q_made_140 ?_
      refine z_topi (y := nI ((N + 1) - 1)) (by rw [← pk_sub (a := (N + 1)) (b := 1) (by omega)]; rfl) ?_
      exact z_iret C dd_Q_made_141 ⟨rfl, Or.inr ⟨hv, Or.inr ⟨by omega, rfl, md_Ke hP4_ (by rw [nI_clamp (n := 80 * g0 + N) (by omega), nI_clamp (n := g0) (by omega)]; rfl)⟩⟩⟩ (by decide) (by decide)
    · replace q1 : N = 80 := (@nI_eq N 80 (by omega) (by omega)).mp q1
      refine z_iconst (v := (-1)) C dd_Q_made_83 (by decide) ?_
      exact z_iret C dd_Q_made_84 ⟨rfl, Or.inr ⟨hv, Or.inl ⟨q1, rfl, hP⟩⟩⟩ (by decide) (by decide)
  · refine z_iload C dd_Q_made_63 rfl ?_
    exact z_iret C dd_Q_made_65 ⟨rfl, Or.inl ⟨k0, hk0, hq, hv, rfl, hP⟩⟩ (by decide) (by decide)
