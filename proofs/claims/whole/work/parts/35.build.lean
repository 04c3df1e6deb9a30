theorem pu_oth_14 {X : Nat → Nat → Int32} {g : Nat} (v : Int32) : pu_oth X (md_is X 14 (upd (X 14) g v)) g := by
  refine ⟨fun j hj => ?_, fun j hj => ?_, fun i hi j hj => ?_⟩
  · unfold md_is
    rw [if_neg (by omega)]
  · exact pk_un hj
  · unfold md_is
    rw [if_neg (by omega)]
theorem pu_S_all {Pz : Nat → Int64} {R : Nat} : pu_S Pz R 0 0 = List.range R := by
  unfold pu_S
  rw [List.filter_eq_self]
  intro r _
  apply decide_eq_true
  apply l_ext
  intro i _
  rw [l_and, l_0, Bool.and_false]
theorem pu_R_pos {nc ar : Nat} (h : 1 ≤ nc) : 1 ≤ pu_R nc ar := by
  unfold pu_R
  split
  · omega
  · exact Nat.mul_pos (by omega) (by omega)
/-- the compiled graph of generic g: nodes, and the root or -1 -/
def pu_tre (X : Nat → Nat → Int32) (Pz : Nat → Int64) (nM g T R : Nat) : List tg_N × Int32 := tg_tree (fun r t => bl (Pz r) t) (pu_best X nM g) T (T + 1) (List.range R) []
set_option maxRecDepth 20000 in
/-- build -/
theorem cc_Q_build (l : Launch) (D : va_G) (dA : Nat → ClassId) (B : Nat) (h : zz_H) (n : Nat) (q : Nat) (F : Nat → Int32) (X : Nat → Nat → Int32) (J : Nat → Nat → Int64) (hP0 : md_P dA F X J q h) (nc ng nM : Nat) (W : pu_W F X nc ng nM) (g0 ar T : Nat) (hg : g0 < ng) (har : X 1 g0 = nI ar) (ha : ar = 1 ∨ ar = 2) (hT : T ≤ 48) (eT : X 18 g0 = nI T) (hA : ∀ r r', r < pu_R nc ar → r' < pu_R nc ar → (∀ t, t < T → bl (J 22 r) t = bl (J 22 r') t) → pu_best X nM g0 r = pu_best X nM g0 r') : zz_M l D zz_cl (zz_ty dA) B zz_tb (zz_x B) yy_Q_build (Cond.code yy_Q_build bb_Q_build 7 (some FieldType.boolean)) rm_Q_build [.ref q, .int ((nI g0))] h n zz_mi (fun r h' n' => n' = n ∧ ∃ X' J', md_K dA F X' J' q h h' ∧ pu_oth X X' g0 ∧ J' 22 = J 22 ∧ (((pu_tre X (J 22) nM g0 T (pu_R nc ar)).2 = -1 ∧ r = 0) ∨ (¬ (pu_tre X (J 22) nM g0 T (pu_R nc ar)).2 = -1 ∧ r = 1 ∧ pu_gr X' g0 (pu_tre X (J 22) nM g0 T (pu_R nc ar)).1))) := by
  refine zz_ofW (zz_f B) [some (.ref q), some (.int ((nI g0))), none, none, none, none, none] (by decide) rfl rfl (Nat.le_of_ble_eq_true rfl) ?_
  intro p e s m below meth c C
  have hP := md_rf hP0
  have hg4 := W.g4
  have h1 := W.c1
  refine z_aload_n C dd_Q_build_0 rfl ?_
  refine gf_Q_57 (v := .ref (q + 1 + 14)) C dd_Q_build_1 hP.1.1 rfl ?_
  refine z_iload_n C dd_Q_build_4 rfl ?_
  refine z_iconst (v := 0) C dd_Q_build_5 (by decide) ?_
  refine z_iast (t0 := 0) (N := 4) (f := (X 14)) C rfl dd_Q_build_6 (hP.1.2 14 (by decide)) (vp_in_nI (by omega) (by decide)) ?_
  refine z_cut (md_K dA F (md_is X 14 (upd (X 14) (Int32.toNatClampNeg (nI g0)) 0)) J q h) (md_wI hP 14 (by decide) rfl) rfl rfl rfl (fun h1_ hP1_ => ?_)
  refine z_aload_n C dd_Q_build_7 rfl ?_
  refine z_iconst (v := nI 0) C dd_Q_build_8 (by decide) ?_
  refine z_lconst (v := 0) C dd_Q_build_9 (by decide) ?_
  refine z_lconst (v := 0) C dd_Q_build_10 (by decide) ?_
  refine z_iconst (v := nI 0) C dd_Q_build_11 (by decide) ?_
  refine iv_Q_198 (sk := fun _ => []) (zz_f B) C dd_Q_build_12 (cc_Q_begin l D dA B _ _ q _ _ _ hP1_.1 0 (by omega) _ _ _) hP1_.1.1 rfl rfl ⟨by decide, by decide⟩ (Nat.le_of_ble_eq_true rfl) ⟨by decide, by decide⟩ (fun _ => rfl) (fun _ h2_ n2_ p2_ => ?_)
  obtain ⟨m2_, rfl⟩ := p2_
  have hP2_ := md_tr hP1_ m2_
  refine z_iconst (v := nI 0) C dd_Q_build_15 (by decide) ?_
  refine z_istore_n C dd_Q_build_16 rfl ?_
  refine z_iconst (v := 0) C dd_Q_build_17 (by decide) ?_
  refine z_istore_n C dd_Q_build_18 rfl ?_
  have hPz := md_Ke (I2 := pu_bgI (md_is X 14 (upd (X 14) g0 0)) 0 (nI 0)) hP2_ (by rw [nI_clamp (n := g0) (by omega)])
  have hnn := tg_tree_nn (pas := fun r t => bl (J 22 r) t) (be := pu_best X nM g0) (T := T) (T + 1) (List.range (pu_R nc ar)) [] (by simp)
  refine lpS_Q_build (h := h) (F := F) (X0 := X) (Pz := J 22) C W hg har ha hT eT hA (T + 1) 0 0 0 0 _ _ _ 0 _ _ _ [] (by omega) (by omega) (by omega) hPz (pu_oth_tr (pu_oth_14 0) (pu_oth_tr (pu_oth_sc (by omega)) (pu_oth_sc (by omega)))) rfl ⟨by simp, pk_us, fun k x hx => by simp at hx⟩ (pk_uLs (f := J 23) (k := 0) (x := 0)) (pk_uLs (f := J 24) (k := 0) (x := 0)) (pk_us (f := X 25) (k := 0) (x := nI 0)) (pk_us (f := X 26) (k := 0) (x := 0)) (fun i hi _ => ⟨l_0 i, l_0 i⟩) ?_ (fun r r' _ _ t ht => absurd ht (by omega)) (by decide) ?_ ?_
  · rw [pu_S_all]
    have := pu_R_pos (ar := ar) h1
    exact fun z => absurd (congrArg List.length z) (by simp; omega)
  · rw [pu_S_all]
    intro X' J' h' v2 o4 o5 o6 hbad k1 k2 k3
    refine z_iload_n C dd_Q_build_19 rfl ?_
    refine z_if_lt (tgt := 240) C dd_Q_build_20 (by decide) (fun _ => ?_) (fun _ => ?_)
    · skip
      refine z_iload_n C dd_Q_build_240 rfl ?_
      refine z_if_lt (tgt := 248) C dd_Q_build_241 (by decide) (fun _ => ?_) (fun z => absurd (by decide) z)
      refine z_iconst (v := 0) C dd_Q_build_248 (by decide) ?_
      exact z_zret C dd_Q_build_249 rfl ⟨rfl, X', J', k1, k2, k3, Or.inl ⟨hbad, rfl⟩⟩ (by decide) (by decide)
    · refine z_iload_n C dd_Q_build_23 rfl ?_
      refine z_if_lt (tgt := 240) C dd_Q_build_24 (by decide) (fun _ => ?_) (fun z => absurd (by decide) z)
      refine z_iload_n C dd_Q_build_240 rfl ?_
      refine z_if_lt (tgt := 248) C dd_Q_build_241 (by decide) (fun _ => ?_) (fun z => absurd (by decide) z)
      refine z_iconst (v := 0) C dd_Q_build_248 (by decide) ?_
      exact z_zret C dd_Q_build_249 rfl ⟨rfl, X', J', k1, k2, k3, Or.inl ⟨hbad, rfl⟩⟩ (by decide) (by decide)
  · rw [pu_S_all]
    intro X' J' h' o4 o5 o6 k0 k1 k2 k3 k4 _ _
    refine z_iload_n C dd_Q_build_19 rfl ?_
    refine z_if_lt (tgt := 240) C dd_Q_build_20 (by decide) (fun _ => ?_) (fun z => absurd (by decide) z)
    refine z_iload_n C dd_Q_build_240 rfl ?_
    refine z_if_lt (tgt := 248) C dd_Q_build_241 (by decide) (fun z => absurd z (hnn.1.resolve_left k0)) (fun _ => ?_)
    refine z_iconst (v := 1) C dd_Q_build_244 (by decide) ?_
    refine z_goto (tgt := 249) C dd_Q_build_245 (by decide) ?_
    exact z_zret C dd_Q_build_249 rfl ⟨rfl, X', J', k1, k2, k3, Or.inr ⟨k0, rfl, k4⟩⟩ (by decide) (by decide)
