/-! through a graph by its tests: the leaf's method, and how many tests -/
def tg_go (G : List tg_N) (pz : Nat → Bool) : Nat → Nat → Int32 × Nat
  | 0, _ => (0, 0)
  | f + 1, k => match G[k]? with
    | none => (0, 0)
    | some x => if x.1 < 0 then (x.2.1, 0) else ((tg_go G pz f (if pz x.1.toNatClampNeg then x.2.1.toNatClampNeg else x.2.2.toNatClampNeg)).1, (tg_go G pz f (if pz x.1.toNatClampNeg then x.2.1.toNatClampNeg else x.2.2.toNatClampNeg)).2 + 1)
/-- nodes ask a test below T and lead to nodes before them -/
def tg_wf (G : List tg_N) (T : Nat) : Prop := ∀ k x, G[k]? = some x → x.1 < 0 ∨ ∃ t a b, t < T ∧ x = (nI t, nI a, nI b) ∧ a < k ∧ b < k
def pu_qz (X : Nat → Nat → Int32) (g x0 y0 t : Nat) : Bool := pu_holds (X 0) (X 19 (48 * g + t)).toNatClampNeg (X 20 (48 * g + t)).toNatClampNeg (X 21 (48 * g + t)) x0 y0
/-- tests of a generic of one argument ask the first alone -/
def pu_w1 (X : Nat → Nat → Int32) (g ar T : Nat) : Prop := ∀ t, t < T → ∃ kd wh, kd < 6 ∧ wh < 2 ∧ X 19 (48 * g + t) = nI kd ∧ X 20 (48 * g + t) = nI wh ∧ (kd = 0 → ∃ xd, xd < 8 ∧ X 21 (48 * g + t) = nI xd) ∧ (ar = 1 → wh = 0 ∧ kd < 4)
theorem md_f44 (F : Nat → Int32) (a b : Int32) : md_fs (md_fs F 44 a) 44 b = md_fs F 44 b := md_ff F 44 a b
abbrev rm_Q_choose : Room := { frames := 10, cells := 0, slots := 0, locals := 300 }
set_option maxRecDepth 20000 in
theorem lp_Q_choose {D : va_G} {dA : Nat → ClassId} {B : Nat} {p : Program} {l : Launch} {e : Env} {s : State} {m : MethodId} {args : Array Value} {below : List Frame} {meth : Method} {c : Code} {Q : State → Prop} {n : Nat} {nm : String} {ret9 : Option FieldType} {h : zz_H} (C : zz_C D zz_cl (zz_ty dA) B zz_tb (zz_x B) p s m args meth c bb_Q_choose RR_Q ret9 nm) {q : Nat} {F : Nat → Int32} {X : Nat → Nat → Int32} {J : Nat → Nat → Int64} {nc ng nM : Nat} (W : pu_W F X nc ng nM) {g0 ar T x0 y0 : Nat} {y : Int32} (hg : g0 < ng) (ha : ar = 1 ∨ ar = 2) (hT : T ≤ 48) (hx : x0 < 8 * nc) (hy : pu_y nc ar y y0) {G : List tg_N} (hG : pu_gr X g0 G) (hw : tg_wf G T) (h1 : pu_w1 X g0 ar T) :
    ∀ fuel k c9 h9 o5, k < fuel → k < G.length → md_K dA (md_fs F 44 (nI c9)) X J q h h9 → (∀ h' k' o5, md_K dA (md_fs F 44 (nI (c9 + (tg_go G (pu_qz X g0 x0 y0) fuel k).2))) X J q h h' → k' < 80 → X 16 (80 * g0 + k') = (tg_go G (pu_qz X g0 x0 y0) fuel k).1 → zz_W D zz_cl B p l e rm_Q_choose s m args below meth c Q h' n 0 0 [some (.ref q), some (.int (nI g0)), some (.int (nI x0)), some (.int y), some (.int (nI (80 * g0 + k'))), o5] 133 []) → zz_W D zz_cl B p l e rm_Q_choose s m args below meth c Q h9 n 0 0 [some (.ref q), some (.int (nI g0)), some (.int (nI x0)), some (.int y), some (.int (nI (80 * g0 + k))), o5] 42 [] := by
  intro fuel
  have hg4 := W.g4
  have h8 := W.c8
  induction fuel with
  | zero => intro k c9 h9 o5 hk; omega
  | succ fuel ih =>
    intro k c9 h9 o5 hk hl hP kx
    have hl80 := hG.1
    obtain ⟨x9, hx9⟩ : ∃ x9, G[k]? = some x9 := ⟨_, List.getElem?_eq_getElem hl⟩
    obtain ⟨n1, n2, n3⟩ := hG.2.2 k x9 hx9
    rw [tg_go, hx9] at kx
    rcases hw k x9 hx9 with hlt | ⟨t, a, b, ht, rfl, hak, hbk⟩
    · simp only [if_pos hlt] at kx
      refine z_aload_n C dd_Q_choose_42 rfl ?_
      refine gf_Q_60 (v := .ref (q + 1 + 15)) C dd_Q_choose_43 hP.1.1 rfl ?_
      refine z_iload C dd_Q_choose_46 rfl ?_
      refine z_iald (t0 := 0) (N := 320) (f := (X 15)) C rfl dd_Q_choose_48 (hP.1.2 15 (by decide)) (vp_in_nI (by omega) (by decide)) ?_
      refine z_topi (y := x9.1) (by rw [nI_clamp (by omega)]; exact n1.symm) ?_
      exact z_if_lt (tgt := 133) C dd_Q_choose_49 (by decide) (fun _ => kx _ k o5 hP (by omega) n2) (fun z => absurd hlt z)
    · have hnl : ¬ nI t < 0 := nI_pos (by omega)
      simp only [if_neg hnl, nI_clamp (show t < 2 ^ 31 by omega), nI_clamp (show a < 2 ^ 31 by omega), nI_clamp (show b < 2 ^ 31 by omega)] at kx
      obtain ⟨kd, wh, a1, a2, a3, a4, a5, a6⟩ := h1 t ht
      have ez : pu_qz X g0 x0 y0 t = pu_holds (X 0) kd wh (X 21 (48 * g0 + t)) x0 y0 := by
        unfold pu_qz
        rw [a3, a4, nI_clamp (by omega), nI_clamp (by omega)]
      have hyy : (wh = 0 ∧ kd < 4) ∨ (y = nI y0 ∧ y0 < 8 * nc) := by
        rcases ha with rfl | rfl
        · exact Or.inl (a6 rfl)
        · exact Or.inr ⟨hy.2.2 rfl, hy.1⟩
      refine z_aload_n C dd_Q_choose_42 rfl ?_
      refine gf_Q_60 (v := .ref (q + 1 + 15)) C dd_Q_choose_43 hP.1.1 rfl ?_
      refine z_iload C dd_Q_choose_46 rfl ?_
      refine z_iald (t0 := 0) (N := 320) (f := (X 15)) C rfl dd_Q_choose_48 (hP.1.2 15 (by decide)) (vp_in_nI (by omega) (by decide)) ?_
      refine z_topi (y := nI t) (by rw [nI_clamp (by omega)]; exact n1.symm) ?_
      refine z_if_lt (tgt := 133) C dd_Q_choose_49 (by decide) (fun q1 => absurd q1 hnl) (fun q1 => ?_)
      refine z_bipush (v := 48) C dd_Q_choose_52 (by decide) ?_
      refine z_iload_n C dd_Q_choose_54 rfl ?_
      refine z_imul C dd_Q_choose_55 ?_
      refine z_topi (y := nI (48 * g0)) (by first | exact (pk_mul _ _).symm | (rw [← pk_mul]; rfl)) ?_
      refine z_aload_n C dd_Q_choose_56 rfl ?_
      refine gf_Q_60 (v := .ref (q + 1 + 15)) C dd_Q_choose_57 hP.1.1 rfl ?_
      refine z_iload C dd_Q_choose_60 rfl ?_
      refine z_iald (t0 := 0) (N := 320) (f := (X 15)) C rfl dd_Q_choose_62 (hP.1.2 15 (by decide)) (vp_in_nI (by omega) (by decide)) ?_
      refine z_topi (y := nI t) (by rw [nI_clamp (by omega)]; exact n1.symm) ?_
      refine z_iadd C dd_Q_choose_63 ?_
      refine z_topi (y := nI ((48 * g0) + t)) (by first | exact (nI_add _ _).symm | (rw [← nI_add]; rfl)) ?_
      refine z_istore C dd_Q_choose_64 rfl ?_
      refine z_aload_n C dd_Q_choose_66 rfl ?_
      refine z_dup C dd_Q_choose_67 rfl ?_
      refine gf_Q_222 (v := .int (nI c9)) C dd_Q_choose_68 hP.1.1 rfl ?_
      refine z_iconst (v := 1) C dd_Q_choose_71 (by decide) ?_
      refine z_iadd C dd_Q_choose_72 ?_
      refine z_topi (y := nI (c9 + 1)) (by first | exact (nI_add _ _).symm | (rw [← nI_add]; rfl)) ?_
      refine pf_Q_222 C dd_Q_choose_73 hP.1.1 (Nat.le_of_ble_eq_true rfl) rfl rfl ?_
      refine z_cut (md_K dA (md_fs (md_fs F 44 (nI c9)) 44 (nI (c9 + 1))) X J q h) (md_wF hP rfl) rfl rfl rfl (fun h1_ hP1_ => ?_)
      refine z_bipush (v := 80) C dd_Q_choose_76 (by decide) ?_
      refine z_iload_n C dd_Q_choose_78 rfl ?_
      refine z_imul C dd_Q_choose_79 ?_
      refine z_topi (y := nI (80 * g0)) (by first | exact (pk_mul _ _).symm | (rw [← pk_mul]; rfl)) ?_
      refine z_aload_n C dd_Q_choose_80 rfl ?_
      refine z_aload_n C dd_Q_choose_81 rfl ?_
      refine gf_Q_72 (v := .ref (q + 1 + 19)) C dd_Q_choose_82 hP1_.1.1 rfl ?_
      refine z_iload C dd_Q_choose_85 rfl ?_
      refine z_iald (t0 := 0) (N := 192) (f := (X 19)) C rfl dd_Q_choose_87 (hP1_.1.2 19 (by decide)) (vp_in_nI (by omega) (by decide)) ?_
      refine z_topi (y := nI kd) (by rw [nI_clamp (by omega)]; exact a3.symm) ?_
      refine z_aload_n C dd_Q_choose_88 rfl ?_
      refine gf_Q_75 (v := .ref (q + 1 + 20)) C dd_Q_choose_89 hP1_.1.1 rfl ?_
      refine z_iload C dd_Q_choose_92 rfl ?_
      refine z_iald (t0 := 0) (N := 192) (f := (X 20)) C rfl dd_Q_choose_94 (hP1_.1.2 20 (by decide)) (vp_in_nI (by omega) (by decide)) ?_
      refine z_topi (y := nI wh) (by rw [nI_clamp (by omega)]; exact a4.symm) ?_
      refine z_aload_n C dd_Q_choose_95 rfl ?_
      refine gf_Q_78 (v := .ref (q + 1 + 21)) C dd_Q_choose_96 hP1_.1.1 rfl ?_
      refine z_iload C dd_Q_choose_99 rfl ?_
      refine z_iald (t0 := 0) (N := 192) (f := (X 21)) C rfl dd_Q_choose_101 (hP1_.1.2 21 (by decide)) (vp_in_nI (by omega) (by decide)) ?_
      refine z_topi (y := ((X 21) ((48 * g0) + t))) (by rw [nI_clamp (by omega)]) ?_
      refine z_iload_n C dd_Q_choose_102 rfl ?_
      refine z_iload_n C dd_Q_choose_103 rfl ?_
      refine iv_Q_149 (sk := fun r => .int r :: [.int ((nI (80 * g0)))]) (zz_f B) C dd_Q_choose_104 (cc_Q_holds l D dA B _ _ q _ _ _ hP1_.1 kd wh x0 y0 nc (X 21 (48 * g0 + t)) y a1 a2 h8 hx hyy a5 W.par) hP1_.1.1 rfl rfl ⟨by decide, by decide⟩ (Nat.le_of_ble_eq_true rfl) ⟨by decide, by decide⟩ (fun _ => rfl) (fun v2_ h2_ n2_ p2_ => ?_)
      obtain ⟨e2_, f2_, rfl⟩ := p2_
      have e2z := e2_.symm
      have f2z := f2_.symm
      subst e2z
      subst f2z
      refine z_topi (y := pu_b (pu_qz X g0 x0 y0 t)) (congrArg pu_b ez) ?_
      refine z_if_eq (tgt := 120) C dd_Q_choose_107 (by decide) (fun q2 => ?_) (fun q2 => ?_)
      · skip
        refine z_aload_n C dd_Q_choose_120 rfl ?_
        refine gf_Q_66 (v := .ref (q + 1 + 17)) C dd_Q_choose_121 hP1_.1.1 rfl ?_
        refine z_iload C dd_Q_choose_124 rfl ?_
        refine z_iald (t0 := 0) (N := 320) (f := (X 17)) C rfl dd_Q_choose_126 (hP1_.1.2 17 (by decide)) (vp_in_nI (by omega) (by decide)) ?_
        refine z_topi (y := nI b) (by rw [nI_clamp (by omega)]; exact n3.symm) ?_
        refine z_iadd C dd_Q_choose_127 ?_
        refine z_topi (y := nI ((80 * g0) + b)) (by first | exact (nI_add _ _).symm | (rw [← nI_add]; rfl)) ?_
        refine z_istore C dd_Q_choose_128 rfl ?_
        refine z_goto (tgt := 42) C dd_Q_choose_130 (by decide) ?_
        have hq := ((pu_b0 _).mp q2)
        have e9 : (if pu_qz X g0 x0 y0 t = true then a else b) = b := if_neg (by rw [hq]; decide)
        rw [e9] at kx
        refine ih b (c9 + 1) _ _ (by omega) (by omega) (md_KF hP1_ (by rw [md_ff])) (fun h' k' o5 q1 q2 q3 => kx h' k' o5 (md_KF q1 (by rw [Nat.add_assoc, Nat.add_comm 1])) q2 q3)
      · skip
        refine z_aload_n C dd_Q_choose_110 rfl ?_
        refine gf_Q_63 (v := .ref (q + 1 + 16)) C dd_Q_choose_111 hP1_.1.1 rfl ?_
        refine z_iload C dd_Q_choose_114 rfl ?_
        refine z_iald (t0 := 0) (N := 320) (f := (X 16)) C rfl dd_Q_choose_116 (hP1_.1.2 16 (by decide)) (vp_in_nI (by omega) (by decide)) ?_
        refine z_topi (y := nI a) (by rw [nI_clamp (by omega)]; exact n2.symm) ?_
        refine z_goto (tgt := 127) C dd_Q_choose_117 (by decide) ?_
        refine z_iadd C dd_Q_choose_127 ?_
        refine z_topi (y := nI ((80 * g0) + a)) (by first | exact (nI_add _ _).symm | (rw [← nI_add]; rfl)) ?_
        refine z_istore C dd_Q_choose_128 rfl ?_
        refine z_goto (tgt := 42) C dd_Q_choose_130 (by decide) ?_
        have hq := (pu_bn1.mp q2)
        have e9 : (if pu_qz X g0 x0 y0 t = true then a else b) = a := if_pos hq
        rw [e9] at kx
        refine ih a (c9 + 1) _ _ (by omega) (by omega) (md_KF hP1_ (by rw [md_ff])) (fun h' k' o5 q1 q2 q3 => kx h' k' o5 (md_KF q1 (by rw [Nat.add_assoc, Nat.add_comm 1])) q2 q3)
