theorem pu_fm_ge (x : Int32) (b : Nat → Int32) : ∀ k, k ≤ 12 → ¬ pu_fm x b k ≤ -3
  | 0, _ => by
    rw [pu_fm]
    split <;> decide
  | k + 1, h => by
    rw [pu_fm]
    split
    · intro z
      rw [Int32.le_iff_toInt_le, nI_toInt (by omega)] at z
      have e : (-3 : Int32).toInt = -3 := by decide
      rw [e] at z
      omega
    · exact pu_fm_ge x b k (by omega)
theorem tg_add_nn (G : List tg_N) (x : tg_N) (hG : G.length ≤ 80) : (tg_add G x).2 = -1 ∨ ¬ (tg_add G x).2 < 0 := by
  have hi : ∀ (L : List tg_N) (b k : Nat), tg_ix x L b = some k → k < b + L.length := by
    intro L
    induction L with
    | nil => intro b k h; cases h
    | cons y L ih =>
      intro b k h
      rw [tg_ix] at h
      split at h
      · have : b = k := by simpa using h
        simp
        omega
      · have := ih (b + 1) k h
        simp
        omega
  unfold tg_add
  split
  · rename_i k hk
    have := hi G 0 k hk
    exact Or.inr (nI_pos (by omega))
  · split
    · exact Or.inl rfl
    · exact Or.inr (nI_pos (by omega))
theorem tg_made {dA : Nat → ClassId} {F : Nat → Int32} {X : Nat → Nat → Int32} {J : Nat → Nat → Int64} {q g : Nat} {h h' : zz_H} {G : List tg_N} {t p o r : Int32} (hG : pu_gr X g G) (hh : (∃ k0, k0 < G.length ∧ pu_nq X (80 * g + k0) t p o = true ∧ (∀ k, k < k0 → pu_nq X (80 * g + k) t p o = false) ∧ r = nI k0 ∧ md_K dA F X J q h h') ∨ ((∀ k, k < G.length → pu_nq X (80 * g + k) t p o = false) ∧ ((G.length = 80 ∧ r = -1 ∧ md_K dA F X J q h h') ∨ (G.length < 80 ∧ r = nI G.length ∧ md_K dA F (pu_mk X g G.length t p o) J q h h')))) : ∃ X', md_K dA F X' J q h h' ∧ pu_oth X X' g ∧ (∀ k, 17 < k → X' k = X k) ∧ pu_gr X' g (tg_add G (t, p, o)).1 ∧ r = (tg_add G (t, p, o)).2 := by
  rcases hh with ⟨k0, h1, h2, h3, h4, h5⟩ | ⟨h1, ⟨h2, h3, h4⟩ | ⟨h2, h3, h4⟩⟩
  · rw [tg_add_old hG h1 h2 h3]
    exact ⟨X, h5, pu_oth_rf X g, fun _ _ => rfl, hG, h4⟩
  · rw [tg_add_full hG h1 h2]
    exact ⟨X, h4, pu_oth_rf X g, fun _ _ => rfl, hG, h3⟩
  · obtain ⟨a, b⟩ := tg_add_new hG h1 h2
    rw [a]
    refine ⟨_, h4, pu_oth_mk h2 t p o, fun k hk => ?_, b, h3⟩
    unfold pu_mk md_is
    rw [if_neg (by omega), if_neg (by omega), if_neg (by omega), if_neg (by omega)]
abbrev rm_Q_build : Room := { frames := 8, cells := 0, slots := 0, locals := 240 }
set_option maxRecDepth 20000 in
theorem st_leaf_Q_build {D : va_G} {dA : Nat → ClassId} {B : Nat} {p : Program} {l : Launch} {e : Env} {s : State} {m : MethodId} {args : Array Value} {below : List Frame} {meth : Method} {c : Code} {Q : State → Prop} {n : Nat} {nm : String} {ret9 : Option FieldType} {h : zz_H} (C : zz_C D zz_cl (zz_ty dA) B zz_tb (zz_x B) p s m args meth c bb_Q_build RR_Q ret9 nm) {q : Nat} {F : Nat → Int32} {X : Nat → Nat → Int32} {J : Nat → Nat → Int64} {h9 : zz_H} (hP : md_K dA F X J q h h9) {nc ng nM : Nat} (W : pu_W F X nc ng nM) {g0 ar f : Nat} (hg : g0 < ng) (har : X 1 g0 = nI ar) (ha : ar = 1 ∨ ar = 2) (hf : f < 49) {nd : Int32} (hnd : ¬ nd < 0) {o4 o5 o6 : Option Value} {G : List tg_N} (hG : pu_gr X g0 G) (e4 : X 26 f = 0) (hc : ¬ (pu_cm J (pu_best X nM g0) f (pu_R nc ar)) ≤ -3) (kx : ∀ h' X', md_K dA F X' J q h h' → pu_oth X X' g0 → (∀ k, 17 < k → X' k = X k) → pu_gr X' g0 (tg_add G (-1, (pu_cm J (pu_best X nM g0) f (pu_R nc ar)), -1)).1 → zz_W D zz_cl B p l e rm_Q_build s m args below meth c Q h' n 0 0 [some (.ref q), some (.int (nI g0)), some (.int (nI f + (-1))), some (.int (tg_add G (-1, (pu_cm J (pu_best X nM g0) f (pu_R nc ar)), -1)).2), some (.int (pu_cm J (pu_best X nM g0) f (pu_R nc ar))), o5, o6] 19 []) : zz_W D zz_cl B p l e rm_Q_build s m args below meth c Q h9 n 0 0 [some (.ref q), some (.int (nI g0)), some (.int (nI f)), some (.int nd), o4, o5, o6] 19 [] := by
  have hg4 := W.g4
  have h12 := W.m12
  have h8 := W.c8
  refine z_iload_n C dd_Q_build_19 rfl ?_
  refine z_if_lt (tgt := 240) C dd_Q_build_20 (by decide) (fun q1 => absurd q1 (nI_pos (by omega))) (fun q1 => ?_)
  refine z_iload_n C dd_Q_build_23 rfl ?_
  refine z_if_lt (tgt := 240) C dd_Q_build_24 (by decide) (fun q2 => absurd q2 hnd) (fun q2 => ?_)
  refine z_aload_n C dd_Q_build_27 rfl ?_
  refine gf_Q_94 (v := .ref (q + 1 + 26)) C dd_Q_build_28 hP.1.1 rfl ?_
  refine z_iload_n C dd_Q_build_31 rfl ?_
  refine z_iald (t0 := 0) (N := 50) (f := (X 26)) C rfl dd_Q_build_32 (hP.1.2 26 (by decide)) (vp_in_nI (by omega) (by decide)) ?_
  refine z_topi (y := 0) (by rw [nI_clamp (by omega)]; exact e4.symm) ?_
  refine z_if_ne (tgt := 45) C dd_Q_build_33 (by decide) (fun q3 => absurd (by decide) q3) (fun q3 => ?_)
  refine z_aload_n C dd_Q_build_36 rfl ?_
  refine z_iload_n C dd_Q_build_37 rfl ?_
  refine z_iload_n C dd_Q_build_38 rfl ?_
  refine iv_Q_202 (sk := fun r => .int r :: []) (zz_f B) C dd_Q_build_39 (cc_Q_common l D dA B _ _ q _ _ _ hP.1 nc ng nM W g0 ar f hg har ha (by omega)) hP.1.1 rfl rfl ⟨by decide, by decide⟩ (Nat.le_of_ble_eq_true rfl) ⟨by decide, by decide⟩ (fun _ => rfl) (fun v1_ h1_ n1_ p1_ => ?_)
  obtain ⟨e1_, f1_, rfl⟩ := p1_
  have e1z := e1_.symm
  have f1z := f1_.symm
  subst e1z
  subst f1z
  refine z_goto (tgt := 47) C dd_Q_build_42 (by decide) ?_
  refine z_istore C dd_Q_build_47 rfl ?_
  refine z_iload C dd_Q_build_49 rfl ?_
  refine z_bipush (v := (-3)) C dd_Q_build_51 (by decide) ?_
  refine z_icmp_le (tgt := 72) C dd_Q_build_53 (by decide) (fun q4 => absurd q4 hc) (fun q4 => ?_)
  refine z_aload_n C dd_Q_build_56 rfl ?_
  refine z_iload_n C dd_Q_build_57 rfl ?_
  refine z_iconst (v := (-1)) C dd_Q_build_58 (by decide) ?_
  refine z_iload C dd_Q_build_59 rfl ?_
  refine z_iconst (v := (-1)) C dd_Q_build_61 (by decide) ?_
  refine iv_Q_205 (sk := fun r => .int r :: []) (zz_f B) C dd_Q_build_62 (cc_Q_made l D dA B _ _ q _ _ _ hP.1 g0 G.length _ _ _ (by omega) hG.1 hG.2.1) hP.1.1 rfl rfl ⟨by decide, by decide⟩ (Nat.le_of_ble_eq_true rfl) ⟨by decide, by decide⟩ (fun _ => rfl) (fun v2_ h2_ n2_ p2_ => ?_)
  obtain ⟨f2_, g2_⟩ := p2_
  have f2z := f2_.symm
  subst f2z
  obtain ⟨X2_, a2_, b2_, c2_, d2_, rfl⟩ := tg_made hG g2_
  refine z_istore_n C dd_Q_build_65 rfl ?_
  refine z_iinc C dd_Q_build_66 rfl rfl ?_
  refine z_goto (tgt := 237) C dd_Q_build_69 (by decide) ?_
  refine z_goto (tgt := 19) C dd_Q_build_237 (by decide) ?_
  exact kx _ _ (md_tr hP a2_) b2_ c2_ d2_
set_option maxRecDepth 20000 in
theorem st_first_Q_build {D : va_G} {dA : Nat → ClassId} {B : Nat} {p : Program} {l : Launch} {e : Env} {s : State} {m : MethodId} {args : Array Value} {below : List Frame} {meth : Method} {c : Code} {Q : State → Prop} {n : Nat} {nm : String} {ret9 : Option FieldType} {h : zz_H} (C : zz_C D zz_cl (zz_ty dA) B zz_tb (zz_x B) p s m args meth c bb_Q_build RR_Q ret9 nm) {q : Nat} {F : Nat → Int32} {X : Nat → Nat → Int32} {J : Nat → Nat → Int64} {h9 : zz_H} (hP : md_K dA F X J q h h9) {nc ng nM : Nat} (W : pu_W F X nc ng nM) {g0 ar f : Nat} (hg : g0 < ng) (har : X 1 g0 = nI ar) (ha : ar = 1 ∨ ar = 2) (hf : f < 49) {nd : Int32} (hnd : ¬ nd < 0) {o4 o5 o6 : Option Value} {T fr t9 : Nat} (hT : T ≤ 48) (eT : X 18 g0 = nI T) (efr : X 25 f = nI fr) (hfr : fr ≤ T) (h1 : fr ≤ t9) (h2 : t9 < T) (h3 : pu_sep J f (pu_R nc ar) t9 = true) (e4 : X 26 f = 0) (hc : (pu_cm J (pu_best X nM g0) f (pu_R nc ar)) = -3) (kx : ∀ t h' o4 o5, fr ≤ t → t < T → pu_sep J f (pu_R nc ar) t = true → (∀ t', fr ≤ t' → t' < t → pu_sep J f (pu_R nc ar) t' = false) → md_K dA F (pu_bgI (md_is (md_is X 27 (upd (X 27) f (nI t))) 26 (upd (X 26) f 1)) (f + 1) (nI (t + 1))) (pu_bgJ J (f + 1) (J 23 f ||| ((1 : Int64) <<< ((nI t).toInt64 &&& 63))) (J 24 f ||| ((1 : Int64) <<< ((nI t).toInt64 &&& 63)))) q h h' → zz_W D zz_cl B p l e rm_Q_build s m args below meth c Q h' n 0 0 [some (.ref q), some (.int (nI g0)), some (.int (nI (f + 1))), some (.int nd), o4, o5, none] 19 []) : zz_W D zz_cl B p l e rm_Q_build s m args below meth c Q h9 n 0 0 [some (.ref q), some (.int (nI g0)), some (.int (nI f)), some (.int nd), o4, o5, o6] 19 [] := by
  have hg4 := W.g4
  have h12 := W.m12
  have h8 := W.c8
  refine z_iload_n C dd_Q_build_19 rfl ?_
  refine z_if_lt (tgt := 240) C dd_Q_build_20 (by decide) (fun q1 => absurd q1 (nI_pos (by omega))) (fun q1 => ?_)
  refine z_iload_n C dd_Q_build_23 rfl ?_
  refine z_if_lt (tgt := 240) C dd_Q_build_24 (by decide) (fun q2 => absurd q2 hnd) (fun q2 => ?_)
  refine z_aload_n C dd_Q_build_27 rfl ?_
  refine gf_Q_94 (v := .ref (q + 1 + 26)) C dd_Q_build_28 hP.1.1 rfl ?_
  refine z_iload_n C dd_Q_build_31 rfl ?_
  refine z_iald (t0 := 0) (N := 50) (f := (X 26)) C rfl dd_Q_build_32 (hP.1.2 26 (by decide)) (vp_in_nI (by omega) (by decide)) ?_
  refine z_topi (y := 0) (by rw [nI_clamp (by omega)]; exact e4.symm) ?_
  refine z_if_ne (tgt := 45) C dd_Q_build_33 (by decide) (fun q3 => absurd (by decide) q3) (fun q3 => ?_)
  refine z_aload_n C dd_Q_build_36 rfl ?_
  refine z_iload_n C dd_Q_build_37 rfl ?_
  refine z_iload_n C dd_Q_build_38 rfl ?_
  refine iv_Q_202 (sk := fun r => .int r :: []) (zz_f B) C dd_Q_build_39 (cc_Q_common l D dA B _ _ q _ _ _ hP.1 nc ng nM W g0 ar f hg har ha (by omega)) hP.1.1 rfl rfl ⟨by decide, by decide⟩ (Nat.le_of_ble_eq_true rfl) ⟨by decide, by decide⟩ (fun _ => rfl) (fun v1_ h1_ n1_ p1_ => ?_)
  obtain ⟨e1_, f1_, rfl⟩ := p1_
  have e1z := e1_.symm
  have f1z := f1_.symm
  subst e1z
  subst f1z
  refine z_goto (tgt := 47) C dd_Q_build_42 (by decide) ?_
  refine z_istore C dd_Q_build_47 rfl ?_
  refine z_iload C dd_Q_build_49 rfl ?_
  refine z_bipush (v := (-3)) C dd_Q_build_51 (by decide) ?_
  refine z_icmp_le (tgt := 72) C dd_Q_build_53 (by decide) (fun q4 => ?_) (fun q4 => absurd (by rw [hc]; decide) q4)
  refine z_aload_n C dd_Q_build_72 rfl ?_
  refine gf_Q_94 (v := .ref (q + 1 + 26)) C dd_Q_build_73 hP.1.1 rfl ?_
  refine z_iload_n C dd_Q_build_76 rfl ?_
  refine z_iald (t0 := 0) (N := 50) (f := (X 26)) C rfl dd_Q_build_77 (hP.1.2 26 (by decide)) (vp_in_nI (by omega) (by decide)) ?_
  refine z_topi (y := 0) (by rw [nI_clamp (by omega)]; exact e4.symm) ?_
  refine z_if_ne (tgt := 149) C dd_Q_build_78 (by decide) (fun q5 => absurd (by decide) q5) (fun q5 => ?_)
  refine z_aload_n C dd_Q_build_81 rfl ?_
  refine gf_Q_97 (v := .ref (q + 1 + 27)) C dd_Q_build_82 hP.1.1 rfl ?_
  refine z_iload_n C dd_Q_build_85 rfl ?_
  refine z_aload_n C dd_Q_build_86 rfl ?_
  refine z_iload_n C dd_Q_build_87 rfl ?_
  refine z_iload_n C dd_Q_build_88 rfl ?_
  refine iv_Q_209 (sk := fun r => .int r :: [.int ((nI f)), .ref (q + 1 + 27)]) (zz_f B) C dd_Q_build_89 (cc_Q_partingTest l D dA B _ _ q _ _ _ hP.1 nc ng nM W g0 ar f hg har ha (by omega) T fr hT eT efr hfr) hP.1.1 rfl rfl ⟨by decide, by decide⟩ (Nat.le_of_ble_eq_true rfl) ⟨by decide, by decide⟩ (fun _ => rfl) (fun v2_ h2_ n2_ p2_ => ?_)
  obtain ⟨e2_, f2_, g2_⟩ := p2_
  have e2z := e2_.symm
  have f2z := f2_.symm
  subst e2z
  subst f2z
  rcases g2_ with ⟨z1, _⟩ | ⟨t, t1, t2, t3, t4, rfl⟩
  · exact absurd h3 (by rw [z1 t9 h1 h2]; decide)
  refine z_iast (t0 := 0) (N := 50) (f := (X 27)) C rfl dd_Q_build_92 (hP.1.2 27 (by decide)) (vp_in_nI (by omega) (by decide)) ?_
  refine z_cut (md_K dA F (md_is X 27 (upd (X 27) (Int32.toNatClampNeg (nI f)) (nI t))) J q h) (md_wI hP 27 (by decide) rfl) rfl rfl rfl (fun h3_ hP3_ => ?_)
  refine z_aload_n C dd_Q_build_93 rfl ?_
  refine gf_Q_94 (v := .ref (q + 1 + 26)) C dd_Q_build_94 hP3_.1.1 rfl ?_
  refine z_iload_n C dd_Q_build_97 rfl ?_
  refine z_iconst (v := 1) C dd_Q_build_98 (by decide) ?_
  refine z_iast (t0 := 0) (N := 50) (f := (X 26)) C rfl dd_Q_build_99 (hP3_.1.2 26 (by decide)) (vp_in_nI (by omega) (by decide)) ?_
  refine z_cut (md_K dA F (md_is (md_is X 27 (upd (X 27) (Int32.toNatClampNeg (nI f)) (nI t))) 26 (upd (X 26) (Int32.toNatClampNeg (nI f)) 1)) J q h) (md_wI hP3_ 26 (by decide) rfl) rfl rfl rfl (fun h4_ hP4_ => ?_)
  refine z_lconst (v := 1) C dd_Q_build_100 (by decide) ?_
  refine z_aload_n C dd_Q_build_101 rfl ?_
  refine gf_Q_97 (v := .ref (q + 1 + 27)) C dd_Q_build_102 hP4_.1.1 rfl ?_
  refine z_iload_n C dd_Q_build_105 rfl ?_
  refine z_iald (t0 := 0) (N := 50) (f := (upd (X 27) (Int32.toNatClampNeg (nI f)) (nI t))) C rfl dd_Q_build_106 (hP4_.1.2 27 (by decide)) (vp_in_nI (by omega) (by decide)) ?_
  refine z_topi (y := nI t) (by rw [nI_clamp (by omega)]; exact pk_us.symm) ?_
  refine z_lshl C dd_Q_build_107 ?_
  refine z_lstore C dd_Q_build_108 rfl ?_
  refine z_aload_n C dd_Q_build_110 rfl ?_
  refine z_iload_n C dd_Q_build_111 rfl ?_
  refine z_iconst (v := 1) C dd_Q_build_112 (by decide) ?_
  refine z_iadd C dd_Q_build_113 ?_
  refine z_topi (y := nI (f + 1)) (by first | exact (nI_add _ _).symm | (rw [← nI_add]; rfl)) ?_
  refine z_aload_n C dd_Q_build_114 rfl ?_
  refine gf_Q_85 (v := .ref (q + 1 + 23)) C dd_Q_build_115 hP4_.1.1 rfl ?_
  refine z_iload_n C dd_Q_build_118 rfl ?_
  refine z_lald (t0 := 1) (N := 50) (f := (J 23)) C rfl dd_Q_build_119 (hP4_.1.2 23 (by decide)) (vp_in_nI (by omega) (by decide)) ?_
  refine z_topl (y := ((J 23) f)) (by rw [nI_clamp (by omega)]) ?_
  refine z_lload C dd_Q_build_120 rfl ?_
  refine z_lor C dd_Q_build_122 ?_
  refine z_aload_n C dd_Q_build_123 rfl ?_
  refine gf_Q_88 (v := .ref (q + 1 + 24)) C dd_Q_build_124 hP4_.1.1 rfl ?_
  refine z_iload_n C dd_Q_build_127 rfl ?_
  refine z_lald (t0 := 1) (N := 50) (f := (J 24)) C rfl dd_Q_build_128 (hP4_.1.2 24 (by decide)) (vp_in_nI (by omega) (by decide)) ?_
  refine z_topl (y := ((J 24) f)) (by rw [nI_clamp (by omega)]) ?_
  refine z_lload C dd_Q_build_129 rfl ?_
  refine z_lor C dd_Q_build_131 ?_
  refine z_aload_n C dd_Q_build_132 rfl ?_
  refine gf_Q_97 (v := .ref (q + 1 + 27)) C dd_Q_build_133 hP4_.1.1 rfl ?_
  refine z_iload_n C dd_Q_build_136 rfl ?_
  refine z_iald (t0 := 0) (N := 50) (f := (upd (X 27) (Int32.toNatClampNeg (nI f)) (nI t))) C rfl dd_Q_build_137 (hP4_.1.2 27 (by decide)) (vp_in_nI (by omega) (by decide)) ?_
  refine z_topi (y := nI t) (by rw [nI_clamp (by omega)]; exact pk_us.symm) ?_
  refine z_iconst (v := 1) C dd_Q_build_138 (by decide) ?_
  refine z_iadd C dd_Q_build_139 ?_
  refine z_topi (y := nI (t + 1)) (by first | exact (nI_add _ _).symm | (rw [← nI_add]; rfl)) ?_
  refine iv_Q_198 (sk := fun _ => []) (zz_f B) C dd_Q_build_140 (cc_Q_begin l D dA B _ _ q _ _ _ hP4_.1 (f + 1) (by omega) _ _ _) hP4_.1.1 rfl rfl ⟨by decide, by decide⟩ (Nat.le_of_ble_eq_true rfl) ⟨by decide, by decide⟩ (fun _ => rfl) (fun _ h5_ n5_ p5_ => ?_)
  obtain ⟨m5_, rfl⟩ := p5_
  have hP5_ := md_tr hP4_ m5_
  refine z_iincN C dd_Q_build_143 rfl rfl ?_
  refine z_goto (tgt := 237) C dd_Q_build_146 (by decide) ?_
  refine z_goto (tgt := 19) C dd_Q_build_237 (by decide) ?_
  exact kx t _ _ _ t1 t2 t3 t4 (md_Ke hP5_ (by rw [nI_clamp (n := f) (by omega)]))
set_option maxRecDepth 20000 in
theorem st_second_Q_build {D : va_G} {dA : Nat → ClassId} {B : Nat} {p : Program} {l : Launch} {e : Env} {s : State} {m : MethodId} {args : Array Value} {below : List Frame} {meth : Method} {c : Code} {Q : State → Prop} {n : Nat} {nm : String} {ret9 : Option FieldType} {h : zz_H} (C : zz_C D zz_cl (zz_ty dA) B zz_tb (zz_x B) p s m args meth c bb_Q_build RR_Q ret9 nm) {q : Nat} {F : Nat → Int32} {X : Nat → Nat → Int32} {J : Nat → Nat → Int64} {h9 : zz_H} (hP : md_K dA F X J q h h9) {nc ng nM : Nat} (W : pu_W F X nc ng nM) {g0 ar f : Nat} (hg : g0 < ng) (har : X 1 g0 = nI ar) (ha : ar = 1 ∨ ar = 2) (hf : f < 49) {nd : Int32} (hnd : ¬ nd < 0) {o4 o5 o6 : Option Value} {t : Nat} (ht : t < 48) (e4 : X 26 f = 1) (et : X 27 f = nI t) (kx : ∀ h' o4, md_K dA F (pu_bgI (md_is (md_is X 28 (upd (X 28) f nd)) 26 (upd (X 26) f 2)) (f + 1) (nI (t + 1))) (pu_bgJ J (f + 1) (J 23 f ||| ((1 : Int64) <<< ((nI t).toInt64 &&& 63))) (J 24 f)) q h h' → zz_W D zz_cl B p l e rm_Q_build s m args below meth c Q h' n 0 0 [some (.ref q), some (.int (nI g0)), some (.int (nI (f + 1))), some (.int nd), o4, o5, o6] 19 []) : zz_W D zz_cl B p l e rm_Q_build s m args below meth c Q h9 n 0 0 [some (.ref q), some (.int (nI g0)), some (.int (nI f)), some (.int nd), o4, o5, o6] 19 [] := by
  have hg4 := W.g4
  have h12 := W.m12
  have h8 := W.c8
  refine z_iload_n C dd_Q_build_19 rfl ?_
  refine z_if_lt (tgt := 240) C dd_Q_build_20 (by decide) (fun q1 => absurd q1 (nI_pos (by omega))) (fun q1 => ?_)
  refine z_iload_n C dd_Q_build_23 rfl ?_
  refine z_if_lt (tgt := 240) C dd_Q_build_24 (by decide) (fun q2 => absurd q2 hnd) (fun q2 => ?_)
  refine z_aload_n C dd_Q_build_27 rfl ?_
  refine gf_Q_94 (v := .ref (q + 1 + 26)) C dd_Q_build_28 hP.1.1 rfl ?_
  refine z_iload_n C dd_Q_build_31 rfl ?_
  refine z_iald (t0 := 0) (N := 50) (f := (X 26)) C rfl dd_Q_build_32 (hP.1.2 26 (by decide)) (vp_in_nI (by omega) (by decide)) ?_
  refine z_topi (y := 1) (by rw [nI_clamp (by omega)]; exact e4.symm) ?_
  refine z_if_ne (tgt := 45) C dd_Q_build_33 (by decide) (fun q3 => ?_) (fun q3 => absurd q3 (by decide))
  refine z_bipush (v := (-3)) C dd_Q_build_45 (by decide) ?_
  refine z_istore C dd_Q_build_47 rfl ?_
  refine z_iload C dd_Q_build_49 rfl ?_
  refine z_bipush (v := (-3)) C dd_Q_build_51 (by decide) ?_
  refine z_icmp_le (tgt := 72) C dd_Q_build_53 (by decide) (fun q4 => ?_) (fun q4 => absurd (by decide) q4)
  refine z_aload_n C dd_Q_build_72 rfl ?_
  refine gf_Q_94 (v := .ref (q + 1 + 26)) C dd_Q_build_73 hP.1.1 rfl ?_
  refine z_iload_n C dd_Q_build_76 rfl ?_
  refine z_iald (t0 := 0) (N := 50) (f := (X 26)) C rfl dd_Q_build_77 (hP.1.2 26 (by decide)) (vp_in_nI (by omega) (by decide)) ?_
  refine z_topi (y := 1) (by rw [nI_clamp (by omega)]; exact e4.symm) ?_
  refine z_if_ne (tgt := 149) C dd_Q_build_78 (by decide) (fun q5 => ?_) (fun q5 => absurd q5 (by decide))
  refine z_aload_n C dd_Q_build_149 rfl ?_
  refine gf_Q_94 (v := .ref (q + 1 + 26)) C dd_Q_build_150 hP.1.1 rfl ?_
  refine z_iload_n C dd_Q_build_153 rfl ?_
  refine z_iald (t0 := 0) (N := 50) (f := (X 26)) C rfl dd_Q_build_154 (hP.1.2 26 (by decide)) (vp_in_nI (by omega) (by decide)) ?_
  refine z_topi (y := 1) (by rw [nI_clamp (by omega)]; exact e4.symm) ?_
  refine z_iconst (v := 1) C dd_Q_build_155 (by decide) ?_
  refine z_icmp_ne (tgt := 215) C dd_Q_build_156 (by decide) (fun q6 => absurd (by decide) q6) (fun q6 => ?_)
  refine z_aload_n C dd_Q_build_159 rfl ?_
  refine gf_Q_100 (v := .ref (q + 1 + 28)) C dd_Q_build_160 hP.1.1 rfl ?_
  refine z_iload_n C dd_Q_build_163 rfl ?_
  refine z_iload_n C dd_Q_build_164 rfl ?_
  refine z_iast (t0 := 0) (N := 50) (f := (X 28)) C rfl dd_Q_build_165 (hP.1.2 28 (by decide)) (vp_in_nI (by omega) (by decide)) ?_
  refine z_cut (md_K dA F (md_is X 28 (upd (X 28) (Int32.toNatClampNeg (nI f)) nd)) J q h) (md_wI hP 28 (by decide) rfl) rfl rfl rfl (fun h1_ hP1_ => ?_)
  refine z_aload_n C dd_Q_build_166 rfl ?_
  refine gf_Q_94 (v := .ref (q + 1 + 26)) C dd_Q_build_167 hP1_.1.1 rfl ?_
  refine z_iload_n C dd_Q_build_170 rfl ?_
  refine z_iconst (v := 2) C dd_Q_build_171 (by decide) ?_
  refine z_iast (t0 := 0) (N := 50) (f := (X 26)) C rfl dd_Q_build_172 (hP1_.1.2 26 (by decide)) (vp_in_nI (by omega) (by decide)) ?_
  refine z_cut (md_K dA F (md_is (md_is X 28 (upd (X 28) (Int32.toNatClampNeg (nI f)) nd)) 26 (upd (X 26) (Int32.toNatClampNeg (nI f)) 2)) J q h) (md_wI hP1_ 26 (by decide) rfl) rfl rfl rfl (fun h2_ hP2_ => ?_)
  refine z_aload_n C dd_Q_build_173 rfl ?_
  refine z_iload_n C dd_Q_build_174 rfl ?_
  refine z_iconst (v := 1) C dd_Q_build_175 (by decide) ?_
  refine z_iadd C dd_Q_build_176 ?_
  refine z_topi (y := nI (f + 1)) (by first | exact (nI_add _ _).symm | (rw [← nI_add]; rfl)) ?_
  refine z_aload_n C dd_Q_build_177 rfl ?_
  refine gf_Q_85 (v := .ref (q + 1 + 23)) C dd_Q_build_178 hP2_.1.1 rfl ?_
  refine z_iload_n C dd_Q_build_181 rfl ?_
  refine z_lald (t0 := 1) (N := 50) (f := (J 23)) C rfl dd_Q_build_182 (hP2_.1.2 23 (by decide)) (vp_in_nI (by omega) (by decide)) ?_
  refine z_topl (y := ((J 23) f)) (by rw [nI_clamp (by omega)]) ?_
  refine z_lconst (v := 1) C dd_Q_build_183 (by decide) ?_
  refine z_aload_n C dd_Q_build_184 rfl ?_
  refine gf_Q_97 (v := .ref (q + 1 + 27)) C dd_Q_build_185 hP2_.1.1 rfl ?_
  refine z_iload_n C dd_Q_build_188 rfl ?_
  refine z_iald (t0 := 0) (N := 50) (f := (X 27)) C rfl dd_Q_build_189 (hP2_.1.2 27 (by decide)) (vp_in_nI (by omega) (by decide)) ?_
  refine z_topi (y := (nI t)) (by rw [nI_clamp (by omega)]; exact et.symm) ?_
  refine z_lshl C dd_Q_build_190 ?_
  refine z_lor C dd_Q_build_191 ?_
  refine z_aload_n C dd_Q_build_192 rfl ?_
  refine gf_Q_88 (v := .ref (q + 1 + 24)) C dd_Q_build_193 hP2_.1.1 rfl ?_
  refine z_iload_n C dd_Q_build_196 rfl ?_
  refine z_lald (t0 := 1) (N := 50) (f := (J 24)) C rfl dd_Q_build_197 (hP2_.1.2 24 (by decide)) (vp_in_nI (by omega) (by decide)) ?_
  refine z_topl (y := ((J 24) f)) (by rw [nI_clamp (by omega)]) ?_
  refine z_aload_n C dd_Q_build_198 rfl ?_
  refine gf_Q_97 (v := .ref (q + 1 + 27)) C dd_Q_build_199 hP2_.1.1 rfl ?_
  refine z_iload_n C dd_Q_build_202 rfl ?_
  refine z_iald (t0 := 0) (N := 50) (f := (X 27)) C rfl dd_Q_build_203 (hP2_.1.2 27 (by decide)) (vp_in_nI (by omega) (by decide)) ?_
  refine z_topi (y := (nI t)) (by rw [nI_clamp (by omega)]; exact et.symm) ?_
  refine z_iconst (v := 1) C dd_Q_build_204 (by decide) ?_
  refine z_iadd C dd_Q_build_205 ?_
  refine z_topi (y := nI (t + 1)) (by first | exact (nI_add _ _).symm | (rw [← nI_add]; rfl)) ?_
  refine iv_Q_198 (sk := fun _ => []) (zz_f B) C dd_Q_build_206 (cc_Q_begin l D dA B _ _ q _ _ _ hP2_.1 (f + 1) (by omega) _ _ _) hP2_.1.1 rfl rfl ⟨by decide, by decide⟩ (Nat.le_of_ble_eq_true rfl) ⟨by decide, by decide⟩ (fun _ => rfl) (fun _ h3_ n3_ p3_ => ?_)
  obtain ⟨m3_, rfl⟩ := p3_
  have hP3_ := md_tr hP2_ m3_
  refine z_iincN C dd_Q_build_209 rfl rfl ?_
  refine z_goto (tgt := 237) C dd_Q_build_212 (by decide) ?_
  refine z_goto (tgt := 19) C dd_Q_build_237 (by decide) ?_
  exact kx _ _ (md_Ke hP3_ (by rw [nI_clamp (n := f) (by omega)]))
set_option maxRecDepth 20000 in
theorem st_both_Q_build {D : va_G} {dA : Nat → ClassId} {B : Nat} {p : Program} {l : Launch} {e : Env} {s : State} {m : MethodId} {args : Array Value} {below : List Frame} {meth : Method} {c : Code} {Q : State → Prop} {n : Nat} {nm : String} {ret9 : Option FieldType} {h : zz_H} (C : zz_C D zz_cl (zz_ty dA) B zz_tb (zz_x B) p s m args meth c bb_Q_build RR_Q ret9 nm) {q : Nat} {F : Nat → Int32} {X : Nat → Nat → Int32} {J : Nat → Nat → Int64} {h9 : zz_H} (hP : md_K dA F X J q h h9) {nc ng nM : Nat} (W : pu_W F X nc ng nM) {g0 ar f : Nat} (hg : g0 < ng) (har : X 1 g0 = nI ar) (ha : ar = 1 ∨ ar = 2) (hf : f < 49) {nd : Int32} (hnd : ¬ nd < 0) {o4 o5 o6 : Option Value} {t : Nat} {n1 : Int32} (ht : t < 48) (e4 : X 26 f = 2) (et : X 27 f = nI t) (en : X 28 f = n1) {G : List tg_N} (hG : pu_gr X g0 G) (kx : ∀ h' X', md_K dA F X' J q h h' → pu_oth X X' g0 → (∀ k, 17 < k → X' k = X k) → pu_gr X' g0 (tg_add G (nI t, n1, nd)).1 → zz_W D zz_cl B p l e rm_Q_build s m args below meth c Q h' n 0 0 [some (.ref q), some (.int (nI g0)), some (.int (nI f + (-1))), some (.int (tg_add G (nI t, n1, nd)).2), some (.int (-3)), o5, o6] 19 []) : zz_W D zz_cl B p l e rm_Q_build s m args below meth c Q h9 n 0 0 [some (.ref q), some (.int (nI g0)), some (.int (nI f)), some (.int nd), o4, o5, o6] 19 [] := by
  have hg4 := W.g4
  have h12 := W.m12
  have h8 := W.c8
  refine z_iload_n C dd_Q_build_19 rfl ?_
  refine z_if_lt (tgt := 240) C dd_Q_build_20 (by decide) (fun q1 => absurd q1 (nI_pos (by omega))) (fun q1 => ?_)
  refine z_iload_n C dd_Q_build_23 rfl ?_
  refine z_if_lt (tgt := 240) C dd_Q_build_24 (by decide) (fun q2 => absurd q2 hnd) (fun q2 => ?_)
  refine z_aload_n C dd_Q_build_27 rfl ?_
  refine gf_Q_94 (v := .ref (q + 1 + 26)) C dd_Q_build_28 hP.1.1 rfl ?_
  refine z_iload_n C dd_Q_build_31 rfl ?_
  refine z_iald (t0 := 0) (N := 50) (f := (X 26)) C rfl dd_Q_build_32 (hP.1.2 26 (by decide)) (vp_in_nI (by omega) (by decide)) ?_
  refine z_topi (y := 2) (by rw [nI_clamp (by omega)]; exact e4.symm) ?_
  refine z_if_ne (tgt := 45) C dd_Q_build_33 (by decide) (fun q3 => ?_) (fun q3 => absurd q3 (by decide))
  refine z_bipush (v := (-3)) C dd_Q_build_45 (by decide) ?_
  refine z_istore C dd_Q_build_47 rfl ?_
  refine z_iload C dd_Q_build_49 rfl ?_
  refine z_bipush (v := (-3)) C dd_Q_build_51 (by decide) ?_
  refine z_icmp_le (tgt := 72) C dd_Q_build_53 (by decide) (fun q4 => ?_) (fun q4 => absurd (by decide) q4)
  refine z_aload_n C dd_Q_build_72 rfl ?_
  refine gf_Q_94 (v := .ref (q + 1 + 26)) C dd_Q_build_73 hP.1.1 rfl ?_
  refine z_iload_n C dd_Q_build_76 rfl ?_
  refine z_iald (t0 := 0) (N := 50) (f := (X 26)) C rfl dd_Q_build_77 (hP.1.2 26 (by decide)) (vp_in_nI (by omega) (by decide)) ?_
  refine z_topi (y := 2) (by rw [nI_clamp (by omega)]; exact e4.symm) ?_
  refine z_if_ne (tgt := 149) C dd_Q_build_78 (by decide) (fun q5 => ?_) (fun q5 => absurd q5 (by decide))
  refine z_aload_n C dd_Q_build_149 rfl ?_
  refine gf_Q_94 (v := .ref (q + 1 + 26)) C dd_Q_build_150 hP.1.1 rfl ?_
  refine z_iload_n C dd_Q_build_153 rfl ?_
  refine z_iald (t0 := 0) (N := 50) (f := (X 26)) C rfl dd_Q_build_154 (hP.1.2 26 (by decide)) (vp_in_nI (by omega) (by decide)) ?_
  refine z_topi (y := 2) (by rw [nI_clamp (by omega)]; exact e4.symm) ?_
  refine z_iconst (v := 1) C dd_Q_build_155 (by decide) ?_
  refine z_icmp_ne (tgt := 215) C dd_Q_build_156 (by decide) (fun q6 => ?_) (fun q6 => absurd q6 (by decide))
  refine z_aload_n C dd_Q_build_215 rfl ?_
  refine z_iload_n C dd_Q_build_216 rfl ?_
  refine z_aload_n C dd_Q_build_217 rfl ?_
  refine gf_Q_97 (v := .ref (q + 1 + 27)) C dd_Q_build_218 hP.1.1 rfl ?_
  refine z_iload_n C dd_Q_build_221 rfl ?_
  refine z_iald (t0 := 0) (N := 50) (f := (X 27)) C rfl dd_Q_build_222 (hP.1.2 27 (by decide)) (vp_in_nI (by omega) (by decide)) ?_
  refine z_topi (y := (nI t)) (by rw [nI_clamp (by omega)]; exact et.symm) ?_
  refine z_aload_n C dd_Q_build_223 rfl ?_
  refine gf_Q_100 (v := .ref (q + 1 + 28)) C dd_Q_build_224 hP.1.1 rfl ?_
  refine z_iload_n C dd_Q_build_227 rfl ?_
  refine z_iald (t0 := 0) (N := 50) (f := (X 28)) C rfl dd_Q_build_228 (hP.1.2 28 (by decide)) (vp_in_nI (by omega) (by decide)) ?_
  refine z_topi (y := n1) (by rw [nI_clamp (by omega)]; exact en.symm) ?_
  refine z_iload_n C dd_Q_build_229 rfl ?_
  refine iv_Q_205 (sk := fun r => .int r :: []) (zz_f B) C dd_Q_build_230 (cc_Q_made l D dA B _ _ q _ _ _ hP.1 g0 G.length _ _ _ (by omega) hG.1 hG.2.1) hP.1.1 rfl rfl ⟨by decide, by decide⟩ (Nat.le_of_ble_eq_true rfl) ⟨by decide, by decide⟩ (fun _ => rfl) (fun v1_ h1_ n1_ p1_ => ?_)
  obtain ⟨f1_, g1_⟩ := p1_
  have f1z := f1_.symm
  subst f1z
  obtain ⟨X1_, a1_, b1_, c1_, d1_, rfl⟩ := tg_made hG g1_
  refine z_istore_n C dd_Q_build_233 rfl ?_
  refine z_iinc C dd_Q_build_234 rfl rfl ?_
  refine z_goto (tgt := 19) C dd_Q_build_237 (by decide) ?_
  exact kx _ _ (md_tr hP a1_) b1_ c1_ d1_
