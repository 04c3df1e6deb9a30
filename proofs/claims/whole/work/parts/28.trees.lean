/-- the one best method of the rows of a tree: -4 none yet, -3 not one -/
def pu_cm (J : Nat → Nat → Int64) (be : Nat → Int32) (f : Nat) : Nat → Int32
  | 0 => -4
  | r + 1 => if pu_in3 J f r then (if pu_cm J be f r = -4 ∨ pu_cm J be f r = be r then be r else -3) else pu_cm J be f r
def pu_lb (x : Int64) (t : Nat) : Int64 := (x >>> ((nI t).toInt64 &&& 63)) &&& 1
def pu_sm (J : Nat → Nat → Int64) (f t : Nat) (v : Int64) (R : Nat) : Bool := (List.range R).any fun r => pu_in3 J f r && decide (pu_lb (J 22 r) t = v)
theorem pu_sm_s (J : Nat → Nat → Int64) (f t : Nat) (v : Int64) (r : Nat) : pu_sm J f t v (r + 1) = (pu_sm J f t v r || (pu_in3 J f r && decide (pu_lb (J 22 r) t = v))) := z_loopAny _ _
def pu_sep (J : Nat → Nat → Int64) (f R t : Nat) : Bool := pu_sm J f t 1 R && pu_sm J f t 0 R
abbrev rm_Q_common : Room := { frames := 6, cells := 0, slots := 0, locals := 160 }
set_option maxRecDepth 20000 in
theorem lp_Q_common {D : va_G} {dA : Nat → ClassId} {B : Nat} {p : Program} {l : Launch} {e : Env} {s : State} {m : MethodId} {args : Array Value} {below : List Frame} {meth : Method} {c : Code} {Q : State → Prop} {n : Nat} {nm : String} {ret9 : Option FieldType} {h : zz_H} (C : zz_C D zz_cl (zz_ty dA) B zz_tb (zz_x B) p s m args meth c bb_Q_common RR_Q ret9 nm) {q : Nat} {F : Nat → Int32} {I : Nat → Nat → Int32} {J : Nat → Nat → Int64} (hP0 : md_P dA F I J q h) {nc ng nM : Nat} (W : pu_W F I nc ng nM) {g0 ar f0 : Nat} (hg : g0 < ng) (har : I 1 g0 = nI ar) (ha : ar = 1 ∨ ar = 2) (hf0 : f0 < 50) (kx : ∀ o5, zz_W D zz_cl B p l e rm_Q_common s m args below meth c Q h n 0 0 [some (.ref q), some (.int (nI g0)), some (.int (nI f0)), some (.int (pu_cm J (pu_best I nM g0) f0 (pu_R nc ar))), some (.int (nI (pu_R nc ar))), o5] 61 []) :
    ∀ f r9 o5, r9 + f = pu_R nc ar → zz_W D zz_cl B p l e rm_Q_common s m args below meth c Q h n 0 0 [some (.ref q), some (.int (nI g0)), some (.int (nI f0)), some (.int (pu_cm J (pu_best I nM g0) f0 r9)), some (.int (nI r9)), o5] 6 [] := by
  intro f
  have hP := md_rf hP0
  have hR := pu_R_le (nc := nc) (ar := ar) W.c8
  have h12 := W.m12
  have hg4 := W.g4
  have h1 := W.c1
  have h8 := W.c8
  have hg9 : g0 < 4 := by omega
  induction f with
  | zero =>
    intro r9 o5 hf
    have hr9 : r9 = pu_R nc ar := by omega
    subst hr9
    refine z_iload C dd_Q_common_6 rfl ?_
    refine z_aload_n C dd_Q_common_8 rfl ?_
    refine z_iload_n C dd_Q_common_9 rfl ?_
    refine iv_Q_153 (sk := fun r => .int r :: [.int ((nI (pu_R nc ar)))]) (zz_f B) C dd_Q_common_10 (cn_Q_rows l D dA B _ _ q _ _ _ hP0 nc h1 h8 W.fc g0 ar hg9 har ha) hP0.1 rfl rfl ⟨by decide, by decide⟩ (Nat.le_of_ble_eq_true rfl) ⟨by decide, by decide⟩ (fun _ => rfl) (fun v1_ h1_ n1_ p1_ => ?_)
    obtain ⟨e1_, f1_, rfl⟩ := p1_
    have e1z := e1_.symm
    have f1z := f1_.symm
    subst e1z
    subst f1z
    exact z_icmp_ge (tgt := 61) C dd_Q_common_13 (by decide) (fun _ => kx o5) (fun q10 => absurd (nI_le (Nat.le_refl _) (by omega)) q10)
  | succ f ih =>
    intro r9 o5 hf
    have ihk := fun o => ih (r9 + 1) o (by omega)
    refine z_iload C dd_Q_common_6 rfl ?_
    refine z_aload_n C dd_Q_common_8 rfl ?_
    refine z_iload_n C dd_Q_common_9 rfl ?_
    refine iv_Q_153 (sk := fun r => .int r :: [.int ((nI r9))]) (zz_f B) C dd_Q_common_10 (cn_Q_rows l D dA B _ _ q _ _ _ hP0 nc h1 h8 W.fc g0 ar hg9 har ha) hP0.1 rfl rfl ⟨by decide, by decide⟩ (Nat.le_of_ble_eq_true rfl) ⟨by decide, by decide⟩ (fun _ => rfl) (fun v1_ h1_ n1_ p1_ => ?_)
    obtain ⟨e1_, f1_, rfl⟩ := p1_
    have e1z := e1_.symm
    have f1z := f1_.symm
    subst e1z
    subst f1z
    refine z_icmp_ge (tgt := 61) C dd_Q_common_13 (by decide) (fun q10 => absurd q10 (nI_ge (by omega) (by omega))) (fun _ => ?_)
    refine z_aload_n C dd_Q_common_16 rfl ?_
    refine z_iload_n C dd_Q_common_17 rfl ?_
    refine z_iload C dd_Q_common_18 rfl ?_
    refine iv_Q_195 (sk := fun r => .int r :: []) (zz_f B) C dd_Q_common_20 (cc_Q_inTree l D dA B _ _ q _ _ _ hP0 f0 r9 hf0 (by omega)) hP0.1 rfl rfl ⟨by decide, by decide⟩ (Nat.le_of_ble_eq_true rfl) ⟨by decide, by decide⟩ (fun _ => rfl) (fun v1_ h1_ n1_ p1_ => ?_)
    obtain ⟨e1_, f1_, rfl⟩ := p1_
    have e1z := e1_.symm
    have f1z := f1_.symm
    subst e1z
    subst f1z
    refine z_if_eq (tgt := 55) C dd_Q_common_23 (by decide) (fun q1 => ?_) (fun q1 => ?_)
    · skip
      refine z_iincN C dd_Q_common_55 rfl rfl ?_
      refine z_goto (tgt := 6) C dd_Q_common_58 (by decide) ?_
      have ev : (pu_cm J (pu_best I nM g0) f0 (r9 + 1)) = (pu_cm J (pu_best I nM g0) f0 r9) := (by rw [pu_cm, if_neg (by rw [((pu_b0 _).mp q1)]; decide)])
      rw [ev] at ihk
      exact ihk _
    · skip
      refine z_aload_n C dd_Q_common_26 rfl ?_
      refine z_iload_n C dd_Q_common_27 rfl ?_
      refine z_iload C dd_Q_common_28 rfl ?_
      refine iv_Q_183 (sk := fun r => .int r :: []) (zz_f B) C dd_Q_common_30 (cc_Q_bestAt l D dA B _ _ q _ _ _ hP0 g0 r9 nM hg9 (by omega) h12 W.fm) hP0.1 rfl rfl ⟨by decide, by decide⟩ (Nat.le_of_ble_eq_true rfl) ⟨by decide, by decide⟩ (fun _ => rfl) (fun v2_ h2_ n2_ p2_ => ?_)
      obtain ⟨e2_, f2_, rfl⟩ := p2_
      have e2z := e2_.symm
      have f2z := f2_.symm
      subst e2z
      subst f2z
      refine z_topi (y := pu_best I nM g0 r9) rfl ?_
      refine z_istore C dd_Q_common_33 rfl ?_
      refine z_iload_n C dd_Q_common_35 rfl ?_
      refine z_bipush (v := (-4)) C dd_Q_common_36 (by decide) ?_
      refine z_icmp_eq (tgt := 47) C dd_Q_common_38 (by decide) (fun q2 => ?_) (fun q2 => ?_)
      · skip
        refine z_iload C dd_Q_common_47 rfl ?_
        refine z_goto (tgt := 54) C dd_Q_common_49 (by decide) ?_
        refine z_istore_n C dd_Q_common_54 rfl ?_
        refine z_iincN C dd_Q_common_55 rfl rfl ?_
        refine z_goto (tgt := 6) C dd_Q_common_58 (by decide) ?_
        have ev : (pu_cm J (pu_best I nM g0) f0 (r9 + 1)) = (pu_best I nM g0 r9) := (by rw [pu_cm, if_pos (pu_bn1.mp q1), if_pos (Or.inl q2)])
        rw [ev] at ihk
        exact ihk _
      · skip
        refine z_iload_n C dd_Q_common_41 rfl ?_
        refine z_iload C dd_Q_common_42 rfl ?_
        refine z_icmp_ne (tgt := 52) C dd_Q_common_44 (by decide) (fun q3 => ?_) (fun q3 => ?_)
        · skip
          refine z_bipush (v := (-3)) C dd_Q_common_52 (by decide) ?_
          refine z_istore_n C dd_Q_common_54 rfl ?_
          refine z_iincN C dd_Q_common_55 rfl rfl ?_
          refine z_goto (tgt := 6) C dd_Q_common_58 (by decide) ?_
          have ev : (pu_cm J (pu_best I nM g0) f0 (r9 + 1)) = (-3) := (by rw [pu_cm, if_pos (pu_bn1.mp q1), if_neg (fun z => z.elim q2 q3)])
          rw [ev] at ihk
          exact ihk _
        · skip
          refine z_iload C dd_Q_common_47 rfl ?_
          refine z_goto (tgt := 54) C dd_Q_common_49 (by decide) ?_
          refine z_istore_n C dd_Q_common_54 rfl ?_
          refine z_iincN C dd_Q_common_55 rfl rfl ?_
          refine z_goto (tgt := 6) C dd_Q_common_58 (by decide) ?_
          have ev : (pu_cm J (pu_best I nM g0) f0 (r9 + 1)) = (pu_best I nM g0 r9) := (by rw [pu_cm, if_pos (pu_bn1.mp q1), if_pos (Or.inr q3)])
          rw [ev] at ihk
          exact ihk _
set_option maxRecDepth 20000 in
/-- common -/
theorem cc_Q_common (l : Launch) (D : va_G) (dA : Nat → ClassId) (B : Nat) (h : zz_H) (n : Nat) (q : Nat) (F : Nat → Int32) (I : Nat → Nat → Int32) (J : Nat → Nat → Int64) (hP0 : md_P dA F I J q h) (nc ng nM : Nat) (W : pu_W F I nc ng nM) (g0 ar f0 : Nat) (hg : g0 < ng) (har : I 1 g0 = nI ar) (ha : ar = 1 ∨ ar = 2) (hf0 : f0 < 50) : zz_M l D zz_cl (zz_ty dA) B zz_tb (zz_x B) yy_Q_common (Cond.code yy_Q_common bb_Q_common 6 (some FieldType.int)) rm_Q_common [.ref q, .int ((nI g0)), .int ((nI f0))] h n zz_mi (fun r h' n' => h' = h ∧ n' = n ∧ r = (pu_cm J (pu_best I nM g0) f0 (pu_R nc ar))) := by
  refine zz_ofW (zz_f B) [some (.ref q), some (.int ((nI g0))), some (.int ((nI f0))), none, none, none] (by decide) rfl rfl (Nat.le_of_ble_eq_true rfl) ?_
  intro p e s m below meth c C
  refine z_bipush (v := -4) C dd_Q_common_0 (by decide) ?_
  refine z_istore_n C dd_Q_common_2 rfl ?_
  refine z_iconst (v := nI 0) C dd_Q_common_3 (by decide) ?_
  refine z_istore C dd_Q_common_4 rfl ?_
  refine lp_Q_common C hP0 W hg har ha hf0 (fun o5 => ?_) (pu_R nc ar) 0 none (by omega)
  refine z_iload_n C dd_Q_common_61 rfl ?_
  exact z_iret C dd_Q_common_62 ⟨rfl, rfl, rfl⟩ (by decide) (by decide)
abbrev rm_Q_partingTest : Room := { frames := 5, cells := 0, slots := 0, locals := 120 }
set_option maxRecDepth 20000 in
theorem lpI_Q_partingTest {D : va_G} {dA : Nat → ClassId} {B : Nat} {p : Program} {l : Launch} {e : Env} {s : State} {m : MethodId} {args : Array Value} {below : List Frame} {meth : Method} {c : Code} {Q : State → Prop} {n : Nat} {nm : String} {ret9 : Option FieldType} {h : zz_H} (C : zz_C D zz_cl (zz_ty dA) B zz_tb (zz_x B) p s m args meth c bb_Q_partingTest RR_Q ret9 nm) {q : Nat} {F : Nat → Int32} {I : Nat → Nat → Int32} {J : Nat → Nat → Int64} (hP0 : md_P dA F I J q h) {nc ng nM : Nat} (W : pu_W F I nc ng nM) {g0 ar f0 : Nat} (hg : g0 < ng) (har : I 1 g0 = nI ar) (ha : ar = 1 ∨ ar = 2) (hf0 : f0 < 50) {t0 : Nat} (ht : t0 < 48) (kx : zz_W D zz_cl B p l e rm_Q_partingTest s m args below meth c Q h n 0 0 [some (.ref q), some (.int (nI g0)), some (.int (nI f0)), some (.int (nI t0)), some (.int (pu_b (pu_sm J f0 t0 1 (pu_R nc ar)))), some (.int (pu_b (pu_sm J f0 t0 0 (pu_R nc ar)))), some (.int (nI (pu_R nc ar)))] 118 []) :
    ∀ f r9, r9 + f = pu_R nc ar → zz_W D zz_cl B p l e rm_Q_partingTest s m args below meth c Q h n 0 0 [some (.ref q), some (.int (nI g0)), some (.int (nI f0)), some (.int (nI t0)), some (.int (pu_b (pu_sm J f0 t0 1 r9))), some (.int (pu_b (pu_sm J f0 t0 0 r9))), some (.int (nI r9))] 26 [] := by
  intro f
  have hP := md_rf hP0
  have hR := pu_R_le (nc := nc) (ar := ar) W.c8
  have h12 := W.m12
  have hg4 := W.g4
  have h1 := W.c1
  have h8 := W.c8
  have hg9 : g0 < 4 := by omega
  induction f with
  | zero =>
    intro r9 hf
    have hr9 : r9 = pu_R nc ar := by omega
    subst hr9
    refine z_iload C dd_Q_partingTest_26 rfl ?_
    refine z_aload_n C dd_Q_partingTest_28 rfl ?_
    refine z_iload_n C dd_Q_partingTest_29 rfl ?_
    refine iv_Q_153 (sk := fun r => .int r :: [.int ((nI (pu_R nc ar)))]) (zz_f B) C dd_Q_partingTest_30 (cn_Q_rows l D dA B _ _ q _ _ _ hP0 nc h1 h8 W.fc g0 ar hg9 har ha) hP0.1 rfl rfl ⟨by decide, by decide⟩ (Nat.le_of_ble_eq_true rfl) ⟨by decide, by decide⟩ (fun _ => rfl) (fun v1_ h1_ n1_ p1_ => ?_)
    obtain ⟨e1_, f1_, rfl⟩ := p1_
    have e1z := e1_.symm
    have f1z := f1_.symm
    subst e1z
    subst f1z
    exact z_icmp_ge (tgt := 118) C dd_Q_partingTest_33 (by decide) (fun _ => kx) (fun q10 => absurd (nI_le (Nat.le_refl _) (by omega)) q10)
  | succ f ih =>
    intro r9 hf
    refine z_iload C dd_Q_partingTest_26 rfl ?_
    refine z_aload_n C dd_Q_partingTest_28 rfl ?_
    refine z_iload_n C dd_Q_partingTest_29 rfl ?_
    refine iv_Q_153 (sk := fun r => .int r :: [.int ((nI r9))]) (zz_f B) C dd_Q_partingTest_30 (cn_Q_rows l D dA B _ _ q _ _ _ hP0 nc h1 h8 W.fc g0 ar hg9 har ha) hP0.1 rfl rfl ⟨by decide, by decide⟩ (Nat.le_of_ble_eq_true rfl) ⟨by decide, by decide⟩ (fun _ => rfl) (fun v1_ h1_ n1_ p1_ => ?_)
    obtain ⟨e1_, f1_, rfl⟩ := p1_
    have e1z := e1_.symm
    have f1z := f1_.symm
    subst e1z
    subst f1z
    refine z_icmp_ge (tgt := 118) C dd_Q_partingTest_33 (by decide) (fun q10 => absurd q10 (nI_ge (by omega) (by omega))) (fun _ => ?_)
    have k110 : ∀ v : Int32, v = pu_b (pu_sm J f0 t0 0 (r9 + 1)) → zz_W D zz_cl B p l e rm_Q_partingTest s m args below meth c Q h n 0 0 [some (.ref q), some (.int (nI g0)), some (.int (nI f0)), some (.int (nI t0)), some (.int (pu_b (pu_sm J f0 t0 1 (r9 + 1)))), some (.int (pu_b (pu_sm J f0 t0 0 r9))), some (.int (nI r9))] 110 [.int v] := by
      intro v hv
      subst hv
      refine z_istore C dd_Q_partingTest_110 rfl ?_
      refine z_iincN C dd_Q_partingTest_112 rfl rfl ?_
      refine z_goto (tgt := 26) C dd_Q_partingTest_115 (by decide) ?_
      exact ih (r9 + 1) (by omega)
    have k72 : ∀ v : Int32, v = pu_b (pu_sm J f0 t0 1 (r9 + 1)) → zz_W D zz_cl B p l e rm_Q_partingTest s m args below meth c Q h n 0 0 [some (.ref q), some (.int (nI g0)), some (.int (nI f0)), some (.int (nI t0)), some (.int (pu_b (pu_sm J f0 t0 1 r9))), some (.int (pu_b (pu_sm J f0 t0 0 r9))), some (.int (nI r9))] 72 [.int v] := by
      intro v hv
      subst hv
      refine z_istore C dd_Q_partingTest_72 rfl ?_
      refine z_iload C dd_Q_partingTest_74 rfl ?_
      refine z_if_ne (tgt := 105) C dd_Q_partingTest_76 (by decide) (fun q1 => ?_) (fun q1 => ?_)
      · skip
        refine z_iconst (v := 1) C dd_Q_partingTest_105 (by decide) ?_
        refine z_goto (tgt := 110) C dd_Q_partingTest_106 (by decide) ?_
        exact k110 _ (by rw [pu_sm_s]; simp [pu_b, (pu_bn1.mp q1)])
      · skip
        refine z_aload_n C dd_Q_partingTest_79 rfl ?_
        refine z_iload_n C dd_Q_partingTest_80 rfl ?_
        refine z_iload C dd_Q_partingTest_81 rfl ?_
        refine iv_Q_195 (sk := fun r => .int r :: []) (zz_f B) C dd_Q_partingTest_83 (cc_Q_inTree l D dA B _ _ q _ _ _ hP0 f0 r9 hf0 (by omega)) hP0.1 rfl rfl ⟨by decide, by decide⟩ (Nat.le_of_ble_eq_true rfl) ⟨by decide, by decide⟩ (fun _ => rfl) (fun v1_ h1_ n1_ p1_ => ?_)
        obtain ⟨e1_, f1_, rfl⟩ := p1_
        have e1z := e1_.symm
        have f1z := f1_.symm
        subst e1z
        subst f1z
        refine z_if_eq (tgt := 109) C dd_Q_partingTest_86 (by decide) (fun q2 => ?_) (fun q2 => ?_)
        · skip
          refine z_iconst (v := 0) C dd_Q_partingTest_109 (by decide) ?_
          exact k110 _ (by rw [pu_sm_s]; simp [pu_b, ((pu_b0 _).mp q1), ((pu_b0 _).mp q2)])
        · skip
          refine z_aload_n C dd_Q_partingTest_89 rfl ?_
          refine gf_Q_81 (v := .ref (q + 1 + 22)) C dd_Q_partingTest_90 hP.1.1 rfl ?_
          refine z_iload C dd_Q_partingTest_93 rfl ?_
          refine z_lald (t0 := 1) (N := 4096) (f := (J 22)) C rfl dd_Q_partingTest_95 (hP.1.2 22 (by decide)) (vp_in_nI (by omega) (by decide)) ?_
          refine z_topl (y := ((J 22) r9)) (by rw [nI_clamp (by omega)]) ?_
          refine z_iload_n C dd_Q_partingTest_96 rfl ?_
          refine z_lshr C dd_Q_partingTest_97 ?_
          refine z_lconst (v := 1) C dd_Q_partingTest_98 (by decide) ?_
          refine z_land C dd_Q_partingTest_99 ?_
          refine z_lconst (v := 0) C dd_Q_partingTest_100 (by decide) ?_
          refine z_lcmp C dd_Q_partingTest_101 ?_
          refine z_if_ne (tgt := 109) C dd_Q_partingTest_102 (by decide) (fun q3 => ?_) (fun q3 => ?_)
          · skip
            refine z_iconst (v := 0) C dd_Q_partingTest_109 (by decide) ?_
            have z9 : ¬ (pu_lb (J 22 r9) t0 = 0) := fun z => q3 ((pu_lcmp _ _).mpr z)
            exact k110 _ (by rw [pu_sm_s]; simp [pu_b, ((pu_b0 _).mp q1), (pu_bn1.mp q2), z9])
          · skip
            refine z_iconst (v := 1) C dd_Q_partingTest_105 (by decide) ?_
            refine z_goto (tgt := 110) C dd_Q_partingTest_106 (by decide) ?_
            have z9 : (pu_lb (J 22 r9) t0 = 0) := (pu_lcmp _ _).mp q3
            exact k110 _ (by rw [pu_sm_s]; simp [pu_b, ((pu_b0 _).mp q1), (pu_bn1.mp q2), z9])
    refine z_iload C dd_Q_partingTest_36 rfl ?_
    refine z_if_ne (tgt := 67) C dd_Q_partingTest_38 (by decide) (fun q1 => ?_) (fun q1 => ?_)
    · skip
      refine z_iconst (v := 1) C dd_Q_partingTest_67 (by decide) ?_
      refine z_goto (tgt := 72) C dd_Q_partingTest_68 (by decide) ?_
      exact k72 _ (by rw [pu_sm_s]; simp [pu_b, (pu_bn1.mp q1)])
    · skip
      refine z_aload_n C dd_Q_partingTest_41 rfl ?_
      refine z_iload_n C dd_Q_partingTest_42 rfl ?_
      refine z_iload C dd_Q_partingTest_43 rfl ?_
      refine iv_Q_195 (sk := fun r => .int r :: []) (zz_f B) C dd_Q_partingTest_45 (cc_Q_inTree l D dA B _ _ q _ _ _ hP0 f0 r9 hf0 (by omega)) hP0.1 rfl rfl ⟨by decide, by decide⟩ (Nat.le_of_ble_eq_true rfl) ⟨by decide, by decide⟩ (fun _ => rfl) (fun v1_ h1_ n1_ p1_ => ?_)
      obtain ⟨e1_, f1_, rfl⟩ := p1_
      have e1z := e1_.symm
      have f1z := f1_.symm
      subst e1z
      subst f1z
      refine z_if_eq (tgt := 71) C dd_Q_partingTest_48 (by decide) (fun q2 => ?_) (fun q2 => ?_)
      · skip
        refine z_iconst (v := 0) C dd_Q_partingTest_71 (by decide) ?_
        exact k72 _ (by rw [pu_sm_s]; simp [pu_b, ((pu_b0 _).mp q1), ((pu_b0 _).mp q2)])
      · skip
        refine z_aload_n C dd_Q_partingTest_51 rfl ?_
        refine gf_Q_81 (v := .ref (q + 1 + 22)) C dd_Q_partingTest_52 hP.1.1 rfl ?_
        refine z_iload C dd_Q_partingTest_55 rfl ?_
        refine z_lald (t0 := 1) (N := 4096) (f := (J 22)) C rfl dd_Q_partingTest_57 (hP.1.2 22 (by decide)) (vp_in_nI (by omega) (by decide)) ?_
        refine z_topl (y := ((J 22) r9)) (by rw [nI_clamp (by omega)]) ?_
        refine z_iload_n C dd_Q_partingTest_58 rfl ?_
        refine z_lshr C dd_Q_partingTest_59 ?_
        refine z_lconst (v := 1) C dd_Q_partingTest_60 (by decide) ?_
        refine z_land C dd_Q_partingTest_61 ?_
        refine z_lconst (v := 1) C dd_Q_partingTest_62 (by decide) ?_
        refine z_lcmp C dd_Q_partingTest_63 ?_
        refine z_if_ne (tgt := 71) C dd_Q_partingTest_64 (by decide) (fun q3 => ?_) (fun q3 => ?_)
        · skip
          refine z_iconst (v := 0) C dd_Q_partingTest_71 (by decide) ?_
          have z9 : ¬ (pu_lb (J 22 r9) t0 = 1) := fun z => q3 ((pu_lcmp _ _).mpr z)
          exact k72 _ (by rw [pu_sm_s]; simp [pu_b, ((pu_b0 _).mp q1), (pu_bn1.mp q2), z9])
        · skip
          refine z_iconst (v := 1) C dd_Q_partingTest_67 (by decide) ?_
          refine z_goto (tgt := 72) C dd_Q_partingTest_68 (by decide) ?_
          have z9 : (pu_lb (J 22 r9) t0 = 1) := (pu_lcmp _ _).mp q3
          exact k72 _ (by rw [pu_sm_s]; simp [pu_b, ((pu_b0 _).mp q1), (pu_bn1.mp q2), z9])
set_option maxRecDepth 20000 in
theorem lpO_Q_partingTest {D : va_G} {dA : Nat → ClassId} {B : Nat} {p : Program} {l : Launch} {e : Env} {s : State} {m : MethodId} {args : Array Value} {below : List Frame} {meth : Method} {c : Code} {Q : State → Prop} {n : Nat} {nm : String} {ret9 : Option FieldType} {h : zz_H} (C : zz_C D zz_cl (zz_ty dA) B zz_tb (zz_x B) p s m args meth c bb_Q_partingTest RR_Q ret9 nm) {q : Nat} {F : Nat → Int32} {I : Nat → Nat → Int32} {J : Nat → Nat → Int64} (hP0 : md_P dA F I J q h) {nc ng nM : Nat} (W : pu_W F I nc ng nM) {g0 ar f0 : Nat} (hg : g0 < ng) (har : I 1 g0 = nI ar) (ha : ar = 1 ∨ ar = 2) (hf0 : f0 < 50) {T fr : Nat} (hT : T ≤ 48) (eT : I 18 g0 = nI T) (kx0 : ∀ o3 o4 o5 o6, (∀ t, fr ≤ t → t < T → pu_sep J f0 (pu_R nc ar) t = false) → zz_W D zz_cl B p l e rm_Q_partingTest s m args below meth c Q h n 0 0 [some (.ref q), some (.int (nI g0)), some (.int (nI f0)), o3, o4, o5, o6] 136 []) (kx1 : ∀ t0 o4 o5 o6, fr ≤ t0 → t0 < T → pu_sep J f0 (pu_R nc ar) t0 = true → (∀ t, fr ≤ t → t < t0 → pu_sep J f0 (pu_R nc ar) t = false) → zz_W D zz_cl B p l e rm_Q_partingTest s m args below meth c Q h n 0 0 [some (.ref q), some (.int (nI g0)), some (.int (nI f0)), some (.int (nI t0)), o4, o5, o6] 128 []) :
    ∀ f t0 o4 o5 o6, t0 + f = T → fr ≤ t0 → (∀ t, fr ≤ t → t < t0 → pu_sep J f0 (pu_R nc ar) t = false) → zz_W D zz_cl B p l e rm_Q_partingTest s m args below meth c Q h n 0 0 [some (.ref q), some (.int (nI g0)), some (.int (nI f0)), some (.int (nI t0)), o4, o5, o6] 7 [] := by
  intro f
  have hP := md_rf hP0
  have hR := pu_R_le (nc := nc) (ar := ar) W.c8
  have h12 := W.m12
  have hg4 := W.g4
  have h1 := W.c1
  have h8 := W.c8
  have hg9 : g0 < 4 := by omega
  induction f with
  | zero =>
    intro t0 o4 o5 o6 hf hfr hv
    have hr9 : t0 = T := by omega
    subst hr9
    refine z_iload_n C dd_Q_partingTest_7 rfl ?_
    refine z_aload_n C dd_Q_partingTest_8 rfl ?_
    refine gf_Q_69 (v := .ref (q + 1 + 18)) C dd_Q_partingTest_9 hP.1.1 rfl ?_
    refine z_iload_n C dd_Q_partingTest_12 rfl ?_
    refine z_iald (t0 := 0) (N := 4) (f := (I 18)) C rfl dd_Q_partingTest_13 (hP.1.2 18 (by decide)) (vp_in_nI (by omega) (by decide)) ?_
    refine z_topi (y := nI t0) (by rw [nI_clamp (by omega)]; exact eT.symm) ?_
    exact z_icmp_ge (tgt := 136) C dd_Q_partingTest_14 (by decide) (fun _ => kx0 _ o4 o5 o6 hv) (fun q10 => absurd (nI_le (Nat.le_refl _) (by omega)) q10)
  | succ f ih =>
    intro t0 o4 o5 o6 hf hfr hv
    refine z_iload_n C dd_Q_partingTest_7 rfl ?_
    refine z_aload_n C dd_Q_partingTest_8 rfl ?_
    refine gf_Q_69 (v := .ref (q + 1 + 18)) C dd_Q_partingTest_9 hP.1.1 rfl ?_
    refine z_iload_n C dd_Q_partingTest_12 rfl ?_
    refine z_iald (t0 := 0) (N := 4) (f := (I 18)) C rfl dd_Q_partingTest_13 (hP.1.2 18 (by decide)) (vp_in_nI (by omega) (by decide)) ?_
    refine z_topi (y := nI T) (by rw [nI_clamp (by omega)]; exact eT.symm) ?_
    refine z_icmp_ge (tgt := 136) C dd_Q_partingTest_14 (by decide) (fun q10 => absurd q10 (nI_ge (by omega) (by omega))) (fun _ => ?_)
    have next : ∀ o4 o5 o6, pu_sep J f0 (pu_R nc ar) t0 = false → zz_W D zz_cl B p l e rm_Q_partingTest s m args below meth c Q h n 0 0 [some (.ref q), some (.int (nI g0)), some (.int (nI f0)), some (.int (nI t0)), o4, o5, o6] 130 [] := by
      intro o4 o5 o6 hno
      refine z_iincN C dd_Q_partingTest_130 rfl rfl ?_
      refine z_goto (tgt := 7) C dd_Q_partingTest_133 (by decide) ?_
      refine ih (t0 + 1) _ _ _ (by omega) (by omega) (fun t h1 h2 => ?_)
      rcases Nat.lt_or_ge t t0 with z | z
      · exact hv t h1 z
      · have e9 : t = t0 := by omega
        subst e9
        exact hno
    refine z_iconst (v := pu_b (pu_sm J f0 t0 1 0)) C dd_Q_partingTest_17 rfl ?_
    refine z_istore C dd_Q_partingTest_18 rfl ?_
    refine z_iconst (v := pu_b (pu_sm J f0 t0 0 0)) C dd_Q_partingTest_20 rfl ?_
    refine z_istore C dd_Q_partingTest_21 rfl ?_
    refine z_iconst (v := nI 0) C dd_Q_partingTest_23 (by decide) ?_
    refine z_istore C dd_Q_partingTest_24 rfl ?_
    refine lpI_Q_partingTest C hP0 W hg har ha hf0 (by omega : t0 < 48) ?_ (pu_R nc ar) 0 (by omega)
    refine z_iload C dd_Q_partingTest_118 rfl ?_
    refine z_if_eq (tgt := 130) C dd_Q_partingTest_120 (by decide) (fun q1 => ?_) (fun q1 => ?_)
    · skip
      exact next _ _ _ (by unfold pu_sep; simp [((pu_b0 _).mp q1)])
    · skip
      refine z_iload C dd_Q_partingTest_123 rfl ?_
      refine z_if_eq (tgt := 130) C dd_Q_partingTest_125 (by decide) (fun q2 => ?_) (fun q2 => ?_)
      · skip
        exact next _ _ _ (by unfold pu_sep; simp [(pu_bn1.mp q1), ((pu_b0 _).mp q2)])
      · skip
        exact kx1 t0 _ _ _ hfr (by omega) (by unfold pu_sep; simp [(pu_bn1.mp q1), (pu_bn1.mp q2)]) hv
set_option maxRecDepth 20000 in
/-- partingTest -/
theorem cc_Q_partingTest (l : Launch) (D : va_G) (dA : Nat → ClassId) (B : Nat) (h : zz_H) (n : Nat) (q : Nat) (F : Nat → Int32) (I : Nat → Nat → Int32) (J : Nat → Nat → Int64) (hP0 : md_P dA F I J q h) (nc ng nM : Nat) (W : pu_W F I nc ng nM) (g0 ar f0 : Nat) (hg : g0 < ng) (har : I 1 g0 = nI ar) (ha : ar = 1 ∨ ar = 2) (hf0 : f0 < 50) (T fr : Nat) (hT : T ≤ 48) (eT : I 18 g0 = nI T) (efr : I 25 f0 = nI fr) (hfr : fr ≤ T) : zz_M l D zz_cl (zz_ty dA) B zz_tb (zz_x B) yy_Q_partingTest (Cond.code yy_Q_partingTest bb_Q_partingTest 7 (some FieldType.int)) rm_Q_partingTest [.ref q, .int ((nI g0)), .int ((nI f0))] h n zz_mi (fun r h' n' => h' = h ∧ n' = n ∧ (((∀ t, fr ≤ t → t < T → pu_sep J f0 (pu_R nc ar) t = false) ∧ r = -1) ∨ (∃ t0, fr ≤ t0 ∧ t0 < T ∧ pu_sep J f0 (pu_R nc ar) t0 = true ∧ (∀ t, fr ≤ t → t < t0 → pu_sep J f0 (pu_R nc ar) t = false) ∧ r = nI t0))) := by
  refine zz_ofW (zz_f B) [some (.ref q), some (.int ((nI g0))), some (.int ((nI f0))), none, none, none, none] (by decide) rfl rfl (Nat.le_of_ble_eq_true rfl) ?_
  intro p e s m below meth c C
  have hP := md_rf hP0
  refine z_aload_n C dd_Q_partingTest_0 rfl ?_
  refine gf_Q_91 (v := .ref (q + 1 + 25)) C dd_Q_partingTest_1 hP.1.1 rfl ?_
  refine z_iload_n C dd_Q_partingTest_4 rfl ?_
  refine z_iald (t0 := 0) (N := 50) (f := (I 25)) C rfl dd_Q_partingTest_5 (hP.1.2 25 (by decide)) (vp_in_nI (by omega) (by decide)) ?_
  refine z_topi (y := nI fr) (by rw [nI_clamp (by omega)]; exact efr.symm) ?_
  refine z_istore_n C dd_Q_partingTest_6 rfl ?_
  refine lpO_Q_partingTest C hP0 W hg har ha hf0 hT eT (fr := fr) (fun o3 o4 o5 o6 hv => ?_) (fun t0 o4 o5 o6 h1 h2 h3 h4 => ?_) (T - fr) fr none none none (by omega) (Nat.le_refl _) (fun t h1 h2 => absurd h2 (by omega))
  · refine z_iconst (v := -1) C dd_Q_partingTest_136 (by decide) ?_
    exact z_iret C dd_Q_partingTest_137 ⟨rfl, rfl, Or.inl ⟨hv, rfl⟩⟩ (by decide) (by decide)
  · refine z_iload_n C dd_Q_partingTest_128 rfl ?_
    exact z_iret C dd_Q_partingTest_129 ⟨rfl, rfl, Or.inr ⟨t0, h1, h2, h3, h4, rfl⟩⟩ (by decide) (by decide)
