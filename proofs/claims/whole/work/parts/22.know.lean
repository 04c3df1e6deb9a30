/-! what stands in the reference's memory: nc classes, ng generics, nM methods -/
def pu_W (F : Nat → Int32) (I : Nat → Nat → Int32) (nc ng nM : Nat) : Prop := (1 ≤ nc) ∧ (nc ≤ 8) ∧ (F 1 = nI nc) ∧ (ng ≤ 4) ∧ (F 3 = nI ng) ∧ (nM ≤ 12) ∧ (F 5 = nI nM) ∧ (pu_wp (I 0) nc) ∧ (∀ g, g < ng → ∃ a, (a = 1 ∨ a = 2) ∧ I 1 g = nI a) ∧ (∀ m, m < nM → ∃ g, g < ng ∧ I 2 m = nI g) ∧ (∀ m, m < nM → ∃ a, a ≤ 4 ∧ I 3 m = nI a ∧ ∀ j, j < a → pu_wa I (4 * m + j))
theorem pu_W.c1 {F : Nat → Int32} {I : Nat → Nat → Int32} {nc ng nM : Nat} (W : pu_W F I nc ng nM) : 1 ≤ nc := W.1
theorem pu_W.c8 {F : Nat → Int32} {I : Nat → Nat → Int32} {nc ng nM : Nat} (W : pu_W F I nc ng nM) : nc ≤ 8 := W.2.1
theorem pu_W.fc {F : Nat → Int32} {I : Nat → Nat → Int32} {nc ng nM : Nat} (W : pu_W F I nc ng nM) : F 1 = nI nc := W.2.2.1
theorem pu_W.g4 {F : Nat → Int32} {I : Nat → Nat → Int32} {nc ng nM : Nat} (W : pu_W F I nc ng nM) : ng ≤ 4 := W.2.2.2.1
theorem pu_W.fg {F : Nat → Int32} {I : Nat → Nat → Int32} {nc ng nM : Nat} (W : pu_W F I nc ng nM) : F 3 = nI ng := W.2.2.2.2.1
theorem pu_W.m12 {F : Nat → Int32} {I : Nat → Nat → Int32} {nc ng nM : Nat} (W : pu_W F I nc ng nM) : nM ≤ 12 := W.2.2.2.2.2.1
theorem pu_W.fm {F : Nat → Int32} {I : Nat → Nat → Int32} {nc ng nM : Nat} (W : pu_W F I nc ng nM) : F 5 = nI nM := W.2.2.2.2.2.2.1
theorem pu_W.par {F : Nat → Int32} {I : Nat → Nat → Int32} {nc ng nM : Nat} (W : pu_W F I nc ng nM) : pu_wp (I 0) nc := W.2.2.2.2.2.2.2.1
theorem pu_W.ar {F : Nat → Int32} {I : Nat → Nat → Int32} {nc ng nM : Nat} (W : pu_W F I nc ng nM) : ∀ g, g < ng → ∃ a, (a = 1 ∨ a = 2) ∧ I 1 g = nI a := W.2.2.2.2.2.2.2.2.1
theorem pu_W.own {F : Nat → Int32} {I : Nat → Nat → Int32} {nc ng nM : Nat} (W : pu_W F I nc ng nM) : ∀ m, m < nM → ∃ g, g < ng ∧ I 2 m = nI g := W.2.2.2.2.2.2.2.2.2.1
theorem pu_W.ats {F : Nat → Int32} {I : Nat → Nat → Int32} {nc ng nM : Nat} (W : pu_W F I nc ng nM) : ∀ m, m < nM → ∃ a, a ≤ 4 ∧ I 3 m = nI a ∧ ∀ j, j < a → pu_wa I (4 * m + j) := W.2.2.2.2.2.2.2.2.2.2
theorem pu_W_cg {F : Nat → Int32} {I I' : Nat → Nat → Int32} {nc ng nM : Nat} (W : pu_W F I nc ng nM) (e : ∀ k, k < 8 → I' k = I k) : pu_W F I' nc ng nM := by
  obtain ⟨a1, a2, a3, a4, a5, a6, a7, a8, a9, b1, b2⟩ := W
  refine ⟨a1, a2, a3, a4, a5, a6, a7, ?_, ?_, ?_, ?_⟩
  · rw [e 0 (by decide)]; exact a8
  · rw [e 1 (by decide)]; exact a9
  · rw [e 2 (by decide)]; exact b1
  · intro m hm
    obtain ⟨a, h1, h2, h3⟩ := b2 m hm
    refine ⟨a, h1, by rw [e 3 (by decide)]; exact h2, fun j hj => ?_⟩
    have z := h3 j hj
    unfold pu_wa at z ⊢
    rw [e 4 (by decide), e 5 (by decide), e 6 (by decide), e 7 (by decide)]
    exact z
theorem pu_app_cg {I I' : Nat → Nat → Int32} (e : ∀ k, k < 8 → I' k = I k) (m p q : Nat) : pu_app I' m p q = pu_app I m p q := by
  unfold pu_app pu_at
  rw [e 0 (by decide), e 3 (by decide), e 4 (by decide), e 5 (by decide), e 6 (by decide), e 7 (by decide)]
/-! what know works out -/
def pu_ap (I : Nat → Nat → Int32) (nc g ar r m : Nat) : Bool := decide (I 2 m = nI g) && pu_app I m (pu_r1 nc ar r) (pu_r2 nc ar r)
def pu_A (I : Nat → Nat → Int32) (nc nM g ar r : Nat) : Int32 := pu_ms (pu_ap I nc g ar r) nM
def pu_bp (I : Nat → Nat → Int32) (nc nM g ar m k : Nat) : Bool := decide (I 2 k = nI g) && (!pu_pt (pu_A I nc nM g ar) m k (pu_R nc ar) && pu_pt (pu_A I nc nM g ar) k m (pu_R nc ar))
def pu_B (I : Nat → Nat → Int32) (nc nM g ar m : Nat) : Int32 := pu_ms (pu_bp I nc nM g ar m) nM
def pu_fill (X A : Nat → Int32) (b r : Nat) : Nat → Int32 := fun j => if b ≤ j ∧ j < b + r then A (j - b) else X j
def pu_fb (X A T : Nat → Int32) (g r : Nat) : Nat → Int32 := fun j => if j < r ∧ T j = nI g then A j else X j
theorem pu_ap_cg {I I' : Nat → Nat → Int32} (e : ∀ k, k < 8 → I' k = I k) (nc g ar r : Nat) : pu_ap I' nc g ar r = pu_ap I nc g ar r := by
  funext m
  unfold pu_ap
  rw [pu_app_cg e, e 2 (by decide)]
theorem pu_A_cg {I I' : Nat → Nat → Int32} (e : ∀ k, k < 8 → I' k = I k) (nc nM g ar : Nat) : pu_A I' nc nM g ar = pu_A I nc nM g ar := by
  funext r
  unfold pu_A
  rw [pu_ap_cg e]
theorem pu_bp_cg {I I' : Nat → Nat → Int32} (e : ∀ k, k < 8 → I' k = I k) (nc nM g ar m : Nat) : pu_bp I' nc nM g ar m = pu_bp I nc nM g ar m := by
  funext k
  unfold pu_bp
  rw [pu_A_cg e, e 2 (by decide)]
theorem pu_pt_cg {X Y : Nat → Int32} {R : Nat} (e : ∀ r, r < R → X r = Y r) (m k : Nat) : pu_pt X m k R = pu_pt Y m k R := by
  unfold pu_pt
  rw [Bool.eq_iff_iff, List.any_eq_true, List.any_eq_true]
  constructor
  · rintro ⟨r, h1, h2⟩
    exact ⟨r, h1, by rw [← e r (List.mem_range.mp h1)]; exact h2⟩
  · rintro ⟨r, h1, h2⟩
    exact ⟨r, h1, by rw [e r (List.mem_range.mp h1)]; exact h2⟩
theorem pu_r1_lt {nc ar r : Nat} (h : r < pu_R nc ar) : pu_r1 nc ar r < 8 * nc := by
  unfold pu_R at h
  unfold pu_r1
  split
  · rename_i e
    rw [if_pos e] at h
    exact h
  · rename_i e
    rw [if_neg e] at h
    exact Nat.div_lt_of_lt_mul h
theorem pu_r2_lt {nc ar r : Nat} (h1 : 1 ≤ nc) : pu_r2 nc ar r < 8 * nc := by
  unfold pu_r2
  split
  · omega
  · exact Nat.mod_lt _ (by omega)
theorem pu_bn1 {b : Bool} : ¬ pu_b b = 0 ↔ b = true := by cases b <;> decide
theorem md_ii {α : Type} (I : Nat → Nat → α) (k : Nat) (f g : Nat → α) : md_is (md_is I k f) k g = md_is I k g := by
  funext j
  unfold md_is
  split <;> rfl
theorem md_Ke {dA : Nat → ClassId} {F : Nat → Int32} {I I2 : Nat → Nat → Int32} {J : Nat → Nat → Int64} {q : Nat} {h0 h : zz_H} (hP : md_K dA F I J q h0 h) (e : I = I2) : md_K dA F I2 J q h0 h := e ▸ hP
theorem md_i8 {I : Nat → Nat → Int32} {j : Nat} {f : Nat → Int32} (hj : 8 ≤ j) (k : Nat) (hk : k < 8) : md_is I j f k = I k := by
  unfold md_is
  rw [if_neg (by omega)]
theorem pu_fill_s (X A : Nat → Int32) (b r : Nat) : upd (pu_fill X A b r) (b + r) (A r) = pu_fill X A b (r + 1) := by
  funext j
  by_cases e : j = b + r
  · subst e
    rw [pk_us]
    unfold pu_fill
    rw [if_pos (by omega)]
    congr 1
    omega
  · rw [pk_un e]
    unfold pu_fill
    by_cases c : b ≤ j ∧ j < b + r
    · rw [if_pos c, if_pos (by omega)]
    · rw [if_neg c, if_neg (by omega)]
theorem pu_fill_0 (X A : Nat → Int32) (b : Nat) : pu_fill X A b 0 = X := by
  funext j
  unfold pu_fill
  rw [if_neg (by omega)]
theorem pu_fb_0 (X A T : Nat → Int32) (g : Nat) : pu_fb X A T g 0 = X := by
  funext j
  unfold pu_fb
  rw [if_neg (by omega)]
theorem pu_fb_s {X A T : Nat → Int32} {g r : Nat} (ht : T r = nI g) : upd (pu_fb X A T g r) r (A r) = pu_fb X A T g (r + 1) := by
  funext j
  by_cases e : j = r
  · subst e
    rw [pk_us]
    unfold pu_fb
    rw [if_pos ⟨by omega, ht⟩]
  · rw [pk_un e]
    unfold pu_fb
    by_cases c : j < r ∧ T j = nI g
    · rw [if_pos c, if_pos ⟨by omega, c.2⟩]
    · rw [if_neg c, if_neg (fun z => c ⟨by omega, z.2⟩)]
theorem pu_fb_n {X A T : Nat → Int32} {g r : Nat} (ht : ¬ T r = nI g) : pu_fb X A T g r = pu_fb X A T g (r + 1) := by
  funext j
  unfold pu_fb
  by_cases c : j < r ∧ T j = nI g
  · rw [if_pos c, if_pos ⟨by omega, c.2⟩]
  · rw [if_neg c, if_neg (fun z => c ⟨by
      rcases Nat.lt_or_ge j r with h | h
      · exact h
      · have : j = r := by omega
        subst this
        exact absurd z.2 ht, z.2⟩)]
theorem upd_upd (f : Nat → Int32) (k : Nat) (x y : Int32) : upd (upd f k x) k y = upd f k y := by
  funext j
  by_cases e : j = k
  · subst e
    rw [pk_us, pk_us]
  · rw [pk_un e, pk_un e, pk_un e]
theorem md_id {I : Nat → Nat → Int32} {k : Nat} : md_is I k (I k) = I := by
  funext j
  unfold md_is
  split
  · rename_i e
    rw [e]
  · rfl
/-- the memory behind know -/
def pu_k1 (I : Nat → Nat → Int32) (g : Nat) : Nat → Nat → Int32 := md_is I 11 (upd (I 11) g 1)
def pu_k2 (I : Nat → Nat → Int32) (nc nM g ar : Nat) : Nat → Nat → Int32 := md_is (pu_k1 I g) 12 (pu_fill (I 12) (pu_A I nc nM g ar) (4096 * g) (pu_R nc ar))
def pu_k3 (I : Nat → Nat → Int32) (nc nM g ar : Nat) : Nat → Nat → Int32 := md_is (pu_k2 I nc nM g ar) 13 (pu_fb (I 13) (pu_B I nc nM g ar) (I 2) g nM)
def pu_know (I : Nat → Nat → Int32) (nc nM g ar : Nat) : Nat → Nat → Int32 := if I 11 g = 0 then pu_k3 I nc nM g ar else I
abbrev rm_Q_know : Room := { frames := 8, cells := 0, slots := 0, locals := 240 }
set_option maxRecDepth 20000 in
theorem lpA_Q_know {D : va_G} {dA : Nat → ClassId} {B : Nat} {p : Program} {l : Launch} {e : Env} {s : State} {m : MethodId} {args : Array Value} {below : List Frame} {meth : Method} {c : Code} {Q : State → Prop} {n : Nat} {nm : String} {ret9 : Option FieldType} {h : zz_H} (C : zz_C D zz_cl (zz_ty dA) B zz_tb (zz_x B) p s m args meth c bb_Q_know RR_Q ret9 nm) {q : Nat} {F : Nat → Int32} {I : Nat → Nat → Int32} {J : Nat → Nat → Int64} (hP0 : md_P dA F I J q h) {nc ng nM : Nat} (W : pu_W F I nc ng nM) {g0 ar : Nat} (hg : g0 < ng) (har : I 1 g0 = nI ar) (ha : ar = 1 ∨ ar = 2) {r9 : Nat} (hr : r9 < pu_R nc ar) (kx : zz_W D zz_cl B p l e rm_Q_know s m args below meth c Q h n 0 0 [some (.ref q), some (.int (nI g0)), some (.int (nI r9)), some (.int (pu_A I nc nM g0 ar r9)), some (.int (nI nM))] 87 []) :
    ∀ f k, k + f = nM → zz_W D zz_cl B p l e rm_Q_know s m args below meth c Q h n 0 0 [some (.ref q), some (.int (nI g0)), some (.int (nI r9)), some (.int (pu_ms (pu_ap I nc g0 ar r9) k)), some (.int (nI k))] 33 [] := by
  intro f
  have hR := pu_R_le (nc := nc) (ar := ar) W.c8
  have h12 := W.m12
  have hg4 := W.g4
  have h1 := W.c1
  have h8 := W.c8
  have hg9 : g0 < 4 := by omega
  induction f with
  | zero =>
    intro k hf
    have hk : k = nM := by omega
    subst hk
    refine z_iload C dd_Q_know_33 rfl ?_
    refine z_aload_n C dd_Q_know_35 rfl ?_
    refine gf_Q_138 (v := .int (F 5)) C dd_Q_know_36 hP0.1 rfl ?_
    refine z_topi (y := nI k) W.fm.symm ?_
    exact z_icmp_ge (tgt := 87) C dd_Q_know_39 (by decide) (fun _ => kx) (fun q10 => absurd (nI_le (Nat.le_refl _) (by omega)) q10)
  | succ f ih =>
    intro k hf
    have ihk := ih (k + 1) (by omega)
    obtain ⟨na, hna, hI3, hwa⟩ := W.ats k (by omega)
    refine z_iload C dd_Q_know_33 rfl ?_
    refine z_aload_n C dd_Q_know_35 rfl ?_
    refine gf_Q_138 (v := .int (F 5)) C dd_Q_know_36 hP0.1 rfl ?_
    refine z_topi (y := nI nM) W.fm.symm ?_
    refine z_icmp_ge (tgt := 87) C dd_Q_know_39 (by decide) (fun q10 => absurd q10 (nI_ge (by omega) (by omega))) (fun _ => ?_)
    refine z_aload_n C dd_Q_know_42 rfl ?_
    refine gf_Q_20 (v := .ref (q + 1 + 2)) C dd_Q_know_43 (md_rf hP0).1.1 rfl ?_
    refine z_iload C dd_Q_know_46 rfl ?_
    refine z_iald (t0 := 0) (N := 12) (f := (I 2)) C rfl dd_Q_know_48 ((md_rf hP0).1.2 2 (by decide)) (vp_in_nI (by omega) (by decide)) ?_
    refine z_topi (y := ((I 2) k)) (by rw [nI_clamp (by omega)]) ?_
    refine z_iload_n C dd_Q_know_49 rfl ?_
    refine z_icmp_ne (tgt := 81) C dd_Q_know_50 (by decide) (fun q1 => ?_) (fun q1 => ?_)
    · skip
      have hc : ¬ (pu_ap I nc g0 ar r9 k = true) := by unfold pu_ap; simp [q1]
      refine z_iincN C dd_Q_know_81 rfl rfl ?_
      refine z_goto (tgt := 33) C dd_Q_know_84 (by decide) ?_
      rw [pu_ms, if_neg hc] at ihk
      exact ihk
    · skip
      refine z_aload_n C dd_Q_know_53 rfl ?_
      refine z_iload C dd_Q_know_54 rfl ?_
      refine z_aload_n C dd_Q_know_56 rfl ?_
      refine z_iload_n C dd_Q_know_57 rfl ?_
      refine z_iload_n C dd_Q_know_58 rfl ?_
      refine iv_Q_157 (sk := fun r => .int r :: [.int ((nI k)), .ref q]) (zz_f B) C dd_Q_know_59 (cn_Q_firstOf l D dA B _ _ q F I J hP0 nc h1 h8 W.fc g0 ar hg9 har ha r9 (by omega)) hP0.1 rfl rfl ⟨by decide, by decide⟩ (Nat.le_of_ble_eq_true rfl) ⟨by decide, by decide⟩ (fun _ => rfl) (fun v1_ h1_ n1_ p1_ => ?_)
      obtain ⟨e1_, f1_, rfl⟩ := p1_
      have e1z := e1_.symm
      have f1z := f1_.symm
      subst e1z
      subst f1z
      refine z_aload_n C dd_Q_know_62 rfl ?_
      refine z_iload_n C dd_Q_know_63 rfl ?_
      refine z_iload_n C dd_Q_know_64 rfl ?_
      refine iv_Q_161 (sk := fun r => .int r :: [.int ((nI (pu_r1 nc ar r9))), .int ((nI k)), .ref q]) (zz_f B) C dd_Q_know_65 (cn_Q_secondOf l D dA B _ _ q F I J hP0 nc h1 h8 W.fc g0 ar hg9 har ha r9 (by omega)) hP0.1 rfl rfl ⟨by decide, by decide⟩ (Nat.le_of_ble_eq_true rfl) ⟨by decide, by decide⟩ (fun _ => rfl) (fun v2_ h2_ n2_ p2_ => ?_)
      obtain ⟨e2_, f2_, rfl⟩ := p2_
      have e2z := e2_.symm
      have f2z := f2_.symm
      subst e2z
      subst f2z
      refine iv_Q_164 (sk := fun r => .int r :: []) (zz_f B) C dd_Q_know_68 (cc_Q_applies l D dA B _ _ q F I J hP0 k (pu_r1 nc ar r9) (pu_r2 nc ar r9) nc na (by omega) hna hI3 h8 (pu_r1_lt hr) (pu_r2_lt h1) W.par hwa) hP0.1 rfl rfl ⟨by decide, by decide⟩ (Nat.le_of_ble_eq_true rfl) ⟨by decide, by decide⟩ (fun _ => rfl) (fun v3_ h3_ n3_ p3_ => ?_)
      obtain ⟨e3_, f3_, rfl⟩ := p3_
      have e3z := e3_.symm
      have f3z := f3_.symm
      subst e3z
      subst f3z
      refine z_if_eq (tgt := 81) C dd_Q_know_71 (by decide) (fun q2 => ?_) (fun q2 => ?_)
      · skip
        have hc : ¬ (pu_ap I nc g0 ar r9 k = true) := by unfold pu_ap; simp [(pu_b0 _).mp q2]
        refine z_iincN C dd_Q_know_81 rfl rfl ?_
        refine z_goto (tgt := 33) C dd_Q_know_84 (by decide) ?_
        rw [pu_ms, if_neg hc] at ihk
        exact ihk
      · skip
        refine z_iload_n C dd_Q_know_74 rfl ?_
        refine z_iconst (v := 1) C dd_Q_know_75 (by decide) ?_
        refine z_iload C dd_Q_know_76 rfl ?_
        refine z_ishl C dd_Q_know_78 ?_
        refine z_ior C dd_Q_know_79 ?_
        refine z_istore_n C dd_Q_know_80 rfl ?_
        have hc : (pu_ap I nc g0 ar r9 k = true) := by unfold pu_ap; simp [q1, pu_bn1.mp q2]
        refine z_iincN C dd_Q_know_81 rfl rfl ?_
        refine z_goto (tgt := 33) C dd_Q_know_84 (by decide) ?_
        rw [pu_ms, if_pos hc] at ihk
        exact ihk
set_option maxRecDepth 20000 in
theorem lpB_Q_know {D : va_G} {dA : Nat → ClassId} {B : Nat} {p : Program} {l : Launch} {e : Env} {s : State} {m : MethodId} {args : Array Value} {below : List Frame} {meth : Method} {c : Code} {Q : State → Prop} {n : Nat} {nm : String} {ret9 : Option FieldType} {h : zz_H} (C : zz_C D zz_cl (zz_ty dA) B zz_tb (zz_x B) p s m args meth c bb_Q_know RR_Q ret9 nm) {q : Nat} {F : Nat → Int32} {I : Nat → Nat → Int32} {J : Nat → Nat → Int64} {nc ng nM : Nat} (W : pu_W F I nc ng nM) {g0 ar : Nat} (hg : g0 < ng) (har : I 1 g0 = nI ar) (ha : ar = 1 ∨ ar = 2) (kx : ∀ h9 o3 o4, md_K dA F (md_is I 12 (pu_fill (I 12) (pu_A I nc nM g0 ar) (4096 * g0) (pu_R nc ar))) J q h h9 → zz_W D zz_cl B p l e rm_Q_know s m args below meth c Q h9 n 0 0 [some (.ref q), some (.int (nI g0)), some (.int (nI (pu_R nc ar))), o3, o4] 106 []) :
    ∀ f r9 h9 o3 o4, r9 + f = pu_R nc ar → md_K dA F (md_is I 12 (pu_fill (I 12) (pu_A I nc nM g0 ar) (4096 * g0) r9)) J q h h9 → zz_W D zz_cl B p l e rm_Q_know s m args below meth c Q h9 n 0 0 [some (.ref q), some (.int (nI g0)), some (.int (nI r9)), o3, o4] 19 [] := by
  intro f
  have hR := pu_R_le (nc := nc) (ar := ar) W.c8
  have h12 := W.m12
  have hg4 := W.g4
  have h1 := W.c1
  have h8 := W.c8
  have hg9 : g0 < 4 := by omega
  induction f with
  | zero =>
    intro r9 h9 o3 o4 hf hP
    have hr9 : r9 = pu_R nc ar := by omega
    subst hr9
    refine z_iload_n C dd_Q_know_19 rfl ?_
    refine z_aload_n C dd_Q_know_20 rfl ?_
    refine z_iload_n C dd_Q_know_21 rfl ?_
    refine iv_Q_153 (sk := fun r => .int r :: [.int (nI (pu_R nc ar))]) (zz_f B) C dd_Q_know_22 (cn_Q_rows l D dA B _ _ q F _ J hP.1 nc h1 h8 W.fc g0 ar hg9 har ha) hP.1.1 rfl rfl ⟨by decide, by decide⟩ (Nat.le_of_ble_eq_true rfl) ⟨by decide, by decide⟩ (fun _ => rfl) (fun v1_ h1_ n1_ p1_ => ?_)
    obtain ⟨e1_, f1_, rfl⟩ := p1_
    have e1z := e1_.symm
    have f1z := f1_.symm
    subst e1z
    subst f1z
    exact z_icmp_ge (tgt := 106) C dd_Q_know_25 (by decide) (fun _ => kx _ o3 o4 hP) (fun q10 => absurd (nI_le (Nat.le_refl _) (by omega)) q10)
  | succ f ih =>
    intro r9 h9 o3 o4 hf hP
    refine z_iload_n C dd_Q_know_19 rfl ?_
    refine z_aload_n C dd_Q_know_20 rfl ?_
    refine z_iload_n C dd_Q_know_21 rfl ?_
    refine iv_Q_153 (sk := fun r => .int r :: [.int (nI r9)]) (zz_f B) C dd_Q_know_22 (cn_Q_rows l D dA B _ _ q F _ J hP.1 nc h1 h8 W.fc g0 ar hg9 har ha) hP.1.1 rfl rfl ⟨by decide, by decide⟩ (Nat.le_of_ble_eq_true rfl) ⟨by decide, by decide⟩ (fun _ => rfl) (fun v1_ h1_ n1_ p1_ => ?_)
    obtain ⟨e1_, f1_, rfl⟩ := p1_
    have e1z := e1_.symm
    have f1z := f1_.symm
    subst e1z
    subst f1z
    refine z_icmp_ge (tgt := 106) C dd_Q_know_25 (by decide) (fun q10 => absurd q10 (nI_ge (by omega) (by omega))) (fun _ => ?_)
    refine z_iconst (v := 0) C dd_Q_know_28 (by decide) ?_
    refine z_istore_n C dd_Q_know_29 rfl ?_
    refine z_iconst (v := nI 0) C dd_Q_know_30 (by decide) ?_
    refine z_istore C dd_Q_know_31 rfl ?_
    refine lpA_Q_know C hP.1 (pu_W_cg W (md_i8 (by decide))) hg har ha (by omega : r9 < pu_R nc ar) ?_ nM 0 (by omega)
    rw [pu_A_cg (I' := (md_is I 12 (pu_fill (I 12) (pu_A I nc nM g0 ar) (4096 * g0) r9))) (I := I) (md_i8 (by decide))]
    refine z_aload_n C dd_Q_know_87 rfl ?_
    refine gf_Q_51 (v := .ref (q + 1 + 12)) C dd_Q_know_88 hP.1.1 rfl ?_
    refine z_sipush (v := 4096) C dd_Q_know_91 (by decide) ?_
    refine z_iload_n C dd_Q_know_94 rfl ?_
    refine z_imul C dd_Q_know_95 ?_
    refine z_topi (y := nI (4096 * g0)) (by first | exact (pk_mul _ _).symm | (rw [← pk_mul]; rfl)) ?_
    refine z_iload_n C dd_Q_know_96 rfl ?_
    refine z_iadd C dd_Q_know_97 ?_
    refine z_topi (y := nI ((4096 * g0) + r9)) (by first | exact (nI_add _ _).symm | (rw [← nI_add]; rfl)) ?_
    refine z_iload_n C dd_Q_know_98 rfl ?_
    refine z_iast (t0 := 0) (N := 16384) (f := (pu_fill (I 12) (pu_A I nc nM g0 ar) (4096 * g0) r9)) C rfl dd_Q_know_99 (hP.1.2 12 (by decide)) (vp_in_nI (by omega) (by decide)) ?_
    refine z_cut (md_K dA F (md_is (md_is I 12 (pu_fill (I 12) (pu_A I nc nM g0 ar) (4096 * g0) r9)) 12 (upd (pu_fill (I 12) (pu_A I nc nM g0 ar) (4096 * g0) r9) (Int32.toNatClampNeg (nI ((4096 * g0) + r9))) (pu_A I nc nM g0 ar r9))) J q h) (md_wI hP 12 (by decide) rfl) rfl rfl rfl (fun h1_ hP1_ => ?_)
    refine z_iincN C dd_Q_know_100 rfl rfl ?_
    refine z_goto (tgt := 19) C dd_Q_know_103 (by decide) ?_
    exact ih (r9 + 1) _ _ _ (by omega) (md_Ke hP1_ (by rw [md_ii, nI_clamp (by omega), pu_fill_s]))
set_option maxRecDepth 20000 in
theorem lpD_Q_know {D : va_G} {dA : Nat → ClassId} {B : Nat} {p : Program} {l : Launch} {e : Env} {s : State} {m : MethodId} {args : Array Value} {below : List Frame} {meth : Method} {c : Code} {Q : State → Prop} {n : Nat} {nm : String} {ret9 : Option FieldType} {h : zz_H} (C : zz_C D zz_cl (zz_ty dA) B zz_tb (zz_x B) p s m args meth c bb_Q_know RR_Q ret9 nm) {q : Nat} {F : Nat → Int32} {I : Nat → Nat → Int32} {J : Nat → Nat → Int64} {nc ng nM : Nat} (W : pu_W F I nc ng nM) {g0 ar : Nat} (hg : g0 < ng) (har : I 1 g0 = nI ar) (ha : ar = 1 ∨ ar = 2) (hA : ∀ r, r < pu_R nc ar → I 12 (4096 * g0 + r) = pu_A I nc nM g0 ar r) {m0 : Nat} (hm : m0 < nM) (ho : I 2 m0 = nI g0) (kx : ∀ h9 o3 o4, md_K dA F (md_is I 13 (upd (pu_fb (I 13) (pu_B I nc nM g0 ar) (I 2) g0 m0) m0 (pu_ms (pu_bp I nc nM g0 ar m0) nM))) J q h h9 → zz_W D zz_cl B p l e rm_Q_know s m args below meth c Q h9 n 0 0 [some (.ref q), some (.int (nI g0)), some (.int (nI m0)), o3, o4] 205 []) :
    ∀ f k h9 o4, k + f = nM → md_K dA F (md_is I 13 (upd (pu_fb (I 13) (pu_B I nc nM g0 ar) (I 2) g0 m0) m0 (pu_ms (pu_bp I nc nM g0 ar m0) k))) J q h h9 → zz_W D zz_cl B p l e rm_Q_know s m args below meth c Q h9 n 0 0 [some (.ref q), some (.int (nI g0)), some (.int (nI m0)), some (.int (nI k)), o4] 135 [] := by
  intro f
  have h12 := W.m12
  have hg4 := W.g4
  have h1 := W.c1
  have h8 := W.c8
  have hg9 : g0 < 4 := by omega
  induction f with
  | zero =>
    intro k h9 o4 hf hP
    have hk : k = nM := by omega
    subst hk
    refine z_iload_n C dd_Q_know_135 rfl ?_
    refine z_aload_n C dd_Q_know_136 rfl ?_
    refine gf_Q_138 (v := .int (F 5)) C dd_Q_know_137 hP.1.1 rfl ?_
    refine z_topi (y := nI k) W.fm.symm ?_
    exact z_icmp_ge (tgt := 205) C dd_Q_know_140 (by decide) (fun _ => kx _ _ _ hP) (fun q10 => absurd (nI_le (Nat.le_refl _) (by omega)) q10)
  | succ f ih =>
    intro k h9 o4 hf hP
    have ep : ∀ a b, pu_pt (fun r => (md_is I 13 (upd (pu_fb (I 13) (pu_B I nc nM g0 ar) (I 2) g0 m0) m0 (pu_ms (pu_bp I nc nM g0 ar m0) k))) 12 (4096 * g0 + r)) a b (pu_R nc ar) = pu_pt (pu_A I nc nM g0 ar) a b (pu_R nc ar) := fun a b => pu_pt_cg (fun r hr => hA r hr) a b
    refine z_iload_n C dd_Q_know_135 rfl ?_
    refine z_aload_n C dd_Q_know_136 rfl ?_
    refine gf_Q_138 (v := .int (F 5)) C dd_Q_know_137 hP.1.1 rfl ?_
    refine z_topi (y := nI nM) W.fm.symm ?_
    refine z_icmp_ge (tgt := 205) C dd_Q_know_140 (by decide) (fun q10 => absurd q10 (nI_ge (by omega) (by omega))) (fun _ => ?_)
    refine z_aload_n C dd_Q_know_143 rfl ?_
    refine gf_Q_20 (v := .ref (q + 1 + 2)) C dd_Q_know_144 hP.1.1 rfl ?_
    refine z_iload_n C dd_Q_know_147 rfl ?_
    refine z_iald (t0 := 0) (N := 12) (f := (I 2)) C rfl dd_Q_know_148 (hP.1.2 2 (by decide)) (vp_in_nI (by omega) (by decide)) ?_
    refine z_topi (y := ((I 2) m0)) (by rw [nI_clamp (by omega)]) ?_
    refine z_iload_n C dd_Q_know_149 rfl ?_
    refine z_icmp_ne (tgt := 205) C dd_Q_know_150 (by decide) (fun q1 => absurd ho q1) (fun q1 => ?_)
    refine z_aload_n C dd_Q_know_153 rfl ?_
    refine gf_Q_20 (v := .ref (q + 1 + 2)) C dd_Q_know_154 hP.1.1 rfl ?_
    refine z_iload_n C dd_Q_know_157 rfl ?_
    refine z_iald (t0 := 0) (N := 12) (f := (I 2)) C rfl dd_Q_know_158 (hP.1.2 2 (by decide)) (vp_in_nI (by omega) (by decide)) ?_
    refine z_topi (y := ((I 2) k)) (by rw [nI_clamp (by omega)]) ?_
    refine z_iload_n C dd_Q_know_159 rfl ?_
    refine z_icmp_ne (tgt := 199) C dd_Q_know_160 (by decide) (fun q2 => ?_) (fun q2 => ?_)
    · skip
      have hc : ¬ (pu_bp I nc nM g0 ar m0 k = true) := by unfold pu_bp; simp [q2]
      refine z_iincN C dd_Q_know_199 rfl rfl ?_
      refine z_goto (tgt := 135) C dd_Q_know_202 (by decide) ?_
      exact ih (k + 1) _ _ (by omega) (by rw [pu_ms, if_neg hc]; exact hP)
    · skip
      refine z_aload_n C dd_Q_know_163 rfl ?_
      refine z_iload_n C dd_Q_know_164 rfl ?_
      refine z_iload_n C dd_Q_know_165 rfl ?_
      refine z_iload_n C dd_Q_know_166 rfl ?_
      refine iv_Q_167 (sk := fun r => .int r :: []) (zz_f B) C dd_Q_know_167 (cc_Q_parts l D dA B _ _ q F _ J hP.1 nc h1 h8 W.fc g0 ar hg9 har ha m0 k (by omega) (by omega)) hP.1.1 rfl rfl ⟨by decide, by decide⟩ (Nat.le_of_ble_eq_true rfl) ⟨by decide, by decide⟩ (fun _ => rfl) (fun v1_ h1_ n1_ p1_ => ?_)
      obtain ⟨e1_, f1_, rfl⟩ := p1_
      have e1z := e1_.symm
      have f1z := f1_.symm
      subst e1z
      subst f1z
      refine z_topi (y := pu_b (pu_pt (pu_A I nc nM g0 ar) m0 k (pu_R nc ar))) (congrArg pu_b (ep m0 k).symm) ?_
      refine z_if_ne (tgt := 199) C dd_Q_know_170 (by decide) (fun q3 => ?_) (fun q3 => ?_)
      · skip
        have hc : ¬ (pu_bp I nc nM g0 ar m0 k = true) := by unfold pu_bp; simp [pu_bn1.mp q3]
        refine z_iincN C dd_Q_know_199 rfl rfl ?_
        refine z_goto (tgt := 135) C dd_Q_know_202 (by decide) ?_
        exact ih (k + 1) _ _ (by omega) (by rw [pu_ms, if_neg hc]; exact hP)
      · skip
        refine z_aload_n C dd_Q_know_173 rfl ?_
        refine z_iload_n C dd_Q_know_174 rfl ?_
        refine z_iload_n C dd_Q_know_175 rfl ?_
        refine z_iload_n C dd_Q_know_176 rfl ?_
        refine iv_Q_167 (sk := fun r => .int r :: []) (zz_f B) C dd_Q_know_177 (cc_Q_parts l D dA B _ _ q F _ J hP.1 nc h1 h8 W.fc g0 ar hg9 har ha k m0 (by omega) (by omega)) hP.1.1 rfl rfl ⟨by decide, by decide⟩ (Nat.le_of_ble_eq_true rfl) ⟨by decide, by decide⟩ (fun _ => rfl) (fun v2_ h2_ n2_ p2_ => ?_)
        obtain ⟨e2_, f2_, rfl⟩ := p2_
        have e2z := e2_.symm
        have f2z := f2_.symm
        subst e2z
        subst f2z
        refine z_topi (y := pu_b (pu_pt (pu_A I nc nM g0 ar) k m0 (pu_R nc ar))) (congrArg pu_b (ep k m0).symm) ?_
        refine z_if_eq (tgt := 199) C dd_Q_know_180 (by decide) (fun q4 => ?_) (fun q4 => ?_)
        · skip
          have hc : ¬ (pu_bp I nc nM g0 ar m0 k = true) := by unfold pu_bp; simp [(pu_b0 _).mp q4]
          refine z_iincN C dd_Q_know_199 rfl rfl ?_
          refine z_goto (tgt := 135) C dd_Q_know_202 (by decide) ?_
          exact ih (k + 1) _ _ (by omega) (by rw [pu_ms, if_neg hc]; exact hP)
        · skip
          refine z_aload_n C dd_Q_know_183 rfl ?_
          refine gf_Q_54 (v := .ref (q + 1 + 13)) C dd_Q_know_184 hP.1.1 rfl ?_
          refine z_iload_n C dd_Q_know_187 rfl ?_
          refine z_aload_n C dd_Q_know_188 rfl ?_
          refine gf_Q_54 (v := .ref (q + 1 + 13)) C dd_Q_know_189 hP.1.1 rfl ?_
          refine z_iload_n C dd_Q_know_192 rfl ?_
          refine z_iald (t0 := 0) (N := 12) (f := (upd (pu_fb (I 13) (pu_B I nc nM g0 ar) (I 2) g0 m0) m0 (pu_ms (pu_bp I nc nM g0 ar m0) k))) C rfl dd_Q_know_193 (hP.1.2 13 (by decide)) (vp_in_nI (by omega) (by decide)) ?_
          refine z_topi (y := ((upd (pu_fb (I 13) (pu_B I nc nM g0 ar) (I 2) g0 m0) m0 (pu_ms (pu_bp I nc nM g0 ar m0) k)) m0)) (by rw [nI_clamp (by omega)]) ?_
          refine z_iconst (v := 1) C dd_Q_know_194 (by decide) ?_
          refine z_iload_n C dd_Q_know_195 rfl ?_
          refine z_ishl C dd_Q_know_196 ?_
          refine z_ior C dd_Q_know_197 ?_
          refine z_iast (t0 := 0) (N := 12) (f := (upd (pu_fb (I 13) (pu_B I nc nM g0 ar) (I 2) g0 m0) m0 (pu_ms (pu_bp I nc nM g0 ar m0) k))) C rfl dd_Q_know_198 (hP.1.2 13 (by decide)) (vp_in_nI (by omega) (by decide)) ?_
          refine z_cut (md_K dA F (md_is (md_is I 13 (upd (pu_fb (I 13) (pu_B I nc nM g0 ar) (I 2) g0 m0) m0 (pu_ms (pu_bp I nc nM g0 ar m0) k))) 13 (upd (upd (pu_fb (I 13) (pu_B I nc nM g0 ar) (I 2) g0 m0) m0 (pu_ms (pu_bp I nc nM g0 ar m0) k)) (Int32.toNatClampNeg (nI m0)) (((upd (pu_fb (I 13) (pu_B I nc nM g0 ar) (I 2) g0 m0) m0 (pu_ms (pu_bp I nc nM g0 ar m0) k)) m0) ||| (1 <<< ((nI k) &&& 31))))) J q h) (md_wI hP 13 (by decide) rfl) rfl rfl rfl (fun h1_ hP1_ => ?_)
          have hc : (pu_bp I nc nM g0 ar m0 k = true) := by unfold pu_bp; simp [q2, (pu_b0 _).mp q3, pu_bn1.mp q4]
          refine z_iincN C dd_Q_know_199 rfl rfl ?_
          refine z_goto (tgt := 135) C dd_Q_know_202 (by decide) ?_
          exact ih (k + 1) _ _ (by omega) (md_Ke hP1_ (by rw [md_ii, nI_clamp (by omega), upd_upd, pk_us, pu_ms, if_pos hc]))
set_option maxRecDepth 20000 in
theorem lpC_Q_know {D : va_G} {dA : Nat → ClassId} {B : Nat} {p : Program} {l : Launch} {e : Env} {s : State} {m : MethodId} {args : Array Value} {below : List Frame} {meth : Method} {c : Code} {Q : State → Prop} {n : Nat} {nm : String} {ret9 : Option FieldType} {h : zz_H} (C : zz_C D zz_cl (zz_ty dA) B zz_tb (zz_x B) p s m args meth c bb_Q_know RR_Q ret9 nm) {q : Nat} {F : Nat → Int32} {I : Nat → Nat → Int32} {J : Nat → Nat → Int64} {nc ng nM : Nat} (W : pu_W F I nc ng nM) {g0 ar : Nat} (hg : g0 < ng) (har : I 1 g0 = nI ar) (ha : ar = 1 ∨ ar = 2) (hA : ∀ r, r < pu_R nc ar → I 12 (4096 * g0 + r) = pu_A I nc nM g0 ar r) (kx : ∀ h9 o3 o4, md_K dA F (md_is I 13 (pu_fb (I 13) (pu_B I nc nM g0 ar) (I 2) g0 nM)) J q h h9 → zz_W D zz_cl B p l e rm_Q_know s m args below meth c Q h9 n 0 0 [some (.ref q), some (.int (nI g0)), some (.int (nI nM)), o3, o4] 211 []) :
    ∀ f m0 h9 o3 o4, m0 + f = nM → md_K dA F (md_is I 13 (pu_fb (I 13) (pu_B I nc nM g0 ar) (I 2) g0 m0)) J q h h9 → zz_W D zz_cl B p l e rm_Q_know s m args below meth c Q h9 n 0 0 [some (.ref q), some (.int (nI g0)), some (.int (nI m0)), o3, o4] 108 [] := by
  intro f
  have h12 := W.m12
  have hg4 := W.g4
  have hg9 : g0 < 4 := by omega
  induction f with
  | zero =>
    intro m0 h9 o3 o4 hf hP
    have hk : m0 = nM := by omega
    subst hk
    refine z_iload_n C dd_Q_know_108 rfl ?_
    refine z_aload_n C dd_Q_know_109 rfl ?_
    refine gf_Q_138 (v := .int (F 5)) C dd_Q_know_110 hP.1.1 rfl ?_
    refine z_topi (y := nI m0) W.fm.symm ?_
    exact z_icmp_ge (tgt := 211) C dd_Q_know_113 (by decide) (fun _ => kx _ _ _ hP) (fun q10 => absurd (nI_le (Nat.le_refl _) (by omega)) q10)
  | succ f ih =>
    intro m0 h9 o3 o4 hf hP
    refine z_iload_n C dd_Q_know_108 rfl ?_
    refine z_aload_n C dd_Q_know_109 rfl ?_
    refine gf_Q_138 (v := .int (F 5)) C dd_Q_know_110 hP.1.1 rfl ?_
    refine z_topi (y := nI nM) W.fm.symm ?_
    refine z_icmp_ge (tgt := 211) C dd_Q_know_113 (by decide) (fun q10 => absurd q10 (nI_ge (by omega) (by omega))) (fun _ => ?_)
    refine z_aload_n C dd_Q_know_116 rfl ?_
    refine gf_Q_20 (v := .ref (q + 1 + 2)) C dd_Q_know_117 hP.1.1 rfl ?_
    refine z_iload_n C dd_Q_know_120 rfl ?_
    refine z_iald (t0 := 0) (N := 12) (f := (I 2)) C rfl dd_Q_know_121 (hP.1.2 2 (by decide)) (vp_in_nI (by omega) (by decide)) ?_
    refine z_topi (y := ((I 2) m0)) (by rw [nI_clamp (by omega)]) ?_
    refine z_iload_n C dd_Q_know_122 rfl ?_
    refine z_icmp_ne (tgt := 133) C dd_Q_know_123 (by decide) (fun q1 => ?_) (fun q1 => ?_)
    · skip
      refine z_iconst (v := nI 0) C dd_Q_know_133 (by decide) ?_
      refine z_istore_n C dd_Q_know_134 rfl ?_
      refine z_iload_n C dd_Q_know_135 rfl ?_
      refine z_aload_n C dd_Q_know_136 rfl ?_
      refine gf_Q_138 (v := .int (F 5)) C dd_Q_know_137 hP.1.1 rfl ?_
      refine z_topi (y := nI nM) W.fm.symm ?_
      refine z_icmp_ge (tgt := 205) C dd_Q_know_140 (by decide) (fun q10 => absurd q10 (nI_ge (by omega) (by omega))) (fun _ => ?_)
      refine z_aload_n C dd_Q_know_143 rfl ?_
      refine gf_Q_20 (v := .ref (q + 1 + 2)) C dd_Q_know_144 hP.1.1 rfl ?_
      refine z_iload_n C dd_Q_know_147 rfl ?_
      refine z_iald (t0 := 0) (N := 12) (f := (I 2)) C rfl dd_Q_know_148 (hP.1.2 2 (by decide)) (vp_in_nI (by omega) (by decide)) ?_
      refine z_topi (y := (I 2 m0)) (by rw [nI_clamp (by omega)]) ?_
      refine z_iload_n C dd_Q_know_149 rfl ?_
      refine z_icmp_ne (tgt := 205) C dd_Q_know_150 (by decide) (fun _ => ?_) (fun z9 => absurd z9 q1)
      refine z_iincN C dd_Q_know_205 rfl rfl ?_
      refine z_goto (tgt := 108) C dd_Q_know_208 (by decide) ?_
      exact ih (m0 + 1) _ _ _ (by omega) (by rw [← pu_fb_n q1]; exact hP)
    · skip
      refine z_aload_n C dd_Q_know_126 rfl ?_
      refine gf_Q_54 (v := .ref (q + 1 + 13)) C dd_Q_know_127 hP.1.1 rfl ?_
      refine z_iload_n C dd_Q_know_130 rfl ?_
      refine z_iconst (v := 0) C dd_Q_know_131 (by decide) ?_
      refine z_iast (t0 := 0) (N := 12) (f := (pu_fb (I 13) (pu_B I nc nM g0 ar) (I 2) g0 m0)) C rfl dd_Q_know_132 (hP.1.2 13 (by decide)) (vp_in_nI (by omega) (by decide)) ?_
      refine z_cut (md_K dA F (md_is (md_is I 13 (pu_fb (I 13) (pu_B I nc nM g0 ar) (I 2) g0 m0)) 13 (upd (pu_fb (I 13) (pu_B I nc nM g0 ar) (I 2) g0 m0) (Int32.toNatClampNeg (nI m0)) 0)) J q h) (md_wI hP 13 (by decide) rfl) rfl rfl rfl (fun h1_ hP1_ => ?_)
      refine z_iconst (v := nI 0) C dd_Q_know_133 (by decide) ?_
      refine z_istore_n C dd_Q_know_134 rfl ?_
      refine lpD_Q_know (h := h) (I := I) (F := F) (J := J) C W hg har ha hA (by omega : m0 < nM) q1 (fun h9 o3 o4 hD => ?_) nM 0 _ _ (by omega) (md_Ke hP1_ (by rw [md_ii, nI_clamp (by omega)]; rfl))
      refine z_iincN C dd_Q_know_205 rfl rfl ?_
      refine z_goto (tgt := 108) C dd_Q_know_208 (by decide) ?_
      exact ih (m0 + 1) _ _ _ (by omega) (md_Ke hD (by rw [← pu_fb_s q1]; rfl))
set_option maxRecDepth 20000 in
/-- know -/
theorem cc_Q_know (l : Launch) (D : va_G) (dA : Nat → ClassId) (B : Nat) (h : zz_H) (n : Nat) (q : Nat) (F : Nat → Int32) (I : Nat → Nat → Int32) (J : Nat → Nat → Int64) (hP0 : md_P dA F I J q h) (nc ng nM : Nat) (W : pu_W F I nc ng nM) (g0 ar : Nat) (hg : g0 < ng) (har : I 1 g0 = nI ar) (ha : ar = 1 ∨ ar = 2) : zz_M l D zz_cl (zz_ty dA) B zz_tb (zz_x B) yy_Q_know (Cond.code yy_Q_know bb_Q_know 5 none) rm_Q_know [.ref q, .int ((nI g0))] h n zz_mv (fun _ h' n' => md_K dA F (pu_know I nc nM g0 ar) J q h h' ∧ n' = n) := by
  refine zz_ofW (zz_f B) [some (.ref q), some (.int ((nI g0))), none, none, none] (by decide) rfl rfl (Nat.le_of_ble_eq_true rfl) ?_
  intro p e s m below meth c C
  have hg4 := W.g4
  have hg9 : g0 < 4 := by omega
  refine z_aload_n C dd_Q_know_0 rfl ?_
  refine gf_Q_48 (v := .ref (q + 1 + 11)) C dd_Q_know_1 hP0.1 rfl ?_
  refine z_iload_n C dd_Q_know_4 rfl ?_
  refine z_zald (t0 := 2) (N := 4) (f := (I 11)) C rfl dd_Q_know_5 (hP0.2 11 (by decide)) (vp_in_nI (by omega) (by decide)) ?_
  refine z_topi (y := (I 11 g0)) (by rw [nI_clamp (by omega)]) ?_
  refine z_if_eq (tgt := 10) C dd_Q_know_6 (by decide) (fun q1 => ?_) (fun q1 => ?_)
  · refine z_aload_n C dd_Q_know_10 rfl ?_
    refine gf_Q_48 (v := .ref (q + 1 + 11)) C dd_Q_know_11 hP0.1 rfl ?_
    refine z_iload_n C dd_Q_know_14 rfl ?_
    refine z_iconst (v := 1) C dd_Q_know_15 (by decide) ?_
    refine z_zast (t0 := 2) (N := 4) (f := (I 11)) C rfl dd_Q_know_16 (hP0.2 11 (by decide)) (vp_in_nI (by omega) (by decide)) ?_
    refine z_cut (md_K dA F (pu_k1 I g0) J q h) (md_Ke (md_wI (md_rf hP0) 11 (by decide) rfl) (by rw [nI_clamp (by omega)]; rfl)) rfl rfl rfl (fun h1_ hP1_ => ?_)
    refine z_iconst (v := nI 0) C dd_Q_know_17 (by decide) ?_
    refine z_istore_n C dd_Q_know_18 rfl ?_
    have W1 : pu_W F (pu_k1 I g0) nc ng nM := pu_W_cg W (md_i8 (by decide))
    have eA : pu_A (pu_k1 I g0) nc nM g0 ar = pu_A I nc nM g0 ar := pu_A_cg (md_i8 (by decide)) nc nM g0 ar
    refine lpB_Q_know (h := h) (F := F) (I := pu_k1 I g0) (J := J) C W1 hg har ha (fun h9 o3 o4 hB => ?_) (pu_R nc ar) 0 _ _ _ (by omega) (md_Ke hP1_ (by rw [pu_fill_0, md_id]))
    have hB2 : md_K dA F (pu_k2 I nc nM g0 ar) J q h h9 := md_Ke hB (by rw [eA]; rfl)
    refine z_iconst (v := nI 0) C dd_Q_know_106 (by decide) ?_
    refine z_istore_n C dd_Q_know_107 rfl ?_
    have e8 : ∀ k, k < 8 → pu_k2 I nc nM g0 ar k = I k := fun k hk => (md_i8 (by decide) k hk).trans (md_i8 (by decide) k hk)
    have W2 : pu_W F (pu_k2 I nc nM g0 ar) nc ng nM := pu_W_cg W e8
    have eA2 : pu_A (pu_k2 I nc nM g0 ar) nc nM g0 ar = pu_A I nc nM g0 ar := pu_A_cg e8 nc nM g0 ar
    have eB2 : pu_B (pu_k2 I nc nM g0 ar) nc nM g0 ar = pu_B I nc nM g0 ar := by
      funext m9
      unfold pu_B
      rw [pu_bp_cg e8]
    refine lpC_Q_know (h := h) (F := F) (I := pu_k2 I nc nM g0 ar) (J := J) C W2 hg har ha (fun r hr => ?_) (fun h9 o3 o4 hC => ?_) nM 0 _ _ _ (by omega) (md_Ke hB2 (by rw [pu_fb_0, md_id]))
    · rw [eA2]
      show pu_fill (I 12) (pu_A I nc nM g0 ar) (4096 * g0) (pu_R nc ar) (4096 * g0 + r) = _
      unfold pu_fill
      rw [if_pos (by omega), Nat.add_sub_cancel_left]
    · refine z_vret C dd_Q_know_211 ⟨md_Ke hC ?_, rfl⟩ (by decide) (by decide)
      rw [eB2]
      unfold pu_know
      rw [if_pos q1]
      rfl
  · refine z_vret C dd_Q_know_9 ⟨md_Ke (md_rf hP0) ?_, rfl⟩ (by decide) (by decide)
    unfold pu_know
    rw [if_neg q1]
