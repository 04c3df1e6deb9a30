/-! frame d has the stack st -/
def dk_fm (X : dk_X) (d : Nat) (st : List Nat) : Prop := X 9 d 4 = nI st.length ∧ mq_sk (X 10 d) 0 st ∧ st.length ≤ 6
/-- only the stack of frame d is another -/
def dk_fd (d : Nat) (X X' : dk_X) : Prop := (∀ k i, ¬ ((k = 9 ∨ k = 10) ∧ i = d) → X' k i = X k i) ∧ ∀ p, p < 4 → X' 9 d p = X 9 d p
theorem dk_fd_tr {d : Nat} {X X' X2 : dk_X} (a : dk_fd d X X') (b : dk_fd d X' X2) : dk_fd d X X2 := ⟨fun k i h => (b.1 k i h).trans (a.1 k i h), fun p h => (b.2 p h).trans (a.2 p h)⟩
abbrev rm_E_push : Room := { frames := 1, cells := 0, slots := 0, locals := 0 }
set_option maxRecDepth 20000 in
/-- push -/
theorem cd_E_push (l : Launch) (D : va_G) (dA : Nat → ClassId) (B : Nat) (h : zz_H) (n : Nat) (ad : Nat → Nat → Nat) (ng nM : Nat) (na no : Nat → Nat) (X : dk_X) (Y : dk_Y) (Z : dk_Z) (hP0 : dk_P dA ad (dk_lv ng nM na no) X Y Z h) (d v : Nat) (st : List Nat) (hd : d < 8) (FM : dk_fm X d st) : zz_M l D zz_cl (zz_ty dA) B zz_tb (zz_x B) yy_E_push (Cond.code yy_E_push bb_E_push 2 (some FieldType.int)) rm_E_push [.ref ((ad 9 d)), .int ((nI v))] h n zz_mi (fun r h' n' => n' = n ∧ ((st.length = 6 ∧ r = -4 ∧ h' = h) ∨ (st.length < 6 ∧ r = nI v ∧ ∃ X', dk_K dA ad (dk_lv ng nM na no) X' Y Z h h' ∧ dk_fm X' d (v :: st) ∧ dk_fd d X X'))) := by
  refine zz_ofW (zz_f B) [some (.ref ((ad 9 d))), some (.int ((nI v)))] (by decide) rfl rfl (Nat.le_of_ble_eq_true rfl) ?_
  intro p e s m below meth c C
  have hP := dk_rf hP0
  have h6 := FM.2.2
  refine z_aload_n C dd_E_push_0 rfl ?_
  refine gf_E_24 (v := .int (X 9 d 4)) C dd_E_push_1 (dk_rd (k := 9) (i := d) (x := (X 9 d)) (y := (Y 9 d)) (z := (Z 9 d)) hP hd rfl rfl rfl) rfl ?_
  refine z_topi (y := nI st.length) FM.1.symm ?_
  refine z_bipush (v := 6) C dd_E_push_4 (by decide) ?_
  refine z_icmp_lt (tgt := 12) C dd_E_push_6 (by decide) (fun q1 => ?_) (fun q1 => ?_)
  · replace q1 : st.length < 6 := (@nI_ltI st.length 6 (by omega) (by omega)).mp q1
    refine z_aload_n C dd_E_push_12 rfl ?_
    refine gf_E_20 (v := .ref ((ad 10 d))) C dd_E_push_13 (dk_rd (k := 9) (i := d) (x := (X 9 d)) (y := (Y 9 d)) (z := (Z 9 d)) hP hd rfl rfl rfl) rfl ?_
    refine z_aload_n C dd_E_push_16 rfl ?_
    refine gf_E_24 (v := .int (X 9 d 4)) C dd_E_push_17 (dk_rd (k := 9) (i := d) (x := (X 9 d)) (y := (Y 9 d)) (z := (Z 9 d)) hP hd rfl rfl rfl) rfl ?_
    refine z_topi (y := nI st.length) FM.1.symm ?_
    refine z_iload_n C dd_E_push_20 rfl ?_
    refine z_iast (t0 := 0) (N := 6) (f := (X 10 d)) C rfl dd_E_push_21 (dk_rd (k := 10) (i := d) (x := (X 10 d)) (y := (Y 10 d)) (z := (Z 10 d)) hP hd rfl rfl rfl) (vp_in_nI (by omega) (by decide)) ?_
    refine z_cut (dk_K dA ad (dk_lv ng nM na no) (dk_is X 10 d (upd (X 10 d) (Int32.toNatClampNeg (nI st.length)) (nI v))) Y Z h) (dk_wX hP hd rfl rfl rfl) rfl rfl rfl (fun h1_ hP1_ => ?_)
    refine z_aload_n C dd_E_push_22 rfl ?_
    refine z_dup C dd_E_push_23 rfl ?_
    refine gf_E_24 (v := .int (X 9 d 4)) C dd_E_push_24 (dk_rd (k := 9) (i := d) (x := (X 9 d)) (y := (Y 9 d)) (z := (Z 9 d)) hP1_ hd rfl rfl rfl) rfl ?_
    refine z_topi (y := nI st.length) FM.1.symm ?_
    refine z_iconst (v := 1) C dd_E_push_27 (by decide) ?_
    refine z_iadd C dd_E_push_28 ?_
    refine z_topi (y := nI (st.length + 1)) (by first | exact (nI_add _ _).symm | (rw [← nI_add]; rfl)) ?_
    refine pf_E_24 C dd_E_push_29 (dk_rd (k := 9) (i := d) (x := (X 9 d)) (y := (Y 9 d)) (z := (Z 9 d)) hP1_ hd rfl rfl rfl) (Nat.le_of_ble_eq_true rfl) rfl rfl ?_
    refine z_cut (dk_K dA ad (dk_lv ng nM na no) (dk_is (dk_is X 10 d (upd (X 10 d) (Int32.toNatClampNeg (nI st.length)) (nI v))) 9 d (upd (X 9 d) 4 (nI (st.length + 1)))) Y Z h) (dk_wX hP1_ hd rfl rfl rfl) rfl rfl rfl (fun h2_ hP2_ => ?_)
    refine z_iload_n C dd_E_push_32 rfl ?_
    rw [nI_clamp (by omega)] at hP2_
    refine z_iret C dd_E_push_33 ⟨rfl, Or.inr ⟨by omega, rfl, _, hP2_, ⟨?_, ?_, ?_⟩, fun k i c => ?_, fun p hp => ?_⟩⟩ (by decide) (by decide)
    · rw [dk_s]; exact pk_us
    · show mq_sk (dk_is X 10 d (upd (X 10 d) st.length (nI v)) 10 d) 0 (v :: st)
      rw [dk_s]
      exact ⟨by rw [Nat.zero_add]; exact pk_us, mq_sk_up st (by omega) FM.2.1⟩
    · exact (show st.length + 1 ≤ 6 by omega)
    · rw [dk_n (fun z => c ⟨Or.inl z.1, z.2⟩), dk_n (fun z => c ⟨Or.inr z.1, z.2⟩)]
    · rw [dk_s]; exact pk_un (by omega)
  · replace q1 : ¬ st.length < 6 := fun z => q1 ((@nI_ltI st.length 6 (by omega) (by omega)).mpr z)
    refine z_bipush (v := (-4)) C dd_E_push_9 (by decide) ?_
    exact z_iret C dd_E_push_11 ⟨rfl, Or.inl ⟨by omega, rfl, rfl⟩⟩ (by decide) (by decide)
abbrev rm_E_pop : Room := { frames := 1, cells := 0, slots := 0, locals := 0 }
set_option maxRecDepth 20000 in
/-- pop -/
theorem cd_E_pop (l : Launch) (D : va_G) (dA : Nat → ClassId) (B : Nat) (h : zz_H) (n : Nat) (ad : Nat → Nat → Nat) (ng nM : Nat) (na no : Nat → Nat) (X : dk_X) (Y : dk_Y) (Z : dk_Z) (hP0 : dk_P dA ad (dk_lv ng nM na no) X Y Z h) (d u : Nat) (t : List Nat) (hd : d < 8) (FM : dk_fm X d (u :: t)) : zz_M l D zz_cl (zz_ty dA) B zz_tb (zz_x B) yy_E_pop (Cond.code yy_E_pop bb_E_pop 1 (some FieldType.int)) rm_E_pop [.ref ((ad 9 d))] h n zz_mi (fun r h' n' => n' = n ∧ r = nI u ∧ ∃ X', dk_K dA ad (dk_lv ng nM na no) X' Y Z h h' ∧ dk_fm X' d t ∧ dk_fd d X X') := by
  refine zz_ofW (zz_f B) [some (.ref ((ad 9 d)))] (by decide) rfl rfl (Nat.le_of_ble_eq_true rfl) ?_
  intro p e s m below meth c C
  have hP := dk_rf hP0
  have h6 : t.length + 1 ≤ 6 := FM.2.2
  have f4 : X 9 d 4 = nI (t.length + 1) := FM.1
  refine z_aload_n C dd_E_pop_0 rfl ?_
  refine z_dup C dd_E_pop_1 rfl ?_
  refine gf_E_24 (v := .int (X 9 d 4)) C dd_E_pop_2 (dk_rd (k := 9) (i := d) (x := (X 9 d)) (y := (Y 9 d)) (z := (Z 9 d)) hP hd rfl rfl rfl) rfl ?_
  refine z_topi (y := nI (t.length + 1)) f4.symm ?_
  refine z_iconst (v := 1) C dd_E_pop_5 (by decide) ?_
  refine z_isub C dd_E_pop_6 ?_
  refine z_topi (y := nI t.length) (nI_pred t.length).symm ?_
  refine pf_E_24 C dd_E_pop_7 (dk_rd (k := 9) (i := d) (x := (X 9 d)) (y := (Y 9 d)) (z := (Z 9 d)) hP hd rfl rfl rfl) (Nat.le_of_ble_eq_true rfl) rfl rfl ?_
  refine z_cut (dk_K dA ad (dk_lv ng nM na no) (dk_is X 9 d (upd (X 9 d) 4 (nI t.length))) Y Z h) (dk_wX hP hd rfl rfl rfl) rfl rfl rfl (fun h1_ hP1_ => ?_)
  refine z_aload_n C dd_E_pop_10 rfl ?_
  refine gf_E_20 (v := .ref ((ad 10 d))) C dd_E_pop_11 (dk_rd (k := 9) (i := d) (x := (upd (X 9 d) 4 (nI t.length))) (y := (Y 9 d)) (z := (Z 9 d)) hP1_ hd dk_s rfl rfl) rfl ?_
  refine z_aload_n C dd_E_pop_14 rfl ?_
  refine gf_E_24 (v := .int (nI t.length)) C dd_E_pop_15 (dk_rd (k := 9) (i := d) (x := (upd (X 9 d) 4 (nI t.length))) (y := (Y 9 d)) (z := (Z 9 d)) hP1_ hd dk_s rfl rfl) rfl ?_
  have su : X 10 d t.length = nI u := by have q := FM.2.1.1; rw [Nat.zero_add] at q; exact q
  refine z_iald (t0 := 0) (N := 6) (f := (X 10 d)) C rfl dd_E_pop_18 (dk_rd (k := 10) (i := d) (x := (X 10 d)) (y := (Y 10 d)) (z := (Z 10 d)) hP1_ hd rfl rfl rfl) (vp_in_nI (by omega) (by decide)) ?_
  refine z_topi (y := nI u) (by rw [nI_clamp (by omega)]; exact su.symm) ?_
  exact z_iret C dd_E_pop_19 ⟨rfl, rfl, _, hP1_, ⟨by rw [dk_s]; exact pk_us, FM.2.1.2, by omega⟩, fun k i c => dk_n (fun z => c ⟨Or.inl z.1, z.2⟩), fun p hp => by rw [dk_s]; exact pk_un (by omega)⟩ (by decide) (by decide)
abbrev rm_E_result : Room := { frames := 1, cells := 0, slots := 0, locals := 0 }
set_option maxRecDepth 20000 in
/-- result -/
theorem cd_E_result (l : Launch) (D : va_G) (dA : Nat → ClassId) (B : Nat) (h : zz_H) (n : Nat) (ad : Nat → Nat → Nat) (ng nM : Nat) (na no : Nat → Nat) (X : dk_X) (Y : dk_Y) (Z : dk_Z) (hP0 : dk_P dA ad (dk_lv ng nM na no) X Y Z h) (d x : Nat) (st : List Nat) (hd : d < 8) (FM : dk_fm X d st) (e1 : X 9 d 1 = nI x) : zz_M l D zz_cl (zz_ty dA) B zz_tb (zz_x B) yy_E_result (Cond.code yy_E_result bb_E_result 1 (some FieldType.int)) rm_E_result [.ref ((ad 9 d))] h n zz_mi (fun r h' n' => n' = n ∧ h' = h ∧ r = nI (st.headD x)) := by
  refine zz_ofW (zz_f B) [some (.ref ((ad 9 d)))] (by decide) rfl rfl (Nat.le_of_ble_eq_true rfl) ?_
  intro p e s m below meth c C
  have hP := dk_rf hP0
  have h6 := FM.2.2
  refine z_aload_n C dd_E_result_0 rfl ?_
  refine gf_E_24 (v := .int (X 9 d 4)) C dd_E_result_1 (dk_rd (k := 9) (i := d) (x := (X 9 d)) (y := (Y 9 d)) (z := (Z 9 d)) hP hd rfl rfl rfl) rfl ?_
  refine z_topi (y := nI st.length) FM.1.symm ?_
  refine z_if_le (tgt := 21) C dd_E_result_4 (by decide) (fun q1 => ?_) (fun q1 => ?_)
  · replace q1 : st.length ≤ 0 := (@nI_leI st.length 0 (by omega) (by omega)).mp q1
    refine z_aload_n C dd_E_result_21 rfl ?_
    refine gf_E_13 (v := .int (X 9 d 1)) C dd_E_result_22 (dk_rd (k := 9) (i := d) (x := (X 9 d)) (y := (Y 9 d)) (z := (Z 9 d)) hP hd rfl rfl rfl) rfl ?_
    refine z_topi (y := nI x) e1.symm ?_
    exact z_iret C dd_E_result_25 ⟨rfl, rfl, by cases st with | nil => rfl | cons u t => exact absurd q1 (by simp)⟩ (by decide) (by decide)
  · replace q1 : ¬ st.length ≤ 0 := fun z => q1 ((@nI_leI st.length 0 (by omega) (by omega)).mpr z)
    refine z_aload_n C dd_E_result_7 rfl ?_
    refine gf_E_20 (v := .ref ((ad 10 d))) C dd_E_result_8 (dk_rd (k := 9) (i := d) (x := (X 9 d)) (y := (Y 9 d)) (z := (Z 9 d)) hP hd rfl rfl rfl) rfl ?_
    refine z_aload_n C dd_E_result_11 rfl ?_
    refine gf_E_24 (v := .int (X 9 d 4)) C dd_E_result_12 (dk_rd (k := 9) (i := d) (x := (X 9 d)) (y := (Y 9 d)) (z := (Z 9 d)) hP hd rfl rfl rfl) rfl ?_
    refine z_topi (y := nI st.length) FM.1.symm ?_
    refine z_iconst (v := 1) C dd_E_result_15 (by decide) ?_
    refine z_isub C dd_E_result_16 ?_
    refine z_topi (y := nI (st.length - 1)) (by first | exact (@pk_sub st.length 1 (by omega)).symm | (rw [← pk_sub (a := st.length) (b := 1) (by omega)]; rfl)) ?_
    have su : X 10 d (st.length - 1) = nI (st.headD x) := by
      cases st with
      | nil => exact absurd (Nat.le_refl 0) q1
      | cons u t => have q := FM.2.1.1; rw [Nat.zero_add] at q; exact q
    refine z_iald (t0 := 0) (N := 6) (f := (X 10 d)) C rfl dd_E_result_17 (dk_rd (k := 10) (i := d) (x := (X 10 d)) (y := (Y 10 d)) (z := (Z 10 d)) hP hd rfl rfl rfl) (vp_in_nI (by omega) (by decide)) ?_
    refine z_topi (y := nI (st.headD x)) (by rw [nI_clamp (by omega)]; exact su.symm) ?_
    refine z_goto (tgt := 25) C dd_E_result_18 (by decide) ?_
    exact z_iret C dd_E_result_25 ⟨rfl, rfl, rfl⟩ (by decide) (by decide)
set_option maxRecDepth 20000 in
/-- a frame begins -/
theorem cd_E_begin (l : Launch) (D : va_G) (dA : Nat → ClassId) (B : Nat) (h : zz_H) (n : Nat) (ad : Nat → Nat → Nat) (ng nM : Nat) (na no : Nat → Nat) (X : dk_X) (Y : dk_Y) (Z : dk_Z) (hP0 : dk_P dA ad (dk_lv ng nM na no) X Y Z h) (d m0 x y : Nat) (hd : d < 8) (hm : m0 < nM) : zz_M l D zz_cl (zz_ty dA) B zz_tb (zz_x B) yy_E_open (Cond.code yy_E_open bb_E_open 4 none) rm_E_open [.ref ((ad 9 d)), .ref ((ad 30 m0)), .int ((nI x)), .int ((nI y))] h n zz_mv (fun _ h' n' => n' = n ∧ ∃ X', dk_K dA ad (dk_lv ng nM na no) X' Y (dk_is Z 9 d (va_up (Z 9 d) 0 (some (ad 30 m0)))) h h' ∧ dk_fm X' d [] ∧ X' 9 d 1 = nI x ∧ X' 9 d 2 = nI y ∧ ∀ k i, ¬ (k = 9 ∧ i = d) → X' k i = X k i) := by
  refine zz_ofW (zz_f B) [some (.ref ((ad 9 d))), some (.ref ((ad 30 m0))), some (.int ((nI x))), some (.int ((nI y)))] (by decide) rfl rfl (Nat.le_of_ble_eq_true rfl) ?_
  intro p e s m below meth c C
  have hP := dk_rf hP0
  refine z_aload_n C dd_E_open_0 rfl ?_
  refine z_aload_n C dd_E_open_1 rfl ?_
  refine pf_E_7 C dd_E_open_2 (dk_rd (k := 9) (i := d) (x := (X 9 d)) (y := (Y 9 d)) (z := (Z 9 d)) hP hd rfl rfl rfl) (Nat.le_of_ble_eq_true rfl) rfl rfl ?_
  refine z_cut (dk_K dA ad (dk_lv ng nM na no) X Y (dk_is Z 9 d (va_up (Z 9 d) 0 (some (ad 30 m0)))) h) (dk_wZ hP hd rfl rfl rfl) rfl rfl rfl (fun h1_ hP1_ => ?_)
  refine z_aload_n C dd_E_open_5 rfl ?_
  refine z_iload_n C dd_E_open_6 rfl ?_
  refine pf_E_13 C dd_E_open_7 (dk_rd (k := 9) (i := d) (x := (X 9 d)) (y := (Y 9 d)) (z := (va_up (Z 9 d) 0 (some (ad 30 m0)))) hP1_ hd rfl rfl dk_s) (Nat.le_of_ble_eq_true rfl) rfl rfl ?_
  refine z_cut (dk_K dA ad (dk_lv ng nM na no) (dk_is X 9 d (upd (X 9 d) 1 (nI x))) Y (dk_is Z 9 d (va_up (Z 9 d) 0 (some (ad 30 m0)))) h) (dk_wX hP1_ hd rfl dk_s rfl) rfl rfl rfl (fun h2_ hP2_ => ?_)
  refine z_aload_n C dd_E_open_10 rfl ?_
  refine z_iload_n C dd_E_open_11 rfl ?_
  refine pf_E_17 C dd_E_open_12 (dk_rd (k := 9) (i := d) (x := (upd (X 9 d) 1 (nI x))) (y := (Y 9 d)) (z := (va_up (Z 9 d) 0 (some (ad 30 m0)))) hP2_ hd dk_s rfl dk_s) (Nat.le_of_ble_eq_true rfl) rfl rfl ?_
  refine z_cut (dk_K dA ad (dk_lv ng nM na no) (dk_is (dk_is X 9 d (upd (X 9 d) 1 (nI x))) 9 d (upd (upd (X 9 d) 1 (nI x)) 2 (nI y))) Y (dk_is Z 9 d (va_up (Z 9 d) 0 (some (ad 30 m0)))) h) (dk_wX hP2_ hd rfl dk_s rfl) rfl rfl rfl (fun h3_ hP3_ => ?_)
  refine z_aload_n C dd_E_open_15 rfl ?_
  refine z_iconst (v := 0) C dd_E_open_16 (by decide) ?_
  refine pf_E_24 C dd_E_open_17 (dk_rd (k := 9) (i := d) (x := (upd (upd (X 9 d) 1 (nI x)) 2 (nI y))) (y := (Y 9 d)) (z := (va_up (Z 9 d) 0 (some (ad 30 m0)))) hP3_ hd dk_s rfl dk_s) (Nat.le_of_ble_eq_true rfl) rfl rfl ?_
  refine z_cut (dk_K dA ad (dk_lv ng nM na no) (dk_is (dk_is (dk_is X 9 d (upd (X 9 d) 1 (nI x))) 9 d (upd (upd (X 9 d) 1 (nI x)) 2 (nI y))) 9 d (upd (upd (upd (X 9 d) 1 (nI x)) 2 (nI y)) 4 0)) Y (dk_is Z 9 d (va_up (Z 9 d) 0 (some (ad 30 m0)))) h) (dk_wX hP3_ hd rfl dk_s rfl) rfl rfl rfl (fun h4_ hP4_ => ?_)
  rw [dk_ii, dk_ii] at hP4_
  exact z_vret C dd_E_open_20 ⟨rfl, _, hP4_, ⟨by rw [dk_s]; rfl, trivial, by decide⟩, by rw [dk_s]; rfl, by rw [dk_s]; rfl, fun k i c => dk_n c⟩ (by decide) (by decide)
set_option maxRecDepth 20000 in
/-- spend -/
theorem cd_N_spend (l : Launch) (D : va_G) (dA : Nat → ClassId) (B : Nat) (h : zz_H) (n : Nat) (ad : Nat → Nat → Nat) (ng nM : Nat) (na no : Nat → Nat) (X : dk_X) (Y : dk_Y) (Z : dk_Z) (hP0 : dk_P dA ad (dk_lv ng nM na no) X Y Z h) (fu : Nat) (hf : fu ≤ 200) (e0 : X 7 0 0 = nI fu) : zz_M l D zz_cl (zz_ty dA) B zz_tb (zz_x B) yy_N_spend (Cond.code yy_N_spend bb_N_spend 1 (some FieldType.int)) rm_N_spend [.ref ((ad 7 0))] h n zz_mi (fun r h' n' => n' = n ∧ ((fu = 0 ∧ r = -3 ∧ h' = h) ∨ (0 < fu ∧ r = nI (fu - 1) ∧ dk_K dA ad (dk_lv ng nM na no) (dk_is X 7 0 (upd (X 7 0) 0 (nI (fu - 1)))) Y Z h h'))) := by
  refine zz_ofW (zz_f B) [some (.ref ((ad 7 0)))] (by decide) rfl rfl (Nat.le_of_ble_eq_true rfl) ?_
  intro p e s m below meth c C
  have hP := dk_rf hP0
  refine z_aload_n C dd_N_spend_0 rfl ?_
  refine gf_N_7 (v := .int (X 7 0 0)) C dd_N_spend_1 (dk_rd (k := 7) (i := 0) (x := (X 7 0)) (y := (Y 7 0)) (z := (Z 7 0)) hP rfl rfl rfl rfl) rfl ?_
  refine z_topi (y := nI fu) e0.symm ?_
  refine z_if_gt (tgt := 10) C dd_N_spend_4 (by decide) (fun q1 => ?_) (fun q1 => ?_)
  · replace q1 : 0 < fu := (@nI_ltI 0 fu (by omega) (by omega)).mp q1
    refine z_aload_n C dd_N_spend_10 rfl ?_
    refine z_dup C dd_N_spend_11 rfl ?_
    refine gf_N_7 (v := .int (X 7 0 0)) C dd_N_spend_12 (dk_rd (k := 7) (i := 0) (x := (X 7 0)) (y := (Y 7 0)) (z := (Z 7 0)) hP rfl rfl rfl rfl) rfl ?_
    refine z_topi (y := nI fu) e0.symm ?_
    refine z_iconst (v := 1) C dd_N_spend_15 (by decide) ?_
    refine z_isub C dd_N_spend_16 ?_
    refine z_topi (y := nI (fu - 1)) (by first | exact (@pk_sub fu 1 (by omega)).symm | (rw [← pk_sub (a := fu) (b := 1) (by omega)]; rfl)) ?_
    refine pf_N_7 C dd_N_spend_17 (dk_rd (k := 7) (i := 0) (x := (X 7 0)) (y := (Y 7 0)) (z := (Z 7 0)) hP rfl rfl rfl rfl) (Nat.le_of_ble_eq_true rfl) rfl rfl ?_
    refine z_cut (dk_K dA ad (dk_lv ng nM na no) (dk_is X 7 0 (upd (X 7 0) 0 (nI (fu - 1)))) Y Z h) (dk_wX hP rfl rfl rfl rfl) rfl rfl rfl (fun h1_ hP1_ => ?_)
    refine z_aload_n C dd_N_spend_20 rfl ?_
    refine gf_N_7 (v := .int (nI (fu - 1))) C dd_N_spend_21 (dk_rd (k := 7) (i := 0) (x := (upd (X 7 0) 0 (nI (fu - 1)))) (y := (Y 7 0)) (z := (Z 7 0)) hP1_ rfl dk_s rfl rfl) rfl ?_
    exact z_iret C dd_N_spend_24 ⟨rfl, Or.inr ⟨by omega, rfl, hP1_⟩⟩ (by decide) (by decide)
  · replace q1 : ¬ 0 < fu := fun z => q1 ((@nI_ltI 0 fu (by omega) (by omega)).mpr z)
    refine z_bipush (v := (-3)) C dd_N_spend_7 (by decide) ?_
    exact z_iret C dd_N_spend_9 ⟨rfl, Or.inl ⟨by omega, rfl, rfl⟩⟩ (by decide) (by decide)
abbrev rm_N_enter : Room := { frames := 3, cells := 0, slots := 0, locals := 60 }
set_option maxRecDepth 20000 in
/-- enter -/
theorem cd_N_enter (l : Launch) (D : va_G) (dA : Nat → ClassId) (B : Nat) (h : zz_H) (n : Nat) (ad : Nat → Nat → Nat) (ng nM : Nat) (na no : Nat → Nat) (X : dk_X) (Y : dk_Y) (Z : dk_Z) (hP0 : dk_P dA ad (dk_lv ng nM na no) X Y Z h) (fu w : Nat) (hf : fu ≤ 200) (hw : w ≤ 8) (e0 : X 7 0 0 = nI fu) : zz_M l D zz_cl (zz_ty dA) B zz_tb (zz_x B) yy_N_enter (Cond.code yy_N_enter bb_N_enter 2 (some FieldType.int)) rm_N_enter [.ref ((ad 7 0)), .int ((nI w))] h n zz_mi (fun r h' n' => n' = n ∧ ((w = 8 ∧ r = -5 ∧ h' = h) ∨ (w < 8 ∧ ((fu = 0 ∧ r = -3 ∧ h' = h) ∨ (0 < fu ∧ r = nI (fu - 1) ∧ dk_K dA ad (dk_lv ng nM na no) (dk_is X 7 0 (upd (X 7 0) 0 (nI (fu - 1)))) Y Z h h'))))) := by
  refine zz_ofW (zz_f B) [some (.ref ((ad 7 0))), some (.int ((nI w)))] (by decide) rfl rfl (Nat.le_of_ble_eq_true rfl) ?_
  intro p e s m below meth c C
  have hP := dk_rf hP0
  refine z_iload_n C dd_N_enter_0 rfl ?_
  refine z_bipush (v := 8) C dd_N_enter_1 (by decide) ?_
  refine z_icmp_lt (tgt := 11) C dd_N_enter_3 (by decide) (fun q1 => ?_) (fun q1 => ?_)
  · replace q1 : w < 8 := (@nI_ltI w 8 (by omega) (by omega)).mp q1
    refine z_aload_n C dd_N_enter_11 rfl ?_
    refine iv_N_89 (sk := fun r => .int r :: []) (zz_f B) C dd_N_enter_12 (cd_N_spend l D dA B _ _ ad ng nM na no X Y Z hP.1 fu hf e0) (dk_rd (k := 7) (i := 0) (x := (X 7 0)) (y := (Y 7 0)) (z := (Z 7 0)) hP rfl rfl rfl rfl) rfl rfl ⟨by decide, by decide⟩ (Nat.le_of_ble_eq_true rfl) ⟨by decide, by decide⟩ (fun _ => rfl) (fun v1_ h1_ n1_ p1_ => ?_)
    obtain ⟨rfl, p1_⟩ := p1_
    exact z_iret C dd_N_enter_15 ⟨rfl, Or.inr ⟨by omega, p1_⟩⟩ (by decide) (by decide)
  · replace q1 : ¬ w < 8 := fun z => q1 ((@nI_ltI w 8 (by omega) (by omega)).mpr z)
    refine z_bipush (v := (-5)) C dd_N_enter_6 (by decide) ?_
    refine z_goto (tgt := 15) C dd_N_enter_8 (by decide) ?_
    exact z_iret C dd_N_enter_15 ⟨rfl, Or.inl ⟨by omega, rfl, rfl⟩⟩ (by decide) (by decide)
theorem dk_ofk : ∀ c : Fin 8, ∀ k : Fin 8, (nI c.val <<< (3 &&& 31)) ||| nI k.val = nI (8 * c.val + k.val) := by decide +kernel
theorem dk_of7 (x : Int32) {k : Nat} (hk : k < 8) (e : (x - (-4)) &&& 7 = nI k) {c : Nat} (hc : c < 8) : (nI c <<< (3 &&& 31)) ||| ((x - (-4)) &&& 7) = nI (8 * c + k) := by
  rw [e]
  exact dk_ofk ⟨c, hc⟩ ⟨k, hk⟩
theorem dk_7w {n : Int32} {w : Nat} (hw : w < 8) (e : n + 4 = nI w) : (n - (-4)) &&& 7 = nI w := by
  have h : ∀ w : Fin 8, nI w.val &&& 7 = nI w.val := by decide +kernel
  have e2 : n - (-4) = n + 4 := by
    rw [Int32.sub_eq_add_neg]
    rfl
  rw [e2, e]
  exact h ⟨w, hw⟩
theorem dk_7a : ∀ a : Fin 8, ∀ b : Fin 8, (((nI a.val - 4) + (nI b.val - 4)) - (-4)) &&& 7 = nI ((a.val + b.val + 28) % 8) := by decide +kernel
theorem dk_7m : ∀ a : Fin 8, ∀ b : Fin 8, (((nI a.val - 4) * (nI b.val - 4)) - (-4)) &&& 7 = nI (((((a.val : Nat) : Int) - 4) * (((b.val : Nat) : Int) - 4) + 36).toNat % 8) := by decide +kernel
theorem dk_7s : ∀ a : Fin 8, ((nI a.val - 4) - (-4)) &&& 7 = nI a.val := by decide +kernel
theorem dk_oadd {v u : Nat} (hv : v < 64) : (nI (v / 8) <<< (3 &&& 31)) ||| ((((nI (v % 8) - 4) + (nI (u % 8) - 4)) - (-4)) &&& 7) = nI (mq_add v u) := by
  rw [dk_of7 _ (Nat.mod_lt _ (by decide)) (dk_7a ⟨v % 8, Nat.mod_lt _ (by decide)⟩ ⟨u % 8, Nat.mod_lt _ (by decide)⟩) (by omega)]
  unfold mq_add
  rw [Nat.mul_comm]
theorem dk_omul {v u : Nat} (hv : v < 64) : (nI (v / 8) <<< (3 &&& 31)) ||| ((((nI (v % 8) - 4) * (nI (u % 8) - 4)) - (-4)) &&& 7) = nI (mq_mul v u) := by
  rw [dk_of7 _ (Nat.mod_lt _ (by decide)) (dk_7m ⟨v % 8, Nat.mod_lt _ (by decide)⟩ ⟨u % 8, Nat.mod_lt _ (by decide)⟩) (by omega)]
  unfold mq_mul
  rw [Nat.mul_comm]
theorem dk_ocls {c u : Nat} (hc : c < 8) : (nI c <<< (3 &&& 31)) ||| (((nI (u % 8) - 4) - (-4)) &&& 7) = nI (8 * c + u % 8) := dk_of7 _ (Nat.mod_lt _ (by decide)) (dk_7s ⟨u % 8, Nat.mod_lt _ (by decide)⟩) hc
theorem dk_onum {n : Int32} {w : Nat} (hw : w < 8) (e : n + 4 = nI w) : ((0 : Int32) <<< (3 &&& 31)) ||| ((n - (-4)) &&& 7) = nI w := by
  have := dk_of7 n hw (dk_7w hw e) (c := 0) (by decide)
  rw [Nat.mul_zero, Nat.zero_add] at this
  exact this
abbrev rm_N_combine : Room := { frames := 3, cells := 0, slots := 0, locals := 60 }
set_option maxRecDepth 20000 in
/-- combine -/
theorem cd_N_combine_add (l : Launch) (D : va_G) (dA : Nat → ClassId) (B : Nat) (h : zz_H) (n : Nat) (ad : Nat → Nat → Nat) (ng nM : Nat) (na no : Nat → Nat) (X : dk_X) (Y : dk_Y) (Z : dk_Z) (hP0 : dk_P dA ad (dk_lv ng nM na no) X Y Z h) (d u v : Nat) (t : List Nat) (hd : d < 8) (hu : u < 64) (hv : v < 64) (FM : dk_fm X d (u :: v :: t)) : zz_M l D zz_cl (zz_ty dA) B zz_tb (zz_x B) yy_N_combine (Cond.code yy_N_combine bb_N_combine 5 (some FieldType.int)) rm_N_combine [.ref ((ad 9 d)), .int 1] h n zz_mi (fun r h' n' => n' = n ∧ r = nI (mq_add v u) ∧ ∃ X', dk_K dA ad (dk_lv ng nM na no) X' Y Z h h' ∧ dk_fm X' d (mq_add v u :: t) ∧ dk_fd d X X') := by
  refine zz_ofW (zz_f B) [some (.ref ((ad 9 d))), some (.int 1), none, none, none] (by decide) rfl rfl (Nat.le_of_ble_eq_true rfl) ?_
  intro p e s m below meth c C
  have hP := dk_rf hP0
  have h6 : t.length + 1 + 1 ≤ 6 := FM.2.2
  have f4 : X 9 d 4 = nI (t.length + 2) := FM.1
  refine z_aload_n C dd_N_combine_0 rfl ?_
  refine z_iconst (v := 2) C dd_N_combine_1 (by decide) ?_
  refine iv_N_160 (sk := fun r => .int r :: []) (zz_f B) C dd_N_combine_2 (cc_E_has l D dA B _ _ _ _ _ _ _ _ (dk_rd (k := 9) (i := d) (x := (X 9 d)) (y := (Y 9 d)) (z := (Z 9 d)) hP hd rfl rfl rfl) 2) (dk_rd (k := 9) (i := d) (x := (X 9 d)) (y := (Y 9 d)) (z := (Z 9 d)) hP hd rfl rfl rfl) rfl rfl ⟨by decide, by decide⟩ (Nat.le_of_ble_eq_true rfl) ⟨by decide, by decide⟩ (fun _ => rfl) (fun v1_ h1_ n1_ p1_ => ?_)
  obtain ⟨f1_, e1_, p1_⟩ := p1_
  have e1z := e1_.symm
  have f1z := f1_.symm
  subst e1z
  subst f1z
  have e9 : v1_ = 1 := by
    rcases p1_ with ⟨z1, z2⟩ | ⟨z1, z2⟩
    · rw [f4] at z1; exact absurd ((@nI_ltI (t.length + 2) 2 (by omega) (by omega)).mp z1) (by omega)
    · exact z2
  have e9z := e9.symm
  subst e9z
  refine z_if_ne (tgt := 11) C dd_N_combine_5 (by decide) (fun q1 => ?_) (fun q1 => absurd q1 (by decide))
  refine z_aload_n C dd_N_combine_11 rfl ?_
  refine iv_N_163 (sk := fun r => .int r :: []) (zz_f B) C dd_N_combine_12 (cd_E_pop l D dA B _ _ ad ng nM na no X Y Z hP.1 d u (v :: t) hd FM) (dk_rd (k := 9) (i := d) (x := (X 9 d)) (y := (Y 9 d)) (z := (Z 9 d)) hP hd rfl rfl rfl) rfl rfl ⟨by decide, by decide⟩ (Nat.le_of_ble_eq_true rfl) ⟨by decide, by decide⟩ (fun _ => rfl) (fun v2_ h2_ n2_ p2_ => ?_)
  obtain ⟨rfl, q2_, X2, w2_, FM2, fd2⟩ := p2_
  have q2z := q2_.symm
  subst q2z
  have hP2_ := dk_tr hP w2_
  refine is_N_166 (sk := fun r => .int r :: []) (zz_f B) C dd_N_combine_15 (cc_V_numberOf l D dA B _ _ _) rfl rfl ⟨by decide, by decide⟩ (Nat.le_of_ble_eq_true rfl) ⟨by decide, by decide⟩ (fun _ => rfl) (fun v3_ h3_ n3_ p3_ => ?_)
  obtain ⟨f3_, e3_, p3_⟩ := p3_
  have e3z := e3_.symm
  have f3z := f3_.symm
  subst e3z
  subst f3z
  refine z_topi (y := nI (u % 8) - 4) (by rw [p3_, dk_num u (by omega)]) ?_
  refine z_istore_n C dd_N_combine_18 rfl ?_
  refine z_aload_n C dd_N_combine_19 rfl ?_
  refine iv_N_163 (sk := fun r => .int r :: []) (zz_f B) C dd_N_combine_20 (cd_E_pop l D dA B _ _ ad ng nM na no X2 Y Z hP2_.1 d v t hd FM2) (dk_rd (k := 9) (i := d) (x := (X2 9 d)) (y := (Y 9 d)) (z := (Z 9 d)) hP2_ hd rfl rfl rfl) rfl rfl ⟨by decide, by decide⟩ (Nat.le_of_ble_eq_true rfl) ⟨by decide, by decide⟩ (fun _ => rfl) (fun v4_ h4_ n4_ p4_ => ?_)
  obtain ⟨rfl, q4_, X4, w4_, FM4, fd4⟩ := p4_
  have q4z := q4_.symm
  subst q4z
  have hP4_ := dk_tr hP2_ w4_
  refine z_istore_n C dd_N_combine_23 rfl ?_
  refine z_iload_n C dd_N_combine_24 rfl ?_
  refine is_N_166 (sk := fun r => .int r :: []) (zz_f B) C dd_N_combine_25 (cc_V_numberOf l D dA B _ _ _) rfl rfl ⟨by decide, by decide⟩ (Nat.le_of_ble_eq_true rfl) ⟨by decide, by decide⟩ (fun _ => rfl) (fun v5_ h5_ n5_ p5_ => ?_)
  obtain ⟨f5_, e5_, p5_⟩ := p5_
  have e5z := e5_.symm
  have f5z := f5_.symm
  subst e5z
  subst f5z
  refine z_topi (y := nI (v % 8) - 4) (by rw [p5_, dk_num v (by omega)]) ?_
  refine z_istore C dd_N_combine_28 rfl ?_
  refine z_aload_n C dd_N_combine_30 rfl ?_
  refine z_iload_n C dd_N_combine_31 rfl ?_
  refine is_N_169 (sk := fun r => .int r :: [.ref ((ad 9 d))]) (zz_f B) C dd_N_combine_32 (cc_V_classOf l D dA B _ _ _) rfl rfl ⟨by decide, by decide⟩ (Nat.le_of_ble_eq_true rfl) ⟨by decide, by decide⟩ (fun _ => rfl) (fun v6_ h6_ n6_ p6_ => ?_)
  obtain ⟨f6_, e6_, p6_⟩ := p6_
  have e6z := e6_.symm
  have f6z := f6_.symm
  subst e6z
  subst f6z
  refine z_topi (y := nI (v / 8)) (by rw [p6_, dk_cls v (by omega)]) ?_
  refine z_iload_n C dd_N_combine_35 rfl ?_
  refine z_if_eq (tgt := 46) C dd_N_combine_36 (by decide) (fun q2 => absurd q2 (by decide)) (fun q2 => ?_)
  refine z_iload C dd_N_combine_39 rfl ?_
  refine z_iload_n C dd_N_combine_41 rfl ?_
  refine z_iadd C dd_N_combine_42 ?_
  refine z_goto (tgt := 50) C dd_N_combine_43 (by decide) ?_
  refine is_N_133 (sk := fun r => .int r :: [.ref ((ad 9 d))]) (zz_f B) C dd_N_combine_50 (cc_V_of l D dA B _ _ _ _) rfl rfl ⟨by decide, by decide⟩ (Nat.le_of_ble_eq_true rfl) ⟨by decide, by decide⟩ (fun _ => rfl) (fun v7_ h7_ n7_ p7_ => ?_)
  obtain ⟨f7_, e7_, p7_⟩ := p7_
  have e7z := e7_.symm
  have f7z := f7_.symm
  subst e7z
  subst f7z
  refine z_topi (y := nI (mq_add v u)) (by rw [p7_]; exact (dk_oadd hv).symm) ?_
  refine iv_N_139 (sk := fun r => .int r :: []) (zz_f B) C dd_N_combine_53 (cd_E_push l D dA B _ _ ad ng nM na no X4 Y Z hP4_.1 d (mq_add v u) t hd FM4) (dk_rd (k := 9) (i := d) (x := (X4 9 d)) (y := (Y 9 d)) (z := (Z 9 d)) hP4_ hd rfl rfl rfl) rfl rfl ⟨by decide, by decide⟩ (Nat.le_of_ble_eq_true rfl) ⟨by decide, by decide⟩ (fun _ => rfl) (fun v8_ h8_ n8_ p8_ => ?_)
  obtain ⟨rfl, p8_⟩ := p8_
  rcases p8_ with ⟨z, _⟩ | ⟨z, z2, X9, z3, z4, z5⟩
  · omega
  · exact z_iret C dd_N_combine_56 ⟨rfl, z2, X9, dk_tr hP4_ z3, z4, (dk_fd_tr fd2 (dk_fd_tr fd4 z5))⟩ (by decide) (by decide)
set_option maxRecDepth 20000 in
/-- combine -/
theorem cd_N_combine_mul (l : Launch) (D : va_G) (dA : Nat → ClassId) (B : Nat) (h : zz_H) (n : Nat) (ad : Nat → Nat → Nat) (ng nM : Nat) (na no : Nat → Nat) (X : dk_X) (Y : dk_Y) (Z : dk_Z) (hP0 : dk_P dA ad (dk_lv ng nM na no) X Y Z h) (d u v : Nat) (t : List Nat) (hd : d < 8) (hu : u < 64) (hv : v < 64) (FM : dk_fm X d (u :: v :: t)) : zz_M l D zz_cl (zz_ty dA) B zz_tb (zz_x B) yy_N_combine (Cond.code yy_N_combine bb_N_combine 5 (some FieldType.int)) rm_N_combine [.ref ((ad 9 d)), .int 0] h n zz_mi (fun r h' n' => n' = n ∧ r = nI (mq_mul v u) ∧ ∃ X', dk_K dA ad (dk_lv ng nM na no) X' Y Z h h' ∧ dk_fm X' d (mq_mul v u :: t) ∧ dk_fd d X X') := by
  refine zz_ofW (zz_f B) [some (.ref ((ad 9 d))), some (.int 0), none, none, none] (by decide) rfl rfl (Nat.le_of_ble_eq_true rfl) ?_
  intro p e s m below meth c C
  have hP := dk_rf hP0
  have h6 : t.length + 1 + 1 ≤ 6 := FM.2.2
  have f4 : X 9 d 4 = nI (t.length + 2) := FM.1
  refine z_aload_n C dd_N_combine_0 rfl ?_
  refine z_iconst (v := 2) C dd_N_combine_1 (by decide) ?_
  refine iv_N_160 (sk := fun r => .int r :: []) (zz_f B) C dd_N_combine_2 (cc_E_has l D dA B _ _ _ _ _ _ _ _ (dk_rd (k := 9) (i := d) (x := (X 9 d)) (y := (Y 9 d)) (z := (Z 9 d)) hP hd rfl rfl rfl) 2) (dk_rd (k := 9) (i := d) (x := (X 9 d)) (y := (Y 9 d)) (z := (Z 9 d)) hP hd rfl rfl rfl) rfl rfl ⟨by decide, by decide⟩ (Nat.le_of_ble_eq_true rfl) ⟨by decide, by decide⟩ (fun _ => rfl) (fun v1_ h1_ n1_ p1_ => ?_)
  obtain ⟨f1_, e1_, p1_⟩ := p1_
  have e1z := e1_.symm
  have f1z := f1_.symm
  subst e1z
  subst f1z
  have e9 : v1_ = 1 := by
    rcases p1_ with ⟨z1, z2⟩ | ⟨z1, z2⟩
    · rw [f4] at z1; exact absurd ((@nI_ltI (t.length + 2) 2 (by omega) (by omega)).mp z1) (by omega)
    · exact z2
  have e9z := e9.symm
  subst e9z
  refine z_if_ne (tgt := 11) C dd_N_combine_5 (by decide) (fun q1 => ?_) (fun q1 => absurd q1 (by decide))
  refine z_aload_n C dd_N_combine_11 rfl ?_
  refine iv_N_163 (sk := fun r => .int r :: []) (zz_f B) C dd_N_combine_12 (cd_E_pop l D dA B _ _ ad ng nM na no X Y Z hP.1 d u (v :: t) hd FM) (dk_rd (k := 9) (i := d) (x := (X 9 d)) (y := (Y 9 d)) (z := (Z 9 d)) hP hd rfl rfl rfl) rfl rfl ⟨by decide, by decide⟩ (Nat.le_of_ble_eq_true rfl) ⟨by decide, by decide⟩ (fun _ => rfl) (fun v2_ h2_ n2_ p2_ => ?_)
  obtain ⟨rfl, q2_, X2, w2_, FM2, fd2⟩ := p2_
  have q2z := q2_.symm
  subst q2z
  have hP2_ := dk_tr hP w2_
  refine is_N_166 (sk := fun r => .int r :: []) (zz_f B) C dd_N_combine_15 (cc_V_numberOf l D dA B _ _ _) rfl rfl ⟨by decide, by decide⟩ (Nat.le_of_ble_eq_true rfl) ⟨by decide, by decide⟩ (fun _ => rfl) (fun v3_ h3_ n3_ p3_ => ?_)
  obtain ⟨f3_, e3_, p3_⟩ := p3_
  have e3z := e3_.symm
  have f3z := f3_.symm
  subst e3z
  subst f3z
  refine z_topi (y := nI (u % 8) - 4) (by rw [p3_, dk_num u (by omega)]) ?_
  refine z_istore_n C dd_N_combine_18 rfl ?_
  refine z_aload_n C dd_N_combine_19 rfl ?_
  refine iv_N_163 (sk := fun r => .int r :: []) (zz_f B) C dd_N_combine_20 (cd_E_pop l D dA B _ _ ad ng nM na no X2 Y Z hP2_.1 d v t hd FM2) (dk_rd (k := 9) (i := d) (x := (X2 9 d)) (y := (Y 9 d)) (z := (Z 9 d)) hP2_ hd rfl rfl rfl) rfl rfl ⟨by decide, by decide⟩ (Nat.le_of_ble_eq_true rfl) ⟨by decide, by decide⟩ (fun _ => rfl) (fun v4_ h4_ n4_ p4_ => ?_)
  obtain ⟨rfl, q4_, X4, w4_, FM4, fd4⟩ := p4_
  have q4z := q4_.symm
  subst q4z
  have hP4_ := dk_tr hP2_ w4_
  refine z_istore_n C dd_N_combine_23 rfl ?_
  refine z_iload_n C dd_N_combine_24 rfl ?_
  refine is_N_166 (sk := fun r => .int r :: []) (zz_f B) C dd_N_combine_25 (cc_V_numberOf l D dA B _ _ _) rfl rfl ⟨by decide, by decide⟩ (Nat.le_of_ble_eq_true rfl) ⟨by decide, by decide⟩ (fun _ => rfl) (fun v5_ h5_ n5_ p5_ => ?_)
  obtain ⟨f5_, e5_, p5_⟩ := p5_
  have e5z := e5_.symm
  have f5z := f5_.symm
  subst e5z
  subst f5z
  refine z_topi (y := nI (v % 8) - 4) (by rw [p5_, dk_num v (by omega)]) ?_
  refine z_istore C dd_N_combine_28 rfl ?_
  refine z_aload_n C dd_N_combine_30 rfl ?_
  refine z_iload_n C dd_N_combine_31 rfl ?_
  refine is_N_169 (sk := fun r => .int r :: [.ref ((ad 9 d))]) (zz_f B) C dd_N_combine_32 (cc_V_classOf l D dA B _ _ _) rfl rfl ⟨by decide, by decide⟩ (Nat.le_of_ble_eq_true rfl) ⟨by decide, by decide⟩ (fun _ => rfl) (fun v6_ h6_ n6_ p6_ => ?_)
  obtain ⟨f6_, e6_, p6_⟩ := p6_
  have e6z := e6_.symm
  have f6z := f6_.symm
  subst e6z
  subst f6z
  refine z_topi (y := nI (v / 8)) (by rw [p6_, dk_cls v (by omega)]) ?_
  refine z_iload_n C dd_N_combine_35 rfl ?_
  refine z_if_eq (tgt := 46) C dd_N_combine_36 (by decide) (fun q2 => ?_) (fun q2 => absurd (by decide) q2)
  refine z_iload C dd_N_combine_46 rfl ?_
  refine z_iload_n C dd_N_combine_48 rfl ?_
  refine z_imul C dd_N_combine_49 ?_
  refine is_N_133 (sk := fun r => .int r :: [.ref ((ad 9 d))]) (zz_f B) C dd_N_combine_50 (cc_V_of l D dA B _ _ _ _) rfl rfl ⟨by decide, by decide⟩ (Nat.le_of_ble_eq_true rfl) ⟨by decide, by decide⟩ (fun _ => rfl) (fun v7_ h7_ n7_ p7_ => ?_)
  obtain ⟨f7_, e7_, p7_⟩ := p7_
  have e7z := e7_.symm
  have f7z := f7_.symm
  subst e7z
  subst f7z
  refine z_topi (y := nI (mq_mul v u)) (by rw [p7_]; exact (dk_omul hv).symm) ?_
  refine iv_N_139 (sk := fun r => .int r :: []) (zz_f B) C dd_N_combine_53 (cd_E_push l D dA B _ _ ad ng nM na no X4 Y Z hP4_.1 d (mq_mul v u) t hd FM4) (dk_rd (k := 9) (i := d) (x := (X4 9 d)) (y := (Y 9 d)) (z := (Z 9 d)) hP4_ hd rfl rfl rfl) rfl rfl ⟨by decide, by decide⟩ (Nat.le_of_ble_eq_true rfl) ⟨by decide, by decide⟩ (fun _ => rfl) (fun v8_ h8_ n8_ p8_ => ?_)
  obtain ⟨rfl, p8_⟩ := p8_
  rcases p8_ with ⟨z, _⟩ | ⟨z, z2, X9, z3, z4, z5⟩
  · omega
  · exact z_iret C dd_N_combine_56 ⟨rfl, z2, X9, dk_tr hP4_ z3, z4, (dk_fd_tr fd2 (dk_fd_tr fd4 z5))⟩ (by decide) (by decide)
abbrev rm_N_recast : Room := { frames := 3, cells := 0, slots := 0, locals := 60 }
set_option maxRecDepth 20000 in
/-- recast -/
theorem cd_N_recast (l : Launch) (D : va_G) (dA : Nat → ClassId) (B : Nat) (h : zz_H) (n : Nat) (ad : Nat → Nat → Nat) (ng nM : Nat) (na no : Nat → Nat) (X : dk_X) (Y : dk_Y) (Z : dk_Z) (hP0 : dk_P dA ad (dk_lv ng nM na no) X Y Z h) (d u c9 : Nat) (t : List Nat) (hd : d < 8) (hu : u < 64) (hc : c9 < 8) (FM : dk_fm X d (u :: t)) : zz_M l D zz_cl (zz_ty dA) B zz_tb (zz_x B) yy_N_recast (Cond.code yy_N_recast bb_N_recast 2 (some FieldType.int)) rm_N_recast [.ref ((ad 9 d)), .int ((nI c9))] h n zz_mi (fun r h' n' => n' = n ∧ r = nI (8 * c9 + u % 8) ∧ ∃ X', dk_K dA ad (dk_lv ng nM na no) X' Y Z h h' ∧ dk_fm X' d ((8 * c9 + u % 8) :: t) ∧ dk_fd d X X') := by
  refine zz_ofW (zz_f B) [some (.ref ((ad 9 d))), some (.int ((nI c9)))] (by decide) rfl rfl (Nat.le_of_ble_eq_true rfl) ?_
  intro p e s m below meth c C
  have hP := dk_rf hP0
  have h6 : t.length + 1 ≤ 6 := FM.2.2
  have f4 : X 9 d 4 = nI (t.length + 1) := FM.1
  refine z_aload_n C dd_N_recast_0 rfl ?_
  refine z_iconst (v := 1) C dd_N_recast_1 (by decide) ?_
  refine iv_N_160 (sk := fun r => .int r :: []) (zz_f B) C dd_N_recast_2 (cc_E_has l D dA B _ _ _ _ _ _ _ _ (dk_rd (k := 9) (i := d) (x := (X 9 d)) (y := (Y 9 d)) (z := (Z 9 d)) hP hd rfl rfl rfl) 1) (dk_rd (k := 9) (i := d) (x := (X 9 d)) (y := (Y 9 d)) (z := (Z 9 d)) hP hd rfl rfl rfl) rfl rfl ⟨by decide, by decide⟩ (Nat.le_of_ble_eq_true rfl) ⟨by decide, by decide⟩ (fun _ => rfl) (fun v1_ h1_ n1_ p1_ => ?_)
  obtain ⟨f1_, e1_, p1_⟩ := p1_
  have e1z := e1_.symm
  have f1z := f1_.symm
  subst e1z
  subst f1z
  have e9 : v1_ = 1 := by
    rcases p1_ with ⟨z1, z2⟩ | ⟨z1, z2⟩
    · rw [f4] at z1; exact absurd ((@nI_ltI (t.length + 1) 1 (by omega) (by omega)).mp z1) (by omega)
    · exact z2
  have e9z := e9.symm
  subst e9z
  refine z_if_ne (tgt := 11) C dd_N_recast_5 (by decide) (fun q1 => ?_) (fun q1 => absurd q1 (by decide))
  refine z_aload_n C dd_N_recast_11 rfl ?_
  refine z_iload_n C dd_N_recast_12 rfl ?_
  refine z_aload_n C dd_N_recast_13 rfl ?_
  refine iv_N_163 (sk := fun r => .int r :: [.int ((nI c9)), .ref ((ad 9 d))]) (zz_f B) C dd_N_recast_14 (cd_E_pop l D dA B _ _ ad ng nM na no X Y Z hP.1 d u t hd FM) (dk_rd (k := 9) (i := d) (x := (X 9 d)) (y := (Y 9 d)) (z := (Z 9 d)) hP hd rfl rfl rfl) rfl rfl ⟨by decide, by decide⟩ (Nat.le_of_ble_eq_true rfl) ⟨by decide, by decide⟩ (fun _ => rfl) (fun v2_ h2_ n2_ p2_ => ?_)
  obtain ⟨rfl, q2_, X2, w2_, FM2, fd2⟩ := p2_
  have q2z := q2_.symm
  subst q2z
  have hP2_ := dk_tr hP w2_
  refine is_N_166 (sk := fun r => .int r :: [.int ((nI c9)), .ref ((ad 9 d))]) (zz_f B) C dd_N_recast_17 (cc_V_numberOf l D dA B _ _ _) rfl rfl ⟨by decide, by decide⟩ (Nat.le_of_ble_eq_true rfl) ⟨by decide, by decide⟩ (fun _ => rfl) (fun v3_ h3_ n3_ p3_ => ?_)
  obtain ⟨f3_, e3_, p3_⟩ := p3_
  have e3z := e3_.symm
  have f3z := f3_.symm
  subst e3z
  subst f3z
  refine z_topi (y := nI (u % 8) - 4) (by rw [p3_, dk_num u (by omega)]) ?_
  refine is_N_133 (sk := fun r => .int r :: [.ref ((ad 9 d))]) (zz_f B) C dd_N_recast_20 (cc_V_of l D dA B _ _ _ _) rfl rfl ⟨by decide, by decide⟩ (Nat.le_of_ble_eq_true rfl) ⟨by decide, by decide⟩ (fun _ => rfl) (fun v4_ h4_ n4_ p4_ => ?_)
  obtain ⟨f4_, e4_, p4_⟩ := p4_
  have e4z := e4_.symm
  have f4z := f4_.symm
  subst e4z
  subst f4z
  refine z_topi (y := nI (8 * c9 + u % 8)) (by rw [p4_]; exact (dk_ocls hc).symm) ?_
  refine iv_N_139 (sk := fun r => .int r :: []) (zz_f B) C dd_N_recast_23 (cd_E_push l D dA B _ _ ad ng nM na no X2 Y Z hP2_.1 d (8 * c9 + u % 8) t hd FM2) (dk_rd (k := 9) (i := d) (x := (X2 9 d)) (y := (Y 9 d)) (z := (Z 9 d)) hP2_ hd rfl rfl rfl) rfl rfl ⟨by decide, by decide⟩ (Nat.le_of_ble_eq_true rfl) ⟨by decide, by decide⟩ (fun _ => rfl) (fun v5_ h5_ n5_ p5_ => ?_)
  obtain ⟨rfl, p5_⟩ := p5_
  rcases p5_ with ⟨z, _⟩ | ⟨z, z2, X9, z3, z4, z5⟩
  · omega
  · exact z_iret C dd_N_recast_26 ⟨rfl, z2, X9, dk_tr hP2_ z3, z4, (dk_fd_tr fd2 z5)⟩ (by decide) (by decide)
set_option maxRecDepth 20000 in
/-- too few -/
theorem cd_N_combine_few (l : Launch) (D : va_G) (dA : Nat → ClassId) (B : Nat) (h : zz_H) (n : Nat) (ad : Nat → Nat → Nat) (ng nM : Nat) (na no : Nat → Nat) (X : dk_X) (Y : dk_Y) (Z : dk_Z) (hP0 : dk_P dA ad (dk_lv ng nM na no) X Y Z h) (d : Nat) (st : List Nat) (hd : d < 8) (FM : dk_fm X d st) (hl : st.length < 2) (bv : Int32) : zz_M l D zz_cl (zz_ty dA) B zz_tb (zz_x B) yy_N_combine (Cond.code yy_N_combine bb_N_combine 5 (some FieldType.int)) rm_N_combine [.ref ((ad 9 d)), .int bv] h n zz_mi (fun r h' n' => n' = n ∧ h' = h ∧ r = -4) := by
  refine zz_ofW (zz_f B) [some (.ref ((ad 9 d))), some (.int bv), none, none, none] (by decide) rfl rfl (Nat.le_of_ble_eq_true rfl) ?_
  intro p e s m below meth c C
  have hP := dk_rf hP0
  refine z_aload_n C dd_N_combine_0 rfl ?_
  refine z_iconst (v := 2) C dd_N_combine_1 (by decide) ?_
  refine iv_N_160 (sk := fun r => .int r :: []) (zz_f B) C dd_N_combine_2 (cc_E_has l D dA B _ _ _ _ _ _ _ _ (dk_rd (k := 9) (i := d) (x := (X 9 d)) (y := (Y 9 d)) (z := (Z 9 d)) hP hd rfl rfl rfl) 2) (dk_rd (k := 9) (i := d) (x := (X 9 d)) (y := (Y 9 d)) (z := (Z 9 d)) hP hd rfl rfl rfl) rfl rfl ⟨by decide, by decide⟩ (Nat.le_of_ble_eq_true rfl) ⟨by decide, by decide⟩ (fun _ => rfl) (fun v1_ h1_ n1_ p1_ => ?_)
  obtain ⟨f1_, e1_, p1_⟩ := p1_
  have e1z := e1_.symm
  have f1z := f1_.symm
  subst e1z
  subst f1z
  have e9 : v1_ = 0 := by
    rcases p1_ with ⟨z1, z2⟩ | ⟨z1, z2⟩
    · exact z2
    · rw [FM.1] at z1; exact absurd ((@nI_ltI st.length 2 (by omega) (by omega)).mpr hl) z1
  have e9z := e9.symm
  subst e9z
  refine z_if_ne (tgt := 11) C dd_N_combine_5 (by decide) (fun q1 => absurd (by decide) q1) (fun q1 => ?_)
  refine z_bipush (v := (-4)) C dd_N_combine_8 (by decide) ?_
  exact z_iret C dd_N_combine_10 ⟨rfl, rfl, rfl⟩ (by decide) (by decide)
set_option maxRecDepth 20000 in
/-- too few -/
theorem cd_N_recast_few (l : Launch) (D : va_G) (dA : Nat → ClassId) (B : Nat) (h : zz_H) (n : Nat) (ad : Nat → Nat → Nat) (ng nM : Nat) (na no : Nat → Nat) (X : dk_X) (Y : dk_Y) (Z : dk_Z) (hP0 : dk_P dA ad (dk_lv ng nM na no) X Y Z h) (d : Nat) (st : List Nat) (hd : d < 8) (FM : dk_fm X d st) (hl : st.length < 1) (bv : Int32) : zz_M l D zz_cl (zz_ty dA) B zz_tb (zz_x B) yy_N_recast (Cond.code yy_N_recast bb_N_recast 2 (some FieldType.int)) rm_N_recast [.ref ((ad 9 d)), .int bv] h n zz_mi (fun r h' n' => n' = n ∧ h' = h ∧ r = -4) := by
  refine zz_ofW (zz_f B) [some (.ref ((ad 9 d))), some (.int bv)] (by decide) rfl rfl (Nat.le_of_ble_eq_true rfl) ?_
  intro p e s m below meth c C
  have hP := dk_rf hP0
  refine z_aload_n C dd_N_recast_0 rfl ?_
  refine z_iconst (v := 1) C dd_N_recast_1 (by decide) ?_
  refine iv_N_160 (sk := fun r => .int r :: []) (zz_f B) C dd_N_recast_2 (cc_E_has l D dA B _ _ _ _ _ _ _ _ (dk_rd (k := 9) (i := d) (x := (X 9 d)) (y := (Y 9 d)) (z := (Z 9 d)) hP hd rfl rfl rfl) 1) (dk_rd (k := 9) (i := d) (x := (X 9 d)) (y := (Y 9 d)) (z := (Z 9 d)) hP hd rfl rfl rfl) rfl rfl ⟨by decide, by decide⟩ (Nat.le_of_ble_eq_true rfl) ⟨by decide, by decide⟩ (fun _ => rfl) (fun v1_ h1_ n1_ p1_ => ?_)
  obtain ⟨f1_, e1_, p1_⟩ := p1_
  have e1z := e1_.symm
  have f1z := f1_.symm
  subst e1z
  subst f1z
  have e9 : v1_ = 0 := by
    rcases p1_ with ⟨z1, z2⟩ | ⟨z1, z2⟩
    · exact z2
    · rw [FM.1] at z1; exact absurd ((@nI_ltI st.length 1 (by omega) (by omega)).mpr hl) z1
  have e9z := e9.symm
  subst e9z
  refine z_if_ne (tgt := 11) C dd_N_recast_5 (by decide) (fun q1 => absurd (by decide) q1) (fun q1 => ?_)
  refine z_bipush (v := (-4)) C dd_N_recast_8 (by decide) ?_
  exact z_iret C dd_N_recast_10 ⟨rfl, rfl, rfl⟩ (by decide) (by decide)
abbrev rm_N_pushUnlessEnded : Room := { frames := 3, cells := 0, slots := 0, locals := 60 }
set_option maxRecDepth 20000 in
/-- what ended goes up -/
theorem cd_N_pue_e (l : Launch) (D : va_G) (dA : Nat → ClassId) (B : Nat) (h : zz_H) (n : Nat) (ad : Nat → Nat → Nat) (ng nM : Nat) (na no : Nat → Nat) (X : dk_X) (Y : dk_Y) (Z : dk_Z) (hP0 : dk_P dA ad (dk_lv ng nM na no) X Y Z h) (d : Nat) (hd : d < 8) (v9 : Int32) (hv : v9 < 0) : zz_M l D zz_cl (zz_ty dA) B zz_tb (zz_x B) yy_N_pushUnlessEnded (Cond.code yy_N_pushUnlessEnded bb_N_pushUnlessEnded 2 (some FieldType.int)) rm_N_pushUnlessEnded [.ref ((ad 9 d)), .int v9] h n zz_mi (fun r h' n' => n' = n ∧ h' = h ∧ r = v9) := by
  refine zz_ofW (zz_f B) [some (.ref ((ad 9 d))), some (.int v9)] (by decide) rfl rfl (Nat.le_of_ble_eq_true rfl) ?_
  intro p e s m below meth c C
  have hP := dk_rf hP0
  refine z_iload_n C dd_N_pushUnlessEnded_0 rfl ?_
  refine z_if_ge (tgt := 8) C dd_N_pushUnlessEnded_1 (by decide) (fun q1 => absurd hv (Int32.not_lt.mpr q1)) (fun q1 => ?_)
  refine z_iload_n C dd_N_pushUnlessEnded_4 rfl ?_
  refine z_goto (tgt := 13) C dd_N_pushUnlessEnded_5 (by decide) ?_
  exact z_iret C dd_N_pushUnlessEnded_13 ⟨rfl, rfl, rfl⟩ (by decide) (by decide)
set_option maxRecDepth 20000 in
/-- a value is pushed -/
theorem cd_N_pue_v (l : Launch) (D : va_G) (dA : Nat → ClassId) (B : Nat) (h : zz_H) (n : Nat) (ad : Nat → Nat → Nat) (ng nM : Nat) (na no : Nat → Nat) (X : dk_X) (Y : dk_Y) (Z : dk_Z) (hP0 : dk_P dA ad (dk_lv ng nM na no) X Y Z h) (d v : Nat) (st : List Nat) (hd : d < 8) (hv : v < 64) (FM : dk_fm X d st) : zz_M l D zz_cl (zz_ty dA) B zz_tb (zz_x B) yy_N_pushUnlessEnded (Cond.code yy_N_pushUnlessEnded bb_N_pushUnlessEnded 2 (some FieldType.int)) rm_N_pushUnlessEnded [.ref ((ad 9 d)), .int ((nI v))] h n zz_mi (fun r h' n' => n' = n ∧ ((st.length = 6 ∧ r = -4 ∧ h' = h) ∨ (st.length < 6 ∧ r = nI v ∧ ∃ X', dk_K dA ad (dk_lv ng nM na no) X' Y Z h h' ∧ dk_fm X' d (v :: st) ∧ dk_fd d X X'))) := by
  refine zz_ofW (zz_f B) [some (.ref ((ad 9 d))), some (.int ((nI v)))] (by decide) rfl rfl (Nat.le_of_ble_eq_true rfl) ?_
  intro p e s m below meth c C
  have hP := dk_rf hP0
  refine z_iload_n C dd_N_pushUnlessEnded_0 rfl ?_
  refine z_if_ge (tgt := 8) C dd_N_pushUnlessEnded_1 (by decide) (fun q1 => ?_) (fun q1 => ?_)
  · replace q1 : 0 ≤ v := (@nI_leI 0 v (by omega) (by omega)).mp q1
    refine z_aload_n C dd_N_pushUnlessEnded_8 rfl ?_
    refine z_iload_n C dd_N_pushUnlessEnded_9 rfl ?_
    refine iv_N_139 (sk := fun r => .int r :: []) (zz_f B) C dd_N_pushUnlessEnded_10 (cd_E_push l D dA B _ _ ad ng nM na no X Y Z hP.1 d v st hd FM) (dk_rd (k := 9) (i := d) (x := (X 9 d)) (y := (Y 9 d)) (z := (Z 9 d)) hP hd rfl rfl rfl) rfl rfl ⟨by decide, by decide⟩ (Nat.le_of_ble_eq_true rfl) ⟨by decide, by decide⟩ (fun _ => rfl) (fun v1_ h1_ n1_ p1_ => ?_)
    exact z_iret C dd_N_pushUnlessEnded_13 p1_ (by decide) (by decide)
  · replace q1 : ¬ 0 ≤ v := fun z => q1 ((@nI_leI 0 v (by omega) (by omega)).mpr z)
    omega
abbrev rm_N_load : Room := { frames := 1, cells := 0, slots := 0, locals := 0 }
set_option maxRecDepth 20000 in
/-- load -/
theorem cd_N_load (l : Launch) (D : va_G) (dA : Nat → ClassId) (B : Nat) (h : zz_H) (n : Nat) (ad : Nat → Nat → Nat) (ng nM : Nat) (na no : Nat → Nat) (X : dk_X) (Y : dk_Y) (Z : dk_Z) (hP0 : dk_P dA ad (dk_lv ng nM na no) X Y Z h) (f9 : Int32) : zz_M l D zz_cl (zz_ty dA) B zz_tb (zz_x B) yy_N_load (Cond.code yy_N_load bb_N_load 4 none) rm_N_load [.ref ((ad 7 0)), .ref ((ad 3 0)), .ref ((ad 4 0)), .int f9] h n zz_mv (fun _ h' n' => n' = n ∧ dk_K dA ad (dk_lv ng nM na no) (dk_is X 7 0 (upd (upd (X 7 0) 0 f9) 1 0)) Y (dk_is Z 7 0 (va_up (va_up (Z 7 0) 2 (some (ad 3 0))) 3 (some (ad 4 0)))) h h') := by
  refine zz_ofW (zz_f B) [some (.ref ((ad 7 0))), some (.ref ((ad 3 0))), some (.ref ((ad 4 0))), some (.int f9)] (by decide) rfl rfl (Nat.le_of_ble_eq_true rfl) ?_
  intro p e s m below meth c C
  have hP := dk_rf hP0
  refine z_aload_n C dd_N_load_0 rfl ?_
  refine z_aload_n C dd_N_load_1 rfl ?_
  refine pf_N_16 C dd_N_load_2 (dk_rd (k := 7) (i := 0) (x := (X 7 0)) (y := (Y 7 0)) (z := (Z 7 0)) hP rfl rfl rfl rfl) (Nat.le_of_ble_eq_true rfl) rfl rfl ?_
  refine z_cut (dk_K dA ad (dk_lv ng nM na no) X Y (dk_is Z 7 0 (va_up (Z 7 0) 2 (some (ad 3 0)))) h) (dk_wZ hP rfl rfl rfl rfl) rfl rfl rfl (fun h1_ hP1_ => ?_)
  refine z_aload_n C dd_N_load_5 rfl ?_
  refine z_aload_n C dd_N_load_6 rfl ?_
  refine pf_N_20 C dd_N_load_7 (dk_rd (k := 7) (i := 0) (x := (X 7 0)) (y := (Y 7 0)) (z := (va_up (Z 7 0) 2 (some (ad 3 0)))) hP1_ rfl rfl rfl dk_s) (Nat.le_of_ble_eq_true rfl) rfl rfl ?_
  refine z_cut (dk_K dA ad (dk_lv ng nM na no) X Y (dk_is (dk_is Z 7 0 (va_up (Z 7 0) 2 (some (ad 3 0)))) 7 0 (va_up (va_up (Z 7 0) 2 (some (ad 3 0))) 3 (some (ad 4 0)))) h) (dk_wZ hP1_ rfl rfl rfl rfl) rfl rfl rfl (fun h2_ hP2_ => ?_)
  refine z_aload_n C dd_N_load_10 rfl ?_
  refine z_iload_n C dd_N_load_11 rfl ?_
  refine pf_N_7 C dd_N_load_12 (dk_rd (k := 7) (i := 0) (x := (X 7 0)) (y := (Y 7 0)) (z := (va_up (va_up (Z 7 0) 2 (some (ad 3 0))) 3 (some (ad 4 0)))) hP2_ rfl rfl rfl dk_s) (Nat.le_of_ble_eq_true rfl) rfl rfl ?_
  refine z_cut (dk_K dA ad (dk_lv ng nM na no) (dk_is X 7 0 (upd (X 7 0) 0 f9)) Y (dk_is (dk_is Z 7 0 (va_up (Z 7 0) 2 (some (ad 3 0)))) 7 0 (va_up (va_up (Z 7 0) 2 (some (ad 3 0))) 3 (some (ad 4 0)))) h) (dk_wX hP2_ rfl rfl dk_s rfl) rfl rfl rfl (fun h3_ hP3_ => ?_)
  refine z_aload_n C dd_N_load_15 rfl ?_
  refine z_iconst (v := 0) C dd_N_load_16 (by decide) ?_
  refine pf_N_13 C dd_N_load_17 (dk_rd (k := 7) (i := 0) (x := (upd (X 7 0) 0 f9)) (y := (Y 7 0)) (z := (va_up (va_up (Z 7 0) 2 (some (ad 3 0))) 3 (some (ad 4 0)))) hP3_ rfl dk_s rfl dk_s) (Nat.le_of_ble_eq_true rfl) rfl rfl ?_
  refine z_cut (dk_K dA ad (dk_lv ng nM na no) (dk_is (dk_is X 7 0 (upd (X 7 0) 0 f9)) 7 0 (upd (upd (X 7 0) 0 f9) 1 0)) Y (dk_is (dk_is Z 7 0 (va_up (Z 7 0) 2 (some (ad 3 0)))) 7 0 (va_up (va_up (Z 7 0) 2 (some (ad 3 0))) 3 (some (ad 4 0)))) h) (dk_wX hP3_ rfl rfl dk_s rfl) rfl rfl rfl (fun h4_ hP4_ => ?_)
  rw [dk_ii, dk_ii] at hP4_
  exact z_vret C dd_N_load_20 ⟨rfl, hP4_⟩ (by decide) (by decide)
