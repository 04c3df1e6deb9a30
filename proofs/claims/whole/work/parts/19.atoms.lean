/-! Mathematical values: what both sides are tied to. -/
theorem nI_inc (k : Nat) : nI k + Int32.ofInt 1 = nI (k + 1) := (nI_succ k).symm
/-- the class c is d, by at most f steps up -/
def pu_is (par : Nat → Int32) : Nat → Nat → Nat → Bool
  | 0, c, d => decide (c = d)
  | f + 1, c, d => decide (c = d) || (decide (0 < c) && pu_is par f (par c).toNatClampNeg d)
/-- an atom's test of a row -/
def pu_holds (par : Nat → Int32) (kd wh : Nat) (x : Int32) (p q : Nat) : Bool :=
  if kd = 0 then pu_is par 8 ((if wh = 0 then p else q) / 8) x.toNatClampNeg
  else if kd = 1 then decide (nI ((if wh = 0 then p else q) % 8) - 4 < x)
  else if kd = 2 then decide (nI ((if wh = 0 then p else q) % 8) - 4 = x)
  else if kd = 3 then decide ((if wh = 0 then p else q) % 2 = 0)
  else if kd = 4 then decide (p % 8 < q % 8)
  else decide (p / 8 = q / 8)
def pu_b (b : Bool) : Int32 := if b then 1 else 0
theorem pu_bn (b : Bool) : narrow .boolean (.int (pu_b b)) = .int (pu_b b) := by cases b <;> rfl
section PI
variable {D : va_G} {cl : List vw_C} {tys : List (ClassId × FieldType)} {B : Nat} {tb : List Cond} {X : State → Heap → Prop} {p : Program} {l : Launch} {e : Env} {R : Room} {s : State} {m : MethodId} {args : Array Value} {below : List Frame} {meth : Method} {c : Code} {Q : State → Prop} {h : zz_H} {n cells slots : Nat} {L : List (Option Value)} {cc : ByteArray} {pc : Nat} {rest : List Value} {own nm : String} {ret : Option FieldType}
theorem z_iincN (C : zz_C D cl tys B tb X p s m args meth c cc own ret nm) {i k : Nat} (d : decode cc pc = .ok (.iinc i 1, 3)) (hl : zz_l L i = some (.int (nI k))) (hs : zz_so L i = true) (k9 : zz_W D cl B p l e R s m args below meth c Q h n cells slots (zz_s L i (some (.int (nI (k + 1))))) (pc + 3) rest) : zz_W D cl B p l e R s m args below meth c Q h n cells slots L pc rest := by
  rw [← nI_inc] at k9
  exact z_iinc C d hl hs k9
end PI
abbrev rm_Q_isClass : Room := { frames := 1, cells := 0, slots := 0, locals := 0 }
theorem lp_Q_isClass {D : va_G} {dA : Nat → ClassId} {B : Nat} {p : Program} {l : Launch} {e : Env} {s : State} {m : MethodId} {args : Array Value} {below : List Frame} {meth : Method} {c : Code} {Q : State → Prop} {n : Nat} {nm : String} {ret9 : Option FieldType} {h : zz_H} (C : zz_C D zz_cl (zz_ty dA) B zz_tb (zz_x B) p s m args meth c bb_Q_isClass RR_Q ret9 nm) {q c0 d0 : Nat} {F : Nat → Int32} {I : Nat → Nat → Int32} {J : Nat → Nat → Int64} (hP : md_P dA F I J q h) (hd : d0 < 8) (wf : ∀ j, 0 < j → j < 8 → j ≤ c0 → ∃ p, p < j ∧ I 0 j = nI p) (kx : ∀ k9 n9, k9 < 8 → pu_is (I 0) 8 c0 d0 = decide (k9 = d0) → zz_W D zz_cl B p l e rm_Q_isClass s m args below meth c Q h n 0 0 [some (.ref q), some (.int ((nI c0))), some (.int ((nI d0))), some (.int ((nI k9))), some (.int ((nI n9)))] 34 []) :
    ∀ f n9 k9, n9 + f = 8 → k9 + n9 ≤ 7 → k9 ≤ c0 → pu_is (I 0) f k9 d0 = pu_is (I 0) 8 c0 d0 → zz_W D zz_cl B p l e rm_Q_isClass s m args below meth c Q h n 0 0 [some (.ref q), some (.int ((nI c0))), some (.int ((nI d0))), some (.int ((nI k9))), some (.int ((nI n9)))] 5 [] := by
  intro f
  induction f with
  | zero => intro n9 k9 h1 h2; omega
  | succ f ih =>
    intro n9 k9 h1 h2 h3 h4
    refine z_iload C dd_Q_isClass_5 rfl ?_
    refine z_bipush (v := 8) C dd_Q_isClass_7 (by decide) ?_
    refine z_icmp_ge (tgt := 34) C dd_Q_isClass_9 (by decide) (fun q9 => absurd q9 (nI_ge (b := 8) (by omega) (by decide))) (fun q9 => ?_)
    refine z_iload_n C dd_Q_isClass_12 rfl ?_
    refine z_if_le (tgt := 34) C dd_Q_isClass_13 (by decide) (fun q13 => ?_) (fun q13 => ?_)
    · have hk : k9 = 0 := by
        rcases Nat.eq_zero_or_pos k9 with h0 | h0
        · exact h0
        · exact absurd q13 (nI_nle h0 (by omega))
      subst hk
      exact kx 0 n9 (by omega) (by rw [← h4]; simp [pu_is])
    · have hk : 0 < k9 := by
        rcases Nat.eq_zero_or_pos k9 with h0 | h0
        · subst h0; exact absurd (show nI 0 ≤ 0 by decide) q13
        · exact h0
      refine z_iload_n C dd_Q_isClass_16 rfl ?_
      refine z_iload_n C dd_Q_isClass_17 rfl ?_
      refine z_icmp_eq (tgt := 34) C dd_Q_isClass_18 (by decide) (fun q18 => ?_) (fun q18 => ?_)
      · exact kx k9 n9 (by omega) (by rw [← h4, (nI_eq (by omega) (by omega)).mp q18]; simp [pu_is])
      · obtain ⟨p9, hp9, hI9⟩ := wf k9 hk (by omega) h3
        refine z_aload_n C dd_Q_isClass_21 rfl ?_
        refine gf_Q_13 (v := .ref (q + 1 + 0)) C dd_Q_isClass_22 hP.1 rfl ?_
        refine z_iload_n C dd_Q_isClass_25 rfl ?_
        refine z_iald (t0 := 0) (N := 8) (f := I 0) C rfl dd_Q_isClass_26 (hP.2 0 (by decide)) (vp_in_nI (by omega) (by decide)) ?_
        refine z_topi (y := nI p9) (by rw [nI_clamp (by omega), hI9]) ?_
        refine z_istore_n C dd_Q_isClass_27 rfl ?_
        refine z_iincN C dd_Q_isClass_28 rfl rfl ?_
        refine z_goto (tgt := 5) C dd_Q_isClass_31 (by decide) ?_
        refine ih (n9 + 1) p9 (by omega) (by omega) (by omega) ?_
        rw [← h4, pu_is, hI9, nI_clamp (by omega)]
        have hne : ¬ k9 = d0 := fun z => q18 (by rw [z])
        simp [hne, hk]
set_option maxRecDepth 20000 in
/-- isClass -/
theorem cc_Q_isClass (l : Launch) (D : va_G) (dA : Nat → ClassId) (B : Nat) (h : zz_H) (n : Nat) (q : Nat) (F : Nat → Int32) (I : Nat → Nat → Int32) (J : Nat → Nat → Int64) (hP0 : md_P dA F I J q h) (c0 d0 : Nat) (hc : c0 < 8) (hd : d0 < 8) (wf : ∀ j, 0 < j → j < 8 → j ≤ c0 → ∃ p, p < j ∧ I 0 j = nI p) : zz_M l D zz_cl (zz_ty dA) B zz_tb (zz_x B) yy_Q_isClass (Cond.code yy_Q_isClass bb_Q_isClass 5 (some FieldType.boolean)) rm_Q_isClass [.ref q, .int ((nI c0)), .int ((nI d0))] h n zz_mi (fun r h' n' => h' = h ∧ n' = n ∧ r = pu_b (pu_is (I 0) 8 c0 d0)) := by
  refine zz_ofW (zz_f B) [some (.ref q), some (.int ((nI c0))), some (.int ((nI d0))), none, none] (by decide) rfl rfl (Nat.le_of_ble_eq_true rfl) ?_
  intro p e s m below meth c C
  refine z_iload_n C dd_Q_isClass_0 rfl ?_
  refine z_istore_n C dd_Q_isClass_1 rfl ?_
  refine z_iconst (v := 0) C dd_Q_isClass_2 (by decide) ?_
  refine z_topi (y := nI 0) (by decide) ?_
  refine z_istore C dd_Q_isClass_3 rfl ?_
  refine lp_Q_isClass C hP0 hd wf (fun k9 n9 hk hr => ?_) 8 0 c0 (by omega) (by omega) (by omega) rfl
  refine z_iload_n C dd_Q_isClass_34 rfl ?_
  refine z_iload_n C dd_Q_isClass_35 rfl ?_
  refine z_icmp_ne (tgt := 43) C dd_Q_isClass_36 (by decide) (fun q36 => ?_) (fun q36 => ?_)
  · refine z_iconst (v := 0) C dd_Q_isClass_43 (by decide) ?_
    have hne : ¬ k9 = d0 := fun z => q36 (by rw [z])
    exact z_zret C dd_Q_isClass_44 rfl ⟨rfl, rfl, by rw [hr]; simp [pu_b, hne]⟩ (by decide) (by decide)
  · refine z_iconst (v := 1) C dd_Q_isClass_39 (by decide) ?_
    refine z_goto (tgt := 44) C dd_Q_isClass_40 (by decide) ?_
    have he : k9 = d0 := (nI_eq (by omega) (by omega)).mp q36
    exact z_zret C dd_Q_isClass_44 rfl ⟨rfl, rfl, by rw [hr]; simp [pu_b, he]⟩ (by decide) (by decide)
def pu_wp (par : Nat → Int32) (nc : Nat) : Prop := ∀ j, 0 < j → j < nc → ∃ p, p < j ∧ par j = nI p
theorem pu_ev : ∀ j : Fin 8, ((nI j.val - 4) - (nI j.val - 4) / 2 * 2 = 0) ↔ j.val % 2 = 0 := by decide +kernel
theorem pu_ev' {j : Nat} (hj : j < 8) : ((nI j - 4) - (nI j - 4) / 2 * 2 = 0) ↔ j % 2 = 0 := pu_ev ⟨j, hj⟩
abbrev rm_Q_holds : Room := { frames := 3, cells := 0, slots := 0, locals := 60 }
set_option maxHeartbeats 4000000 in
set_option maxRecDepth 20000 in
/-- holds -/
theorem cc_Q_holds (l : Launch) (D : va_G) (dA : Nat → ClassId) (B : Nat) (h : zz_H) (n : Nat) (q : Nat) (F : Nat → Int32) (I : Nat → Nat → Int32) (J : Nat → Nat → Int64) (hP0 : md_P dA F I J q h) (kd wh p0 q0 nc : Nat) (x y : Int32) (hk : kd < 6) (hw : wh < 2) (hnc : nc ≤ 8) (hp : p0 < 8 * nc) (hy : (wh = 0 ∧ kd < 4) ∨ (y = nI q0 ∧ q0 < 8 * nc)) (hx : kd = 0 → ∃ xd, xd < 8 ∧ x = nI xd) (wf : pu_wp (I 0) nc) : zz_M l D zz_cl (zz_ty dA) B zz_tb (zz_x B) yy_Q_holds (Cond.code yy_Q_holds bb_Q_holds 8 (some FieldType.boolean)) rm_Q_holds [.ref q, .int ((nI kd)), .int ((nI wh)), .int x, .int ((nI p0)), .int y] h n zz_mi (fun r h' n' => h' = h ∧ n' = n ∧ r = pu_b (pu_holds (I 0) kd wh x p0 q0)) := by
  refine zz_ofW (zz_f B) [some (.ref q), some (.int ((nI kd))), some (.int ((nI wh))), some (.int x), some (.int ((nI p0))), some (.int y), none, none] (by decide) rfl rfl (Nat.le_of_ble_eq_true rfl) ?_
  intro p e s m below meth c C
  rcases (show kd = 0 ∨ kd = 1 ∨ kd = 2 ∨ kd = 3 ∨ kd = 4 ∨ kd = 5 by omega) with rfl | rfl | rfl | rfl | rfl | rfl
  · rcases (show wh = 0 ∨ wh = 1 by omega) with rfl | rfl
    · skip
      obtain ⟨xd, hxd, rfl⟩ := hx rfl
      refine z_iload_n C dd_Q_holds_0 rfl ?_
      refine z_if_ne (tgt := 9) C dd_Q_holds_1 (by decide) (fun q1 => absurd (by decide) q1) (fun q1 => ?_)
      refine z_iload C dd_Q_holds_4 rfl ?_
      refine z_goto (tgt := 11) C dd_Q_holds_6 (by decide) ?_
      refine z_istore C dd_Q_holds_11 rfl ?_
      refine z_iload C dd_Q_holds_13 rfl ?_
      refine z_bipush (v := 8) C dd_Q_holds_15 (by decide) ?_
      refine z_irem C dd_Q_holds_17 (by decide) ?_
      refine z_topi (y := nI (p0 % 8)) (pk_rem (d := 8) (by omega) (by decide) (by decide)).symm ?_
      refine z_iconst (v := 4) C dd_Q_holds_18 (by decide) ?_
      refine z_isub C dd_Q_holds_19 ?_
      refine z_istore C dd_Q_holds_20 rfl ?_
      refine z_iload_n C dd_Q_holds_22 rfl ?_
      refine z_if_ne (tgt := 37) C dd_Q_holds_23 (by decide) (fun q2 => absurd (by decide) q2) (fun q2 => ?_)
      refine z_aload_n C dd_Q_holds_26 rfl ?_
      refine z_iload C dd_Q_holds_27 rfl ?_
      refine z_bipush (v := 8) C dd_Q_holds_29 (by decide) ?_
      refine z_idiv C dd_Q_holds_31 (by decide) ?_
      refine z_topi (y := nI (p0 / 8)) (pk_div (d := 8) (by omega) (by decide) (by decide)).symm ?_
      refine z_iload_n C dd_Q_holds_32 rfl ?_
      refine iv_Q_145 (sk := fun r => .int r :: []) (zz_f B) C dd_Q_holds_33 (cc_Q_isClass l D dA B _ _ q F I J hP0 (p0 / 8) xd (by omega) hxd (fun j j1 j2 j3 => wf j j1 (by omega))) hP0.1 rfl rfl ⟨by decide, by decide⟩ (Nat.le_of_ble_eq_true rfl) ⟨by decide, by decide⟩ (fun _ => rfl) (fun r1 h1 n1 p1 => ?_)
      obtain ⟨rfl, rfl, rfl⟩ := p1
      exact z_zret C dd_Q_holds_36 (pu_bn _) ⟨rfl, rfl, by simp [pu_holds, nI_clamp (show xd < 2 ^ 31 by omega)]⟩ (by decide) (by decide)
    · skip
      obtain ⟨rfl, hq⟩ : y = nI q0 ∧ q0 < 8 * nc := hy.resolve_left (fun z => absurd z (by decide))
      obtain ⟨xd, hxd, rfl⟩ := hx rfl
      refine z_iload_n C dd_Q_holds_0 rfl ?_
      refine z_if_ne (tgt := 9) C dd_Q_holds_1 (by decide) (fun q1 => ?_) (fun q1 => absurd q1 (by decide))
      refine z_iload C dd_Q_holds_9 rfl ?_
      refine z_istore C dd_Q_holds_11 rfl ?_
      refine z_iload C dd_Q_holds_13 rfl ?_
      refine z_bipush (v := 8) C dd_Q_holds_15 (by decide) ?_
      refine z_irem C dd_Q_holds_17 (by decide) ?_
      refine z_topi (y := nI (q0 % 8)) (pk_rem (d := 8) (by omega) (by decide) (by decide)).symm ?_
      refine z_iconst (v := 4) C dd_Q_holds_18 (by decide) ?_
      refine z_isub C dd_Q_holds_19 ?_
      refine z_istore C dd_Q_holds_20 rfl ?_
      refine z_iload_n C dd_Q_holds_22 rfl ?_
      refine z_if_ne (tgt := 37) C dd_Q_holds_23 (by decide) (fun q2 => absurd (by decide) q2) (fun q2 => ?_)
      refine z_aload_n C dd_Q_holds_26 rfl ?_
      refine z_iload C dd_Q_holds_27 rfl ?_
      refine z_bipush (v := 8) C dd_Q_holds_29 (by decide) ?_
      refine z_idiv C dd_Q_holds_31 (by decide) ?_
      refine z_topi (y := nI (q0 / 8)) (pk_div (d := 8) (by omega) (by decide) (by decide)).symm ?_
      refine z_iload_n C dd_Q_holds_32 rfl ?_
      refine iv_Q_145 (sk := fun r => .int r :: []) (zz_f B) C dd_Q_holds_33 (cc_Q_isClass l D dA B _ _ q F I J hP0 (q0 / 8) xd (by omega) hxd (fun j j1 j2 j3 => wf j j1 (by omega))) hP0.1 rfl rfl ⟨by decide, by decide⟩ (Nat.le_of_ble_eq_true rfl) ⟨by decide, by decide⟩ (fun _ => rfl) (fun r1 h1 n1 p1 => ?_)
      obtain ⟨rfl, rfl, rfl⟩ := p1
      exact z_zret C dd_Q_holds_36 (pu_bn _) ⟨rfl, rfl, by simp [pu_holds, nI_clamp (show xd < 2 ^ 31 by omega)]⟩ (by decide) (by decide)
  · rcases (show wh = 0 ∨ wh = 1 by omega) with rfl | rfl
    · skip
      refine z_iload_n C dd_Q_holds_0 rfl ?_
      refine z_if_ne (tgt := 9) C dd_Q_holds_1 (by decide) (fun q1 => absurd (by decide) q1) (fun q1 => ?_)
      refine z_iload C dd_Q_holds_4 rfl ?_
      refine z_goto (tgt := 11) C dd_Q_holds_6 (by decide) ?_
      refine z_istore C dd_Q_holds_11 rfl ?_
      refine z_iload C dd_Q_holds_13 rfl ?_
      refine z_bipush (v := 8) C dd_Q_holds_15 (by decide) ?_
      refine z_irem C dd_Q_holds_17 (by decide) ?_
      refine z_topi (y := nI (p0 % 8)) (pk_rem (d := 8) (by omega) (by decide) (by decide)).symm ?_
      refine z_iconst (v := 4) C dd_Q_holds_18 (by decide) ?_
      refine z_isub C dd_Q_holds_19 ?_
      refine z_istore C dd_Q_holds_20 rfl ?_
      refine z_iload_n C dd_Q_holds_22 rfl ?_
      refine z_if_ne (tgt := 37) C dd_Q_holds_23 (by decide) (fun q2 => ?_) (fun q2 => absurd q2 (by decide))
      refine z_iload_n C dd_Q_holds_37 rfl ?_
      refine z_iconst (v := 1) C dd_Q_holds_38 (by decide) ?_
      refine z_icmp_ne (tgt := 54) C dd_Q_holds_39 (by decide) (fun q3 => absurd (by decide) q3) (fun q3 => ?_)
      refine z_iload C dd_Q_holds_42 rfl ?_
      refine z_iload_n C dd_Q_holds_44 rfl ?_
      refine z_icmp_ge (tgt := 52) C dd_Q_holds_45 (by decide) (fun q4 => ?_) (fun q4 => ?_)
      · skip
        refine z_iconst (v := 0) C dd_Q_holds_52 (by decide) ?_
        refine z_zret C dd_Q_holds_53 rfl ⟨rfl, rfl, ?_⟩ (by decide) (by decide)
        simp [pu_holds, pu_b, Int32.not_lt.mpr q4]
      · skip
        refine z_iconst (v := 1) C dd_Q_holds_48 (by decide) ?_
        refine z_goto (tgt := 53) C dd_Q_holds_49 (by decide) ?_
        refine z_zret C dd_Q_holds_53 rfl ⟨rfl, rfl, ?_⟩ (by decide) (by decide)
        simp [pu_holds, pu_b, Int32.not_le.mp q4]
    · skip
      obtain ⟨rfl, hq⟩ : y = nI q0 ∧ q0 < 8 * nc := hy.resolve_left (fun z => absurd z (by decide))
      refine z_iload_n C dd_Q_holds_0 rfl ?_
      refine z_if_ne (tgt := 9) C dd_Q_holds_1 (by decide) (fun q1 => ?_) (fun q1 => absurd q1 (by decide))
      refine z_iload C dd_Q_holds_9 rfl ?_
      refine z_istore C dd_Q_holds_11 rfl ?_
      refine z_iload C dd_Q_holds_13 rfl ?_
      refine z_bipush (v := 8) C dd_Q_holds_15 (by decide) ?_
      refine z_irem C dd_Q_holds_17 (by decide) ?_
      refine z_topi (y := nI (q0 % 8)) (pk_rem (d := 8) (by omega) (by decide) (by decide)).symm ?_
      refine z_iconst (v := 4) C dd_Q_holds_18 (by decide) ?_
      refine z_isub C dd_Q_holds_19 ?_
      refine z_istore C dd_Q_holds_20 rfl ?_
      refine z_iload_n C dd_Q_holds_22 rfl ?_
      refine z_if_ne (tgt := 37) C dd_Q_holds_23 (by decide) (fun q2 => ?_) (fun q2 => absurd q2 (by decide))
      refine z_iload_n C dd_Q_holds_37 rfl ?_
      refine z_iconst (v := 1) C dd_Q_holds_38 (by decide) ?_
      refine z_icmp_ne (tgt := 54) C dd_Q_holds_39 (by decide) (fun q3 => absurd (by decide) q3) (fun q3 => ?_)
      refine z_iload C dd_Q_holds_42 rfl ?_
      refine z_iload_n C dd_Q_holds_44 rfl ?_
      refine z_icmp_ge (tgt := 52) C dd_Q_holds_45 (by decide) (fun q4 => ?_) (fun q4 => ?_)
      · skip
        refine z_iconst (v := 0) C dd_Q_holds_52 (by decide) ?_
        refine z_zret C dd_Q_holds_53 rfl ⟨rfl, rfl, ?_⟩ (by decide) (by decide)
        simp [pu_holds, pu_b, Int32.not_lt.mpr q4]
      · skip
        refine z_iconst (v := 1) C dd_Q_holds_48 (by decide) ?_
        refine z_goto (tgt := 53) C dd_Q_holds_49 (by decide) ?_
        refine z_zret C dd_Q_holds_53 rfl ⟨rfl, rfl, ?_⟩ (by decide) (by decide)
        simp [pu_holds, pu_b, Int32.not_le.mp q4]
  · rcases (show wh = 0 ∨ wh = 1 by omega) with rfl | rfl
    · skip
      refine z_iload_n C dd_Q_holds_0 rfl ?_
      refine z_if_ne (tgt := 9) C dd_Q_holds_1 (by decide) (fun q1 => absurd (by decide) q1) (fun q1 => ?_)
      refine z_iload C dd_Q_holds_4 rfl ?_
      refine z_goto (tgt := 11) C dd_Q_holds_6 (by decide) ?_
      refine z_istore C dd_Q_holds_11 rfl ?_
      refine z_iload C dd_Q_holds_13 rfl ?_
      refine z_bipush (v := 8) C dd_Q_holds_15 (by decide) ?_
      refine z_irem C dd_Q_holds_17 (by decide) ?_
      refine z_topi (y := nI (p0 % 8)) (pk_rem (d := 8) (by omega) (by decide) (by decide)).symm ?_
      refine z_iconst (v := 4) C dd_Q_holds_18 (by decide) ?_
      refine z_isub C dd_Q_holds_19 ?_
      refine z_istore C dd_Q_holds_20 rfl ?_
      refine z_iload_n C dd_Q_holds_22 rfl ?_
      refine z_if_ne (tgt := 37) C dd_Q_holds_23 (by decide) (fun q2 => ?_) (fun q2 => absurd q2 (by decide))
      refine z_iload_n C dd_Q_holds_37 rfl ?_
      refine z_iconst (v := 1) C dd_Q_holds_38 (by decide) ?_
      refine z_icmp_ne (tgt := 54) C dd_Q_holds_39 (by decide) (fun q3 => ?_) (fun q3 => absurd q3 (by decide))
      refine z_iload_n C dd_Q_holds_54 rfl ?_
      refine z_iconst (v := 2) C dd_Q_holds_55 (by decide) ?_
      refine z_icmp_ne (tgt := 71) C dd_Q_holds_56 (by decide) (fun q4 => absurd (by decide) q4) (fun q4 => ?_)
      refine z_iload C dd_Q_holds_59 rfl ?_
      refine z_iload_n C dd_Q_holds_61 rfl ?_
      refine z_icmp_ne (tgt := 69) C dd_Q_holds_62 (by decide) (fun q5 => ?_) (fun q5 => ?_)
      · skip
        refine z_iconst (v := 0) C dd_Q_holds_69 (by decide) ?_
        refine z_zret C dd_Q_holds_70 rfl ⟨rfl, rfl, ?_⟩ (by decide) (by decide)
        simp [pu_holds, pu_b, q5]
      · skip
        refine z_iconst (v := 1) C dd_Q_holds_65 (by decide) ?_
        refine z_goto (tgt := 70) C dd_Q_holds_66 (by decide) ?_
        refine z_zret C dd_Q_holds_70 rfl ⟨rfl, rfl, ?_⟩ (by decide) (by decide)
        simp [pu_holds, pu_b, q5]
    · skip
      obtain ⟨rfl, hq⟩ : y = nI q0 ∧ q0 < 8 * nc := hy.resolve_left (fun z => absurd z (by decide))
      refine z_iload_n C dd_Q_holds_0 rfl ?_
      refine z_if_ne (tgt := 9) C dd_Q_holds_1 (by decide) (fun q1 => ?_) (fun q1 => absurd q1 (by decide))
      refine z_iload C dd_Q_holds_9 rfl ?_
      refine z_istore C dd_Q_holds_11 rfl ?_
      refine z_iload C dd_Q_holds_13 rfl ?_
      refine z_bipush (v := 8) C dd_Q_holds_15 (by decide) ?_
      refine z_irem C dd_Q_holds_17 (by decide) ?_
      refine z_topi (y := nI (q0 % 8)) (pk_rem (d := 8) (by omega) (by decide) (by decide)).symm ?_
      refine z_iconst (v := 4) C dd_Q_holds_18 (by decide) ?_
      refine z_isub C dd_Q_holds_19 ?_
      refine z_istore C dd_Q_holds_20 rfl ?_
      refine z_iload_n C dd_Q_holds_22 rfl ?_
      refine z_if_ne (tgt := 37) C dd_Q_holds_23 (by decide) (fun q2 => ?_) (fun q2 => absurd q2 (by decide))
      refine z_iload_n C dd_Q_holds_37 rfl ?_
      refine z_iconst (v := 1) C dd_Q_holds_38 (by decide) ?_
      refine z_icmp_ne (tgt := 54) C dd_Q_holds_39 (by decide) (fun q3 => ?_) (fun q3 => absurd q3 (by decide))
      refine z_iload_n C dd_Q_holds_54 rfl ?_
      refine z_iconst (v := 2) C dd_Q_holds_55 (by decide) ?_
      refine z_icmp_ne (tgt := 71) C dd_Q_holds_56 (by decide) (fun q4 => absurd (by decide) q4) (fun q4 => ?_)
      refine z_iload C dd_Q_holds_59 rfl ?_
      refine z_iload_n C dd_Q_holds_61 rfl ?_
      refine z_icmp_ne (tgt := 69) C dd_Q_holds_62 (by decide) (fun q5 => ?_) (fun q5 => ?_)
      · skip
        refine z_iconst (v := 0) C dd_Q_holds_69 (by decide) ?_
        refine z_zret C dd_Q_holds_70 rfl ⟨rfl, rfl, ?_⟩ (by decide) (by decide)
        simp [pu_holds, pu_b, q5]
      · skip
        refine z_iconst (v := 1) C dd_Q_holds_65 (by decide) ?_
        refine z_goto (tgt := 70) C dd_Q_holds_66 (by decide) ?_
        refine z_zret C dd_Q_holds_70 rfl ⟨rfl, rfl, ?_⟩ (by decide) (by decide)
        simp [pu_holds, pu_b, q5]
  · rcases (show wh = 0 ∨ wh = 1 by omega) with rfl | rfl
    · skip
      refine z_iload_n C dd_Q_holds_0 rfl ?_
      refine z_if_ne (tgt := 9) C dd_Q_holds_1 (by decide) (fun q1 => absurd (by decide) q1) (fun q1 => ?_)
      refine z_iload C dd_Q_holds_4 rfl ?_
      refine z_goto (tgt := 11) C dd_Q_holds_6 (by decide) ?_
      refine z_istore C dd_Q_holds_11 rfl ?_
      refine z_iload C dd_Q_holds_13 rfl ?_
      refine z_bipush (v := 8) C dd_Q_holds_15 (by decide) ?_
      refine z_irem C dd_Q_holds_17 (by decide) ?_
      refine z_topi (y := nI (p0 % 8)) (pk_rem (d := 8) (by omega) (by decide) (by decide)).symm ?_
      refine z_iconst (v := 4) C dd_Q_holds_18 (by decide) ?_
      refine z_isub C dd_Q_holds_19 ?_
      refine z_istore C dd_Q_holds_20 rfl ?_
      refine z_iload_n C dd_Q_holds_22 rfl ?_
      refine z_if_ne (tgt := 37) C dd_Q_holds_23 (by decide) (fun q2 => ?_) (fun q2 => absurd q2 (by decide))
      refine z_iload_n C dd_Q_holds_37 rfl ?_
      refine z_iconst (v := 1) C dd_Q_holds_38 (by decide) ?_
      refine z_icmp_ne (tgt := 54) C dd_Q_holds_39 (by decide) (fun q3 => ?_) (fun q3 => absurd q3 (by decide))
      refine z_iload_n C dd_Q_holds_54 rfl ?_
      refine z_iconst (v := 2) C dd_Q_holds_55 (by decide) ?_
      refine z_icmp_ne (tgt := 71) C dd_Q_holds_56 (by decide) (fun q4 => ?_) (fun q4 => absurd q4 (by decide))
      refine z_iload_n C dd_Q_holds_71 rfl ?_
      refine z_iconst (v := 3) C dd_Q_holds_72 (by decide) ?_
      refine z_icmp_ne (tgt := 89) C dd_Q_holds_73 (by decide) (fun q5 => absurd (by decide) q5) (fun q5 => ?_)
      refine z_iload C dd_Q_holds_76 rfl ?_
      refine z_iconst (v := 2) C dd_Q_holds_78 (by decide) ?_
      refine z_irem C dd_Q_holds_79 (by decide) ?_
      refine z_if_ne (tgt := 87) C dd_Q_holds_80 (by decide) (fun q6 => ?_) (fun q6 => ?_)
      · skip
        refine z_iconst (v := 0) C dd_Q_holds_87 (by decide) ?_
        refine z_zret C dd_Q_holds_88 rfl ⟨rfl, rfl, ?_⟩ (by decide) (by decide)
        have e8 : ¬ p0 % 2 = 0 := fun z => q6 ((pu_ev' (j := p0 % 8) (by omega)).mpr (by omega))
        simp [pu_holds, pu_b, e8]
      · skip
        refine z_iconst (v := 1) C dd_Q_holds_83 (by decide) ?_
        refine z_goto (tgt := 88) C dd_Q_holds_84 (by decide) ?_
        refine z_zret C dd_Q_holds_88 rfl ⟨rfl, rfl, ?_⟩ (by decide) (by decide)
        have e9 := (pu_ev' (j := p0 % 8) (by omega)).mp q6
        have e8 : p0 % 2 = 0 := by omega
        simp [pu_holds, pu_b, e8]
    · skip
      obtain ⟨rfl, hq⟩ : y = nI q0 ∧ q0 < 8 * nc := hy.resolve_left (fun z => absurd z (by decide))
      refine z_iload_n C dd_Q_holds_0 rfl ?_
      refine z_if_ne (tgt := 9) C dd_Q_holds_1 (by decide) (fun q1 => ?_) (fun q1 => absurd q1 (by decide))
      refine z_iload C dd_Q_holds_9 rfl ?_
      refine z_istore C dd_Q_holds_11 rfl ?_
      refine z_iload C dd_Q_holds_13 rfl ?_
      refine z_bipush (v := 8) C dd_Q_holds_15 (by decide) ?_
      refine z_irem C dd_Q_holds_17 (by decide) ?_
      refine z_topi (y := nI (q0 % 8)) (pk_rem (d := 8) (by omega) (by decide) (by decide)).symm ?_
      refine z_iconst (v := 4) C dd_Q_holds_18 (by decide) ?_
      refine z_isub C dd_Q_holds_19 ?_
      refine z_istore C dd_Q_holds_20 rfl ?_
      refine z_iload_n C dd_Q_holds_22 rfl ?_
      refine z_if_ne (tgt := 37) C dd_Q_holds_23 (by decide) (fun q2 => ?_) (fun q2 => absurd q2 (by decide))
      refine z_iload_n C dd_Q_holds_37 rfl ?_
      refine z_iconst (v := 1) C dd_Q_holds_38 (by decide) ?_
      refine z_icmp_ne (tgt := 54) C dd_Q_holds_39 (by decide) (fun q3 => ?_) (fun q3 => absurd q3 (by decide))
      refine z_iload_n C dd_Q_holds_54 rfl ?_
      refine z_iconst (v := 2) C dd_Q_holds_55 (by decide) ?_
      refine z_icmp_ne (tgt := 71) C dd_Q_holds_56 (by decide) (fun q4 => ?_) (fun q4 => absurd q4 (by decide))
      refine z_iload_n C dd_Q_holds_71 rfl ?_
      refine z_iconst (v := 3) C dd_Q_holds_72 (by decide) ?_
      refine z_icmp_ne (tgt := 89) C dd_Q_holds_73 (by decide) (fun q5 => absurd (by decide) q5) (fun q5 => ?_)
      refine z_iload C dd_Q_holds_76 rfl ?_
      refine z_iconst (v := 2) C dd_Q_holds_78 (by decide) ?_
      refine z_irem C dd_Q_holds_79 (by decide) ?_
      refine z_if_ne (tgt := 87) C dd_Q_holds_80 (by decide) (fun q6 => ?_) (fun q6 => ?_)
      · skip
        refine z_iconst (v := 0) C dd_Q_holds_87 (by decide) ?_
        refine z_zret C dd_Q_holds_88 rfl ⟨rfl, rfl, ?_⟩ (by decide) (by decide)
        have e8 : ¬ q0 % 2 = 0 := fun z => q6 ((pu_ev' (j := q0 % 8) (by omega)).mpr (by omega))
        simp [pu_holds, pu_b, e8]
      · skip
        refine z_iconst (v := 1) C dd_Q_holds_83 (by decide) ?_
        refine z_goto (tgt := 88) C dd_Q_holds_84 (by decide) ?_
        refine z_zret C dd_Q_holds_88 rfl ⟨rfl, rfl, ?_⟩ (by decide) (by decide)
        have e9 := (pu_ev' (j := q0 % 8) (by omega)).mp q6
        have e8 : q0 % 2 = 0 := by omega
        simp [pu_holds, pu_b, e8]
  · rcases (show wh = 0 ∨ wh = 1 by omega) with rfl | rfl
    · skip
      obtain ⟨rfl, hq⟩ : y = nI q0 ∧ q0 < 8 * nc := hy.resolve_left (fun z => absurd z (by decide))
      refine z_iload_n C dd_Q_holds_0 rfl ?_
      refine z_if_ne (tgt := 9) C dd_Q_holds_1 (by decide) (fun q1 => absurd (by decide) q1) (fun q1 => ?_)
      refine z_iload C dd_Q_holds_4 rfl ?_
      refine z_goto (tgt := 11) C dd_Q_holds_6 (by decide) ?_
      refine z_istore C dd_Q_holds_11 rfl ?_
      refine z_iload C dd_Q_holds_13 rfl ?_
      refine z_bipush (v := 8) C dd_Q_holds_15 (by decide) ?_
      refine z_irem C dd_Q_holds_17 (by decide) ?_
      refine z_topi (y := nI (p0 % 8)) (pk_rem (d := 8) (by omega) (by decide) (by decide)).symm ?_
      refine z_iconst (v := 4) C dd_Q_holds_18 (by decide) ?_
      refine z_isub C dd_Q_holds_19 ?_
      refine z_istore C dd_Q_holds_20 rfl ?_
      refine z_iload_n C dd_Q_holds_22 rfl ?_
      refine z_if_ne (tgt := 37) C dd_Q_holds_23 (by decide) (fun q2 => ?_) (fun q2 => absurd q2 (by decide))
      refine z_iload_n C dd_Q_holds_37 rfl ?_
      refine z_iconst (v := 1) C dd_Q_holds_38 (by decide) ?_
      refine z_icmp_ne (tgt := 54) C dd_Q_holds_39 (by decide) (fun q3 => ?_) (fun q3 => absurd q3 (by decide))
      refine z_iload_n C dd_Q_holds_54 rfl ?_
      refine z_iconst (v := 2) C dd_Q_holds_55 (by decide) ?_
      refine z_icmp_ne (tgt := 71) C dd_Q_holds_56 (by decide) (fun q4 => ?_) (fun q4 => absurd q4 (by decide))
      refine z_iload_n C dd_Q_holds_71 rfl ?_
      refine z_iconst (v := 3) C dd_Q_holds_72 (by decide) ?_
      refine z_icmp_ne (tgt := 89) C dd_Q_holds_73 (by decide) (fun q5 => ?_) (fun q5 => absurd q5 (by decide))
      refine z_iload_n C dd_Q_holds_89 rfl ?_
      refine z_iconst (v := 4) C dd_Q_holds_90 (by decide) ?_
      refine z_icmp_ne (tgt := 115) C dd_Q_holds_91 (by decide) (fun q6 => absurd (by decide) q6) (fun q6 => ?_)
      refine z_iload C dd_Q_holds_94 rfl ?_
      refine z_bipush (v := 8) C dd_Q_holds_96 (by decide) ?_
      refine z_irem C dd_Q_holds_98 (by decide) ?_
      refine z_topi (y := nI (p0 % 8)) (pk_rem (d := 8) (by omega) (by decide) (by decide)).symm ?_
      refine z_iload C dd_Q_holds_99 rfl ?_
      refine z_bipush (v := 8) C dd_Q_holds_101 (by decide) ?_
      refine z_irem C dd_Q_holds_103 (by decide) ?_
      refine z_topi (y := nI (q0 % 8)) (pk_rem (d := 8) (by omega) (by decide) (by decide)).symm ?_
      refine z_icmp_ge (tgt := 111) C dd_Q_holds_104 (by decide) (fun q7 => ?_) (fun q7 => ?_)
      · skip
        refine z_iconst (v := 0) C dd_Q_holds_111 (by decide) ?_
        refine z_goto (tgt := 133) C dd_Q_holds_112 (by decide) ?_
        refine z_zret C dd_Q_holds_133 rfl ⟨rfl, rfl, ?_⟩ (by decide) (by decide)
        have e9 := (nI_leI (by omega) (by omega)).mp q7
        simp [pu_holds, pu_b, Nat.not_lt.mpr e9]
      · skip
        refine z_iconst (v := 1) C dd_Q_holds_107 (by decide) ?_
        refine z_goto (tgt := 133) C dd_Q_holds_108 (by decide) ?_
        refine z_zret C dd_Q_holds_133 rfl ⟨rfl, rfl, ?_⟩ (by decide) (by decide)
        have e9 : p0 % 8 < q0 % 8 := Nat.lt_of_not_le (fun z => q7 ((nI_leI (by omega) (by omega)).mpr z))
        simp [pu_holds, pu_b, e9]
    · skip
      obtain ⟨rfl, hq⟩ : y = nI q0 ∧ q0 < 8 * nc := hy.resolve_left (fun z => absurd z (by decide))
      refine z_iload_n C dd_Q_holds_0 rfl ?_
      refine z_if_ne (tgt := 9) C dd_Q_holds_1 (by decide) (fun q1 => ?_) (fun q1 => absurd q1 (by decide))
      refine z_iload C dd_Q_holds_9 rfl ?_
      refine z_istore C dd_Q_holds_11 rfl ?_
      refine z_iload C dd_Q_holds_13 rfl ?_
      refine z_bipush (v := 8) C dd_Q_holds_15 (by decide) ?_
      refine z_irem C dd_Q_holds_17 (by decide) ?_
      refine z_topi (y := nI (q0 % 8)) (pk_rem (d := 8) (by omega) (by decide) (by decide)).symm ?_
      refine z_iconst (v := 4) C dd_Q_holds_18 (by decide) ?_
      refine z_isub C dd_Q_holds_19 ?_
      refine z_istore C dd_Q_holds_20 rfl ?_
      refine z_iload_n C dd_Q_holds_22 rfl ?_
      refine z_if_ne (tgt := 37) C dd_Q_holds_23 (by decide) (fun q2 => ?_) (fun q2 => absurd q2 (by decide))
      refine z_iload_n C dd_Q_holds_37 rfl ?_
      refine z_iconst (v := 1) C dd_Q_holds_38 (by decide) ?_
      refine z_icmp_ne (tgt := 54) C dd_Q_holds_39 (by decide) (fun q3 => ?_) (fun q3 => absurd q3 (by decide))
      refine z_iload_n C dd_Q_holds_54 rfl ?_
      refine z_iconst (v := 2) C dd_Q_holds_55 (by decide) ?_
      refine z_icmp_ne (tgt := 71) C dd_Q_holds_56 (by decide) (fun q4 => ?_) (fun q4 => absurd q4 (by decide))
      refine z_iload_n C dd_Q_holds_71 rfl ?_
      refine z_iconst (v := 3) C dd_Q_holds_72 (by decide) ?_
      refine z_icmp_ne (tgt := 89) C dd_Q_holds_73 (by decide) (fun q5 => ?_) (fun q5 => absurd q5 (by decide))
      refine z_iload_n C dd_Q_holds_89 rfl ?_
      refine z_iconst (v := 4) C dd_Q_holds_90 (by decide) ?_
      refine z_icmp_ne (tgt := 115) C dd_Q_holds_91 (by decide) (fun q6 => absurd (by decide) q6) (fun q6 => ?_)
      refine z_iload C dd_Q_holds_94 rfl ?_
      refine z_bipush (v := 8) C dd_Q_holds_96 (by decide) ?_
      refine z_irem C dd_Q_holds_98 (by decide) ?_
      refine z_topi (y := nI (p0 % 8)) (pk_rem (d := 8) (by omega) (by decide) (by decide)).symm ?_
      refine z_iload C dd_Q_holds_99 rfl ?_
      refine z_bipush (v := 8) C dd_Q_holds_101 (by decide) ?_
      refine z_irem C dd_Q_holds_103 (by decide) ?_
      refine z_topi (y := nI (q0 % 8)) (pk_rem (d := 8) (by omega) (by decide) (by decide)).symm ?_
      refine z_icmp_ge (tgt := 111) C dd_Q_holds_104 (by decide) (fun q7 => ?_) (fun q7 => ?_)
      · skip
        refine z_iconst (v := 0) C dd_Q_holds_111 (by decide) ?_
        refine z_goto (tgt := 133) C dd_Q_holds_112 (by decide) ?_
        refine z_zret C dd_Q_holds_133 rfl ⟨rfl, rfl, ?_⟩ (by decide) (by decide)
        have e9 := (nI_leI (by omega) (by omega)).mp q7
        simp [pu_holds, pu_b, Nat.not_lt.mpr e9]
      · skip
        refine z_iconst (v := 1) C dd_Q_holds_107 (by decide) ?_
        refine z_goto (tgt := 133) C dd_Q_holds_108 (by decide) ?_
        refine z_zret C dd_Q_holds_133 rfl ⟨rfl, rfl, ?_⟩ (by decide) (by decide)
        have e9 : p0 % 8 < q0 % 8 := Nat.lt_of_not_le (fun z => q7 ((nI_leI (by omega) (by omega)).mpr z))
        simp [pu_holds, pu_b, e9]
  · rcases (show wh = 0 ∨ wh = 1 by omega) with rfl | rfl
    · skip
      obtain ⟨rfl, hq⟩ : y = nI q0 ∧ q0 < 8 * nc := hy.resolve_left (fun z => absurd z (by decide))
      refine z_iload_n C dd_Q_holds_0 rfl ?_
      refine z_if_ne (tgt := 9) C dd_Q_holds_1 (by decide) (fun q1 => absurd (by decide) q1) (fun q1 => ?_)
      refine z_iload C dd_Q_holds_4 rfl ?_
      refine z_goto (tgt := 11) C dd_Q_holds_6 (by decide) ?_
      refine z_istore C dd_Q_holds_11 rfl ?_
      refine z_iload C dd_Q_holds_13 rfl ?_
      refine z_bipush (v := 8) C dd_Q_holds_15 (by decide) ?_
      refine z_irem C dd_Q_holds_17 (by decide) ?_
      refine z_topi (y := nI (p0 % 8)) (pk_rem (d := 8) (by omega) (by decide) (by decide)).symm ?_
      refine z_iconst (v := 4) C dd_Q_holds_18 (by decide) ?_
      refine z_isub C dd_Q_holds_19 ?_
      refine z_istore C dd_Q_holds_20 rfl ?_
      refine z_iload_n C dd_Q_holds_22 rfl ?_
      refine z_if_ne (tgt := 37) C dd_Q_holds_23 (by decide) (fun q2 => ?_) (fun q2 => absurd q2 (by decide))
      refine z_iload_n C dd_Q_holds_37 rfl ?_
      refine z_iconst (v := 1) C dd_Q_holds_38 (by decide) ?_
      refine z_icmp_ne (tgt := 54) C dd_Q_holds_39 (by decide) (fun q3 => ?_) (fun q3 => absurd q3 (by decide))
      refine z_iload_n C dd_Q_holds_54 rfl ?_
      refine z_iconst (v := 2) C dd_Q_holds_55 (by decide) ?_
      refine z_icmp_ne (tgt := 71) C dd_Q_holds_56 (by decide) (fun q4 => ?_) (fun q4 => absurd q4 (by decide))
      refine z_iload_n C dd_Q_holds_71 rfl ?_
      refine z_iconst (v := 3) C dd_Q_holds_72 (by decide) ?_
      refine z_icmp_ne (tgt := 89) C dd_Q_holds_73 (by decide) (fun q5 => ?_) (fun q5 => absurd q5 (by decide))
      refine z_iload_n C dd_Q_holds_89 rfl ?_
      refine z_iconst (v := 4) C dd_Q_holds_90 (by decide) ?_
      refine z_icmp_ne (tgt := 115) C dd_Q_holds_91 (by decide) (fun q6 => ?_) (fun q6 => absurd q6 (by decide))
      refine z_iload C dd_Q_holds_115 rfl ?_
      refine z_bipush (v := 8) C dd_Q_holds_117 (by decide) ?_
      refine z_idiv C dd_Q_holds_119 (by decide) ?_
      refine z_topi (y := nI (p0 / 8)) (pk_div (d := 8) (by omega) (by decide) (by decide)).symm ?_
      refine z_iload C dd_Q_holds_120 rfl ?_
      refine z_bipush (v := 8) C dd_Q_holds_122 (by decide) ?_
      refine z_idiv C dd_Q_holds_124 (by decide) ?_
      refine z_topi (y := nI (q0 / 8)) (pk_div (d := 8) (by omega) (by decide) (by decide)).symm ?_
      refine z_icmp_ne (tgt := 132) C dd_Q_holds_125 (by decide) (fun q7 => ?_) (fun q7 => ?_)
      · skip
        refine z_iconst (v := 0) C dd_Q_holds_132 (by decide) ?_
        refine z_zret C dd_Q_holds_133 rfl ⟨rfl, rfl, ?_⟩ (by decide) (by decide)
        have e9 : ¬ p0 / 8 = q0 / 8 := fun z => q7 (by rw [z])
        simp [pu_holds, pu_b, e9]
      · skip
        refine z_iconst (v := 1) C dd_Q_holds_128 (by decide) ?_
        refine z_goto (tgt := 133) C dd_Q_holds_129 (by decide) ?_
        refine z_zret C dd_Q_holds_133 rfl ⟨rfl, rfl, ?_⟩ (by decide) (by decide)
        have e9 : p0 / 8 = q0 / 8 := (nI_eq (by omega) (by omega)).mp q7
        simp [pu_holds, pu_b, e9]
    · skip
      obtain ⟨rfl, hq⟩ : y = nI q0 ∧ q0 < 8 * nc := hy.resolve_left (fun z => absurd z (by decide))
      refine z_iload_n C dd_Q_holds_0 rfl ?_
      refine z_if_ne (tgt := 9) C dd_Q_holds_1 (by decide) (fun q1 => ?_) (fun q1 => absurd q1 (by decide))
      refine z_iload C dd_Q_holds_9 rfl ?_
      refine z_istore C dd_Q_holds_11 rfl ?_
      refine z_iload C dd_Q_holds_13 rfl ?_
      refine z_bipush (v := 8) C dd_Q_holds_15 (by decide) ?_
      refine z_irem C dd_Q_holds_17 (by decide) ?_
      refine z_topi (y := nI (q0 % 8)) (pk_rem (d := 8) (by omega) (by decide) (by decide)).symm ?_
      refine z_iconst (v := 4) C dd_Q_holds_18 (by decide) ?_
      refine z_isub C dd_Q_holds_19 ?_
      refine z_istore C dd_Q_holds_20 rfl ?_
      refine z_iload_n C dd_Q_holds_22 rfl ?_
      refine z_if_ne (tgt := 37) C dd_Q_holds_23 (by decide) (fun q2 => ?_) (fun q2 => absurd q2 (by decide))
      refine z_iload_n C dd_Q_holds_37 rfl ?_
      refine z_iconst (v := 1) C dd_Q_holds_38 (by decide) ?_
      refine z_icmp_ne (tgt := 54) C dd_Q_holds_39 (by decide) (fun q3 => ?_) (fun q3 => absurd q3 (by decide))
      refine z_iload_n C dd_Q_holds_54 rfl ?_
      refine z_iconst (v := 2) C dd_Q_holds_55 (by decide) ?_
      refine z_icmp_ne (tgt := 71) C dd_Q_holds_56 (by decide) (fun q4 => ?_) (fun q4 => absurd q4 (by decide))
      refine z_iload_n C dd_Q_holds_71 rfl ?_
      refine z_iconst (v := 3) C dd_Q_holds_72 (by decide) ?_
      refine z_icmp_ne (tgt := 89) C dd_Q_holds_73 (by decide) (fun q5 => ?_) (fun q5 => absurd q5 (by decide))
      refine z_iload_n C dd_Q_holds_89 rfl ?_
      refine z_iconst (v := 4) C dd_Q_holds_90 (by decide) ?_
      refine z_icmp_ne (tgt := 115) C dd_Q_holds_91 (by decide) (fun q6 => ?_) (fun q6 => absurd q6 (by decide))
      refine z_iload C dd_Q_holds_115 rfl ?_
      refine z_bipush (v := 8) C dd_Q_holds_117 (by decide) ?_
      refine z_idiv C dd_Q_holds_119 (by decide) ?_
      refine z_topi (y := nI (p0 / 8)) (pk_div (d := 8) (by omega) (by decide) (by decide)).symm ?_
      refine z_iload C dd_Q_holds_120 rfl ?_
      refine z_bipush (v := 8) C dd_Q_holds_122 (by decide) ?_
      refine z_idiv C dd_Q_holds_124 (by decide) ?_
      refine z_topi (y := nI (q0 / 8)) (pk_div (d := 8) (by omega) (by decide) (by decide)).symm ?_
      refine z_icmp_ne (tgt := 132) C dd_Q_holds_125 (by decide) (fun q7 => ?_) (fun q7 => ?_)
      · skip
        refine z_iconst (v := 0) C dd_Q_holds_132 (by decide) ?_
        refine z_zret C dd_Q_holds_133 rfl ⟨rfl, rfl, ?_⟩ (by decide) (by decide)
        have e9 : ¬ p0 / 8 = q0 / 8 := fun z => q7 (by rw [z])
        simp [pu_holds, pu_b, e9]
      · skip
        refine z_iconst (v := 1) C dd_Q_holds_128 (by decide) ?_
        refine z_goto (tgt := 133) C dd_Q_holds_129 (by decide) ?_
        refine z_zret C dd_Q_holds_133 rfl ⟨rfl, rfl, ?_⟩ (by decide) (by decide)
        have e9 : p0 / 8 = q0 / 8 := (nI_eq (by omega) (by omega)).mp q7
        simp [pu_holds, pu_b, e9]
/-- an atom as it stands in the rows: its kind, its argument, its number, negated -/
def pu_at (I : Nat → Nat → Int32) (k p q : Nat) : Bool := (pu_holds (I 0) (I 4 k).toNatClampNeg (I 5 k).toNatClampNeg (I 6 k) p q) != decide (I 7 k = 1)
/-- the method m applies to the row p, q -/
def pu_app (I : Nat → Nat → Int32) (m p q : Nat) : Bool := (List.range (I 3 m).toNatClampNeg).all fun k => pu_at I (4 * m + k) p q
def pu_wa (I : Nat → Nat → Int32) (k : Nat) : Prop := ∃ kd wh, kd < 6 ∧ wh < 2 ∧ I 4 k = nI kd ∧ I 5 k = nI wh ∧ (kd = 0 → ∃ xd, xd < 8 ∧ I 6 k = nI xd) ∧ (I 7 k = 0 ∨ I 7 k = 1)
theorem pu_all (f : Nat → Bool) (j : Nat) : (List.range (j + 1)).all f = ((List.range j).all f && f j) := by
  rw [List.range_succ, List.all_append]
  simp
abbrev rm_Q_applies : Room := { frames := 5, cells := 0, slots := 0, locals := 120 }
set_option maxRecDepth 20000 in
theorem lp_Q_applies {D : va_G} {dA : Nat → ClassId} {B : Nat} {p : Program} {l : Launch} {e : Env} {s : State} {m : MethodId} {args : Array Value} {below : List Frame} {meth : Method} {c : Code} {Q : State → Prop} {n : Nat} {nm : String} {ret9 : Option FieldType} {h : zz_H} (C : zz_C D zz_cl (zz_ty dA) B zz_tb (zz_x B) p s m args meth c bb_Q_applies RR_Q ret9 nm) {q m0 p0 q0 nc a : Nat} {F : Nat → Int32} {I : Nat → Nat → Int32} {J : Nat → Nat → Int64} (hP : md_P dA F I J q h) (hm : m0 < 12) (ha : a ≤ 4) (hI : I 3 m0 = nI a) (hnc : nc ≤ 8) (hp : p0 < 8 * nc) (hq : q0 < 8 * nc) (wf : pu_wp (I 0) nc) (hA : ∀ j, j < a → pu_wa I (4 * m0 + j)) (kx : zz_W D zz_cl B p l e rm_Q_applies s m args below meth c Q h n 0 0 [some (.ref q), some (.int ((nI m0))), some (.int ((nI p0))), some (.int ((nI q0))), some (.int ((pu_b ((List.range a).all fun k => pu_at I (4 * m0 + k) p0 q0)))), some (.int ((nI (4 * m0 + a))))] 78 []) :
    ∀ f j, j + f = a → zz_W D zz_cl B p l e rm_Q_applies s m args below meth c Q h n 0 0 [some (.ref q), some (.int ((nI m0))), some (.int ((nI p0))), some (.int ((nI q0))), some (.int ((pu_b ((List.range j).all fun k => pu_at I (4 * m0 + k) p0 q0)))), some (.int ((nI (4 * m0 + j))))] 8 [] := by
  intro f
  induction f with
  | zero =>
    intro j hj
    have hja : j = a := by omega
    subst hja
    refine z_iload C dd_Q_applies_8 rfl ?_
    refine z_iconst (v := 4) C dd_Q_applies_10 (by decide) ?_
    refine z_iload_n C dd_Q_applies_11 rfl ?_
    refine z_imul C dd_Q_applies_12 ?_
    refine z_aload_n C dd_Q_applies_13 rfl ?_
    refine gf_Q_23 (v := .ref (q + 1 + 3)) C dd_Q_applies_14 hP.1 rfl ?_
    refine z_iload_n C dd_Q_applies_17 rfl ?_
    refine z_iald (t0 := 0) (N := 12) (f := I 3) C rfl dd_Q_applies_18 (hP.2 3 (by decide)) (vp_in_nI (by omega) (by decide)) ?_
    refine z_iadd C dd_Q_applies_19 ?_
    refine z_topi (y := nI (4 * m0 + j)) (by rw [nI_clamp (by omega), hI, ← nI_add, ← pk_mul]; rfl) ?_
    refine z_icmp_ge (tgt := 78) C dd_Q_applies_20 (by decide) (fun q20 => ?_) (fun q20 => absurd (nI_le (Nat.le_refl _) (by omega)) q20)
    exact kx
  | succ f ih =>
    intro j hj
    refine z_iload C dd_Q_applies_8 rfl ?_
    refine z_iconst (v := 4) C dd_Q_applies_10 (by decide) ?_
    refine z_iload_n C dd_Q_applies_11 rfl ?_
    refine z_imul C dd_Q_applies_12 ?_
    refine z_aload_n C dd_Q_applies_13 rfl ?_
    refine gf_Q_23 (v := .ref (q + 1 + 3)) C dd_Q_applies_14 hP.1 rfl ?_
    refine z_iload_n C dd_Q_applies_17 rfl ?_
    refine z_iald (t0 := 0) (N := 12) (f := I 3) C rfl dd_Q_applies_18 (hP.2 3 (by decide)) (vp_in_nI (by omega) (by decide)) ?_
    refine z_iadd C dd_Q_applies_19 ?_
    refine z_topi (y := nI (4 * m0 + a)) (by rw [nI_clamp (by omega), hI, ← nI_add, ← pk_mul]; rfl) ?_
    refine z_icmp_ge (tgt := 78) C dd_Q_applies_20 (by decide) (fun q20 => absurd q20 (nI_ge (by omega) (by omega))) (fun q20 => ?_)
    have step : ∀ b : Bool, b = ((List.range (j + 1)).all fun k => pu_at I (4 * m0 + k) p0 q0) → zz_W D zz_cl B p l e rm_Q_applies s m args below meth c Q h n 0 0 [some (.ref q), some (.int (nI m0)), some (.int (nI p0)), some (.int (nI q0)), some (.int (pu_b b)), some (.int (nI (4 * m0 + j)))] 72 [] := by
      intro b hb
      refine z_iincN C dd_Q_applies_72 rfl rfl ?_
      refine z_goto (tgt := 8) C dd_Q_applies_75 (by decide) ?_
      subst hb
      exact ih (j + 1) (by omega)
    refine z_iload C dd_Q_applies_23 rfl ?_
    cases hb : ((List.range j).all fun k => pu_at I (4 * m0 + k) p0 q0)
    · refine z_if_eq (tgt := 69) C dd_Q_applies_25 (by decide) (fun _ => ?_) (fun q25 => absurd rfl q25)
      refine z_iconst (v := 0) C dd_Q_applies_69 (by decide) ?_
      refine z_istore C dd_Q_applies_70 rfl ?_
      exact step false (by rw [pu_all, hb]; rfl)
    · refine z_if_eq (tgt := 69) C dd_Q_applies_25 (by decide) (fun q25 => absurd q25 (by decide)) (fun _ => ?_)
      obtain ⟨kd, wh, hkd, hwh, e1, e2, e3, e4⟩ := hA j (by omega)
      refine z_aload_n C dd_Q_applies_28 rfl ?_
      refine z_aload_n C dd_Q_applies_29 rfl ?_
      refine gf_Q_26 (v := .ref (q + 1 + 4)) C dd_Q_applies_30 hP.1 rfl ?_
      refine z_iload C dd_Q_applies_33 rfl ?_
      refine z_iald (t0 := 0) (N := 48) (f := I 4) C rfl dd_Q_applies_35 (hP.2 4 (by decide)) (vp_in_nI (by omega) (by decide)) ?_
      refine z_topi (y := nI kd) (by rw [nI_clamp (by omega)]; exact e1.symm) ?_
      refine z_aload_n C dd_Q_applies_36 rfl ?_
      refine gf_Q_29 (v := .ref (q + 1 + 5)) C dd_Q_applies_37 hP.1 rfl ?_
      refine z_iload C dd_Q_applies_40 rfl ?_
      refine z_iald (t0 := 0) (N := 48) (f := I 5) C rfl dd_Q_applies_42 (hP.2 5 (by decide)) (vp_in_nI (by omega) (by decide)) ?_
      refine z_topi (y := nI wh) (by rw [nI_clamp (by omega)]; exact e2.symm) ?_
      refine z_aload_n C dd_Q_applies_43 rfl ?_
      refine gf_Q_32 (v := .ref (q + 1 + 6)) C dd_Q_applies_44 hP.1 rfl ?_
      refine z_iload C dd_Q_applies_47 rfl ?_
      refine z_iald (t0 := 0) (N := 48) (f := I 6) C rfl dd_Q_applies_49 (hP.2 6 (by decide)) (vp_in_nI (by omega) (by decide)) ?_
      refine z_topi (y := I 6 (4 * m0 + j)) (by rw [nI_clamp (by omega)]) ?_
      refine z_iload_n C dd_Q_applies_50 rfl ?_
      refine z_iload_n C dd_Q_applies_51 rfl ?_
      refine iv_Q_149 (sk := fun r => .int r :: []) (zz_f B) C dd_Q_applies_52 (cc_Q_holds l D dA B _ _ q F I J hP kd wh p0 q0 nc (I 6 (4 * m0 + j)) (nI q0) hkd hwh hnc hp (Or.inr ⟨rfl, hq⟩) e3 wf) hP.1 rfl rfl ⟨by decide, by decide⟩ (Nat.le_of_ble_eq_true rfl) ⟨by decide, by decide⟩ (fun _ => rfl) (fun r1 h1 n1 p1 => ?_)
      obtain ⟨rfl, rfl, rfl⟩ := p1
      refine z_aload_n C dd_Q_applies_55 rfl ?_
      refine gf_Q_35 (v := .ref (q + 1 + 7)) C dd_Q_applies_56 hP.1 rfl ?_
      refine z_iload C dd_Q_applies_59 rfl ?_
      refine z_zald (t0 := 2) (N := 48) (f := I 7) C rfl dd_Q_applies_61 (hP.2 7 (by decide)) (vp_in_nI (by omega) (by decide)) ?_
      refine z_topi (y := I 7 (4 * m0 + j)) (by rw [nI_clamp (by omega)]) ?_
      have hv : pu_at I (4 * m0 + j) p0 q0 = ((pu_holds (I 0) kd wh (I 6 (4 * m0 + j)) p0 q0) != decide (I 7 (4 * m0 + j) = 1)) := by unfold pu_at; rw [e1, e2, nI_clamp (by omega), nI_clamp (by omega)]
      refine z_icmp_eq (tgt := 69) C dd_Q_applies_62 (by decide) (fun q62 => ?_) (fun q62 => ?_)
      · refine z_iconst (v := 0) C dd_Q_applies_69 (by decide) ?_
        refine z_istore C dd_Q_applies_70 rfl ?_
        refine step false ?_
        rw [pu_all, hb, hv, ← q62]
        cases (pu_holds (I 0) kd wh (I 6 (4 * m0 + j)) p0 q0) <;> decide
      · refine z_iconst (v := 1) C dd_Q_applies_65 (by decide) ?_
        refine z_goto (tgt := 70) C dd_Q_applies_66 (by decide) ?_
        refine z_istore C dd_Q_applies_70 rfl ?_
        refine step true ?_
        rw [pu_all, hb, hv]
        cases hz : (pu_holds (I 0) kd wh (I 6 (4 * m0 + j)) p0 q0)
        · rw [hz] at q62
          rcases e4 with e4 | e4
          · exact absurd e4.symm q62
          · rw [e4]; decide
        · rw [hz] at q62
          rcases e4 with e4 | e4
          · rw [e4]; decide
          · exact absurd e4.symm q62
set_option maxRecDepth 20000 in
/-- applies -/
theorem cc_Q_applies (l : Launch) (D : va_G) (dA : Nat → ClassId) (B : Nat) (h : zz_H) (n : Nat) (q : Nat) (F : Nat → Int32) (I : Nat → Nat → Int32) (J : Nat → Nat → Int64) (hP0 : md_P dA F I J q h) (m0 p0 q0 nc a : Nat) (hm : m0 < 12) (ha : a ≤ 4) (hI : I 3 m0 = nI a) (hnc : nc ≤ 8) (hp : p0 < 8 * nc) (hq : q0 < 8 * nc) (wf : pu_wp (I 0) nc) (hA : ∀ j, j < a → pu_wa I (4 * m0 + j)) : zz_M l D zz_cl (zz_ty dA) B zz_tb (zz_x B) yy_Q_applies (Cond.code yy_Q_applies bb_Q_applies 6 (some FieldType.boolean)) rm_Q_applies [.ref q, .int ((nI m0)), .int ((nI p0)), .int ((nI q0))] h n zz_mi (fun r h' n' => h' = h ∧ n' = n ∧ r = pu_b (pu_app I m0 p0 q0)) := by
  refine zz_ofW (zz_f B) [some (.ref q), some (.int ((nI m0))), some (.int ((nI p0))), some (.int ((nI q0))), none, none] (by decide) rfl rfl (Nat.le_of_ble_eq_true rfl) ?_
  intro p e s m below meth c C
  refine z_iconst (v := 1) C dd_Q_applies_0 (by decide) ?_
  refine z_istore C dd_Q_applies_1 rfl ?_
  refine z_iconst (v := 4) C dd_Q_applies_3 (by decide) ?_
  refine z_iload_n C dd_Q_applies_4 rfl ?_
  refine z_imul C dd_Q_applies_5 ?_
  refine z_topi (y := nI (4 * m0 + 0)) (by rw [Nat.add_zero, ← pk_mul]; rfl) ?_
  refine z_istore C dd_Q_applies_6 rfl ?_
  refine lp_Q_applies C hP0 hm ha hI hnc hp hq wf hA ?_ a 0 (by omega)
  refine z_iload C dd_Q_applies_78 rfl ?_
  exact z_zret C dd_Q_applies_80 (pu_bn _) ⟨rfl, rfl, by unfold pu_app; rw [hI, nI_clamp (by omega)]⟩ (by decide) (by decide)
