theorem dk_ivt {x : Int32} {N : Nat} (hN : N < 2 ^ 30) (h1 : ¬ x < 0) (h2 : ¬ nI N ≤ x) : pu_iv x 0 (nI N - 1) = true := by
  obtain ⟨k, hk, rfl⟩ := nI_of h1
  refine (pu_iv_0 hN).mpr ⟨k, ?_, rfl⟩
  by_cases c : k < N
  · exact c
  · exact absurd ((nI_leI (by omega) (by omega)).mpr (by omega)) h2
theorem dk_ivf {x : Int32} {N : Nat} (hN : N < 2 ^ 30) (h : x < 0 ∨ nI N ≤ x) : pu_iv x 0 (nI N - 1) = false := by
  cases c : pu_iv x 0 (nI N - 1)
  · rfl
  · obtain ⟨k, hk, rfl⟩ := (pu_iv_0 hN).mp c
    rcases h with z | z
    · exact absurd z (nI_pos (by omega))
    · exact absurd ((nI_leI (by omega) (by omega)).mp z) (by omega)
theorem dk_ive {x y z : Int32} : pu_iv x y z = (!decide (x < y) && !decide (z < x)) := rfl
abbrev rm_A_plainest : Room := { frames := 4, cells := 1, slots := 4, locals := 80 }
set_option maxRecDepth 20000 in
/-- plainest -/
theorem cd_A_plainest (l : Launch) (D : va_G) (dA : Nat → ClassId) (B : Nat) (h : zz_H) (n : Nat) (kd : Nat) (hkd : kd < 6) (i x b : Int32) (hb : b = 0 ∨ b = 1) : zz_M l D zz_cl (zz_ty dA) B zz_tb (zz_x B) yy_A_plainest (Cond.code yy_A_plainest bb_A_plainest 5 (some (FieldType.object "DispatchDesk$Atom"))) rm_A_plainest [.int ((nI kd)), .int i, .int x, .int b] h n zz_mr (fun a h' n' => n' = n + 1 ∧ a = n ∧ h' n = some (.inr (2, [.int (nI kd), .int (if 3 < kd then 0 else i), .int (if 2 < kd then 0 else x), .int b])) ∧ ∀ y, y < n → h' y = h y) := by
  refine zz_ofW (zz_f B) [some (.int ((nI kd))), some (.int i), some (.int x), some (.int b), none] (by decide) rfl rfl (Nat.le_of_ble_eq_true rfl) ?_
  intro p e s m below meth c C
  refine z_iload_n C dd_A_plainest_0 rfl ?_
  refine z_iconst (v := 4) C dd_A_plainest_1 (by decide) ?_
  refine z_icmp_ge (tgt := 9) C dd_A_plainest_2 (by decide) (fun q1 => ?_) (fun q1 => ?_)
  · replace q1 : 4 ≤ kd := (@nI_leI 4 kd (by omega) (by omega)).mp q1
    refine z_iconst (v := 0) C dd_A_plainest_9 (by decide) ?_
    refine z_istore C dd_A_plainest_10 rfl ?_
    refine nw_A_8 C dd_A_plainest_12 (by decide) (by decide) ?_
    refine z_dup C dd_A_plainest_15 rfl ?_
    refine z_iload_n C dd_A_plainest_16 rfl ?_
    refine z_iload C dd_A_plainest_17 rfl ?_
    refine z_if_eq (tgt := 26) C dd_A_plainest_19 (by decide) (fun q2 => ?_) (fun q2 => absurd (by decide) q2)
    refine z_iconst (v := 0) C dd_A_plainest_26 (by decide) ?_
    refine z_iload_n C dd_A_plainest_27 rfl ?_
    refine z_iconst (v := 3) C dd_A_plainest_28 (by decide) ?_
    refine z_icmp_ge (tgt := 36) C dd_A_plainest_29 (by decide) (fun q3 => ?_) (fun q3 => ?_)
    · replace q3 : 3 ≤ kd := (@nI_leI 3 kd (by omega) (by omega)).mp q3
      refine z_iconst (v := 0) C dd_A_plainest_36 (by decide) ?_
      refine z_iload_n C dd_A_plainest_37 rfl ?_
      refine ii_A_23 (sk := fun _ => [.ref n]) (zz_f B) C dd_A_plainest_38 (cc_A_init l D dA B _ _ n (nI kd) 0 0 b hb (zz_us _ _ _) (by omega)) rfl rfl ⟨by decide, by decide⟩ (Nat.le_of_ble_eq_true rfl) ⟨by decide, by decide⟩ (fun _ => rfl) (fun _ h1_ n1_ p1_ => ?_)
      obtain ⟨rfl, g1, g2⟩ := p1_
      refine z_aret C dd_A_plainest_41 ⟨rfl, rfl, ?_, fun y hy => (g2 y (by omega) (by omega)).trans (zz_un (by omega))⟩ (by decide) (by decide)
      rw [if_pos (by omega), if_pos (by omega)]
      exact g1
    · replace q3 : ¬ 3 ≤ kd := fun z => q3 ((@nI_leI 3 kd (by omega) (by omega)).mpr z)
      refine z_iload_n C dd_A_plainest_32 rfl ?_
      refine z_goto (tgt := 37) C dd_A_plainest_33 (by decide) ?_
      refine z_iload_n C dd_A_plainest_37 rfl ?_
      refine ii_A_23 (sk := fun _ => [.ref n]) (zz_f B) C dd_A_plainest_38 (cc_A_init l D dA B _ _ n (nI kd) 0 x b hb (zz_us _ _ _) (by omega)) rfl rfl ⟨by decide, by decide⟩ (Nat.le_of_ble_eq_true rfl) ⟨by decide, by decide⟩ (fun _ => rfl) (fun _ h1_ n1_ p1_ => ?_)
      obtain ⟨rfl, g1, g2⟩ := p1_
      refine z_aret C dd_A_plainest_41 ⟨rfl, rfl, ?_, fun y hy => (g2 y (by omega) (by omega)).trans (zz_un (by omega))⟩ (by decide) (by decide)
      rw [if_pos (by omega), if_neg (by omega)]
      exact g1
  · replace q1 : ¬ 4 ≤ kd := fun z => q1 ((@nI_leI 4 kd (by omega) (by omega)).mpr z)
    refine z_iconst (v := 1) C dd_A_plainest_5 (by decide) ?_
    refine z_goto (tgt := 10) C dd_A_plainest_6 (by decide) ?_
    refine z_istore C dd_A_plainest_10 rfl ?_
    refine nw_A_8 C dd_A_plainest_12 (by decide) (by decide) ?_
    refine z_dup C dd_A_plainest_15 rfl ?_
    refine z_iload_n C dd_A_plainest_16 rfl ?_
    refine z_iload C dd_A_plainest_17 rfl ?_
    refine z_if_eq (tgt := 26) C dd_A_plainest_19 (by decide) (fun q4 => absurd q4 (by decide)) (fun q4 => ?_)
    refine z_iload_n C dd_A_plainest_22 rfl ?_
    refine z_goto (tgt := 27) C dd_A_plainest_23 (by decide) ?_
    refine z_iload_n C dd_A_plainest_27 rfl ?_
    refine z_iconst (v := 3) C dd_A_plainest_28 (by decide) ?_
    refine z_icmp_ge (tgt := 36) C dd_A_plainest_29 (by decide) (fun q5 => ?_) (fun q5 => ?_)
    · replace q5 : 3 ≤ kd := (@nI_leI 3 kd (by omega) (by omega)).mp q5
      refine z_iconst (v := 0) C dd_A_plainest_36 (by decide) ?_
      refine z_iload_n C dd_A_plainest_37 rfl ?_
      refine ii_A_23 (sk := fun _ => [.ref n]) (zz_f B) C dd_A_plainest_38 (cc_A_init l D dA B _ _ n (nI kd) i 0 b hb (zz_us _ _ _) (by omega)) rfl rfl ⟨by decide, by decide⟩ (Nat.le_of_ble_eq_true rfl) ⟨by decide, by decide⟩ (fun _ => rfl) (fun _ h1_ n1_ p1_ => ?_)
      obtain ⟨rfl, g1, g2⟩ := p1_
      refine z_aret C dd_A_plainest_41 ⟨rfl, rfl, ?_, fun y hy => (g2 y (by omega) (by omega)).trans (zz_un (by omega))⟩ (by decide) (by decide)
      rw [if_neg (by omega), if_pos (by omega)]
      exact g1
    · replace q5 : ¬ 3 ≤ kd := fun z => q5 ((@nI_leI 3 kd (by omega) (by omega)).mpr z)
      refine z_iload_n C dd_A_plainest_32 rfl ?_
      refine z_goto (tgt := 37) C dd_A_plainest_33 (by decide) ?_
      refine z_iload_n C dd_A_plainest_37 rfl ?_
      refine ii_A_23 (sk := fun _ => [.ref n]) (zz_f B) C dd_A_plainest_38 (cc_A_init l D dA B _ _ n (nI kd) i x b hb (zz_us _ _ _) (by omega)) rfl rfl ⟨by decide, by decide⟩ (Nat.le_of_ble_eq_true rfl) ⟨by decide, by decide⟩ (fun _ => rfl) (fun _ h1_ n1_ p1_ => ?_)
      obtain ⟨rfl, g1, g2⟩ := p1_
      refine z_aret C dd_A_plainest_41 ⟨rfl, rfl, ?_, fun y hy => (g2 y (by omega) (by omega)).trans (zz_un (by omega))⟩ (by decide) (by decide)
      rw [if_neg (by omega), if_neg (by omega)]
      exact g1
abbrev rm_D_isAtom : Room := { frames := 4, cells := 0, slots := 0, locals := 100 }
set_option maxRecDepth 20000 in
/-- isAtom -/
theorem cd_D_isAtom (l : Launch) (D : va_G) (dA : Nat → ClassId) (B : Nat) (h : zz_H) (n : Nat) (ad : Nat → Nat → Nat) (ng nM : Nat) (na no : Nat → Nat) (X : dk_X) (Y : dk_Y) (Z : dk_Z) (hP0 : dk_P dA ad (dk_lv ng nM na no) X Y Z h) (nc ar : Nat) (h8 : nc ≤ 8) (e1 : X 1 0 1 = nI nc) (har : ar = 1 ∨ ar = 2) (kn i x : Int32) : zz_M l D zz_cl (zz_ty dA) B zz_tb (zz_x B) yy_D_isAtom (Cond.code yy_D_isAtom bb_D_isAtom 6 (some FieldType.boolean)) rm_D_isAtom [.ref ((ad 0 0)), .int kn, .int i, .int x, .int ((nI ar))] h n zz_mi (fun r h' n' => n' = n ∧ h' = h ∧ ((∃ kd, kd < 6 ∧ kn = nI kd ∧ r = pu_b (pu_ain nc ar kd i x)) ∨ ((∀ kd, kd < 6 → ¬ kn = nI kd) ∧ r = 0))) := by
  refine zz_ofW (zz_f B) [some (.ref ((ad 0 0))), some (.int kn), some (.int i), some (.int x), some (.int ((nI ar))), none] (by decide) rfl rfl (Nat.le_of_ble_eq_true rfl) ?_
  intro p e s m below meth c C
  have hP := dk_rf hP0
  refine z_iload_n C dd_D_isAtom_0 rfl ?_
  refine z_if_lt (tgt := 14) C dd_D_isAtom_1 (by decide) (fun q1 => ?_) (fun q1 => ?_)
  · skip
    refine z_iconst (v := 0) C dd_D_isAtom_14 (by decide) ?_
    refine z_istore C dd_D_isAtom_15 rfl ?_
    have eH : pu_iv i 0 (nI ar - 1) = false := dk_ivf (by omega) (Or.inl q1)
    refine z_iload_n C dd_D_isAtom_17 rfl ?_
    by_cases c9 : kn.toInt < 0 ∨ 5 < kn.toInt
    · skip
      have ck : ∀ kd, kd < 6 → ¬ kn = nI kd := by
        rintro kd hkd rfl
        rw [nI_toInt (by omega)] at c9
        omega
      refine z_tableOut (tgt := 133) C dd_D_isAtom_18 c9 (by decide) ?_
      refine z_iconst (v := 0) C dd_D_isAtom_133 (by decide) ?_
      exact z_zret C dd_D_isAtom_134 rfl ⟨rfl, rfl, Or.inr ⟨ck, rfl⟩⟩ (by decide) (by decide)
    · skip
      obtain ⟨kd, hkd0, rfl⟩ := nI_of (x := kn) (fun z => c9 (Or.inl (by rw [Int32.lt_iff_toInt_lt] at z; exact z)))
      have hkd : kd < 6 := by rw [nI_toInt (by omega)] at c9; omega
      clear c9 hkd0
      rcases (show kd = 0 ∨ kd = 1 ∨ kd = 2 ∨ kd = 3 ∨ kd = 4 ∨ kd = 5 by omega) with rfl | rfl | rfl | rfl | rfl | rfl
      · skip
        refine z_tableIn (off := 38) (tgt := 56) C dd_D_isAtom_18 (by decide) (by decide) rfl (by decide) ?_
        refine z_iload C dd_D_isAtom_56 rfl ?_
        refine z_if_eq (tgt := 76) C dd_D_isAtom_58 (by decide) (fun q2 => ?_) (fun q2 => absurd (by decide) q2)
        refine z_iconst (v := 0) C dd_D_isAtom_76 (by decide) ?_
        refine z_zret C dd_D_isAtom_77 rfl ⟨rfl, rfl, Or.inl ⟨0, by decide, rfl, ?_⟩⟩ (by decide) (by decide)
        show _ = pu_b (pu_iv i 0 (nI ar - 1) && pu_iv x 0 (nI nc - 1))
        rw [eH]
        rfl
      · skip
        refine z_tableIn (off := 60) (tgt := 78) C dd_D_isAtom_18 (by decide) (by decide) rfl (by decide) ?_
        refine z_iload C dd_D_isAtom_78 rfl ?_
        refine z_if_eq (tgt := 98) C dd_D_isAtom_80 (by decide) (fun q3 => ?_) (fun q3 => absurd (by decide) q3)
        refine z_iconst (v := 0) C dd_D_isAtom_98 (by decide) ?_
        refine z_zret C dd_D_isAtom_99 rfl ⟨rfl, rfl, Or.inl ⟨1, by decide, rfl, ?_⟩⟩ (by decide) (by decide)
        show _ = pu_b (pu_iv i 0 (nI ar - 1) && pu_iv x (-4) 4)
        rw [eH]
        rfl
      · skip
        refine z_tableIn (off := 82) (tgt := 100) C dd_D_isAtom_18 (by decide) (by decide) rfl (by decide) ?_
        refine z_iload C dd_D_isAtom_100 rfl ?_
        refine z_if_eq (tgt := 116) C dd_D_isAtom_102 (by decide) (fun q4 => ?_) (fun q4 => absurd (by decide) q4)
        refine z_iconst (v := 0) C dd_D_isAtom_116 (by decide) ?_
        refine z_zret C dd_D_isAtom_117 rfl ⟨rfl, rfl, Or.inl ⟨2, by decide, rfl, ?_⟩⟩ (by decide) (by decide)
        show _ = pu_b (pu_iv i 0 (nI ar - 1) && pu_iv x (-4) 3)
        rw [eH]
        rfl
      · skip
        refine z_tableIn (off := 100) (tgt := 118) C dd_D_isAtom_18 (by decide) (by decide) rfl (by decide) ?_
        refine z_iload C dd_D_isAtom_118 rfl ?_
        refine z_zret C dd_D_isAtom_120 rfl ⟨rfl, rfl, Or.inl ⟨3, by decide, rfl, ?_⟩⟩ (by decide) (by decide)
        show _ = pu_b (pu_iv i 0 (nI ar - 1) && true)
        rw [eH]
        rfl
      · skip
        refine z_tableIn (off := 103) (tgt := 121) C dd_D_isAtom_18 (by decide) (by decide) rfl (by decide) ?_
        refine z_iload C dd_D_isAtom_121 rfl ?_
        refine z_iconst (v := 2) C dd_D_isAtom_123 (by decide) ?_
        refine z_icmp_ne (tgt := 131) C dd_D_isAtom_124 (by decide) (fun q5 => ?_) (fun q5 => ?_)
        · replace q5 : ¬ ar = 2 := fun z => q5 ((@nI_eq ar 2 (by omega) (by omega)).mpr z)
          refine z_iconst (v := 0) C dd_D_isAtom_131 (by decide) ?_
          refine z_zret C dd_D_isAtom_132 rfl ⟨rfl, rfl, Or.inl ⟨4, by decide, rfl, ?_⟩⟩ (by decide) (by decide)
          show _ = pu_b (decide (ar = 2) && true)
          rw [decide_eq_false q5]
          rfl
        · replace q5 : ar = 2 := (@nI_eq ar 2 (by omega) (by omega)).mp q5
          refine z_iconst (v := 1) C dd_D_isAtom_127 (by decide) ?_
          refine z_goto (tgt := 132) C dd_D_isAtom_128 (by decide) ?_
          refine z_zret C dd_D_isAtom_132 rfl ⟨rfl, rfl, Or.inl ⟨4, by decide, rfl, ?_⟩⟩ (by decide) (by decide)
          show _ = pu_b (decide (ar = 2) && true)
          rw [decide_eq_true q5]
          rfl
      · skip
        refine z_tableIn (off := 103) (tgt := 121) C dd_D_isAtom_18 (by decide) (by decide) rfl (by decide) ?_
        refine z_iload C dd_D_isAtom_121 rfl ?_
        refine z_iconst (v := 2) C dd_D_isAtom_123 (by decide) ?_
        refine z_icmp_ne (tgt := 131) C dd_D_isAtom_124 (by decide) (fun q6 => ?_) (fun q6 => ?_)
        · replace q6 : ¬ ar = 2 := fun z => q6 ((@nI_eq ar 2 (by omega) (by omega)).mpr z)
          refine z_iconst (v := 0) C dd_D_isAtom_131 (by decide) ?_
          refine z_zret C dd_D_isAtom_132 rfl ⟨rfl, rfl, Or.inl ⟨5, by decide, rfl, ?_⟩⟩ (by decide) (by decide)
          show _ = pu_b (decide (ar = 2) && true)
          rw [decide_eq_false q6]
          rfl
        · replace q6 : ar = 2 := (@nI_eq ar 2 (by omega) (by omega)).mp q6
          refine z_iconst (v := 1) C dd_D_isAtom_127 (by decide) ?_
          refine z_goto (tgt := 132) C dd_D_isAtom_128 (by decide) ?_
          refine z_zret C dd_D_isAtom_132 rfl ⟨rfl, rfl, Or.inl ⟨5, by decide, rfl, ?_⟩⟩ (by decide) (by decide)
          show _ = pu_b (decide (ar = 2) && true)
          rw [decide_eq_true q6]
          rfl
  · skip
    refine z_iload_n C dd_D_isAtom_4 rfl ?_
    refine z_iload C dd_D_isAtom_5 rfl ?_
    refine z_icmp_ge (tgt := 14) C dd_D_isAtom_7 (by decide) (fun q7 => ?_) (fun q7 => ?_)
    · skip
      refine z_iconst (v := 0) C dd_D_isAtom_14 (by decide) ?_
      refine z_istore C dd_D_isAtom_15 rfl ?_
      have eH : pu_iv i 0 (nI ar - 1) = false := dk_ivf (by omega) (Or.inr q7)
      refine z_iload_n C dd_D_isAtom_17 rfl ?_
      by_cases c9 : kn.toInt < 0 ∨ 5 < kn.toInt
      · skip
        have ck : ∀ kd, kd < 6 → ¬ kn = nI kd := by
          rintro kd hkd rfl
          rw [nI_toInt (by omega)] at c9
          omega
        refine z_tableOut (tgt := 133) C dd_D_isAtom_18 c9 (by decide) ?_
        refine z_iconst (v := 0) C dd_D_isAtom_133 (by decide) ?_
        exact z_zret C dd_D_isAtom_134 rfl ⟨rfl, rfl, Or.inr ⟨ck, rfl⟩⟩ (by decide) (by decide)
      · skip
        obtain ⟨kd, hkd0, rfl⟩ := nI_of (x := kn) (fun z => c9 (Or.inl (by rw [Int32.lt_iff_toInt_lt] at z; exact z)))
        have hkd : kd < 6 := by rw [nI_toInt (by omega)] at c9; omega
        clear c9 hkd0
        rcases (show kd = 0 ∨ kd = 1 ∨ kd = 2 ∨ kd = 3 ∨ kd = 4 ∨ kd = 5 by omega) with rfl | rfl | rfl | rfl | rfl | rfl
        · skip
          refine z_tableIn (off := 38) (tgt := 56) C dd_D_isAtom_18 (by decide) (by decide) rfl (by decide) ?_
          refine z_iload C dd_D_isAtom_56 rfl ?_
          refine z_if_eq (tgt := 76) C dd_D_isAtom_58 (by decide) (fun q8 => ?_) (fun q8 => absurd (by decide) q8)
          refine z_iconst (v := 0) C dd_D_isAtom_76 (by decide) ?_
          refine z_zret C dd_D_isAtom_77 rfl ⟨rfl, rfl, Or.inl ⟨0, by decide, rfl, ?_⟩⟩ (by decide) (by decide)
          show _ = pu_b (pu_iv i 0 (nI ar - 1) && pu_iv x 0 (nI nc - 1))
          rw [eH]
          rfl
        · skip
          refine z_tableIn (off := 60) (tgt := 78) C dd_D_isAtom_18 (by decide) (by decide) rfl (by decide) ?_
          refine z_iload C dd_D_isAtom_78 rfl ?_
          refine z_if_eq (tgt := 98) C dd_D_isAtom_80 (by decide) (fun q9 => ?_) (fun q9 => absurd (by decide) q9)
          refine z_iconst (v := 0) C dd_D_isAtom_98 (by decide) ?_
          refine z_zret C dd_D_isAtom_99 rfl ⟨rfl, rfl, Or.inl ⟨1, by decide, rfl, ?_⟩⟩ (by decide) (by decide)
          show _ = pu_b (pu_iv i 0 (nI ar - 1) && pu_iv x (-4) 4)
          rw [eH]
          rfl
        · skip
          refine z_tableIn (off := 82) (tgt := 100) C dd_D_isAtom_18 (by decide) (by decide) rfl (by decide) ?_
          refine z_iload C dd_D_isAtom_100 rfl ?_
          refine z_if_eq (tgt := 116) C dd_D_isAtom_102 (by decide) (fun q10 => ?_) (fun q10 => absurd (by decide) q10)
          refine z_iconst (v := 0) C dd_D_isAtom_116 (by decide) ?_
          refine z_zret C dd_D_isAtom_117 rfl ⟨rfl, rfl, Or.inl ⟨2, by decide, rfl, ?_⟩⟩ (by decide) (by decide)
          show _ = pu_b (pu_iv i 0 (nI ar - 1) && pu_iv x (-4) 3)
          rw [eH]
          rfl
        · skip
          refine z_tableIn (off := 100) (tgt := 118) C dd_D_isAtom_18 (by decide) (by decide) rfl (by decide) ?_
          refine z_iload C dd_D_isAtom_118 rfl ?_
          refine z_zret C dd_D_isAtom_120 rfl ⟨rfl, rfl, Or.inl ⟨3, by decide, rfl, ?_⟩⟩ (by decide) (by decide)
          show _ = pu_b (pu_iv i 0 (nI ar - 1) && true)
          rw [eH]
          rfl
        · skip
          refine z_tableIn (off := 103) (tgt := 121) C dd_D_isAtom_18 (by decide) (by decide) rfl (by decide) ?_
          refine z_iload C dd_D_isAtom_121 rfl ?_
          refine z_iconst (v := 2) C dd_D_isAtom_123 (by decide) ?_
          refine z_icmp_ne (tgt := 131) C dd_D_isAtom_124 (by decide) (fun q11 => ?_) (fun q11 => ?_)
          · replace q11 : ¬ ar = 2 := fun z => q11 ((@nI_eq ar 2 (by omega) (by omega)).mpr z)
            refine z_iconst (v := 0) C dd_D_isAtom_131 (by decide) ?_
            refine z_zret C dd_D_isAtom_132 rfl ⟨rfl, rfl, Or.inl ⟨4, by decide, rfl, ?_⟩⟩ (by decide) (by decide)
            show _ = pu_b (decide (ar = 2) && true)
            rw [decide_eq_false q11]
            rfl
          · replace q11 : ar = 2 := (@nI_eq ar 2 (by omega) (by omega)).mp q11
            refine z_iconst (v := 1) C dd_D_isAtom_127 (by decide) ?_
            refine z_goto (tgt := 132) C dd_D_isAtom_128 (by decide) ?_
            refine z_zret C dd_D_isAtom_132 rfl ⟨rfl, rfl, Or.inl ⟨4, by decide, rfl, ?_⟩⟩ (by decide) (by decide)
            show _ = pu_b (decide (ar = 2) && true)
            rw [decide_eq_true q11]
            rfl
        · skip
          refine z_tableIn (off := 103) (tgt := 121) C dd_D_isAtom_18 (by decide) (by decide) rfl (by decide) ?_
          refine z_iload C dd_D_isAtom_121 rfl ?_
          refine z_iconst (v := 2) C dd_D_isAtom_123 (by decide) ?_
          refine z_icmp_ne (tgt := 131) C dd_D_isAtom_124 (by decide) (fun q12 => ?_) (fun q12 => ?_)
          · replace q12 : ¬ ar = 2 := fun z => q12 ((@nI_eq ar 2 (by omega) (by omega)).mpr z)
            refine z_iconst (v := 0) C dd_D_isAtom_131 (by decide) ?_
            refine z_zret C dd_D_isAtom_132 rfl ⟨rfl, rfl, Or.inl ⟨5, by decide, rfl, ?_⟩⟩ (by decide) (by decide)
            show _ = pu_b (decide (ar = 2) && true)
            rw [decide_eq_false q12]
            rfl
          · replace q12 : ar = 2 := (@nI_eq ar 2 (by omega) (by omega)).mp q12
            refine z_iconst (v := 1) C dd_D_isAtom_127 (by decide) ?_
            refine z_goto (tgt := 132) C dd_D_isAtom_128 (by decide) ?_
            refine z_zret C dd_D_isAtom_132 rfl ⟨rfl, rfl, Or.inl ⟨5, by decide, rfl, ?_⟩⟩ (by decide) (by decide)
            show _ = pu_b (decide (ar = 2) && true)
            rw [decide_eq_true q12]
            rfl
    · skip
      refine z_iconst (v := 1) C dd_D_isAtom_10 (by decide) ?_
      refine z_goto (tgt := 15) C dd_D_isAtom_11 (by decide) ?_
      refine z_istore C dd_D_isAtom_15 rfl ?_
      have eH : pu_iv i 0 (nI ar - 1) = true := dk_ivt (by omega) q1 q7
      refine z_iload_n C dd_D_isAtom_17 rfl ?_
      by_cases c9 : kn.toInt < 0 ∨ 5 < kn.toInt
      · skip
        have ck : ∀ kd, kd < 6 → ¬ kn = nI kd := by
          rintro kd hkd rfl
          rw [nI_toInt (by omega)] at c9
          omega
        refine z_tableOut (tgt := 133) C dd_D_isAtom_18 c9 (by decide) ?_
        refine z_iconst (v := 0) C dd_D_isAtom_133 (by decide) ?_
        exact z_zret C dd_D_isAtom_134 rfl ⟨rfl, rfl, Or.inr ⟨ck, rfl⟩⟩ (by decide) (by decide)
      · skip
        obtain ⟨kd, hkd0, rfl⟩ := nI_of (x := kn) (fun z => c9 (Or.inl (by rw [Int32.lt_iff_toInt_lt] at z; exact z)))
        have hkd : kd < 6 := by rw [nI_toInt (by omega)] at c9; omega
        clear c9 hkd0
        rcases (show kd = 0 ∨ kd = 1 ∨ kd = 2 ∨ kd = 3 ∨ kd = 4 ∨ kd = 5 by omega) with rfl | rfl | rfl | rfl | rfl | rfl
        · skip
          refine z_tableIn (off := 38) (tgt := 56) C dd_D_isAtom_18 (by decide) (by decide) rfl (by decide) ?_
          refine z_iload C dd_D_isAtom_56 rfl ?_
          refine z_if_eq (tgt := 76) C dd_D_isAtom_58 (by decide) (fun q13 => absurd q13 (by decide)) (fun q13 => ?_)
          refine z_aload_n C dd_D_isAtom_61 rfl ?_
          refine gf_D_10 (v := .ref ((ad 1 0))) C dd_D_isAtom_62 (dk_rd (k := 0) (i := 0) (x := (X 0 0)) (y := (Y 0 0)) (z := (Z 0 0)) hP rfl rfl rfl rfl) rfl ?_
          refine z_iload_n C dd_D_isAtom_65 rfl ?_
          refine iv_D_58 (sk := fun r => .int r :: []) (zz_f B) C dd_D_isAtom_66 (cc_H_has l D dA B _ _ (ad 1 0) _ _ x (dk_rd (k := 1) (i := 0) (x := (X 1 0)) (y := (Y 1 0)) (z := (Z 1 0)) hP rfl rfl rfl rfl)) (dk_rd (k := 1) (i := 0) (x := (X 1 0)) (y := (Y 1 0)) (z := (Z 1 0)) hP rfl rfl rfl rfl) rfl rfl ⟨by decide, by decide⟩ (Nat.le_of_ble_eq_true rfl) ⟨by decide, by decide⟩ (fun _ => rfl) (fun v1_ h1_ n1_ p1_ => ?_)
          obtain ⟨f1_, e1_, p1_⟩ := p1_
          have e1z := e1_.symm
          have f1z := f1_.symm
          subst e1z
          subst f1z
          rw [e1] at p1_
          have e19 : v1_ = pu_b (pu_iv x 0 (nI nc - 1)) := by
            rcases p1_ with ⟨z, u1, u2⟩ | ⟨z, u1⟩
            · rw [z, dk_ivt (by omega) u1 u2]; rfl
            · rw [z, dk_ivf (by omega) u1]; rfl
          subst e19
          refine z_if_eq (tgt := 76) C dd_D_isAtom_69 (by decide) (fun q14 => ?_) (fun q14 => ?_)
          · skip
            refine z_iconst (v := 0) C dd_D_isAtom_76 (by decide) ?_
            refine z_zret C dd_D_isAtom_77 rfl ⟨rfl, rfl, Or.inl ⟨0, by decide, rfl, ?_⟩⟩ (by decide) (by decide)
            show _ = pu_b (pu_iv i 0 (nI ar - 1) && pu_iv x 0 (nI nc - 1))
            rw [eH]
            rw [((pu_b0 _).mp q14)]
            rfl
          · skip
            refine z_iconst (v := 1) C dd_D_isAtom_72 (by decide) ?_
            refine z_goto (tgt := 77) C dd_D_isAtom_73 (by decide) ?_
            refine z_zret C dd_D_isAtom_77 rfl ⟨rfl, rfl, Or.inl ⟨0, by decide, rfl, ?_⟩⟩ (by decide) (by decide)
            show _ = pu_b (pu_iv i 0 (nI ar - 1) && pu_iv x 0 (nI nc - 1))
            rw [eH]
            rw [(pu_bn1.mp q14)]
            rfl
        · skip
          refine z_tableIn (off := 60) (tgt := 78) C dd_D_isAtom_18 (by decide) (by decide) rfl (by decide) ?_
          refine z_iload C dd_D_isAtom_78 rfl ?_
          refine z_if_eq (tgt := 98) C dd_D_isAtom_80 (by decide) (fun q15 => absurd q15 (by decide)) (fun q15 => ?_)
          refine z_iload_n C dd_D_isAtom_83 rfl ?_
          refine z_bipush (v := (-4)) C dd_D_isAtom_84 (by decide) ?_
          refine z_icmp_lt (tgt := 98) C dd_D_isAtom_86 (by decide) (fun q16 => ?_) (fun q16 => ?_)
          · skip
            refine z_iconst (v := 0) C dd_D_isAtom_98 (by decide) ?_
            refine z_zret C dd_D_isAtom_99 rfl ⟨rfl, rfl, Or.inl ⟨1, by decide, rfl, ?_⟩⟩ (by decide) (by decide)
            show _ = pu_b (pu_iv i 0 (nI ar - 1) && pu_iv x (-4) 4)
            rw [eH]
            rw [dk_ive, decide_eq_true q16]
            rfl
          · skip
            refine z_iload_n C dd_D_isAtom_89 rfl ?_
            refine z_iconst (v := 4) C dd_D_isAtom_90 (by decide) ?_
            refine z_icmp_gt (tgt := 98) C dd_D_isAtom_91 (by decide) (fun q17 => ?_) (fun q17 => ?_)
            · skip
              refine z_iconst (v := 0) C dd_D_isAtom_98 (by decide) ?_
              refine z_zret C dd_D_isAtom_99 rfl ⟨rfl, rfl, Or.inl ⟨1, by decide, rfl, ?_⟩⟩ (by decide) (by decide)
              show _ = pu_b (pu_iv i 0 (nI ar - 1) && pu_iv x (-4) 4)
              rw [eH]
              rw [dk_ive, decide_eq_false q16, decide_eq_true q17]
              rfl
            · skip
              refine z_iconst (v := 1) C dd_D_isAtom_94 (by decide) ?_
              refine z_goto (tgt := 99) C dd_D_isAtom_95 (by decide) ?_
              refine z_zret C dd_D_isAtom_99 rfl ⟨rfl, rfl, Or.inl ⟨1, by decide, rfl, ?_⟩⟩ (by decide) (by decide)
              show _ = pu_b (pu_iv i 0 (nI ar - 1) && pu_iv x (-4) 4)
              rw [eH]
              rw [dk_ive, decide_eq_false q16, decide_eq_false q17]
              rfl
        · skip
          refine z_tableIn (off := 82) (tgt := 100) C dd_D_isAtom_18 (by decide) (by decide) rfl (by decide) ?_
          refine z_iload C dd_D_isAtom_100 rfl ?_
          refine z_if_eq (tgt := 116) C dd_D_isAtom_102 (by decide) (fun q18 => absurd q18 (by decide)) (fun q18 => ?_)
          refine z_iload_n C dd_D_isAtom_105 rfl ?_
          refine is_D_266 (sk := fun r => .int r :: []) (zz_f B) C dd_D_isAtom_106 (cc_V_isNumber l D dA B _ _ x) rfl rfl ⟨by decide, by decide⟩ (Nat.le_of_ble_eq_true rfl) ⟨by decide, by decide⟩ (fun _ => rfl) (fun v2_ h2_ n2_ p2_ => ?_)
          obtain ⟨f2_, e2_, p2_⟩ := p2_
          have e2z := e2_.symm
          have f2z := f2_.symm
          subst e2z
          subst f2z
          have e29 : v2_ = pu_b (pu_iv x (-4) 3) := by
            rw [dk_ive]
            rcases p2_ with ⟨u1, z⟩ | ⟨u1, u2, z⟩ | ⟨u1, u2, z⟩
            · rw [z, decide_eq_true u1]; rfl
            · rw [z, decide_eq_false u1, decide_eq_true u2]; rfl
            · rw [z, decide_eq_false u1, decide_eq_false u2]; rfl
          subst e29
          refine z_if_eq (tgt := 116) C dd_D_isAtom_109 (by decide) (fun q19 => ?_) (fun q19 => ?_)
          · skip
            refine z_iconst (v := 0) C dd_D_isAtom_116 (by decide) ?_
            refine z_zret C dd_D_isAtom_117 rfl ⟨rfl, rfl, Or.inl ⟨2, by decide, rfl, ?_⟩⟩ (by decide) (by decide)
            show _ = pu_b (pu_iv i 0 (nI ar - 1) && pu_iv x (-4) 3)
            rw [eH]
            rw [((pu_b0 _).mp q19)]
            rfl
          · skip
            refine z_iconst (v := 1) C dd_D_isAtom_112 (by decide) ?_
            refine z_goto (tgt := 117) C dd_D_isAtom_113 (by decide) ?_
            refine z_zret C dd_D_isAtom_117 rfl ⟨rfl, rfl, Or.inl ⟨2, by decide, rfl, ?_⟩⟩ (by decide) (by decide)
            show _ = pu_b (pu_iv i 0 (nI ar - 1) && pu_iv x (-4) 3)
            rw [eH]
            rw [(pu_bn1.mp q19)]
            rfl
        · skip
          refine z_tableIn (off := 100) (tgt := 118) C dd_D_isAtom_18 (by decide) (by decide) rfl (by decide) ?_
          refine z_iload C dd_D_isAtom_118 rfl ?_
          refine z_zret C dd_D_isAtom_120 rfl ⟨rfl, rfl, Or.inl ⟨3, by decide, rfl, ?_⟩⟩ (by decide) (by decide)
          show _ = pu_b (pu_iv i 0 (nI ar - 1) && true)
          rw [eH]
          rfl
        · skip
          refine z_tableIn (off := 103) (tgt := 121) C dd_D_isAtom_18 (by decide) (by decide) rfl (by decide) ?_
          refine z_iload C dd_D_isAtom_121 rfl ?_
          refine z_iconst (v := 2) C dd_D_isAtom_123 (by decide) ?_
          refine z_icmp_ne (tgt := 131) C dd_D_isAtom_124 (by decide) (fun q20 => ?_) (fun q20 => ?_)
          · replace q20 : ¬ ar = 2 := fun z => q20 ((@nI_eq ar 2 (by omega) (by omega)).mpr z)
            refine z_iconst (v := 0) C dd_D_isAtom_131 (by decide) ?_
            refine z_zret C dd_D_isAtom_132 rfl ⟨rfl, rfl, Or.inl ⟨4, by decide, rfl, ?_⟩⟩ (by decide) (by decide)
            show _ = pu_b (decide (ar = 2) && true)
            rw [decide_eq_false q20]
            rfl
          · replace q20 : ar = 2 := (@nI_eq ar 2 (by omega) (by omega)).mp q20
            refine z_iconst (v := 1) C dd_D_isAtom_127 (by decide) ?_
            refine z_goto (tgt := 132) C dd_D_isAtom_128 (by decide) ?_
            refine z_zret C dd_D_isAtom_132 rfl ⟨rfl, rfl, Or.inl ⟨4, by decide, rfl, ?_⟩⟩ (by decide) (by decide)
            show _ = pu_b (decide (ar = 2) && true)
            rw [decide_eq_true q20]
            rfl
        · skip
          refine z_tableIn (off := 103) (tgt := 121) C dd_D_isAtom_18 (by decide) (by decide) rfl (by decide) ?_
          refine z_iload C dd_D_isAtom_121 rfl ?_
          refine z_iconst (v := 2) C dd_D_isAtom_123 (by decide) ?_
          refine z_icmp_ne (tgt := 131) C dd_D_isAtom_124 (by decide) (fun q21 => ?_) (fun q21 => ?_)
          · replace q21 : ¬ ar = 2 := fun z => q21 ((@nI_eq ar 2 (by omega) (by omega)).mpr z)
            refine z_iconst (v := 0) C dd_D_isAtom_131 (by decide) ?_
            refine z_zret C dd_D_isAtom_132 rfl ⟨rfl, rfl, Or.inl ⟨5, by decide, rfl, ?_⟩⟩ (by decide) (by decide)
            show _ = pu_b (decide (ar = 2) && true)
            rw [decide_eq_false q21]
            rfl
          · replace q21 : ar = 2 := (@nI_eq ar 2 (by omega) (by omega)).mp q21
            refine z_iconst (v := 1) C dd_D_isAtom_127 (by decide) ?_
            refine z_goto (tgt := 132) C dd_D_isAtom_128 (by decide) ?_
            refine z_zret C dd_D_isAtom_132 rfl ⟨rfl, rfl, Or.inl ⟨5, by decide, rfl, ?_⟩⟩ (by decide) (by decide)
            show _ = pu_b (decide (ar = 2) && true)
            rw [decide_eq_true q21]
            rfl
abbrev rm_D_isOperation : Room := { frames := 4, cells := 0, slots := 0, locals := 100 }
set_option maxRecDepth 20000 in
/-- isOperation -/
theorem cd_D_isOperation (l : Launch) (D : va_G) (dA : Nat → ClassId) (B : Nat) (h : zz_H) (n : Nat) (ad : Nat → Nat → Nat) (ng nM : Nat) (na no : Nat → Nat) (X : dk_X) (Y : dk_Y) (Z : dk_Z) (hP0 : dk_P dA ad (dk_lv ng nM na no) X Y Z h) (nc ar : Nat) (h8 : nc ≤ 8) (g4 : ng ≤ 4) (e1 : X 1 0 1 = nI nc) (e2 : X 0 0 2 = nI ng) (har : ar = 1 ∨ ar = 2) (kn x : Int32) : zz_M l D zz_cl (zz_ty dA) B zz_tb (zz_x B) yy_D_isOperation (Cond.code yy_D_isOperation bb_D_isOperation 4 (some FieldType.boolean)) rm_D_isOperation [.ref ((ad 0 0)), .int kn, .int x, .int ((nI ar))] h n zz_mi (fun r h' n' => n' = n ∧ h' = h ∧ ((∃ kd, kd < 7 ∧ kn = nI kd ∧ r = pu_b (pu_oin nc ng ar kd x)) ∨ ((∀ kd, kd < 7 → ¬ kn = nI kd) ∧ r = 0))) := by
  refine zz_ofW (zz_f B) [some (.ref ((ad 0 0))), some (.int kn), some (.int x), some (.int ((nI ar)))] (by decide) rfl rfl (Nat.le_of_ble_eq_true rfl) ?_
  intro p e s m below meth c C
  have hP := dk_rf hP0
  refine z_iload_n C dd_D_isOperation_0 rfl ?_
  by_cases c9 : kn.toInt < 0 ∨ 6 < kn.toInt
  · skip
    have ck : ∀ kd, kd < 7 → ¬ kn = nI kd := by
      rintro kd hkd rfl
      rw [nI_toInt (by omega)] at c9
      omega
    refine z_tableOut (tgt := 93) C dd_D_isOperation_1 c9 (by decide) ?_
    refine z_iconst (v := 0) C dd_D_isOperation_93 (by decide) ?_
    exact z_zret C dd_D_isOperation_94 rfl ⟨rfl, rfl, Or.inr ⟨ck, rfl⟩⟩ (by decide) (by decide)
  · skip
    obtain ⟨kd, hkd0, rfl⟩ := nI_of (x := kn) (fun z => c9 (Or.inl (by rw [Int32.lt_iff_toInt_lt] at z; exact z)))
    have hkd : kd < 7 := by rw [nI_toInt (by omega)] at c9; omega
    clear c9 hkd0
    rcases (show kd = 0 ∨ kd = 1 ∨ kd = 2 ∨ kd = 3 ∨ kd = 4 ∨ kd = 5 ∨ kd = 6 by omega) with rfl | rfl | rfl | rfl | rfl | rfl | rfl
    · skip
      refine z_tableIn (off := 43) (tgt := 44) C dd_D_isOperation_1 (by decide) (by decide) rfl (by decide) ?_
      refine z_iload_n C dd_D_isOperation_44 rfl ?_
      refine is_D_266 (sk := fun r => .int r :: []) (zz_f B) C dd_D_isOperation_45 (cc_V_isNumber l D dA B _ _ x) rfl rfl ⟨by decide, by decide⟩ (Nat.le_of_ble_eq_true rfl) ⟨by decide, by decide⟩ (fun _ => rfl) (fun v1_ h1_ n1_ p1_ => ?_)
      obtain ⟨f1_, e1_, p1_⟩ := p1_
      have e1z := e1_.symm
      have f1z := f1_.symm
      subst e1z
      subst f1z
      have e19 : v1_ = pu_b (pu_iv x (-4) 3) := by
        rw [dk_ive]
        rcases p1_ with ⟨u1, z⟩ | ⟨u1, u2, z⟩ | ⟨u1, u2, z⟩
        · rw [z, decide_eq_true u1]; rfl
        · rw [z, decide_eq_false u1, decide_eq_true u2]; rfl
        · rw [z, decide_eq_false u1, decide_eq_false u2]; rfl
      subst e19
      refine z_zret C dd_D_isOperation_48 (pu_bn _) ⟨rfl, rfl, Or.inl ⟨0, by decide, rfl, ?_⟩⟩ (by decide) (by decide)
      show _ = pu_b (pu_iv x (-4) 3)
      rfl
    · skip
      refine z_tableIn (off := 48) (tgt := 49) C dd_D_isOperation_1 (by decide) (by decide) rfl (by decide) ?_
      refine z_iload_n C dd_D_isOperation_49 rfl ?_
      refine z_if_lt (tgt := 62) C dd_D_isOperation_50 (by decide) (fun q1 => ?_) (fun q1 => ?_)
      · skip
        refine z_iconst (v := 0) C dd_D_isOperation_62 (by decide) ?_
        refine z_zret C dd_D_isOperation_63 rfl ⟨rfl, rfl, Or.inl ⟨1, by decide, rfl, ?_⟩⟩ (by decide) (by decide)
        show _ = pu_b (pu_iv x 0 (nI ar - 1))
        rw [dk_ivf (by omega) (Or.inl q1)]
        rfl
      · skip
        refine z_iload_n C dd_D_isOperation_53 rfl ?_
        refine z_iload_n C dd_D_isOperation_54 rfl ?_
        refine z_icmp_ge (tgt := 62) C dd_D_isOperation_55 (by decide) (fun q2 => ?_) (fun q2 => ?_)
        · skip
          refine z_iconst (v := 0) C dd_D_isOperation_62 (by decide) ?_
          refine z_zret C dd_D_isOperation_63 rfl ⟨rfl, rfl, Or.inl ⟨1, by decide, rfl, ?_⟩⟩ (by decide) (by decide)
          show _ = pu_b (pu_iv x 0 (nI ar - 1))
          rw [dk_ivf (by omega) (Or.inr q2)]
          rfl
        · skip
          refine z_iconst (v := 1) C dd_D_isOperation_58 (by decide) ?_
          refine z_goto (tgt := 63) C dd_D_isOperation_59 (by decide) ?_
          refine z_zret C dd_D_isOperation_63 rfl ⟨rfl, rfl, Or.inl ⟨1, by decide, rfl, ?_⟩⟩ (by decide) (by decide)
          show _ = pu_b (pu_iv x 0 (nI ar - 1))
          rw [dk_ivt (by omega) q1 q2]
          rfl
    · skip
      refine z_tableIn (off := 90) (tgt := 91) C dd_D_isOperation_1 (by decide) (by decide) rfl (by decide) ?_
      refine z_iconst (v := 1) C dd_D_isOperation_91 (by decide) ?_
      refine z_zret C dd_D_isOperation_92 rfl ⟨rfl, rfl, Or.inl ⟨2, by decide, rfl, ?_⟩⟩ (by decide) (by decide)
      show _ = pu_b (true)
      rfl
    · skip
      refine z_tableIn (off := 90) (tgt := 91) C dd_D_isOperation_1 (by decide) (by decide) rfl (by decide) ?_
      refine z_iconst (v := 1) C dd_D_isOperation_91 (by decide) ?_
      refine z_zret C dd_D_isOperation_92 rfl ⟨rfl, rfl, Or.inl ⟨3, by decide, rfl, ?_⟩⟩ (by decide) (by decide)
      show _ = pu_b (true)
      rfl
    · skip
      refine z_tableIn (off := 63) (tgt := 64) C dd_D_isOperation_1 (by decide) (by decide) rfl (by decide) ?_
      refine z_aload_n C dd_D_isOperation_64 rfl ?_
      refine gf_D_10 (v := .ref ((ad 1 0))) C dd_D_isOperation_65 (dk_rd (k := 0) (i := 0) (x := (X 0 0)) (y := (Y 0 0)) (z := (Z 0 0)) hP rfl rfl rfl rfl) rfl ?_
      refine z_iload_n C dd_D_isOperation_68 rfl ?_
      refine iv_D_58 (sk := fun r => .int r :: []) (zz_f B) C dd_D_isOperation_69 (cc_H_has l D dA B _ _ (ad 1 0) _ _ x (dk_rd (k := 1) (i := 0) (x := (X 1 0)) (y := (Y 1 0)) (z := (Z 1 0)) hP rfl rfl rfl rfl)) (dk_rd (k := 1) (i := 0) (x := (X 1 0)) (y := (Y 1 0)) (z := (Z 1 0)) hP rfl rfl rfl rfl) rfl rfl ⟨by decide, by decide⟩ (Nat.le_of_ble_eq_true rfl) ⟨by decide, by decide⟩ (fun _ => rfl) (fun v2_ h2_ n2_ p2_ => ?_)
      obtain ⟨f2_, e2_, p2_⟩ := p2_
      have e2z := e2_.symm
      have f2z := f2_.symm
      subst e2z
      subst f2z
      rw [e1] at p2_
      have e29 : v2_ = pu_b (pu_iv x 0 (nI nc - 1)) := by
        rcases p2_ with ⟨z, u1, u2⟩ | ⟨z, u1⟩
        · rw [z, dk_ivt (by omega) u1 u2]; rfl
        · rw [z, dk_ivf (by omega) u1]; rfl
      subst e29
      refine z_zret C dd_D_isOperation_72 (pu_bn _) ⟨rfl, rfl, Or.inl ⟨4, by decide, rfl, ?_⟩⟩ (by decide) (by decide)
      show _ = pu_b (pu_iv x 0 (nI nc - 1))
      rfl
    · skip
      refine z_tableIn (off := 72) (tgt := 73) C dd_D_isOperation_1 (by decide) (by decide) rfl (by decide) ?_
      refine z_iload_n C dd_D_isOperation_73 rfl ?_
      refine z_if_lt (tgt := 89) C dd_D_isOperation_74 (by decide) (fun q3 => ?_) (fun q3 => ?_)
      · skip
        refine z_iconst (v := 0) C dd_D_isOperation_89 (by decide) ?_
        refine z_zret C dd_D_isOperation_90 rfl ⟨rfl, rfl, Or.inl ⟨5, by decide, rfl, ?_⟩⟩ (by decide) (by decide)
        show _ = pu_b (pu_iv x 0 (nI ng - 1))
        rw [dk_ivf (by omega) (Or.inl q3)]
        rfl
      · skip
        refine z_iload_n C dd_D_isOperation_77 rfl ?_
        refine z_aload_n C dd_D_isOperation_78 rfl ?_
        refine gf_D_22 (v := .int (X 0 0 2)) C dd_D_isOperation_79 (dk_rd (k := 0) (i := 0) (x := (X 0 0)) (y := (Y 0 0)) (z := (Z 0 0)) hP rfl rfl rfl rfl) rfl ?_
        refine z_topi (y := nI ng) e2.symm ?_
        refine z_icmp_ge (tgt := 89) C dd_D_isOperation_82 (by decide) (fun q4 => ?_) (fun q4 => ?_)
        · skip
          refine z_iconst (v := 0) C dd_D_isOperation_89 (by decide) ?_
          refine z_zret C dd_D_isOperation_90 rfl ⟨rfl, rfl, Or.inl ⟨5, by decide, rfl, ?_⟩⟩ (by decide) (by decide)
          show _ = pu_b (pu_iv x 0 (nI ng - 1))
          rw [dk_ivf (by omega) (Or.inr q4)]
          rfl
        · skip
          refine z_iconst (v := 1) C dd_D_isOperation_85 (by decide) ?_
          refine z_goto (tgt := 90) C dd_D_isOperation_86 (by decide) ?_
          refine z_zret C dd_D_isOperation_90 rfl ⟨rfl, rfl, Or.inl ⟨5, by decide, rfl, ?_⟩⟩ (by decide) (by decide)
          show _ = pu_b (pu_iv x 0 (nI ng - 1))
          rw [dk_ivt (by omega) q3 q4]
          rfl
    · skip
      refine z_tableIn (off := 90) (tgt := 91) C dd_D_isOperation_1 (by decide) (by decide) rfl (by decide) ?_
      refine z_iconst (v := 1) C dd_D_isOperation_91 (by decide) ?_
      refine z_zret C dd_D_isOperation_92 rfl ⟨rfl, rfl, Or.inl ⟨6, by decide, rfl, ?_⟩⟩ (by decide) (by decide)
      show _ = pu_b (true)
      rfl
