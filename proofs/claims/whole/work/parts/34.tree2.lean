theorem tg_tree_nn {pas : Nat → Nat → Bool} {be : Nat → Int32} {T : Nat} : ∀ f S G, G.length ≤ 80 → ((tg_tree pas be T f S G).2 = -1 ∨ ¬ (tg_tree pas be T f S G).2 < 0) ∧ (tg_tree pas be T f S G).1.length ≤ 80 := by
  have ha : ∀ (G : List tg_N) x, G.length ≤ 80 → (tg_add G x).1.length ≤ 80 := by
    intro G x h
    unfold tg_add
    split
    · exact h
    · split
      · exact h
      · simp
        omega
  intro f
  induction f with
  | zero => intro S G h; exact ⟨Or.inl rfl, h⟩
  | succ f ih =>
    intro S G h
    match S with
    | [] => exact ⟨Or.inl rfl, h⟩
    | r0 :: S =>
      rw [tg_tree]
      split
      · exact ⟨tg_add_nn G _ h, ha G _ h⟩
      · split
        · exact ⟨Or.inl rfl, h⟩
        · rename_i t _
          have h1 := ih ((r0 :: S).filter fun r => pas r t) G h
          have h2 := ih ((r0 :: S).filter fun r => !pas r t) _ h1.2
          split
          · exact ⟨Or.inl rfl, h1.2⟩
          · split
            · exact ⟨Or.inl rfl, h2.2⟩
            · exact ⟨tg_add_nn _ _ h2.2, ha _ _ h2.2⟩
theorem bl_big {x : Int64} {i : Nat} (h : 64 ≤ i) : bl x i = false := BitVec.getLsbD_of_ge _ _ h
theorem pu_best_oth {X0 X : Nat → Nat → Int32} {nM g : Nat} (ho : pu_oth X0 X g) : pu_best X nM g = pu_best X0 nM g := by
  funext r
  unfold pu_best
  rw [ho.1 12 (by omega), ho.1 13 (by omega)]
theorem pu_best_ne {X : Nat → Nat → Int32} {nM g : Nat} (h : nM ≤ 12) (r : Nat) : ¬ pu_best X nM g r = -3 ∧ ¬ pu_best X nM g r = -4 := by
  have z := pu_fm_ge (X 12 (4096 * g + r)) (X 13) nM h
  exact ⟨fun e => z (by show pu_best X nM g r ≤ -3; rw [e]; decide), fun e => z (by show pu_best X nM g r ≤ -3; rw [e]; decide)⟩
theorem tg_alike {pas : Nat → Nat → Bool} {S : List Nat} {t : Nat} (h : tg_sep pas S t = false) (r r' : Nat) (hr : r ∈ S) (hr' : r' ∈ S) : pas r t = pas r' t := by
  apply Classical.byContradiction
  intro z
  have : tg_sep pas S t = true := by
    unfold tg_sep
    rw [Bool.and_eq_true, List.any_eq_true, List.any_eq_true]
    cases e1 : pas r t <;> cases e2 : pas r' t
    · exact absurd (e1.trans e2.symm) z
    · exact ⟨⟨r', hr', e2⟩, ⟨r, hr, by rw [e1]; rfl⟩⟩
    · exact ⟨⟨r, hr, e1⟩, ⟨r', hr', by rw [e2]; rfl⟩⟩
    · exact absurd (e1.trans e2.symm) z
  rw [h] at this
  cases this
set_option maxRecDepth 20000 in
theorem lpS_Q_build {D : va_G} {dA : Nat → ClassId} {B : Nat} {p : Program} {l : Launch} {e : Env} {s : State} {m : MethodId} {args : Array Value} {below : List Frame} {meth : Method} {c : Code} {Q : State → Prop} {n : Nat} {nm : String} {ret9 : Option FieldType} {h : zz_H} (C : zz_C D zz_cl (zz_ty dA) B zz_tb (zz_x B) p s m args meth c bb_Q_build RR_Q ret9 nm) {q : Nat} {F : Nat → Int32} {X0 : Nat → Nat → Int32} {Pz : Nat → Int64} {nc ng nM : Nat} (W : pu_W F X0 nc ng nM) {g0 ar T : Nat} (hg : g0 < ng) (har : X0 1 g0 = nI ar) (ha : ar = 1 ∨ ar = 2) (hT : T ≤ 48) (eT : X0 18 g0 = nI T) (hA : ∀ r r', r < (pu_R nc ar) → r' < (pu_R nc ar) → (∀ t, t < T → bl (Pz r) t = bl (Pz r') t) → pu_best X0 nM g0 r = pu_best X0 nM g0 r') :
    ∀ fuel fr f ma va X J h9 nd o4 o5 o6 G, T < fr + fuel → f ≤ fr → fr ≤ T → md_K dA F X J q h h9 → pu_oth X0 X g0 → J 22 = Pz → pu_gr X g0 G → J 23 f = ma → J 24 f = va → X 25 f = nI fr → X 26 f = 0 → (∀ i, i < 64 → fr ≤ i → bl ma i = false ∧ bl va i = false) → ¬ (pu_S Pz (pu_R nc ar) ma va) = [] → (∀ r r', r ∈ (pu_S Pz (pu_R nc ar) ma va) → r' ∈ (pu_S Pz (pu_R nc ar) ma va) → ∀ t, t < fr → bl (Pz r) t = bl (Pz r') t) → ¬ nd < 0 → (∀ X' J' h' v2 o4 o5 o6, (tg_tree (fun r t => bl (Pz r) t) (pu_best X0 nM g0) T fuel (pu_S Pz (pu_R nc ar) ma va) G).2 = -1 → md_K dA F X' J' q h h' → pu_oth X0 X' g0 → J' 22 = Pz → zz_W D zz_cl B p l e rm_Q_build s m args below meth c Q h' n 0 0 [some (.ref q), some (.int (nI g0)), some (.int v2), some (.int (-1)), o4, o5, o6] 19 []) → (∀ X' J' h' o4 o5 o6, ¬ (tg_tree (fun r t => bl (Pz r) t) (pu_best X0 nM g0) T fuel (pu_S Pz (pu_R nc ar) ma va) G).2 = -1 → md_K dA F X' J' q h h' → pu_oth X0 X' g0 → J' 22 = Pz → pu_gr X' g0 (tg_tree (fun r t => bl (Pz r) t) (pu_best X0 nM g0) T fuel (pu_S Pz (pu_R nc ar) ma va) G).1 → (∀ k, 25 ≤ k → k ≤ 28 → ∀ j, j < f → X' k j = X k j) → (∀ j, j < f → J' 23 j = J 23 j ∧ J' 24 j = J 24 j) → zz_W D zz_cl B p l e rm_Q_build s m args below meth c Q h' n 0 0 [some (.ref q), some (.int (nI g0)), some (.int (nI f + (-1))), some (.int (tg_tree (fun r t => bl (Pz r) t) (pu_best X0 nM g0) T fuel (pu_S Pz (pu_R nc ar) ma va) G).2), o4, o5, o6] 19 []) → zz_W D zz_cl B p l e rm_Q_build s m args below meth c Q h9 n 0 0 [some (.ref q), some (.int (nI g0)), some (.int (nI f)), some (.int nd), o4, o5, o6] 19 [] := by
  intro fuel
  have hg4 := W.g4
  have h12 := W.m12
  induction fuel with
  | zero => intro fr f ma va X J h9 nd o4 o5 o6 G hfu hff hfT; omega
  | succ fuel ih =>
    intro fr f ma va X J h9 nd o4 o5 o6 G hfu hff hfT hK ho hJ hG e1 e2 e3 e4 hm hne hl hnd kb kx
    have WX : pu_W F X nc ng nM := pu_W_cg W (fun k hk => ho.1 k (by omega))
    have harX : X 1 g0 = nI ar := by rw [ho.1 1 (by omega)]; exact har
    have eTX : X 18 g0 = nI T := by rw [ho.1 18 (by omega)]; exact eT
    have hbe := pu_best_oth (nM := nM) ho
    have hSS : (List.range (pu_R nc ar)).filter (pu_in3 J f) = (pu_S Pz (pu_R nc ar) ma va) := by
      unfold pu_S
      congr 1
      funext r
      unfold pu_in3
      rw [hJ, e1, e2]
    obtain ⟨r0, S1, hS⟩ : ∃ r0 S1, (pu_S Pz (pu_R nc ar) ma va) = r0 :: S1 := by
      cases hz : (pu_S Pz (pu_R nc ar) ma va) with
      | nil => exact absurd hz hne
      | cons a b => exact ⟨a, b, rfl⟩
    have hcm := (pu_cm_eq (J := J) (f := f) (pu_best_ne (X := X0) (g := g0) h12) (pu_R nc ar)).2 r0 S1 (hSS.trans hS)
    by_cases hone : tg_one (pu_best X0 nM g0) (r0 :: S1) = true
    · rw [if_pos hone] at hcm
      have htr : tg_tree (fun r t => bl (Pz r) t) (pu_best X0 nM g0) T (fuel + 1) (pu_S Pz (pu_R nc ar) ma va) G = tg_add G (-1, pu_best X0 nM g0 r0, -1) := by rw [hS, tg_tree, if_pos hone]
      rw [htr] at kx kb
      refine st_leaf_Q_build C hK WX hg harX ha (by omega) hnd hG e4 ?_ ?_
      · rw [hbe, hcm]
        exact pu_fm_ge _ _ _ h12
      · rw [hbe, hcm]
        intro h' X' k1 k2 k3 k4
        by_cases hz : (tg_add G (-1, pu_best X0 nM g0 r0, -1)).2 = -1
        · rw [hz]
          exact kb X' J h' _ _ _ _ hz k1 (pu_oth_tr ho k2) hJ
        · exact kx X' J h' _ _ _ hz k1 (pu_oth_tr ho k2) hJ k4 (fun k a b j hj => by rw [k3 k (by omega)]) (fun j hj => ⟨rfl, rfl⟩)
    · rw [if_neg hone] at hcm
      have hmem : ∀ r, r ∈ (pu_S Pz (pu_R nc ar) ma va) → r < (pu_R nc ar) := fun r hr => List.mem_range.mp (List.mem_filter.mp hr).1
      obtain ⟨t9, p1, p2, p3⟩ := tg_parts (pas := (fun r t => bl (Pz r) t)) (be := (pu_best X0 nM g0)) (T := T) (fr := fr) (S := (pu_S Pz (pu_R nc ar) ma va)) (fun r r' hr hr' hz => hA r r' (hmem r hr) (hmem r' hr') hz) hl (by rw [hS]; exact hone)
      have hsp : ∀ t, t < 64 → pu_sep J f (pu_R nc ar) t = tg_sep (fun r t => bl (Pz r) t) (pu_S Pz (pu_R nc ar) ma va) t := fun t ht => by rw [pu_sep_t ht, hJ, e1, e2]
      refine st_first_Q_build C hK WX hg harX ha (by omega) hnd hT eTX e3 hfT p1 p2 (by rw [hsp t9 (by omega)]; exact p3) e4 (by rw [hbe]; exact hcm) ?_
      intro t h' o4 o5 t1 t2 t3 t4 k1
      rw [hsp t (by omega)] at t3
      have hfind : (List.range T).find? (tg_sep (fun r t => bl (Pz r) t) (r0 :: S1)) = some t := by
        rw [← hS]
        refine tg_first t2 t3 (fun t' ht' => ?_)
        rcases Nat.lt_or_ge t' fr with c | c
        · exact tg_sep_lo (fun r r' hr hr' => hl r r' hr hr' t' c)
        · rw [← hsp t' (by omega)]
          exact t4 t' c ht'
      have hal : ∀ r r', r ∈ (pu_S Pz (pu_R nc ar) ma va) → r' ∈ (pu_S Pz (pu_R nc ar) ma va) → ∀ t', t' < t → bl (Pz r) t' = bl (Pz r') t' := fun r r' hr hr' t' ht' => by
        rcases Nat.lt_or_ge t' fr with c | c
        · exact hl r r' hr hr' t' c
        · exact tg_alike (pas := (fun r t => bl (Pz r) t)) (by rw [← hsp t' (by omega)]; exact t4 t' c ht') r r' hr hr'
      obtain ⟨hm1, hm2⟩ := hm t (by omega) t1
      have hSp := pu_S_pass (Pz := Pz) (R := (pu_R nc ar)) (ma := ma) (va := va) (by omega : t < 64) hm1 hm2
      have hSf := pu_S_fail (Pz := Pz) (R := (pu_R nc ar)) (ma := ma) (va := va) (by omega : t < 64) hm1 hm2
      have hbits : ∀ v, (∀ i, i < 64 → fr ≤ i → bl v i = false) → ∀ i, i < 64 → t + 1 ≤ i → bl (v ||| ((1 : Int64) <<< ((nI t).toInt64 &&& 63))) i = false := fun v hv i hi hti => by
        rw [l_or, l_one (by omega) hi, hv i hi (by omega), decide_eq_false (by omega)]
        rfl
      have h3 := t3
      unfold tg_sep at h3
      rw [Bool.and_eq_true, List.any_eq_true, List.any_eq_true] at h3
      obtain ⟨⟨ra, hra, ea⟩, ⟨rb, hrb, eb⟩⟩ := h3
      have htr : tg_tree (fun r t => bl (Pz r) t) (pu_best X0 nM g0) T (fuel + 1) (pu_S Pz (pu_R nc ar) ma va) G = if (tg_tree (fun r t => bl (Pz r) t) (pu_best X0 nM g0) T fuel ((pu_S Pz (pu_R nc ar) ma va).filter fun r => bl (Pz r) t) G).2 = -1 then ((tg_tree (fun r t => bl (Pz r) t) (pu_best X0 nM g0) T fuel ((pu_S Pz (pu_R nc ar) ma va).filter fun r => bl (Pz r) t) G).1, -1) else if (tg_tree (fun r t => bl (Pz r) t) (pu_best X0 nM g0) T fuel ((pu_S Pz (pu_R nc ar) ma va).filter fun r => !bl (Pz r) t) (tg_tree (fun r t => bl (Pz r) t) (pu_best X0 nM g0) T fuel ((pu_S Pz (pu_R nc ar) ma va).filter fun r => bl (Pz r) t) G).1).2 = -1 then ((tg_tree (fun r t => bl (Pz r) t) (pu_best X0 nM g0) T fuel ((pu_S Pz (pu_R nc ar) ma va).filter fun r => !bl (Pz r) t) (tg_tree (fun r t => bl (Pz r) t) (pu_best X0 nM g0) T fuel ((pu_S Pz (pu_R nc ar) ma va).filter fun r => bl (Pz r) t) G).1).1, -1) else tg_add (tg_tree (fun r t => bl (Pz r) t) (pu_best X0 nM g0) T fuel ((pu_S Pz (pu_R nc ar) ma va).filter fun r => !bl (Pz r) t) (tg_tree (fun r t => bl (Pz r) t) (pu_best X0 nM g0) T fuel ((pu_S Pz (pu_R nc ar) ma va).filter fun r => bl (Pz r) t) G).1).1 (nI t, (tg_tree (fun r t => bl (Pz r) t) (pu_best X0 nM g0) T fuel ((pu_S Pz (pu_R nc ar) ma va).filter fun r => bl (Pz r) t) G).2, (tg_tree (fun r t => bl (Pz r) t) (pu_best X0 nM g0) T fuel ((pu_S Pz (pu_R nc ar) ma va).filter fun r => !bl (Pz r) t) (tg_tree (fun r t => bl (Pz r) t) (pu_best X0 nM g0) T fuel ((pu_S Pz (pu_R nc ar) ma va).filter fun r => bl (Pz r) t) G).1).2) := by
        rw [hS, tg_tree, if_neg hone, hfind]
      rw [htr] at kx kb
      have hA80 := tg_tree_nn (pas := (fun r t => bl (Pz r) t)) (be := (pu_best X0 nM g0)) (T := T) fuel ((pu_S Pz (pu_R nc ar) ma va).filter fun r => bl (Pz r) t) G hG.1
      have hB80 := tg_tree_nn (pas := (fun r t => bl (Pz r) t)) (be := (pu_best X0 nM g0)) (T := T) fuel ((pu_S Pz (pu_R nc ar) ma va).filter fun r => !bl (Pz r) t) _ hA80.2
      refine ih (t + 1) (f + 1) _ _ _ _ h' nd _ _ _ G (by omega) (by omega) (by omega) k1 (pu_oth_tr ho (pu_oth_tr (pu_oth_tr (pu_oth_sc (by omega)) (pu_oth_sc (by omega))) (pu_oth_tr (pu_oth_sc (by omega)) (pu_oth_sc (by omega))))) hJ (pu_gr_oth hG (fun k hk => by rcases hk with rfl | rfl | rfl | rfl <;> rfl)) pk_uLs pk_uLs pk_us pk_us ?_ ?_ ?_ hnd ?_ ?_
      · intro i hi hti
        rw [e1, e2]
        exact ⟨hbits ma (fun i hi hz => (hm i hi hz).1) i hi hti, hbits va (fun i hi hz => (hm i hi hz).2) i hi hti⟩
      · rw [e1, e2, hSp]
        exact fun z => absurd (z ▸ List.mem_filter.mpr ⟨hra, ea⟩ : ra ∈ []) (by simp)
      · rw [e1, e2, hSp]
        intro r r' hr hr' t' ht'
        obtain ⟨a1, a2⟩ := List.mem_filter.mp hr
        obtain ⟨b1, b2⟩ := List.mem_filter.mp hr'
        rcases Nat.lt_or_ge t' t with c | c
        · exact hal r r' a1 b1 t' c
        · have e : t' = t := by omega
          subst e
          exact a2.trans b2.symm
      · rw [e1, e2, hSp]
        intro X' J' h' v2 o4 o5 o6 nA
        rw [if_pos nA] at kb
        exact kb X' J' h' v2 o4 o5 o6 rfl
      · rw [e1, e2, hSp]
        intro XA JA hA' o4 o5 o6 nA kA oA jA gA xA lA
        rw [if_neg nA] at kx kb
        have hndA := hA80.1.resolve_left nA
        have f27 : XA 27 f = nI t := (xA 27 (by omega) (by omega) f (by omega)).trans pk_us
        have f26 : XA 26 f = 1 := (xA 26 (by omega) (by omega) f (by omega)).trans ((pk_un (by omega)).trans pk_us)
        have f25 : XA 25 f = nI fr := (xA 25 (by omega) (by omega) f (by omega)).trans ((pk_un (by omega)).trans e3)
        have j23 : JA 23 f = ma := ((lA f (by omega)).1.trans (pk_uLn (by omega))).trans e1
        have j24 : JA 24 f = va := ((lA f (by omega)).2.trans (pk_uLn (by omega))).trans e2
        rw [pk_m1]
        have WA : pu_W F XA nc ng nM := pu_W_cg W (fun k hk => oA.1 k (by omega))
        refine st_second_Q_build C kA WA hg (by rw [oA.1 1 (by omega)]; exact har) ha (by omega) hndA (by omega : t < 48) f26 f27 ?_
        intro h' o4 k2
        refine ih (t + 1) (f + 1) _ _ _ _ h' _ _ _ _ _ (by omega) (by omega) (by omega) k2 (pu_oth_tr oA (pu_oth_tr (pu_oth_tr (pu_oth_sc (by omega)) (pu_oth_sc (by omega))) (pu_oth_tr (pu_oth_sc (by omega)) (pu_oth_sc (by omega))))) jA (pu_gr_oth gA (fun k hk => by rcases hk with rfl | rfl | rfl | rfl <;> rfl)) pk_uLs pk_uLs pk_us pk_us ?_ ?_ ?_ hndA ?_ ?_
        · intro i hi hti
          rw [j23, j24]
          exact ⟨hbits ma (fun i hi hz => (hm i hi hz).1) i hi hti, (hm i hi (by omega)).2⟩
        · rw [j23, j24, hSf]
          exact fun z => absurd (z ▸ List.mem_filter.mpr ⟨hrb, eb⟩ : rb ∈ []) (by simp)
        · rw [j23, j24, hSf]
          intro r r' hr hr' t' ht'
          obtain ⟨a1, a2⟩ := List.mem_filter.mp hr
          obtain ⟨b1, b2⟩ := List.mem_filter.mp hr'
          rcases Nat.lt_or_ge t' t with c | c
          · exact hal r r' a1 b1 t' c
          · have e : t' = t := by omega
            subst e
            have z1 : bl (Pz r) t' = false := by simpa using a2
            have z2 : bl (Pz r') t' = false := by simpa using b2
            exact z1.trans z2.symm
        · rw [j23, j24, hSf]
          intro X' J' h' v2 o4 o5 o6 nB
          rw [if_pos nB] at kb
          exact kb X' J' h' v2 o4 o5 o6 rfl
        · rw [j23, j24, hSf]
          intro XB JB hB' o4 o5 o6 nB kB oB jB gB xB lB
          rw [if_neg nB] at kx kb
          have hndB := hB80.1.resolve_left nB
          have g27 : XB 27 f = nI t := (xB 27 (by omega) (by omega) f (by omega)).trans f27
          have g26 : XB 26 f = 2 := (xB 26 (by omega) (by omega) f (by omega)).trans ((pk_un (by omega)).trans pk_us)
          have g28 := (xB 28 (by omega) (by omega) f (by omega)).trans pk_us
          rw [pk_m1]
          have WB : pu_W F XB nc ng nM := pu_W_cg W (fun k hk => oB.1 k (by omega))
          refine st_both_Q_build C kB WB hg (by rw [oB.1 1 (by omega)]; exact har) ha (by omega) hndB (by omega : t < 48) g26 g27 g28 gB ?_
          intro h' X' q1 q2 q3 q4
          by_cases hz : (tg_add (tg_tree (fun r t => bl (Pz r) t) (pu_best X0 nM g0) T fuel ((pu_S Pz (pu_R nc ar) ma va).filter fun r => !bl (Pz r) t) (tg_tree (fun r t => bl (Pz r) t) (pu_best X0 nM g0) T fuel ((pu_S Pz (pu_R nc ar) ma va).filter fun r => bl (Pz r) t) G).1).1 (nI t, (tg_tree (fun r t => bl (Pz r) t) (pu_best X0 nM g0) T fuel ((pu_S Pz (pu_R nc ar) ma va).filter fun r => bl (Pz r) t) G).2, (tg_tree (fun r t => bl (Pz r) t) (pu_best X0 nM g0) T fuel ((pu_S Pz (pu_R nc ar) ma va).filter fun r => !bl (Pz r) t) (tg_tree (fun r t => bl (Pz r) t) (pu_best X0 nM g0) T fuel ((pu_S Pz (pu_R nc ar) ma va).filter fun r => bl (Pz r) t) G).1).2)).2 = -1
          · rw [hz]
            exact kb X' JB h' _ _ _ _ hz q1 (pu_oth_tr oB q2) jB
          · refine kx X' JB h' _ _ _ hz q1 (pu_oth_tr oB q2) jB q4 (fun k a b j hj => ?_) (fun j hj => ?_)
            · refine ((congrFun (q3 k (by omega)) j).trans (xB k a b j (by omega))).trans (Eq.trans ?_ ((xA k a b j (by omega)).trans ?_))
              · rcases (by omega : k = 25 ∨ k = 26 ∨ k = 27 ∨ k = 28) with rfl | rfl | rfl | rfl
                · exact pk_un (by omega)
                · exact (pk_un (by omega)).trans (pk_un (by omega))
                · rfl
                · exact pk_un (by omega)
              · rcases (by omega : k = 25 ∨ k = 26 ∨ k = 27 ∨ k = 28) with rfl | rfl | rfl | rfl
                · exact pk_un (by omega)
                · exact (pk_un (by omega)).trans (pk_un (by omega))
                · exact pk_un (by omega)
                · rfl
            · exact ⟨(lB j (by omega)).1.trans ((pk_uLn (by omega)).trans ((lA j (by omega)).1.trans (pk_uLn (by omega)))), (lB j (by omega)).2.trans ((pk_uLn (by omega)).trans ((lA j (by omega)).2.trans (pk_uLn (by omega))))⟩
