theorem st_ok : ∀ q ∈ zz_st, Cond.stringRef q.1 q.2.1 q.2.2 ∈ lw_tbl ∧ Cond.exactly (.string q.1 q.2.1) "java/lang/String" ∈ flatC (Cond.and given_1 narrow_1) := by decide +kernel
theorem st_X {s : State} {b : Nat} (hts : ∀ w ∈ lw_tbl, w.before #[Value.ref b] s = true) (hgv : (Cond.and given_1 narrow_1).before #[Value.ref b] s = true) : zz_x s.heap.size s s.heap := by
  have hf := flat_of_before _ hgv
  have hA : ∀ a : Nat, a < s.heap.size → ¬ (fun q => s.heap.size ≤ q) a := fun a ha hb => absurd hb (Nat.not_le.mpr ha)
  refine ⟨vx_Zqof (hts (Cond.laysStatic Bundle.tN "UNASSIGNED_STACK" Bundle.steD) (by decide +kernel)) (hts (Cond.initialized Bundle.tN) (by decide +kernel)) (hf (Cond.isRef (.static Bundle.tN "UNASSIGNED_STACK" Bundle.steD)) (by decide +kernel)) hA, vx_Zqof (hts (Cond.laysStatic Bundle.tN "SUPPRESSED_SENTINEL" Bundle.listD) (by decide +kernel)) (hts (Cond.initialized Bundle.tN) (by decide +kernel)) (hf (Cond.isRef (.static Bundle.tN "SUPPRESSED_SENTINEL" Bundle.listD)) (by decide +kernel)) hA, fun q hq => ?_⟩
  obtain ⟨h1, h2⟩ := st_ok q hq
  obtain ⟨a, c, cA, kA, q1, -⟩ := Cond.exactly_spec (args := #[Value.ref b]) (first := s) (o := none) (s := s) (idx := []) (t := .string q.1 q.2.1) (cls := "java/lang/String") (hf _ h2)
  exact ⟨a, vk_R.of (hts _ h1) q1⟩
theorem st_P {s : State} {A : Array Value} {ty : FieldType} (hty : ∀ cA : ClassId, va_RA s cA ty = (s.vm.findClass ("[" ++ ty.toString) = some cA)) (h : (Cond.arrayClass ty).before A s = true) : ∃ cA : ClassId, ArrOfT s cA ty ∧ va_RA s cA ty := by
  obtain ⟨cA, kA, comp, h1, h2, h3⟩ := Cond.arrayClass_spec h
  exact ⟨cA, fun n z => ⟨fun k h => (by cases h), kA, h2, comp, h3⟩, by rw [hty]; exact h1⟩
theorem st_O {s : State} {A : Array Value} {Cn : String} (h : (Cond.arrayOver (.object Cn)).before A s = true) : ∃ cA : ClassId, ArrOfT s cA (.object Cn) ∧ va_RA s cA (.object Cn) := by
  obtain ⟨comp, c, k, h1, h2, h3, h4, h5⟩ := Cond.arrayOver_spec h
  exact ⟨c, fun n z => ⟨fun k h => (by cases h), k, h3, comp, h4⟩, k, comp, h3, h4, h1, h5⟩
theorem st_Y {s : State} {b : Nat} (hts : ∀ w ∈ lw_tbl, w.before #[Value.ref b] s = true) (hgv : (Cond.and given_1 narrow_1).before #[Value.ref b] s = true) : zy_x s.heap.size s s.heap := by
  have hf := flat_of_before _ hgv
  exact ⟨st_X hts hgv, va_Nc.of (hf (Cond.not (.castable "java/lang/IllegalStateException" "java/lang/IllegalArgumentException")) (by decide +kernel)), va_Nc.of (hf (Cond.not (.castable "java/util/NoSuchElementException" "java/lang/IllegalArgumentException")) (by decide +kernel)), va_Nc.of (hf (Cond.not (.castable "java/util/NoSuchElementException" "java/lang/IllegalStateException")) (by decide +kernel))⟩
theorem st_K {s : State} {b : Nat} (hts : ∀ w ∈ lw_tbl, w.before #[Value.ref b] s = true) : ∃ (D : va_G) (dA : Nat → ClassId), va_K D zz_cl (zz_ty dA) s := by
  have htb : ∀ w ∈ zz_tb, w.before #[Value.ref b] s = true := fun w hw => hts w (List.mem_filter.mp hw).1
  obtain ⟨c0, i0, k0⟩ := u_known htb in_D (htb _ wd_24)
  obtain ⟨c1, i1, k1⟩ := u_known htb in_H (htb _ wd_32)
  obtain ⟨c2, i2, k2⟩ := u_known htb in_A (htb _ wd_464)
  obtain ⟨c3, i3, k3⟩ := u_known htb in_O (htb _ wd_503)
  obtain ⟨c4, i4, k4⟩ := u_known htb in_M (htb _ wd_381)
  obtain ⟨c5, i5, k5⟩ := u_known htb in_F (htb _ wd_297)
  obtain ⟨c6, i6, k6⟩ := u_known htb in_G (htb _ wd_271)
  obtain ⟨c7, i7, k7⟩ := u_known htb in_R (htb _ wd_277)
  obtain ⟨c8, i8, k8⟩ := u_known htb in_B (htb _ wd_50)
  obtain ⟨c9, i9, k9⟩ := u_known htb in_E (htb _ wd_68)
  obtain ⟨c10, i10, k10⟩ := u_known htb in_N (htb _ wd_61)
  obtain ⟨c11, i11, k11⟩ := u_known htb in_Q (htb _ wd_897)
  obtain ⟨a0, r0⟩ := st_P (ty := .int) (fun _ => rfl) (htb _ wd_44)
  obtain ⟨a1, r1⟩ := st_P (ty := .long) (fun _ => rfl) (htb _ wd_59)
  obtain ⟨a2, r2⟩ := st_P (ty := .boolean) (fun _ => rfl) (htb _ wd_1041)
  obtain ⟨a3, r3⟩ := st_O (htb _ wd_46)
  obtain ⟨a4, r4⟩ := st_O (htb _ wd_48)
  obtain ⟨a5, r5⟩ := st_O (htb _ wd_303)
  obtain ⟨a6, r6⟩ := st_O (htb _ wd_388)
  obtain ⟨a7, r7⟩ := st_O (htb _ wd_67)
  refine ⟨(fun k => match k with | 0 => c0 | 1 => c1 | 2 => c2 | 3 => c3 | 4 => c4 | 5 => c5 | 6 => c6 | 7 => c7 | 8 => c8 | 9 => c9 | 10 => c10 | _ => c11, fun k => match k with | 0 => i0 | 1 => i1 | 2 => i2 | 3 => i3 | 4 => i4 | 5 => i5 | 6 => i6 | 7 => i7 | 8 => i8 | 9 => i9 | 10 => i10 | _ => i11), fun k => match k with | 0 => a0 | 1 => a1 | 2 => a2 | 3 => a3 | 4 => a4 | 5 => a5 | 6 => a6 | _ => a7, fun c q hq => ?_, fun k q hq => ?_⟩
  · have hlt : c < 12 := (List.getElem?_eq_some_iff.mp hq).1
    rcases (show c = 0 ∨ c = 1 ∨ c = 2 ∨ c = 3 ∨ c = 4 ∨ c = 5 ∨ c = 6 ∨ c = 7 ∨ c = 8 ∨ c = 9 ∨ c = 10 ∨ c = 11 by omega) with rfl | rfl | rfl | rfl | rfl | rfl | rfl | rfl | rfl | rfl | rfl | rfl
    · cases hq; exact k0
    · cases hq; exact k1
    · cases hq; exact k2
    · cases hq; exact k3
    · cases hq; exact k4
    · cases hq; exact k5
    · cases hq; exact k6
    · cases hq; exact k7
    · cases hq; exact k8
    · cases hq; exact k9
    · cases hq; exact k10
    · cases hq; exact k11
  · have hlt : k < 8 := (List.getElem?_eq_some_iff.mp hq).1
    rcases (show k = 0 ∨ k = 1 ∨ k = 2 ∨ k = 3 ∨ k = 4 ∨ k = 5 ∨ k = 6 ∨ k = 7 by omega) with rfl | rfl | rfl | rfl | rfl | rfl | rfl | rfl
    · cases hq; exact r0
    · cases hq; exact r1
    · cases hq; exact r2
    · cases hq; exact r3
    · cases hq; exact r4
    · cases hq; exact r5
    · cases hq; exact r6
    · cases hq; exact r7
set_option maxHeartbeats 4000000 in
set_option maxRecDepth 20000 in
theorem la_entry (l : Launch) {D : va_G} {dA : Nat → ClassId} {p : Program} {e : Env} {s : State} {m : MethodId} {below : List Frame} {meth : Method} {c : Code} {nm : String} {b L9 : Nat} {xs : Nat → Int32} (hl : l.stackTraces = false) (C : zz_C D zz_cl (zz_ty dA) s.heap.size zz_tb (zy_x s.heap.size) p s m #[Value.ref b] meth c code RR_L ret nm) (hL : L9 ≤ 3072) (hX : va_X b L9 xs s s.heap) (hbl : b < s.heap.size) (hB : ¬ s.heap.size ≤ b) : zz_W D zz_cl s.heap.size p l e room_1 s m #[Value.ref b] below meth c (lw_Z below #[Value.ref b] s) (fun _ => none) s.heap.size 0 0 [some (.ref b), none, none, none, none, none, none] 0 [] := by
  refine nw_L_8 C dd_L_law_0 (by decide) (by decide) ?_
  refine z_dup C dd_L_law_3 rfl ?_
  refine ii_L_59 (sk := fun _ => [.ref s.heap.size]) (zy_f _) C dd_L_law_4 (zy_M (cc_D_init l D dA _ _ _ _ (zz_us _ _ _) (by omega))) rfl rfl ⟨by decide, by decide⟩ (Nat.le_of_ble_eq_true rfl) ⟨by decide, by decide⟩ (fun _ => rfl) (fun _ h1 n1 p1 => ?_)
  obtain ⟨rfl, d0, d1, d2, d3, d4, d5, d6, d7, ⟨ff, d8, gf⟩, dj, gc⟩ := p1
  refine z_astore_n C dd_L_law_7 rfl ?_
  refine nw_L_60 C dd_L_law_8 (by decide) (by decide) ?_
  refine z_dup C dd_L_law_11 rfl ?_
  refine ii_L_62 (sk := fun _ => [.ref (s.heap.size + 25)]) (zy_f _) C dd_L_law_12 (zy_M (cc_Q_init l D dA _ _ _ _ (zz_us _ _ _) (by omega))) rfl rfl ⟨by decide, by decide⟩ (Nat.le_of_ble_eq_true rfl) ⟨by decide, by decide⟩ (fun _ => rfl) (fun _ h2 n2 p2 => ?_)
  obtain ⟨rfl, T, A, F⟩ := p2
  refine z_astore_n C dd_L_law_15 rfl ?_
  refine z_iconst (v := 1) C dd_L_law_16 (by decide) ?_
  refine na_long (N := 1) C dd_L_law_17 (by decide) (by decide) (by decide) (by decide) (by decide) ?_
  refine z_astore_n C dd_L_law_19 rfl ?_
  refine z_iconst (v := 0) C dd_L_law_20 (by decide) ?_
  refine z_istore C dd_L_law_21 rfl ?_
  refine z_cut (fun h' => lx_A dA s.heap.size (s.heap.size + 62) h') (lx_begin ((zz_un (by omega)).trans ((F _ (by omega) (by omega)).trans ((zz_un (by omega)).trans d0))) ((zz_un (by omega)).trans ((F _ (by omega) (by omega)).trans ((zz_un (by omega)).trans d1))) ((zz_un (by omega)).trans ((F _ (by omega) (by omega)).trans ((zz_un (by omega)).trans d2))) ((zz_un (by omega)).trans ((F _ (by omega) (by omega)).trans ((zz_un (by omega)).trans d3))) ((zz_un (by omega)).trans ((F _ (by omega) (by omega)).trans ((zz_un (by omega)).trans d4))) ((zz_un (by omega)).trans ((F _ (by omega) (by omega)).trans ((zz_un (by omega)).trans d5))) ((zz_un (by omega)).trans ((F _ (by omega) (by omega)).trans ((zz_un (by omega)).trans d6))) ((zz_un (by omega)).trans ((F _ (by omega) (by omega)).trans ((zz_un (by omega)).trans d7))) ((zz_un (by omega)).trans ((F _ (by omega) (by omega)).trans ((zz_un (by omega)).trans d8))) (fun j hj => (gf j hj).trans (congrArg some (by omega))) (fun j hj => ⟨by
    have e1 := (dj j hj).1
    rw [show s.heap.size + 1 + 8 + 2 * j = s.heap.size + 9 + 2 * j by omega, show s.heap.size + 1 + 9 + 2 * j = s.heap.size + 10 + 2 * j by omega] at e1
    exact ((zz_un (by omega)).trans ((F _ (by omega) (by omega)).trans ((zz_un (by omega)).trans e1))), by
    have e1 := (dj j hj).2
    rw [show s.heap.size + 1 + 9 + 2 * j = s.heap.size + 10 + 2 * j by omega] at e1
    exact ((zz_un (by omega)).trans ((F _ (by omega) (by omega)).trans ((zz_un (by omega)).trans e1)))⟩) ((zz_un (by omega)).trans T) (fun k hk => (zz_un (by omega)).trans (A k hk)) (zz_us _ _ _) (Nat.le_refl _)) (rfl : _ = s.heap.size + 62) (rfl : _ = 62) (rfl : _ = 27152) (fun h3 hS => ?_)
  exact la_loop l hl C hX hbl hB hL 512 0 (by omega) (by omega) h3 _ _ _ _ _ hS (by omega) (by omega)
/-- YOUR PART: from the entry, for every script of at most 3072 ints, the law comes to its end with true -/
theorem whole_start {p : Program} {e : Env} {s : State} {m : MethodId} {below : List Frame} {meth : Method} {c : Code} (l : Launch) (hl : l.stackTraces = false) {b L : Nat} {xs : Nat → Int32} (hL : L ≤ 3072) (C0 : lw_At p s m meth c b L xs) : W p l e room_1 s m #[Value.ref b] below meth c s.heap [] 0 0 (lw_Z below #[Value.ref b] s) (entryFrame m ([Value.ref b] : List Value).toArray 7) := by
  obtain ⟨hx, hb, hr, hml, hown, hts, hX, hbl, hlk, hgv⟩ := C0
  obtain ⟨D, dA, hK⟩ := st_K hts
  have hl9 := lv_entry ([Value.ref b] : List Value) (n := 7) (Nat.le_of_ble_eq_true rfl)
  rw [lg_entry_eq]
  generalize (lg_sl ([Value.ref b] : List Value) ++ List.replicate (7 - (lg_sl ([Value.ref b] : List Value)).length) Slot.unset).toArray = ls at hl9 ⊢
  exact la_entry l hl (nm := meth.name) ⟨hx, hb, hown, fun w hw => hts w (List.mem_filter.mp hw).1, hK, Nat.le_refl _, hlk, hr, rfl, st_Y hts hgv⟩ hL hX hbl (Nat.not_le.mpr hbl) s.heap [] ls (by rw [hml]; rfl) ⟨rfl, fun a e he => by cases he⟩ va_S.rf hl9
