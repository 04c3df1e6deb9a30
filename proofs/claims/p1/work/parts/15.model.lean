/-- the reference's rows at the start, in the order of their making -/
def md_c (dA : Nat → ClassId) (k : Nat) : va_E := match k with
  | 0 => .inl (dA 0, 8, .inl (fun _ => 0))
  | 1 => .inl (dA 0, 4, .inl (fun _ => 0))
  | 2 => .inl (dA 0, 12, .inl (fun _ => 0))
  | 3 => .inl (dA 0, 12, .inl (fun _ => 0))
  | 4 => .inl (dA 0, 48, .inl (fun _ => 0))
  | 5 => .inl (dA 0, 48, .inl (fun _ => 0))
  | 6 => .inl (dA 0, 48, .inl (fun _ => 0))
  | 7 => .inl (dA 2, 48, .inl (fun _ => 0))
  | 8 => .inl (dA 0, 12, .inl (fun _ => 0))
  | 9 => .inl (dA 0, 96, .inl (fun _ => 0))
  | 10 => .inl (dA 0, 96, .inl (fun _ => 0))
  | 11 => .inl (dA 2, 4, .inl (fun _ => 0))
  | 12 => .inl (dA 0, 16384, .inl (fun _ => 0))
  | 13 => .inl (dA 0, 12, .inl (fun _ => 0))
  | 14 => .inl (dA 0, 4, .inl (fun _ => 0))
  | 15 => .inl (dA 0, 320, .inl (fun _ => 0))
  | 16 => .inl (dA 0, 320, .inl (fun _ => 0))
  | 17 => .inl (dA 0, 320, .inl (fun _ => 0))
  | 18 => .inl (dA 0, 4, .inl (fun _ => 0))
  | 19 => .inl (dA 0, 192, .inl (fun _ => 0))
  | 20 => .inl (dA 0, 192, .inl (fun _ => 0))
  | 21 => .inl (dA 0, 192, .inl (fun _ => 0))
  | 22 => .inl (dA 1, 4096, .inr (.inl (fun _ => 0)))
  | 23 => .inl (dA 1, 50, .inr (.inl (fun _ => 0)))
  | 24 => .inl (dA 1, 50, .inr (.inl (fun _ => 0)))
  | 25 => .inl (dA 0, 50, .inl (fun _ => 0))
  | 26 => .inl (dA 0, 50, .inl (fun _ => 0))
  | 27 => .inl (dA 0, 50, .inl (fun _ => 0))
  | 28 => .inl (dA 0, 50, .inl (fun _ => 0))
  | 29 => .inl (dA 0, 9, .inl (fun _ => 0))
  | 30 => .inl (dA 0, 9, .inl (fun _ => 0))
  | 31 => .inl (dA 0, 9, .inl (fun _ => 0))
  | 32 => .inl (dA 0, 9, .inl (fun _ => 0))
  | 33 => .inl (dA 0, 9, .inl (fun _ => 0))
  | _ => .inl (dA 0, 54, .inl (fun _ => 0))
abbrev md_o (n : Nat) : List Value := [.int 0, .int 1, .ref n, .int 0, .ref (n + 1), .int 0, .ref (n + 2), .ref (n + 3), .ref (n + 4), .ref (n + 5), .ref (n + 6), .ref (n + 7), .ref (n + 8), .ref (n + 9), .ref (n + 10), .ref (n + 11), .ref (n + 12), .ref (n + 13), .int 0, .int 0, .int 0, .ref (n + 14), .ref (n + 15), .ref (n + 16), .ref (n + 17), .ref (n + 18), .ref (n + 19), .ref (n + 20), .ref (n + 21), .ref (n + 22), .ref (n + 23), .ref (n + 24), .ref (n + 25), .ref (n + 26), .ref (n + 27), .ref (n + 28), .int 0, .ref (n + 29), .ref (n + 30), .ref (n + 31), .ref (n + 32), .ref (n + 33), .ref (n + 34), .int 0, .int 0, .int 0]
theorem z_cut {D : va_G} {cl : List vw_C} {B : Nat} {p : Program} {l : Launch} {e : Env} {R : Room} {s : State} {m : MethodId} {args : Array Value} {below : List Frame} {meth : Method} {c : Code} {Q : State → Prop} {h : zz_H} {n n1 cells slots c1 s1 : Nat} {L : List (Option Value)} {pc : Nat} {st : List Value} (P : zz_H → Prop) (hp : P h) (hn : n = n1) (hc : cells = c1) (hs : slots = s1) (k : ∀ h', P h' → zz_W D cl B p l e R s m args below meth c Q h' n1 c1 s1 L pc st) : zz_W D cl B p l e R s m args below meth c Q h n cells slots L pc st := by
  subst hn; subst hc; subst hs
  exact k h hp
theorem md_step {h h0 : zz_H} {n q k : Nat} {f : Nat → va_E} {o o' : va_E} (hqn : q < n) (T : h q = some o) (A : ∀ j, j < k → h (n + j) = some (f j)) (F : ∀ x, x < n → x ≠ q → h x = h0 x) : (zz_up (zz_up h (n + k) (f k)) q o') q = some o' ∧ (∀ j, j < k + 1 → (zz_up (zz_up h (n + k) (f k)) q o') (n + j) = some (f j)) ∧ ∀ x, x < n → x ≠ q → (zz_up (zz_up h (n + k) (f k)) q o') x = h0 x := by
  refine ⟨zz_us _ _ _, fun j hj => ?_, fun x hx hxq => ?_⟩
  · rw [zz_un (by omega)]
    by_cases hjk : j = k
    · subst hjk
      exact zz_us _ _ _
    · rw [zz_un (by omega)]
      exact A j (by omega)
  · rw [zz_un hxq, zz_un (by omega)]
    exact F x hx hxq
abbrev rm_Q_init : Room := { frames := 1, cells := 35, slots := 22871, locals := 12 }
set_option maxHeartbeats 4000000 in
set_option maxRecDepth 100000 in
/-- the reference's constructor -/
theorem cc_Q_init (l : Launch) (D : va_G) (dA : Nat → ClassId) (B : Nat) (h : zz_H) (n : Nat) (q : Nat) (hq : h q = some (.inr (11, [.int 0, .int 0, .null, .int 0, .null, .int 0, .null, .null, .null, .null, .null, .null, .null, .null, .null, .null, .null, .null, .int 0, .int 0, .int 0, .null, .null, .null, .null, .null, .null, .null, .null, .null, .null, .null, .null, .null, .null, .null, .int 0, .null, .null, .null, .null, .null, .null, .int 0, .int 0, .int 0]))) (hqn : q < n) : zz_M l D zz_cl (zz_ty dA) B zz_tb (zz_x B) yy_Q_init (Cond.code yy_Q_init bb_Q_init 1 none) rm_Q_init [.ref q] h n zz_mv (fun _ h' n' => n' = n + 35 ∧ h' q = some (.inr (11, md_o n)) ∧ (∀ k, k < 35 → h' (n + k) = some (md_c dA k)) ∧ ∀ x, x < n → x ≠ q → h' x = h x) := by
  refine zz_ofW (zz_f B) [some (.ref q)] (by decide) rfl rfl (Nat.le_of_ble_eq_true rfl) ?_
  intro p e s m below meth c C
  refine z_aload_n C dd_Q_init_0 rfl ?_
  refine oi_Q_1 C dd_Q_init_1 (Nat.le_of_ble_eq_true rfl) (Nat.le_of_ble_eq_true rfl) ?_
  refine z_aload_n C dd_Q_init_4 rfl ?_
  refine z_iconst (v := 1) C dd_Q_init_5 (by decide) ?_
  refine pf_Q_7 C dd_Q_init_6 hq (Nat.le_of_ble_eq_true rfl) rfl rfl ?_
  refine z_cut (fun h' => h' q = some (.inr (11, [.int 0, .int 1, .null, .int 0, .null, .int 0, .null, .null, .null, .null, .null, .null, .null, .null, .null, .null, .null, .null, .int 0, .int 0, .int 0, .null, .null, .null, .null, .null, .null, .null, .null, .null, .null, .null, .null, .null, .null, .null, .int 0, .null, .null, .null, .null, .null, .null, .int 0, .int 0, .int 0])) ∧ (∀ j, j < 0 → h' (n + j) = some (md_c dA j)) ∧ ∀ x, x < n → x ≠ q → h' x = h x) ⟨zz_us _ _ _, fun j hj => absurd hj (by omega), fun x hx hxq => zz_un hxq⟩ (rfl : n = n + 0) rfl rfl (fun h0 P0 => ?_)
  obtain ⟨T0, A0, F0⟩ := P0
  refine z_aload_n C dd_Q_init_9 rfl ?_
  refine z_bipush (v := 8) C dd_Q_init_10 (by decide) ?_
  refine na_int (N := 8) C dd_Q_init_12 (by decide) (by decide) (by decide) (by decide) (by decide) ?_
  refine pf_Q_13 C dd_Q_init_14 ((zz_un (by omega)).trans T0) (Nat.le_of_ble_eq_true rfl) rfl rfl ?_
  refine z_cut (fun h' => h' q = some (.inr (11, [.int 0, .int 1, .ref n, .int 0, .null, .int 0, .null, .null, .null, .null, .null, .null, .null, .null, .null, .null, .null, .null, .int 0, .int 0, .int 0, .null, .null, .null, .null, .null, .null, .null, .null, .null, .null, .null, .null, .null, .null, .null, .int 0, .null, .null, .null, .null, .null, .null, .int 0, .int 0, .int 0])) ∧ (∀ j, j < 1 → h' (n + j) = some (md_c dA j)) ∧ ∀ x, x < n → x ≠ q → h' x = h x) (md_step (k := 0) (f := md_c dA) hqn T0 A0 F0) (rfl : _ = n + 1) (rfl : _ = 1) (rfl : _ = 8) (fun h1 P1 => ?_)
  obtain ⟨T1, A1, F1⟩ := P1
  refine z_aload_n C dd_Q_init_17 rfl ?_
  refine z_iconst (v := 4) C dd_Q_init_18 (by decide) ?_
  refine na_int (N := 4) C dd_Q_init_19 (by decide) (by decide) (by decide) (by decide) (by decide) ?_
  refine pf_Q_17 C dd_Q_init_21 ((zz_un (by omega)).trans T1) (Nat.le_of_ble_eq_true rfl) rfl rfl ?_
  refine z_cut (fun h' => h' q = some (.inr (11, [.int 0, .int 1, .ref n, .int 0, .ref (n + 1), .int 0, .null, .null, .null, .null, .null, .null, .null, .null, .null, .null, .null, .null, .int 0, .int 0, .int 0, .null, .null, .null, .null, .null, .null, .null, .null, .null, .null, .null, .null, .null, .null, .null, .int 0, .null, .null, .null, .null, .null, .null, .int 0, .int 0, .int 0])) ∧ (∀ j, j < 2 → h' (n + j) = some (md_c dA j)) ∧ ∀ x, x < n → x ≠ q → h' x = h x) (md_step (k := 1) (f := md_c dA) hqn T1 A1 F1) (rfl : _ = n + 2) (rfl : _ = 2) (rfl : _ = 12) (fun h2 P2 => ?_)
  obtain ⟨T2, A2, F2⟩ := P2
  refine z_aload_n C dd_Q_init_24 rfl ?_
  refine z_bipush (v := 12) C dd_Q_init_25 (by decide) ?_
  refine na_int (N := 12) C dd_Q_init_27 (by decide) (by decide) (by decide) (by decide) (by decide) ?_
  refine pf_Q_20 C dd_Q_init_29 ((zz_un (by omega)).trans T2) (Nat.le_of_ble_eq_true rfl) rfl rfl ?_
  refine z_cut (fun h' => h' q = some (.inr (11, [.int 0, .int 1, .ref n, .int 0, .ref (n + 1), .int 0, .ref (n + 2), .null, .null, .null, .null, .null, .null, .null, .null, .null, .null, .null, .int 0, .int 0, .int 0, .null, .null, .null, .null, .null, .null, .null, .null, .null, .null, .null, .null, .null, .null, .null, .int 0, .null, .null, .null, .null, .null, .null, .int 0, .int 0, .int 0])) ∧ (∀ j, j < 3 → h' (n + j) = some (md_c dA j)) ∧ ∀ x, x < n → x ≠ q → h' x = h x) (md_step (k := 2) (f := md_c dA) hqn T2 A2 F2) (rfl : _ = n + 3) (rfl : _ = 3) (rfl : _ = 24) (fun h3 P3 => ?_)
  obtain ⟨T3, A3, F3⟩ := P3
  refine z_aload_n C dd_Q_init_32 rfl ?_
  refine z_bipush (v := 12) C dd_Q_init_33 (by decide) ?_
  refine na_int (N := 12) C dd_Q_init_35 (by decide) (by decide) (by decide) (by decide) (by decide) ?_
  refine pf_Q_23 C dd_Q_init_37 ((zz_un (by omega)).trans T3) (Nat.le_of_ble_eq_true rfl) rfl rfl ?_
  refine z_cut (fun h' => h' q = some (.inr (11, [.int 0, .int 1, .ref n, .int 0, .ref (n + 1), .int 0, .ref (n + 2), .ref (n + 3), .null, .null, .null, .null, .null, .null, .null, .null, .null, .null, .int 0, .int 0, .int 0, .null, .null, .null, .null, .null, .null, .null, .null, .null, .null, .null, .null, .null, .null, .null, .int 0, .null, .null, .null, .null, .null, .null, .int 0, .int 0, .int 0])) ∧ (∀ j, j < 4 → h' (n + j) = some (md_c dA j)) ∧ ∀ x, x < n → x ≠ q → h' x = h x) (md_step (k := 3) (f := md_c dA) hqn T3 A3 F3) (rfl : _ = n + 4) (rfl : _ = 4) (rfl : _ = 36) (fun h4 P4 => ?_)
  obtain ⟨T4, A4, F4⟩ := P4
  refine z_aload_n C dd_Q_init_40 rfl ?_
  refine z_bipush (v := 48) C dd_Q_init_41 (by decide) ?_
  refine na_int (N := 48) C dd_Q_init_43 (by decide) (by decide) (by decide) (by decide) (by decide) ?_
  refine pf_Q_26 C dd_Q_init_45 ((zz_un (by omega)).trans T4) (Nat.le_of_ble_eq_true rfl) rfl rfl ?_
  refine z_cut (fun h' => h' q = some (.inr (11, [.int 0, .int 1, .ref n, .int 0, .ref (n + 1), .int 0, .ref (n + 2), .ref (n + 3), .ref (n + 4), .null, .null, .null, .null, .null, .null, .null, .null, .null, .int 0, .int 0, .int 0, .null, .null, .null, .null, .null, .null, .null, .null, .null, .null, .null, .null, .null, .null, .null, .int 0, .null, .null, .null, .null, .null, .null, .int 0, .int 0, .int 0])) ∧ (∀ j, j < 5 → h' (n + j) = some (md_c dA j)) ∧ ∀ x, x < n → x ≠ q → h' x = h x) (md_step (k := 4) (f := md_c dA) hqn T4 A4 F4) (rfl : _ = n + 5) (rfl : _ = 5) (rfl : _ = 84) (fun h5 P5 => ?_)
  obtain ⟨T5, A5, F5⟩ := P5
  refine z_aload_n C dd_Q_init_48 rfl ?_
  refine z_bipush (v := 48) C dd_Q_init_49 (by decide) ?_
  refine na_int (N := 48) C dd_Q_init_51 (by decide) (by decide) (by decide) (by decide) (by decide) ?_
  refine pf_Q_29 C dd_Q_init_53 ((zz_un (by omega)).trans T5) (Nat.le_of_ble_eq_true rfl) rfl rfl ?_
  refine z_cut (fun h' => h' q = some (.inr (11, [.int 0, .int 1, .ref n, .int 0, .ref (n + 1), .int 0, .ref (n + 2), .ref (n + 3), .ref (n + 4), .ref (n + 5), .null, .null, .null, .null, .null, .null, .null, .null, .int 0, .int 0, .int 0, .null, .null, .null, .null, .null, .null, .null, .null, .null, .null, .null, .null, .null, .null, .null, .int 0, .null, .null, .null, .null, .null, .null, .int 0, .int 0, .int 0])) ∧ (∀ j, j < 6 → h' (n + j) = some (md_c dA j)) ∧ ∀ x, x < n → x ≠ q → h' x = h x) (md_step (k := 5) (f := md_c dA) hqn T5 A5 F5) (rfl : _ = n + 6) (rfl : _ = 6) (rfl : _ = 132) (fun h6 P6 => ?_)
  obtain ⟨T6, A6, F6⟩ := P6
  refine z_aload_n C dd_Q_init_56 rfl ?_
  refine z_bipush (v := 48) C dd_Q_init_57 (by decide) ?_
  refine na_int (N := 48) C dd_Q_init_59 (by decide) (by decide) (by decide) (by decide) (by decide) ?_
  refine pf_Q_32 C dd_Q_init_61 ((zz_un (by omega)).trans T6) (Nat.le_of_ble_eq_true rfl) rfl rfl ?_
  refine z_cut (fun h' => h' q = some (.inr (11, [.int 0, .int 1, .ref n, .int 0, .ref (n + 1), .int 0, .ref (n + 2), .ref (n + 3), .ref (n + 4), .ref (n + 5), .ref (n + 6), .null, .null, .null, .null, .null, .null, .null, .int 0, .int 0, .int 0, .null, .null, .null, .null, .null, .null, .null, .null, .null, .null, .null, .null, .null, .null, .null, .int 0, .null, .null, .null, .null, .null, .null, .int 0, .int 0, .int 0])) ∧ (∀ j, j < 7 → h' (n + j) = some (md_c dA j)) ∧ ∀ x, x < n → x ≠ q → h' x = h x) (md_step (k := 6) (f := md_c dA) hqn T6 A6 F6) (rfl : _ = n + 7) (rfl : _ = 7) (rfl : _ = 180) (fun h7 P7 => ?_)
  obtain ⟨T7, A7, F7⟩ := P7
  refine z_aload_n C dd_Q_init_64 rfl ?_
  refine z_bipush (v := 48) C dd_Q_init_65 (by decide) ?_
  refine na_boolean (N := 48) C dd_Q_init_67 (by decide) (by decide) (by decide) (by decide) (by decide) ?_
  refine pf_Q_35 C dd_Q_init_69 ((zz_un (by omega)).trans T7) (Nat.le_of_ble_eq_true rfl) rfl rfl ?_
  refine z_cut (fun h' => h' q = some (.inr (11, [.int 0, .int 1, .ref n, .int 0, .ref (n + 1), .int 0, .ref (n + 2), .ref (n + 3), .ref (n + 4), .ref (n + 5), .ref (n + 6), .ref (n + 7), .null, .null, .null, .null, .null, .null, .int 0, .int 0, .int 0, .null, .null, .null, .null, .null, .null, .null, .null, .null, .null, .null, .null, .null, .null, .null, .int 0, .null, .null, .null, .null, .null, .null, .int 0, .int 0, .int 0])) ∧ (∀ j, j < 8 → h' (n + j) = some (md_c dA j)) ∧ ∀ x, x < n → x ≠ q → h' x = h x) (md_step (k := 7) (f := md_c dA) hqn T7 A7 F7) (rfl : _ = n + 8) (rfl : _ = 8) (rfl : _ = 228) (fun h8 P8 => ?_)
  obtain ⟨T8, A8, F8⟩ := P8
  refine z_aload_n C dd_Q_init_72 rfl ?_
  refine z_bipush (v := 12) C dd_Q_init_73 (by decide) ?_
  refine na_int (N := 12) C dd_Q_init_75 (by decide) (by decide) (by decide) (by decide) (by decide) ?_
  refine pf_Q_39 C dd_Q_init_77 ((zz_un (by omega)).trans T8) (Nat.le_of_ble_eq_true rfl) rfl rfl ?_
  refine z_cut (fun h' => h' q = some (.inr (11, [.int 0, .int 1, .ref n, .int 0, .ref (n + 1), .int 0, .ref (n + 2), .ref (n + 3), .ref (n + 4), .ref (n + 5), .ref (n + 6), .ref (n + 7), .ref (n + 8), .null, .null, .null, .null, .null, .int 0, .int 0, .int 0, .null, .null, .null, .null, .null, .null, .null, .null, .null, .null, .null, .null, .null, .null, .null, .int 0, .null, .null, .null, .null, .null, .null, .int 0, .int 0, .int 0])) ∧ (∀ j, j < 9 → h' (n + j) = some (md_c dA j)) ∧ ∀ x, x < n → x ≠ q → h' x = h x) (md_step (k := 8) (f := md_c dA) hqn T8 A8 F8) (rfl : _ = n + 9) (rfl : _ = 9) (rfl : _ = 240) (fun h9 P9 => ?_)
  obtain ⟨T9, A9, F9⟩ := P9
  refine z_aload_n C dd_Q_init_80 rfl ?_
  refine z_bipush (v := 96) C dd_Q_init_81 (by decide) ?_
  refine na_int (N := 96) C dd_Q_init_83 (by decide) (by decide) (by decide) (by decide) (by decide) ?_
  refine pf_Q_42 C dd_Q_init_85 ((zz_un (by omega)).trans T9) (Nat.le_of_ble_eq_true rfl) rfl rfl ?_
  refine z_cut (fun h' => h' q = some (.inr (11, [.int 0, .int 1, .ref n, .int 0, .ref (n + 1), .int 0, .ref (n + 2), .ref (n + 3), .ref (n + 4), .ref (n + 5), .ref (n + 6), .ref (n + 7), .ref (n + 8), .ref (n + 9), .null, .null, .null, .null, .int 0, .int 0, .int 0, .null, .null, .null, .null, .null, .null, .null, .null, .null, .null, .null, .null, .null, .null, .null, .int 0, .null, .null, .null, .null, .null, .null, .int 0, .int 0, .int 0])) ∧ (∀ j, j < 10 → h' (n + j) = some (md_c dA j)) ∧ ∀ x, x < n → x ≠ q → h' x = h x) (md_step (k := 9) (f := md_c dA) hqn T9 A9 F9) (rfl : _ = n + 10) (rfl : _ = 10) (rfl : _ = 336) (fun h10 P10 => ?_)
  obtain ⟨T10, A10, F10⟩ := P10
  refine z_aload_n C dd_Q_init_88 rfl ?_
  refine z_bipush (v := 96) C dd_Q_init_89 (by decide) ?_
  refine na_int (N := 96) C dd_Q_init_91 (by decide) (by decide) (by decide) (by decide) (by decide) ?_
  refine pf_Q_45 C dd_Q_init_93 ((zz_un (by omega)).trans T10) (Nat.le_of_ble_eq_true rfl) rfl rfl ?_
  refine z_cut (fun h' => h' q = some (.inr (11, [.int 0, .int 1, .ref n, .int 0, .ref (n + 1), .int 0, .ref (n + 2), .ref (n + 3), .ref (n + 4), .ref (n + 5), .ref (n + 6), .ref (n + 7), .ref (n + 8), .ref (n + 9), .ref (n + 10), .null, .null, .null, .int 0, .int 0, .int 0, .null, .null, .null, .null, .null, .null, .null, .null, .null, .null, .null, .null, .null, .null, .null, .int 0, .null, .null, .null, .null, .null, .null, .int 0, .int 0, .int 0])) ∧ (∀ j, j < 11 → h' (n + j) = some (md_c dA j)) ∧ ∀ x, x < n → x ≠ q → h' x = h x) (md_step (k := 10) (f := md_c dA) hqn T10 A10 F10) (rfl : _ = n + 11) (rfl : _ = 11) (rfl : _ = 432) (fun h11 P11 => ?_)
  obtain ⟨T11, A11, F11⟩ := P11
  refine z_aload_n C dd_Q_init_96 rfl ?_
  refine z_iconst (v := 4) C dd_Q_init_97 (by decide) ?_
  refine na_boolean (N := 4) C dd_Q_init_98 (by decide) (by decide) (by decide) (by decide) (by decide) ?_
  refine pf_Q_48 C dd_Q_init_100 ((zz_un (by omega)).trans T11) (Nat.le_of_ble_eq_true rfl) rfl rfl ?_
  refine z_cut (fun h' => h' q = some (.inr (11, [.int 0, .int 1, .ref n, .int 0, .ref (n + 1), .int 0, .ref (n + 2), .ref (n + 3), .ref (n + 4), .ref (n + 5), .ref (n + 6), .ref (n + 7), .ref (n + 8), .ref (n + 9), .ref (n + 10), .ref (n + 11), .null, .null, .int 0, .int 0, .int 0, .null, .null, .null, .null, .null, .null, .null, .null, .null, .null, .null, .null, .null, .null, .null, .int 0, .null, .null, .null, .null, .null, .null, .int 0, .int 0, .int 0])) ∧ (∀ j, j < 12 → h' (n + j) = some (md_c dA j)) ∧ ∀ x, x < n → x ≠ q → h' x = h x) (md_step (k := 11) (f := md_c dA) hqn T11 A11 F11) (rfl : _ = n + 12) (rfl : _ = 12) (rfl : _ = 436) (fun h12 P12 => ?_)
  obtain ⟨T12, A12, F12⟩ := P12
  refine z_aload_n C dd_Q_init_103 rfl ?_
  refine z_sipush (v := 16384) C dd_Q_init_104 (by decide) ?_
  refine na_int (N := 16384) C dd_Q_init_107 (by decide) (by decide) (by decide) (by decide) (by decide) ?_
  refine pf_Q_51 C dd_Q_init_109 ((zz_un (by omega)).trans T12) (Nat.le_of_ble_eq_true rfl) rfl rfl ?_
  refine z_cut (fun h' => h' q = some (.inr (11, [.int 0, .int 1, .ref n, .int 0, .ref (n + 1), .int 0, .ref (n + 2), .ref (n + 3), .ref (n + 4), .ref (n + 5), .ref (n + 6), .ref (n + 7), .ref (n + 8), .ref (n + 9), .ref (n + 10), .ref (n + 11), .ref (n + 12), .null, .int 0, .int 0, .int 0, .null, .null, .null, .null, .null, .null, .null, .null, .null, .null, .null, .null, .null, .null, .null, .int 0, .null, .null, .null, .null, .null, .null, .int 0, .int 0, .int 0])) ∧ (∀ j, j < 13 → h' (n + j) = some (md_c dA j)) ∧ ∀ x, x < n → x ≠ q → h' x = h x) (md_step (k := 12) (f := md_c dA) hqn T12 A12 F12) (rfl : _ = n + 13) (rfl : _ = 13) (rfl : _ = 16820) (fun h13 P13 => ?_)
  obtain ⟨T13, A13, F13⟩ := P13
  refine z_aload_n C dd_Q_init_112 rfl ?_
  refine z_bipush (v := 12) C dd_Q_init_113 (by decide) ?_
  refine na_int (N := 12) C dd_Q_init_115 (by decide) (by decide) (by decide) (by decide) (by decide) ?_
  refine pf_Q_54 C dd_Q_init_117 ((zz_un (by omega)).trans T13) (Nat.le_of_ble_eq_true rfl) rfl rfl ?_
  refine z_cut (fun h' => h' q = some (.inr (11, [.int 0, .int 1, .ref n, .int 0, .ref (n + 1), .int 0, .ref (n + 2), .ref (n + 3), .ref (n + 4), .ref (n + 5), .ref (n + 6), .ref (n + 7), .ref (n + 8), .ref (n + 9), .ref (n + 10), .ref (n + 11), .ref (n + 12), .ref (n + 13), .int 0, .int 0, .int 0, .null, .null, .null, .null, .null, .null, .null, .null, .null, .null, .null, .null, .null, .null, .null, .int 0, .null, .null, .null, .null, .null, .null, .int 0, .int 0, .int 0])) ∧ (∀ j, j < 14 → h' (n + j) = some (md_c dA j)) ∧ ∀ x, x < n → x ≠ q → h' x = h x) (md_step (k := 13) (f := md_c dA) hqn T13 A13 F13) (rfl : _ = n + 14) (rfl : _ = 14) (rfl : _ = 16832) (fun h14 P14 => ?_)
  obtain ⟨T14, A14, F14⟩ := P14
  refine z_aload_n C dd_Q_init_120 rfl ?_
  refine z_iconst (v := 4) C dd_Q_init_121 (by decide) ?_
  refine na_int (N := 4) C dd_Q_init_122 (by decide) (by decide) (by decide) (by decide) (by decide) ?_
  refine pf_Q_57 C dd_Q_init_124 ((zz_un (by omega)).trans T14) (Nat.le_of_ble_eq_true rfl) rfl rfl ?_
  refine z_cut (fun h' => h' q = some (.inr (11, [.int 0, .int 1, .ref n, .int 0, .ref (n + 1), .int 0, .ref (n + 2), .ref (n + 3), .ref (n + 4), .ref (n + 5), .ref (n + 6), .ref (n + 7), .ref (n + 8), .ref (n + 9), .ref (n + 10), .ref (n + 11), .ref (n + 12), .ref (n + 13), .int 0, .int 0, .int 0, .ref (n + 14), .null, .null, .null, .null, .null, .null, .null, .null, .null, .null, .null, .null, .null, .null, .int 0, .null, .null, .null, .null, .null, .null, .int 0, .int 0, .int 0])) ∧ (∀ j, j < 15 → h' (n + j) = some (md_c dA j)) ∧ ∀ x, x < n → x ≠ q → h' x = h x) (md_step (k := 14) (f := md_c dA) hqn T14 A14 F14) (rfl : _ = n + 15) (rfl : _ = 15) (rfl : _ = 16836) (fun h15 P15 => ?_)
  obtain ⟨T15, A15, F15⟩ := P15
  refine z_aload_n C dd_Q_init_127 rfl ?_
  refine z_sipush (v := 320) C dd_Q_init_128 (by decide) ?_
  refine na_int (N := 320) C dd_Q_init_131 (by decide) (by decide) (by decide) (by decide) (by decide) ?_
  refine pf_Q_60 C dd_Q_init_133 ((zz_un (by omega)).trans T15) (Nat.le_of_ble_eq_true rfl) rfl rfl ?_
  refine z_cut (fun h' => h' q = some (.inr (11, [.int 0, .int 1, .ref n, .int 0, .ref (n + 1), .int 0, .ref (n + 2), .ref (n + 3), .ref (n + 4), .ref (n + 5), .ref (n + 6), .ref (n + 7), .ref (n + 8), .ref (n + 9), .ref (n + 10), .ref (n + 11), .ref (n + 12), .ref (n + 13), .int 0, .int 0, .int 0, .ref (n + 14), .ref (n + 15), .null, .null, .null, .null, .null, .null, .null, .null, .null, .null, .null, .null, .null, .int 0, .null, .null, .null, .null, .null, .null, .int 0, .int 0, .int 0])) ∧ (∀ j, j < 16 → h' (n + j) = some (md_c dA j)) ∧ ∀ x, x < n → x ≠ q → h' x = h x) (md_step (k := 15) (f := md_c dA) hqn T15 A15 F15) (rfl : _ = n + 16) (rfl : _ = 16) (rfl : _ = 17156) (fun h16 P16 => ?_)
  obtain ⟨T16, A16, F16⟩ := P16
  refine z_aload_n C dd_Q_init_136 rfl ?_
  refine z_sipush (v := 320) C dd_Q_init_137 (by decide) ?_
  refine na_int (N := 320) C dd_Q_init_140 (by decide) (by decide) (by decide) (by decide) (by decide) ?_
  refine pf_Q_63 C dd_Q_init_142 ((zz_un (by omega)).trans T16) (Nat.le_of_ble_eq_true rfl) rfl rfl ?_
  refine z_cut (fun h' => h' q = some (.inr (11, [.int 0, .int 1, .ref n, .int 0, .ref (n + 1), .int 0, .ref (n + 2), .ref (n + 3), .ref (n + 4), .ref (n + 5), .ref (n + 6), .ref (n + 7), .ref (n + 8), .ref (n + 9), .ref (n + 10), .ref (n + 11), .ref (n + 12), .ref (n + 13), .int 0, .int 0, .int 0, .ref (n + 14), .ref (n + 15), .ref (n + 16), .null, .null, .null, .null, .null, .null, .null, .null, .null, .null, .null, .null, .int 0, .null, .null, .null, .null, .null, .null, .int 0, .int 0, .int 0])) ∧ (∀ j, j < 17 → h' (n + j) = some (md_c dA j)) ∧ ∀ x, x < n → x ≠ q → h' x = h x) (md_step (k := 16) (f := md_c dA) hqn T16 A16 F16) (rfl : _ = n + 17) (rfl : _ = 17) (rfl : _ = 17476) (fun h17 P17 => ?_)
  obtain ⟨T17, A17, F17⟩ := P17
  refine z_aload_n C dd_Q_init_145 rfl ?_
  refine z_sipush (v := 320) C dd_Q_init_146 (by decide) ?_
  refine na_int (N := 320) C dd_Q_init_149 (by decide) (by decide) (by decide) (by decide) (by decide) ?_
  refine pf_Q_66 C dd_Q_init_151 ((zz_un (by omega)).trans T17) (Nat.le_of_ble_eq_true rfl) rfl rfl ?_
  refine z_cut (fun h' => h' q = some (.inr (11, [.int 0, .int 1, .ref n, .int 0, .ref (n + 1), .int 0, .ref (n + 2), .ref (n + 3), .ref (n + 4), .ref (n + 5), .ref (n + 6), .ref (n + 7), .ref (n + 8), .ref (n + 9), .ref (n + 10), .ref (n + 11), .ref (n + 12), .ref (n + 13), .int 0, .int 0, .int 0, .ref (n + 14), .ref (n + 15), .ref (n + 16), .ref (n + 17), .null, .null, .null, .null, .null, .null, .null, .null, .null, .null, .null, .int 0, .null, .null, .null, .null, .null, .null, .int 0, .int 0, .int 0])) ∧ (∀ j, j < 18 → h' (n + j) = some (md_c dA j)) ∧ ∀ x, x < n → x ≠ q → h' x = h x) (md_step (k := 17) (f := md_c dA) hqn T17 A17 F17) (rfl : _ = n + 18) (rfl : _ = 18) (rfl : _ = 17796) (fun h18 P18 => ?_)
  obtain ⟨T18, A18, F18⟩ := P18
  refine z_aload_n C dd_Q_init_154 rfl ?_
  refine z_iconst (v := 4) C dd_Q_init_155 (by decide) ?_
  refine na_int (N := 4) C dd_Q_init_156 (by decide) (by decide) (by decide) (by decide) (by decide) ?_
  refine pf_Q_69 C dd_Q_init_158 ((zz_un (by omega)).trans T18) (Nat.le_of_ble_eq_true rfl) rfl rfl ?_
  refine z_cut (fun h' => h' q = some (.inr (11, [.int 0, .int 1, .ref n, .int 0, .ref (n + 1), .int 0, .ref (n + 2), .ref (n + 3), .ref (n + 4), .ref (n + 5), .ref (n + 6), .ref (n + 7), .ref (n + 8), .ref (n + 9), .ref (n + 10), .ref (n + 11), .ref (n + 12), .ref (n + 13), .int 0, .int 0, .int 0, .ref (n + 14), .ref (n + 15), .ref (n + 16), .ref (n + 17), .ref (n + 18), .null, .null, .null, .null, .null, .null, .null, .null, .null, .null, .int 0, .null, .null, .null, .null, .null, .null, .int 0, .int 0, .int 0])) ∧ (∀ j, j < 19 → h' (n + j) = some (md_c dA j)) ∧ ∀ x, x < n → x ≠ q → h' x = h x) (md_step (k := 18) (f := md_c dA) hqn T18 A18 F18) (rfl : _ = n + 19) (rfl : _ = 19) (rfl : _ = 17800) (fun h19 P19 => ?_)
  obtain ⟨T19, A19, F19⟩ := P19
  refine z_aload_n C dd_Q_init_161 rfl ?_
  refine z_sipush (v := 192) C dd_Q_init_162 (by decide) ?_
  refine na_int (N := 192) C dd_Q_init_165 (by decide) (by decide) (by decide) (by decide) (by decide) ?_
  refine pf_Q_72 C dd_Q_init_167 ((zz_un (by omega)).trans T19) (Nat.le_of_ble_eq_true rfl) rfl rfl ?_
  refine z_cut (fun h' => h' q = some (.inr (11, [.int 0, .int 1, .ref n, .int 0, .ref (n + 1), .int 0, .ref (n + 2), .ref (n + 3), .ref (n + 4), .ref (n + 5), .ref (n + 6), .ref (n + 7), .ref (n + 8), .ref (n + 9), .ref (n + 10), .ref (n + 11), .ref (n + 12), .ref (n + 13), .int 0, .int 0, .int 0, .ref (n + 14), .ref (n + 15), .ref (n + 16), .ref (n + 17), .ref (n + 18), .ref (n + 19), .null, .null, .null, .null, .null, .null, .null, .null, .null, .int 0, .null, .null, .null, .null, .null, .null, .int 0, .int 0, .int 0])) ∧ (∀ j, j < 20 → h' (n + j) = some (md_c dA j)) ∧ ∀ x, x < n → x ≠ q → h' x = h x) (md_step (k := 19) (f := md_c dA) hqn T19 A19 F19) (rfl : _ = n + 20) (rfl : _ = 20) (rfl : _ = 17992) (fun h20 P20 => ?_)
  obtain ⟨T20, A20, F20⟩ := P20
  refine z_aload_n C dd_Q_init_170 rfl ?_
  refine z_sipush (v := 192) C dd_Q_init_171 (by decide) ?_
  refine na_int (N := 192) C dd_Q_init_174 (by decide) (by decide) (by decide) (by decide) (by decide) ?_
  refine pf_Q_75 C dd_Q_init_176 ((zz_un (by omega)).trans T20) (Nat.le_of_ble_eq_true rfl) rfl rfl ?_
  refine z_cut (fun h' => h' q = some (.inr (11, [.int 0, .int 1, .ref n, .int 0, .ref (n + 1), .int 0, .ref (n + 2), .ref (n + 3), .ref (n + 4), .ref (n + 5), .ref (n + 6), .ref (n + 7), .ref (n + 8), .ref (n + 9), .ref (n + 10), .ref (n + 11), .ref (n + 12), .ref (n + 13), .int 0, .int 0, .int 0, .ref (n + 14), .ref (n + 15), .ref (n + 16), .ref (n + 17), .ref (n + 18), .ref (n + 19), .ref (n + 20), .null, .null, .null, .null, .null, .null, .null, .null, .int 0, .null, .null, .null, .null, .null, .null, .int 0, .int 0, .int 0])) ∧ (∀ j, j < 21 → h' (n + j) = some (md_c dA j)) ∧ ∀ x, x < n → x ≠ q → h' x = h x) (md_step (k := 20) (f := md_c dA) hqn T20 A20 F20) (rfl : _ = n + 21) (rfl : _ = 21) (rfl : _ = 18184) (fun h21 P21 => ?_)
  obtain ⟨T21, A21, F21⟩ := P21
  refine z_aload_n C dd_Q_init_179 rfl ?_
  refine z_sipush (v := 192) C dd_Q_init_180 (by decide) ?_
  refine na_int (N := 192) C dd_Q_init_183 (by decide) (by decide) (by decide) (by decide) (by decide) ?_
  refine pf_Q_78 C dd_Q_init_185 ((zz_un (by omega)).trans T21) (Nat.le_of_ble_eq_true rfl) rfl rfl ?_
  refine z_cut (fun h' => h' q = some (.inr (11, [.int 0, .int 1, .ref n, .int 0, .ref (n + 1), .int 0, .ref (n + 2), .ref (n + 3), .ref (n + 4), .ref (n + 5), .ref (n + 6), .ref (n + 7), .ref (n + 8), .ref (n + 9), .ref (n + 10), .ref (n + 11), .ref (n + 12), .ref (n + 13), .int 0, .int 0, .int 0, .ref (n + 14), .ref (n + 15), .ref (n + 16), .ref (n + 17), .ref (n + 18), .ref (n + 19), .ref (n + 20), .ref (n + 21), .null, .null, .null, .null, .null, .null, .null, .int 0, .null, .null, .null, .null, .null, .null, .int 0, .int 0, .int 0])) ∧ (∀ j, j < 22 → h' (n + j) = some (md_c dA j)) ∧ ∀ x, x < n → x ≠ q → h' x = h x) (md_step (k := 21) (f := md_c dA) hqn T21 A21 F21) (rfl : _ = n + 22) (rfl : _ = 22) (rfl : _ = 18376) (fun h22 P22 => ?_)
  obtain ⟨T22, A22, F22⟩ := P22
  refine z_aload_n C dd_Q_init_188 rfl ?_
  refine z_sipush (v := 4096) C dd_Q_init_189 (by decide) ?_
  refine na_long (N := 4096) C dd_Q_init_192 (by decide) (by decide) (by decide) (by decide) (by decide) ?_
  refine pf_Q_81 C dd_Q_init_194 ((zz_un (by omega)).trans T22) (Nat.le_of_ble_eq_true rfl) rfl rfl ?_
  refine z_cut (fun h' => h' q = some (.inr (11, [.int 0, .int 1, .ref n, .int 0, .ref (n + 1), .int 0, .ref (n + 2), .ref (n + 3), .ref (n + 4), .ref (n + 5), .ref (n + 6), .ref (n + 7), .ref (n + 8), .ref (n + 9), .ref (n + 10), .ref (n + 11), .ref (n + 12), .ref (n + 13), .int 0, .int 0, .int 0, .ref (n + 14), .ref (n + 15), .ref (n + 16), .ref (n + 17), .ref (n + 18), .ref (n + 19), .ref (n + 20), .ref (n + 21), .ref (n + 22), .null, .null, .null, .null, .null, .null, .int 0, .null, .null, .null, .null, .null, .null, .int 0, .int 0, .int 0])) ∧ (∀ j, j < 23 → h' (n + j) = some (md_c dA j)) ∧ ∀ x, x < n → x ≠ q → h' x = h x) (md_step (k := 22) (f := md_c dA) hqn T22 A22 F22) (rfl : _ = n + 23) (rfl : _ = 23) (rfl : _ = 22472) (fun h23 P23 => ?_)
  obtain ⟨T23, A23, F23⟩ := P23
  refine z_aload_n C dd_Q_init_197 rfl ?_
  refine z_bipush (v := 50) C dd_Q_init_198 (by decide) ?_
  refine na_long (N := 50) C dd_Q_init_200 (by decide) (by decide) (by decide) (by decide) (by decide) ?_
  refine pf_Q_85 C dd_Q_init_202 ((zz_un (by omega)).trans T23) (Nat.le_of_ble_eq_true rfl) rfl rfl ?_
  refine z_cut (fun h' => h' q = some (.inr (11, [.int 0, .int 1, .ref n, .int 0, .ref (n + 1), .int 0, .ref (n + 2), .ref (n + 3), .ref (n + 4), .ref (n + 5), .ref (n + 6), .ref (n + 7), .ref (n + 8), .ref (n + 9), .ref (n + 10), .ref (n + 11), .ref (n + 12), .ref (n + 13), .int 0, .int 0, .int 0, .ref (n + 14), .ref (n + 15), .ref (n + 16), .ref (n + 17), .ref (n + 18), .ref (n + 19), .ref (n + 20), .ref (n + 21), .ref (n + 22), .ref (n + 23), .null, .null, .null, .null, .null, .int 0, .null, .null, .null, .null, .null, .null, .int 0, .int 0, .int 0])) ∧ (∀ j, j < 24 → h' (n + j) = some (md_c dA j)) ∧ ∀ x, x < n → x ≠ q → h' x = h x) (md_step (k := 23) (f := md_c dA) hqn T23 A23 F23) (rfl : _ = n + 24) (rfl : _ = 24) (rfl : _ = 22522) (fun h24 P24 => ?_)
  obtain ⟨T24, A24, F24⟩ := P24
  refine z_aload_n C dd_Q_init_205 rfl ?_
  refine z_bipush (v := 50) C dd_Q_init_206 (by decide) ?_
  refine na_long (N := 50) C dd_Q_init_208 (by decide) (by decide) (by decide) (by decide) (by decide) ?_
  refine pf_Q_88 C dd_Q_init_210 ((zz_un (by omega)).trans T24) (Nat.le_of_ble_eq_true rfl) rfl rfl ?_
  refine z_cut (fun h' => h' q = some (.inr (11, [.int 0, .int 1, .ref n, .int 0, .ref (n + 1), .int 0, .ref (n + 2), .ref (n + 3), .ref (n + 4), .ref (n + 5), .ref (n + 6), .ref (n + 7), .ref (n + 8), .ref (n + 9), .ref (n + 10), .ref (n + 11), .ref (n + 12), .ref (n + 13), .int 0, .int 0, .int 0, .ref (n + 14), .ref (n + 15), .ref (n + 16), .ref (n + 17), .ref (n + 18), .ref (n + 19), .ref (n + 20), .ref (n + 21), .ref (n + 22), .ref (n + 23), .ref (n + 24), .null, .null, .null, .null, .int 0, .null, .null, .null, .null, .null, .null, .int 0, .int 0, .int 0])) ∧ (∀ j, j < 25 → h' (n + j) = some (md_c dA j)) ∧ ∀ x, x < n → x ≠ q → h' x = h x) (md_step (k := 24) (f := md_c dA) hqn T24 A24 F24) (rfl : _ = n + 25) (rfl : _ = 25) (rfl : _ = 22572) (fun h25 P25 => ?_)
  obtain ⟨T25, A25, F25⟩ := P25
  refine z_aload_n C dd_Q_init_213 rfl ?_
  refine z_bipush (v := 50) C dd_Q_init_214 (by decide) ?_
  refine na_int (N := 50) C dd_Q_init_216 (by decide) (by decide) (by decide) (by decide) (by decide) ?_
  refine pf_Q_91 C dd_Q_init_218 ((zz_un (by omega)).trans T25) (Nat.le_of_ble_eq_true rfl) rfl rfl ?_
  refine z_cut (fun h' => h' q = some (.inr (11, [.int 0, .int 1, .ref n, .int 0, .ref (n + 1), .int 0, .ref (n + 2), .ref (n + 3), .ref (n + 4), .ref (n + 5), .ref (n + 6), .ref (n + 7), .ref (n + 8), .ref (n + 9), .ref (n + 10), .ref (n + 11), .ref (n + 12), .ref (n + 13), .int 0, .int 0, .int 0, .ref (n + 14), .ref (n + 15), .ref (n + 16), .ref (n + 17), .ref (n + 18), .ref (n + 19), .ref (n + 20), .ref (n + 21), .ref (n + 22), .ref (n + 23), .ref (n + 24), .ref (n + 25), .null, .null, .null, .int 0, .null, .null, .null, .null, .null, .null, .int 0, .int 0, .int 0])) ∧ (∀ j, j < 26 → h' (n + j) = some (md_c dA j)) ∧ ∀ x, x < n → x ≠ q → h' x = h x) (md_step (k := 25) (f := md_c dA) hqn T25 A25 F25) (rfl : _ = n + 26) (rfl : _ = 26) (rfl : _ = 22622) (fun h26 P26 => ?_)
  obtain ⟨T26, A26, F26⟩ := P26
  refine z_aload_n C dd_Q_init_221 rfl ?_
  refine z_bipush (v := 50) C dd_Q_init_222 (by decide) ?_
  refine na_int (N := 50) C dd_Q_init_224 (by decide) (by decide) (by decide) (by decide) (by decide) ?_
  refine pf_Q_94 C dd_Q_init_226 ((zz_un (by omega)).trans T26) (Nat.le_of_ble_eq_true rfl) rfl rfl ?_
  refine z_cut (fun h' => h' q = some (.inr (11, [.int 0, .int 1, .ref n, .int 0, .ref (n + 1), .int 0, .ref (n + 2), .ref (n + 3), .ref (n + 4), .ref (n + 5), .ref (n + 6), .ref (n + 7), .ref (n + 8), .ref (n + 9), .ref (n + 10), .ref (n + 11), .ref (n + 12), .ref (n + 13), .int 0, .int 0, .int 0, .ref (n + 14), .ref (n + 15), .ref (n + 16), .ref (n + 17), .ref (n + 18), .ref (n + 19), .ref (n + 20), .ref (n + 21), .ref (n + 22), .ref (n + 23), .ref (n + 24), .ref (n + 25), .ref (n + 26), .null, .null, .int 0, .null, .null, .null, .null, .null, .null, .int 0, .int 0, .int 0])) ∧ (∀ j, j < 27 → h' (n + j) = some (md_c dA j)) ∧ ∀ x, x < n → x ≠ q → h' x = h x) (md_step (k := 26) (f := md_c dA) hqn T26 A26 F26) (rfl : _ = n + 27) (rfl : _ = 27) (rfl : _ = 22672) (fun h27 P27 => ?_)
  obtain ⟨T27, A27, F27⟩ := P27
  refine z_aload_n C dd_Q_init_229 rfl ?_
  refine z_bipush (v := 50) C dd_Q_init_230 (by decide) ?_
  refine na_int (N := 50) C dd_Q_init_232 (by decide) (by decide) (by decide) (by decide) (by decide) ?_
  refine pf_Q_97 C dd_Q_init_234 ((zz_un (by omega)).trans T27) (Nat.le_of_ble_eq_true rfl) rfl rfl ?_
  refine z_cut (fun h' => h' q = some (.inr (11, [.int 0, .int 1, .ref n, .int 0, .ref (n + 1), .int 0, .ref (n + 2), .ref (n + 3), .ref (n + 4), .ref (n + 5), .ref (n + 6), .ref (n + 7), .ref (n + 8), .ref (n + 9), .ref (n + 10), .ref (n + 11), .ref (n + 12), .ref (n + 13), .int 0, .int 0, .int 0, .ref (n + 14), .ref (n + 15), .ref (n + 16), .ref (n + 17), .ref (n + 18), .ref (n + 19), .ref (n + 20), .ref (n + 21), .ref (n + 22), .ref (n + 23), .ref (n + 24), .ref (n + 25), .ref (n + 26), .ref (n + 27), .null, .int 0, .null, .null, .null, .null, .null, .null, .int 0, .int 0, .int 0])) ∧ (∀ j, j < 28 → h' (n + j) = some (md_c dA j)) ∧ ∀ x, x < n → x ≠ q → h' x = h x) (md_step (k := 27) (f := md_c dA) hqn T27 A27 F27) (rfl : _ = n + 28) (rfl : _ = 28) (rfl : _ = 22722) (fun h28 P28 => ?_)
  obtain ⟨T28, A28, F28⟩ := P28
  refine z_aload_n C dd_Q_init_237 rfl ?_
  refine z_bipush (v := 50) C dd_Q_init_238 (by decide) ?_
  refine na_int (N := 50) C dd_Q_init_240 (by decide) (by decide) (by decide) (by decide) (by decide) ?_
  refine pf_Q_100 C dd_Q_init_242 ((zz_un (by omega)).trans T28) (Nat.le_of_ble_eq_true rfl) rfl rfl ?_
  refine z_cut (fun h' => h' q = some (.inr (11, [.int 0, .int 1, .ref n, .int 0, .ref (n + 1), .int 0, .ref (n + 2), .ref (n + 3), .ref (n + 4), .ref (n + 5), .ref (n + 6), .ref (n + 7), .ref (n + 8), .ref (n + 9), .ref (n + 10), .ref (n + 11), .ref (n + 12), .ref (n + 13), .int 0, .int 0, .int 0, .ref (n + 14), .ref (n + 15), .ref (n + 16), .ref (n + 17), .ref (n + 18), .ref (n + 19), .ref (n + 20), .ref (n + 21), .ref (n + 22), .ref (n + 23), .ref (n + 24), .ref (n + 25), .ref (n + 26), .ref (n + 27), .ref (n + 28), .int 0, .null, .null, .null, .null, .null, .null, .int 0, .int 0, .int 0])) ∧ (∀ j, j < 29 → h' (n + j) = some (md_c dA j)) ∧ ∀ x, x < n → x ≠ q → h' x = h x) (md_step (k := 28) (f := md_c dA) hqn T28 A28 F28) (rfl : _ = n + 29) (rfl : _ = 29) (rfl : _ = 22772) (fun h29 P29 => ?_)
  obtain ⟨T29, A29, F29⟩ := P29
  refine z_aload_n C dd_Q_init_245 rfl ?_
  refine z_bipush (v := 9) C dd_Q_init_246 (by decide) ?_
  refine na_int (N := 9) C dd_Q_init_248 (by decide) (by decide) (by decide) (by decide) (by decide) ?_
  refine pf_Q_103 C dd_Q_init_250 ((zz_un (by omega)).trans T29) (Nat.le_of_ble_eq_true rfl) rfl rfl ?_
  refine z_cut (fun h' => h' q = some (.inr (11, [.int 0, .int 1, .ref n, .int 0, .ref (n + 1), .int 0, .ref (n + 2), .ref (n + 3), .ref (n + 4), .ref (n + 5), .ref (n + 6), .ref (n + 7), .ref (n + 8), .ref (n + 9), .ref (n + 10), .ref (n + 11), .ref (n + 12), .ref (n + 13), .int 0, .int 0, .int 0, .ref (n + 14), .ref (n + 15), .ref (n + 16), .ref (n + 17), .ref (n + 18), .ref (n + 19), .ref (n + 20), .ref (n + 21), .ref (n + 22), .ref (n + 23), .ref (n + 24), .ref (n + 25), .ref (n + 26), .ref (n + 27), .ref (n + 28), .int 0, .ref (n + 29), .null, .null, .null, .null, .null, .int 0, .int 0, .int 0])) ∧ (∀ j, j < 30 → h' (n + j) = some (md_c dA j)) ∧ ∀ x, x < n → x ≠ q → h' x = h x) (md_step (k := 29) (f := md_c dA) hqn T29 A29 F29) (rfl : _ = n + 30) (rfl : _ = 30) (rfl : _ = 22781) (fun h30 P30 => ?_)
  obtain ⟨T30, A30, F30⟩ := P30
  refine z_aload_n C dd_Q_init_253 rfl ?_
  refine z_bipush (v := 9) C dd_Q_init_254 (by decide) ?_
  refine na_int (N := 9) C dd_Q_init_256 (by decide) (by decide) (by decide) (by decide) (by decide) ?_
  refine pf_Q_106 C dd_Q_init_258 ((zz_un (by omega)).trans T30) (Nat.le_of_ble_eq_true rfl) rfl rfl ?_
  refine z_cut (fun h' => h' q = some (.inr (11, [.int 0, .int 1, .ref n, .int 0, .ref (n + 1), .int 0, .ref (n + 2), .ref (n + 3), .ref (n + 4), .ref (n + 5), .ref (n + 6), .ref (n + 7), .ref (n + 8), .ref (n + 9), .ref (n + 10), .ref (n + 11), .ref (n + 12), .ref (n + 13), .int 0, .int 0, .int 0, .ref (n + 14), .ref (n + 15), .ref (n + 16), .ref (n + 17), .ref (n + 18), .ref (n + 19), .ref (n + 20), .ref (n + 21), .ref (n + 22), .ref (n + 23), .ref (n + 24), .ref (n + 25), .ref (n + 26), .ref (n + 27), .ref (n + 28), .int 0, .ref (n + 29), .ref (n + 30), .null, .null, .null, .null, .int 0, .int 0, .int 0])) ∧ (∀ j, j < 31 → h' (n + j) = some (md_c dA j)) ∧ ∀ x, x < n → x ≠ q → h' x = h x) (md_step (k := 30) (f := md_c dA) hqn T30 A30 F30) (rfl : _ = n + 31) (rfl : _ = 31) (rfl : _ = 22790) (fun h31 P31 => ?_)
  obtain ⟨T31, A31, F31⟩ := P31
  refine z_aload_n C dd_Q_init_261 rfl ?_
  refine z_bipush (v := 9) C dd_Q_init_262 (by decide) ?_
  refine na_int (N := 9) C dd_Q_init_264 (by decide) (by decide) (by decide) (by decide) (by decide) ?_
  refine pf_Q_109 C dd_Q_init_266 ((zz_un (by omega)).trans T31) (Nat.le_of_ble_eq_true rfl) rfl rfl ?_
  refine z_cut (fun h' => h' q = some (.inr (11, [.int 0, .int 1, .ref n, .int 0, .ref (n + 1), .int 0, .ref (n + 2), .ref (n + 3), .ref (n + 4), .ref (n + 5), .ref (n + 6), .ref (n + 7), .ref (n + 8), .ref (n + 9), .ref (n + 10), .ref (n + 11), .ref (n + 12), .ref (n + 13), .int 0, .int 0, .int 0, .ref (n + 14), .ref (n + 15), .ref (n + 16), .ref (n + 17), .ref (n + 18), .ref (n + 19), .ref (n + 20), .ref (n + 21), .ref (n + 22), .ref (n + 23), .ref (n + 24), .ref (n + 25), .ref (n + 26), .ref (n + 27), .ref (n + 28), .int 0, .ref (n + 29), .ref (n + 30), .ref (n + 31), .null, .null, .null, .int 0, .int 0, .int 0])) ∧ (∀ j, j < 32 → h' (n + j) = some (md_c dA j)) ∧ ∀ x, x < n → x ≠ q → h' x = h x) (md_step (k := 31) (f := md_c dA) hqn T31 A31 F31) (rfl : _ = n + 32) (rfl : _ = 32) (rfl : _ = 22799) (fun h32 P32 => ?_)
  obtain ⟨T32, A32, F32⟩ := P32
  refine z_aload_n C dd_Q_init_269 rfl ?_
  refine z_bipush (v := 9) C dd_Q_init_270 (by decide) ?_
  refine na_int (N := 9) C dd_Q_init_272 (by decide) (by decide) (by decide) (by decide) (by decide) ?_
  refine pf_Q_112 C dd_Q_init_274 ((zz_un (by omega)).trans T32) (Nat.le_of_ble_eq_true rfl) rfl rfl ?_
  refine z_cut (fun h' => h' q = some (.inr (11, [.int 0, .int 1, .ref n, .int 0, .ref (n + 1), .int 0, .ref (n + 2), .ref (n + 3), .ref (n + 4), .ref (n + 5), .ref (n + 6), .ref (n + 7), .ref (n + 8), .ref (n + 9), .ref (n + 10), .ref (n + 11), .ref (n + 12), .ref (n + 13), .int 0, .int 0, .int 0, .ref (n + 14), .ref (n + 15), .ref (n + 16), .ref (n + 17), .ref (n + 18), .ref (n + 19), .ref (n + 20), .ref (n + 21), .ref (n + 22), .ref (n + 23), .ref (n + 24), .ref (n + 25), .ref (n + 26), .ref (n + 27), .ref (n + 28), .int 0, .ref (n + 29), .ref (n + 30), .ref (n + 31), .ref (n + 32), .null, .null, .int 0, .int 0, .int 0])) ∧ (∀ j, j < 33 → h' (n + j) = some (md_c dA j)) ∧ ∀ x, x < n → x ≠ q → h' x = h x) (md_step (k := 32) (f := md_c dA) hqn T32 A32 F32) (rfl : _ = n + 33) (rfl : _ = 33) (rfl : _ = 22808) (fun h33 P33 => ?_)
  obtain ⟨T33, A33, F33⟩ := P33
  refine z_aload_n C dd_Q_init_277 rfl ?_
  refine z_bipush (v := 9) C dd_Q_init_278 (by decide) ?_
  refine na_int (N := 9) C dd_Q_init_280 (by decide) (by decide) (by decide) (by decide) (by decide) ?_
  refine pf_Q_115 C dd_Q_init_282 ((zz_un (by omega)).trans T33) (Nat.le_of_ble_eq_true rfl) rfl rfl ?_
  refine z_cut (fun h' => h' q = some (.inr (11, [.int 0, .int 1, .ref n, .int 0, .ref (n + 1), .int 0, .ref (n + 2), .ref (n + 3), .ref (n + 4), .ref (n + 5), .ref (n + 6), .ref (n + 7), .ref (n + 8), .ref (n + 9), .ref (n + 10), .ref (n + 11), .ref (n + 12), .ref (n + 13), .int 0, .int 0, .int 0, .ref (n + 14), .ref (n + 15), .ref (n + 16), .ref (n + 17), .ref (n + 18), .ref (n + 19), .ref (n + 20), .ref (n + 21), .ref (n + 22), .ref (n + 23), .ref (n + 24), .ref (n + 25), .ref (n + 26), .ref (n + 27), .ref (n + 28), .int 0, .ref (n + 29), .ref (n + 30), .ref (n + 31), .ref (n + 32), .ref (n + 33), .null, .int 0, .int 0, .int 0])) ∧ (∀ j, j < 34 → h' (n + j) = some (md_c dA j)) ∧ ∀ x, x < n → x ≠ q → h' x = h x) (md_step (k := 33) (f := md_c dA) hqn T33 A33 F33) (rfl : _ = n + 34) (rfl : _ = 34) (rfl : _ = 22817) (fun h34 P34 => ?_)
  obtain ⟨T34, A34, F34⟩ := P34
  refine z_aload_n C dd_Q_init_285 rfl ?_
  refine z_bipush (v := 54) C dd_Q_init_286 (by decide) ?_
  refine na_int (N := 54) C dd_Q_init_288 (by decide) (by decide) (by decide) (by decide) (by decide) ?_
  refine pf_Q_118 C dd_Q_init_290 ((zz_un (by omega)).trans T34) (Nat.le_of_ble_eq_true rfl) rfl rfl ?_
  refine z_cut (fun h' => h' q = some (.inr (11, [.int 0, .int 1, .ref n, .int 0, .ref (n + 1), .int 0, .ref (n + 2), .ref (n + 3), .ref (n + 4), .ref (n + 5), .ref (n + 6), .ref (n + 7), .ref (n + 8), .ref (n + 9), .ref (n + 10), .ref (n + 11), .ref (n + 12), .ref (n + 13), .int 0, .int 0, .int 0, .ref (n + 14), .ref (n + 15), .ref (n + 16), .ref (n + 17), .ref (n + 18), .ref (n + 19), .ref (n + 20), .ref (n + 21), .ref (n + 22), .ref (n + 23), .ref (n + 24), .ref (n + 25), .ref (n + 26), .ref (n + 27), .ref (n + 28), .int 0, .ref (n + 29), .ref (n + 30), .ref (n + 31), .ref (n + 32), .ref (n + 33), .ref (n + 34), .int 0, .int 0, .int 0])) ∧ (∀ j, j < 35 → h' (n + j) = some (md_c dA j)) ∧ ∀ x, x < n → x ≠ q → h' x = h x) (md_step (k := 34) (f := md_c dA) hqn T34 A34 F34) (rfl : _ = n + 35) (rfl : _ = 35) (rfl : _ = 22871) (fun h35 P35 => ?_)
  obtain ⟨T35, A35, F35⟩ := P35
  exact z_vret C dd_Q_init_293 ⟨rfl, T35, A35, F35⟩ (by decide) (by decide)
