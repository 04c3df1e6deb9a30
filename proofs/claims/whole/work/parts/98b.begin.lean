/-! where both begin -/
def lx_A (dA : Nat → ClassId) (b0 n : Nat) (h : zz_H) : Prop := ∃ f ad ng nM na no X Y Z F I J nc oc ow, lx_M dA b0 n h f ad ng nM na no X Y Z F I J nc oc ow
def lx_a0 (b : Nat) (k i : Nat) : Nat := if k = 9 then b + 9 + 2 * i else if k = 10 then b + 10 + 2 * i else b + k
def lx_X0 : dk_X := fun k _ => if k = 1 then upd (fun _ => 0) 1 1 else if k = 2 then upd (fun _ => 0) 0 1 else fun _ => 0
def lx_Z0 (ff : Nat → Option Nat) : dk_Z := fun k _ => if k = 8 then ff else fun _ => none
def lx_F0 : Nat → Int32 := fun k => if k = 1 then 1 else 0
theorem dk_lv0 {na no : Nat → Nat} {k i : Nat} : dk_lv 0 0 na no k i → (k < 9 ∧ i = 0) ∨ (k = 9 ∧ i < 8) ∨ (k = 10 ∧ i < 8) := by
  unfold dk_lv
  split <;> intro h <;> first | exact Or.inl ⟨by decide, h⟩ | exact Or.inr (Or.inl ⟨rfl, h⟩) | exact Or.inr (Or.inr ⟨rfl, h⟩) | exact absurd h (Nat.not_lt_zero _) | exact absurd h.1 (Nat.not_lt_zero _) | exact h.elim
theorem md_c0 {dA : Nat → ClassId} {k : Nat} (hk : k < 35) : md_c dA k = md_ar dA (fun _ _ => 0) (fun _ _ => 0) k := by
  rcases (show k = 0 ∨ k = 1 ∨ k = 2 ∨ k = 3 ∨ k = 4 ∨ k = 5 ∨ k = 6 ∨ k = 7 ∨ k = 8 ∨ k = 9 ∨ k = 10 ∨ k = 11 ∨ k = 12 ∨ k = 13 ∨ k = 14 ∨ k = 15 ∨ k = 16 ∨ k = 17 ∨ k = 18 ∨ k = 19 ∨ k = 20 ∨ k = 21 ∨ k = 22 ∨ k = 23 ∨ k = 24 ∨ k = 25 ∨ k = 26 ∨ k = 27 ∨ k = 28 ∨ k = 29 ∨ k = 30 ∨ k = 31 ∨ k = 32 ∨ k = 33 ∨ k = 34 by omega) with rfl | rfl | rfl | rfl | rfl | rfl | rfl | rfl | rfl | rfl | rfl | rfl | rfl | rfl | rfl | rfl | rfl | rfl | rfl | rfl | rfl | rfl | rfl | rfl | rfl | rfl | rfl | rfl | rfl | rfl | rfl | rfl | rfl | rfl | rfl <;> rfl
theorem lx_ST0 {b : Nat} {ff : Nat → Option Nat} (gf : ∀ j, j < 8 → ff j = some (b + 9 + 2 * j)) : dk_ST lx_F0 (lx_a0 b) 0 0 (fun _ => 0) (fun _ => 0) lx_X0 (fun _ _ _ => 0) (lx_Z0 ff) (fun _ _ => 0) 1 (fun _ => 0) (fun _ _ => 0) := by
  refine ⟨⟨⟨?_, ⟨⟨rfl, ?_⟩, by omega, by omega, by omega, fun m hm => absurd hm (Nat.not_lt_zero _)⟩, fun m hm => absurd hm (Nat.not_lt_zero _)⟩, fun g hg => absurd hg (Nat.not_lt_zero _), ⟨rfl, rfl, fun g hg => absurd hg (Nat.not_lt_zero _), fun m hm => absurd hm (Nat.not_lt_zero _), fun j hj => gf j hj⟩, fun m hm => absurd hm (Nat.not_lt_zero _)⟩, ?_, ⟨rfl, Or.inl rfl, rfl, rfl⟩⟩
  · exact ⟨by omega, by omega, rfl, by omega, rfl, by omega, rfl, fun j h1 h2 => absurd h1 (by omega), fun g hg => absurd hg (Nat.not_lt_zero _), fun m hm => absurd hm (Nat.not_lt_zero _), fun m hm => absurd hm (Nat.not_lt_zero _)⟩
  · intro c d hc hd
    have e : c = 0 := by omega
    subst e
    rcases (show d = 0 ∨ d = 1 ∨ d = 2 ∨ d = 3 ∨ d = 4 ∨ d = 5 ∨ d = 6 ∨ d = 7 by omega) with rfl | rfl | rfl | rfl | rfl | rfl | rfl | rfl <;> decide
  · exact ⟨⟨fun g ar hg => absurd hg (Nat.not_lt_zero _), fun g h1 h2 => rfl⟩, fun m h1 h2 => ⟨rfl, rfl⟩, fun g h1 h2 => rfl, fun g hg => absurd hg (Nat.not_lt_zero _), fun g hg => ⟨0, by omega, rfl⟩, fun m hm => absurd hm (Nat.not_lt_zero _)⟩
theorem lx_begin {dA : Nat → ClassId} {b n : Nat} {h : zz_H} {ff : Nat → Option Nat} {f : Nat → Int64} (d0 : h b = some (.inr (0, [.ref (b + 1), .ref (b + 3), .int 0, .ref (b + 4), .int 0, .ref (b + 5), .ref (b + 7), .int 0, .int 0, .int 0]))) (d1 : h (b + 1) = some (.inr (1, [.ref (b + 2), .int 1]))) (d2 : h (b + 2) = some (.inl (dA 0, 8, .inl (upd (fun _ => 0) 0 1)))) (d3 : h (b + 3) = some (.inl (dA 3, 4, .inr (.inr (.inr (.inr (fun _ => none))))))) (d4 : h (b + 4) = some (.inl (dA 4, 12, .inr (.inr (.inr (.inr (fun _ => none))))))) (d5 : h (b + 5) = some (.inr (8, [.ref (b + 6)]))) (d6 : h (b + 6) = some (.inl (dA 1, 4096, .inr (.inl (fun _ => 0))))) (d7 : h (b + 7) = some (.inr (10, [.int 0, .int 0, .null, .null, .ref (b + 8)]))) (d8 : h (b + 8) = some (.inl (dA 7, 8, .inr (.inr (.inr (.inr ff)))))) (gf : ∀ j, j < 8 → ff j = some (b + 9 + 2 * j)) (dj : ∀ j, j < 8 → h (b + 9 + 2 * j) = some (.inr (9, [.null, .int 0, .int 0, .ref (b + 10 + 2 * j), .int 0])) ∧ h (b + 10 + 2 * j) = some (.inl (dA 0, 6, .inl (fun _ => 0)))) (T : h (b + 25) = some (.inr (11, md_o (b + 26)))) (A : ∀ k, k < 35 → h (b + 26 + k) = some (md_c dA k)) (r : h (b + 61) = some (.inl (dA 1, 1, .inr (.inl f)))) (hn : b + 62 ≤ n) : lx_A dA b n h := by
  refine ⟨f, lx_a0 b, 0, 0, fun _ => 0, fun _ => 0, lx_X0, fun _ _ _ => 0, lx_Z0 ff, lx_F0, fun _ _ => 0, fun _ _ => 0, 1, fun _ => 0, fun _ _ => 0, ⟨⟨fun k i l => ?_, fun k i k' i' l l' e => ?_⟩, fun k i l => ?_, rfl, ⟨T, fun k hk => ?_⟩, r, hn⟩, lx_ST0 gf, Or.inl rfl⟩
  · rcases dk_lv0 l with ⟨h1, rfl⟩ | ⟨rfl, h2⟩ | ⟨rfl, h2⟩
    · rcases (show k = 0 ∨ k = 1 ∨ k = 2 ∨ k = 3 ∨ k = 4 ∨ k = 5 ∨ k = 6 ∨ k = 7 ∨ k = 8 by omega) with rfl | rfl | rfl | rfl | rfl | rfl | rfl | rfl | rfl
      · exact d0
      · exact d1
      · exact d2
      · exact d3
      · exact d4
      · exact d5
      · exact d6
      · exact d7
      · exact d8
    · exact (dj i h2).1
    · exact (dj i h2).2
  · have h1 := dk_lv0 l
    have h2 := dk_lv0 l'
    unfold lx_a0 at e
    (repeat' split at e) <;> omega
  · have h1 := dk_lv0 l
    unfold lx_a0
    (repeat' split) <;> omega
  · exact (A k hk).trans (congrArg some (md_c0 hk))
