/-! The desk's whole memory: cells by kind and number (dk_cl); X their ints, Y their longs, Z their references; ad where they lie; lv which there are. -/
abbrev dk_X : Type := Nat → Nat → Nat → Int32
abbrev dk_Y : Type := Nat → Nat → Nat → Int64
abbrev dk_Z : Type := Nat → Nat → Nat → Option Nat
def dk_cl (dA : Nat → ClassId) (ad : Nat → Nat → Nat) (k i : Nat) (x : Nat → Int32) (y : Nat → Int64) (z : Nat → Option Nat) : va_E := match k with
  | 0 => .inr (0, [.ref (ad 1 0), .ref (ad 3 0), .int (x 2), .ref (ad 4 0), .int (x 4), .ref (ad 5 0), .ref (ad 7 0), .int (x 7), .int (x 8), .int (x 9)])
  | 1 => .inr (1, [.ref (ad 2 0), .int (x 1)])
  | 2 => .inl (dA 0, 8, .inl x)
  | 3 => .inl (dA 3, 4, .inr (.inr (.inr (.inr z))))
  | 4 => .inl (dA 4, 12, .inr (.inr (.inr (.inr z))))
  | 5 => .inr (8, [.ref (ad 6 0)])
  | 6 => .inl (dA 1, 4096, .inr (.inl y))
  | 7 => .inr (10, [.int (x 0), .int (x 1), va_rf (z 2), va_rf (z 3), .ref (ad 8 0)])
  | 8 => .inl (dA 7, 8, .inr (.inr (.inr (.inr z))))
  | 9 => .inr (9, [va_rf (z 0), .int (x 1), .int (x 2), .ref (ad 10 i), .int (x 4)])
  | 10 => .inl (dA 0, 6, .inl x)
  | 20 => .inr (6, [.int (x 0), .ref (ad 26 i), .ref (ad 21 i), .ref (ad 1 0), .ref (ad 25 i), .int (x 5), .int (x 6), .int (x 7), .int (x 8), .long (y 9), .int (x 10)])
  | 21 => .inr (7, [.ref (ad 22 i), .ref (ad 23 i), .ref (ad 24 i), .int (x 3)])
  | 22 => .inl (dA 0, 80, .inl x)
  | 23 => .inl (dA 0, 80, .inl x)
  | 24 => .inl (dA 0, 80, .inl x)
  | 25 => .inl (dA 4, 12, .inr (.inr (.inr (.inr z))))
  | 26 => .inr (5, [.ref (ad 1 0), .ref (ad 27 i), .int (x 2), .ref (ad 28 i), .ref (ad 29 i), .long (y 5), .long (y 6)])
  | 27 => .inl (dA 5, 48, .inr (.inr (.inr (.inr z))))
  | 28 => .inl (dA 1, 64, .inr (.inl y))
  | 29 => .inl (dA 1, 64, .inr (.inl y))
  | 30 => .inr (4, [.int (x 0), .ref ((z 1).getD 0), .ref (ad 31 i), .int (x 3), .ref (ad 32 i), .int (x 5), .long (y 6), .long (y 7), .int (x 8), .int (x 9)])
  | 31 => .inl (dA 5, 4, .inr (.inr (.inr (.inr z))))
  | 32 => .inl (dA 6, 8, .inr (.inr (.inr (.inr z))))
  | 33 => .inr (2, [.int (x 0), .int (x 1), .int (x 2), .int (x 3)])
  | _ => .inr (3, [.int (x 0), .int (x 1)])
/-- a slot anew -/
def dk_is {α : Type} (X : Nat → Nat → Nat → α) (k i : Nat) (f : Nat → α) : Nat → Nat → Nat → α := fun k' i' => if k' = k ∧ i' = i then f else X k' i'
theorem dk_s {α : Type} {X : Nat → Nat → Nat → α} {k i : Nat} {f : Nat → α} : dk_is X k i f k i = f := if_pos ⟨rfl, rfl⟩
theorem dk_n {α : Type} {X : Nat → Nat → Nat → α} {k i k' i' : Nat} {f : Nat → α} (h : ¬ (k' = k ∧ i' = i)) : dk_is X k i f k' i' = X k' i' := if_neg h
theorem dk_ni {α : Type} {X : Nat → Nat → Nat → α} {k i i' : Nat} {f : Nat → α} (h : ¬ i' = i) : dk_is X k i f k i' = X k i' := if_neg (fun z => h z.2)
theorem dk_ii {α : Type} {X : Nat → Nat → Nat → α} {k i : Nat} {f g : Nat → α} : dk_is (dk_is X k i f) k i g = dk_is X k i g := by
  funext k' i'
  unfold dk_is
  split <;> rfl
theorem dk_id {α : Type} {X : Nat → Nat → Nat → α} {k i : Nat} : dk_is X k i (X k i) = X := by
  funext k' i'
  unfold dk_is
  split
  · rename_i z
    rw [z.1, z.2]
  · rfl
def dk_P (dA : Nat → ClassId) (ad : Nat → Nat → Nat) (lv : Nat → Nat → Prop) (X : dk_X) (Y : dk_Y) (Z : dk_Z) (h : zz_H) : Prop := (∀ k i, lv k i → h (ad k i) = some (dk_cl dA ad k i (X k i) (Y k i) (Z k i))) ∧ ∀ k i k' i', lv k i → lv k' i' → ad k i = ad k' i' → k = k' ∧ i = i'
/-- .. and what isn't the desk's stands as in h0 -/
def dk_K (dA : Nat → ClassId) (ad : Nat → Nat → Nat) (lv : Nat → Nat → Prop) (X : dk_X) (Y : dk_Y) (Z : dk_Z) (h0 h : zz_H) : Prop := dk_P dA ad lv X Y Z h ∧ ∀ a, (∀ k i, lv k i → a ≠ ad k i) → h a = h0 a
section DK
variable {dA : Nat → ClassId} {ad : Nat → Nat → Nat} {lv : Nat → Nat → Prop} {X X' : dk_X} {Y Y' : dk_Y} {Z Z' : dk_Z} {h0 h h' : zz_H}
theorem dk_rf (hP : dk_P dA ad lv X Y Z h) : dk_K dA ad lv X Y Z h h := ⟨hP, fun _ _ => rfl⟩
theorem dk_tr (h1 : dk_K dA ad lv X Y Z h0 h) (h2 : dk_K dA ad lv X' Y' Z' h h') : dk_K dA ad lv X' Y' Z' h0 h' := ⟨h2.1, fun a ha => (h2.2 a ha).trans (h1.2 a ha)⟩
theorem dk_rd {k i : Nat} {x : Nat → Int32} {y : Nat → Int64} {z : Nat → Option Nat} (hP : dk_K dA ad lv X Y Z h0 h) (hl : lv k i) (ex : X k i = x) (ey : Y k i = y) (ez : Z k i = z) : h (ad k i) = some (dk_cl dA ad k i x y z) := by
  subst ex
  subst ey
  subst ez
  exact hP.1.1 k i hl
theorem dk_w {k i : Nat} {o : va_E} (hP : dk_K dA ad lv X Y Z h0 h) (hl : lv k i) (e : o = dk_cl dA ad k i (X' k i) (Y' k i) (Z' k i)) (n : ∀ k' i', ¬ (k' = k ∧ i' = i) → X' k' i' = X k' i' ∧ Y' k' i' = Y k' i' ∧ Z' k' i' = Z k' i') : dk_K dA ad lv X' Y' Z' h0 (zz_up h (ad k i) o) := by
  subst e
  refine ⟨⟨fun k' i' hl' => ?_, hP.1.2⟩, fun a ha => ?_⟩
  · by_cases c : k' = k ∧ i' = i
    · obtain ⟨rfl, rfl⟩ := c
      exact zz_us _ _ _
    · rw [zz_un (fun z => c (hP.1.2 k' i' k i hl' hl z)), (n k' i' c).1, (n k' i' c).2.1, (n k' i' c).2.2]
      exact hP.1.1 k' i' hl'
  · rw [zz_un (ha k i hl)]
    exact hP.2 a ha
theorem dk_wX {k i : Nat} {o : va_E} {f : Nat → Int32} {y : Nat → Int64} {z : Nat → Option Nat} (hP : dk_K dA ad lv X Y Z h0 h) (hl : lv k i) (ey : Y k i = y) (ez : Z k i = z) (e : o = dk_cl dA ad k i f y z) : dk_K dA ad lv (dk_is X k i f) Y Z h0 (zz_up h (ad k i) o) := dk_w hP hl (by rw [dk_s, ey, ez]; exact e) (fun k' i' c => ⟨dk_n c, rfl, rfl⟩)
theorem dk_wY {k i : Nat} {o : va_E} {f : Nat → Int64} {x : Nat → Int32} {z : Nat → Option Nat} (hP : dk_K dA ad lv X Y Z h0 h) (hl : lv k i) (ex : X k i = x) (ez : Z k i = z) (e : o = dk_cl dA ad k i x f z) : dk_K dA ad lv X (dk_is Y k i f) Z h0 (zz_up h (ad k i) o) := dk_w hP hl (by rw [dk_s, ex, ez]; exact e) (fun k' i' c => ⟨rfl, dk_n c, rfl⟩)
theorem dk_wZ {k i : Nat} {o : va_E} {f : Nat → Option Nat} {x : Nat → Int32} {y : Nat → Int64} (hP : dk_K dA ad lv X Y Z h0 h) (hl : lv k i) (ex : X k i = x) (ey : Y k i = y) (e : o = dk_cl dA ad k i x y f) : dk_K dA ad lv X Y (dk_is Z k i f) h0 (zz_up h (ad k i) o) := dk_w hP hl (by rw [dk_s, ex, ey]; exact e) (fun k' i' c => ⟨rfl, rfl, dk_n c⟩)
theorem dk_eX (hP : dk_K dA ad lv X Y Z h0 h) (e : X = X') : dk_K dA ad lv X' Y Z h0 h := e ▸ hP
theorem dk_eY (hP : dk_K dA ad lv X Y Z h0 h) (e : Y = Y') : dk_K dA ad lv X Y' Z h0 h := e ▸ hP
theorem dk_eZ (hP : dk_K dA ad lv X Y Z h0 h) (e : Z = Z') : dk_K dA ad lv X Y Z' h0 h := e ▸ hP
end DK
/-- which cells there are: na atoms and no operations of each method -/
def dk_lv (ng nM : Nat) (na no : Nat → Nat) (k i : Nat) : Prop := match k with
  | 0 => i = 0
  | 1 => i = 0
  | 2 => i = 0
  | 3 => i = 0
  | 4 => i = 0
  | 5 => i = 0
  | 6 => i = 0
  | 7 => i = 0
  | 8 => i = 0
  | 9 => i < 8
  | 10 => i < 8
  | 20 => i < ng
  | 21 => i < ng
  | 22 => i < ng
  | 23 => i < ng
  | 24 => i < ng
  | 25 => i < ng
  | 26 => i < ng
  | 27 => i < ng
  | 28 => i < ng
  | 29 => i < ng
  | 30 => i < nM
  | 31 => i < nM
  | 32 => i < nM
  | 33 => i / 4 < nM ∧ i % 4 < na (i / 4)
  | 34 => i / 8 < nM ∧ i % 8 < no (i / 8)
  | _ => False
