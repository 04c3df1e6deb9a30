/-! new cells of the desk -/
theorem dk_cl_cg {dA : Nat → ClassId} {ad ad' : Nat → Nat → Nat} {k i : Nat} {x : Nat → Int32} {y : Nat → Int64} {z : Nat → Option Nat} (h0 : ∀ k', k' < 9 → ad' k' 0 = ad k' 0) (h9 : k = 9 → ad' 10 i = ad 10 i) (h2 : (k = 20 ∨ k = 21 ∨ k = 26) → ∀ k', 20 ≤ k' → k' ≤ 29 → ad' k' i = ad k' i) (h3 : k = 30 → ad' 31 i = ad 31 i ∧ ad' 32 i = ad 32 i) : dk_cl dA ad' k i x y z = dk_cl dA ad k i x y z := by
  have e1 := h0 1 (by decide)
  have e2 := h0 2 (by decide)
  have e3 := h0 3 (by decide)
  have e4 := h0 4 (by decide)
  have e5 := h0 5 (by decide)
  have e6 := h0 6 (by decide)
  have e7 := h0 7 (by decide)
  have e8 := h0 8 (by decide)
  by_cases c0 : k = 0
  · subst c0; unfold dk_cl; simp only [e1, e3, e4, e5, e7]
  by_cases c1 : k = 1
  · subst c1; unfold dk_cl; simp only [e2]
  by_cases c5 : k = 5
  · subst c5; unfold dk_cl; simp only [e6]
  by_cases c7 : k = 7
  · subst c7; unfold dk_cl; simp only [e8]
  by_cases c9 : k = 9
  · subst c9; unfold dk_cl; simp only [h9 rfl]
  by_cases c20 : k = 20
  · subst c20
    have f := h2 (by omega)
    unfold dk_cl; simp only [e1, f 26 (by decide) (by decide), f 21 (by decide) (by decide), f 25 (by decide) (by decide)]
  by_cases c21 : k = 21
  · subst c21
    have f := h2 (by omega)
    unfold dk_cl; simp only [f 22 (by decide) (by decide), f 23 (by decide) (by decide), f 24 (by decide) (by decide)]
  by_cases c26 : k = 26
  · subst c26
    have f := h2 (by omega)
    unfold dk_cl; simp only [e1, f 27 (by decide) (by decide), f 28 (by decide) (by decide), f 29 (by decide) (by decide)]
  by_cases c30 : k = 30
  · subst c30
    obtain ⟨f1, f2⟩ := h3 rfl
    unfold dk_cl; simp only [f1, f2]
  unfold dk_cl
  split <;> first | rfl | (exfalso; omega)
theorem dk_grow {dA : Nat → ClassId} {ad ad' : Nat → Nat → Nat} {lv lv' N : Nat → Nat → Prop} {X X' : dk_X} {Y Y' : dk_Y} {Z Z' : dk_Z} {h h' : zz_H} {n : Nat} (hP : dk_P dA ad lv X Y Z h) (h1 : ∀ k i, lv' k i → lv k i ∨ N k i) (hd : ∀ k i, lv k i → ¬ N k i) (hN : ∀ k i, N k i → h' (ad' k i) = some (dk_cl dA ad' k i (X' k i) (Y' k i) (Z' k i)) ∧ n ≤ ad' k i) (hNi : ∀ k i k' i', N k i → N k' i' → ad' k i = ad' k' i' → k = k' ∧ i = i') (ho : ∀ k i, lv k i → ad' k i = ad k i ∧ X' k i = X k i ∧ Y' k i = Y k i ∧ Z' k i = Z k i ∧ dk_cl dA ad' k i (X k i) (Y k i) (Z k i) = dk_cl dA ad k i (X k i) (Y k i) (Z k i)) (hlt : ∀ k i, lv k i → ad k i < n) (hf : ∀ a, a < n → h' a = h a) : dk_P dA ad' lv' X' Y' Z' h' := by
  refine ⟨fun k i hl => ?_, fun k i k' i' hl hl' e => ?_⟩
  · rcases h1 k i hl with z | z
    · obtain ⟨a1, a2, a3, a4, a5⟩ := ho k i z
      rw [a1, a2, a3, a4, a5, hf _ (hlt k i z)]
      exact hP.1 k i z
    · exact (hN k i z).1
  · rcases h1 k i hl with z | z <;> rcases h1 k' i' hl' with w | w
    · rw [(ho k i z).1, (ho k' i' w).1] at e
      exact hP.2 k i k' i' z w e
    · have q1 := (hN k' i' w).2
      have q2 := hlt k i z
      rw [(ho k i z).1] at e
      omega
    · have q1 := (hN k i z).2
      have q2 := hlt k' i' w
      rw [(ho k' i' w).1] at e
      omega
    · exact hNi k i k' i' z w e
/-! .. a generic -/
abbrev dk_NG (ng k i : Nat) : Prop := (20 ≤ k ∧ k ≤ 29) ∧ i = ng
def dk_aG (ad : Nat → Nat → Nat) (ng n : Nat) : Nat → Nat → Nat := fun k i => if dk_NG ng k i then n + (k - 20) else ad k i
def dk_xG (X : dk_X) (ng : Nat) (a : Int32) : dk_X := fun k i => if dk_NG ng k i then (if k = 20 then upd (fun _ => 0) 0 a else fun _ => 0) else X k i
def dk_yG (Y : dk_Y) (ng : Nat) : dk_Y := fun k i => if dk_NG ng k i then (fun _ => 0) else Y k i
def dk_zG (Z : dk_Z) (ng : Nat) : dk_Z := fun k i => if dk_NG ng k i then (fun _ => none) else Z k i
theorem dk_lv_G {ng nM : Nat} {na no : Nat → Nat} {k i : Nat} : dk_lv (ng + 1) nM na no k i → dk_lv ng nM na no k i ∨ dk_NG ng k i := by
  unfold dk_lv
  split <;> intro h <;> first | exact Or.inl h | (by_cases c : i < ng <;> first | exact Or.inl c | exact Or.inr ⟨by decide, by omega⟩)
theorem dk_lv_nG {ng nM : Nat} {na no : Nat → Nat} {k i : Nat} : dk_lv ng nM na no k i → ¬ dk_NG ng k i := by
  unfold dk_lv
  split <;> intro h z <;> obtain ⟨⟨z1, z2⟩, z3⟩ := z <;> omega
theorem dk_newG {dA : Nat → ClassId} {ad : Nat → Nat → Nat} {ng nM : Nat} {na no : Nat → Nat} {X : dk_X} {Y : dk_Y} {Z : dk_Z} {h h' : zz_H} {n : Nat} {a : Int32} (hP : dk_P dA ad (dk_lv ng nM na no) X Y Z h) (hlt : ∀ k i, dk_lv ng nM na no k i → ad k i < n) (hf : ∀ a, a < n → h' a = h a)
    (g0 : h' n = some (.inr (6, [.int a, .ref (n + 1 + 5), .ref (n + 1), .ref (ad 1 0), .ref (n + 1 + 4), .int 0, .int 0, .int 0, .int 0, .long 0, .int 0]))) (g1 : h' (n + 1) = some (.inr (7, [.ref (n + 1 + 1), .ref (n + 1 + 2), .ref (n + 1 + 3), .int 0]))) (g2 : h' (n + 1 + 1) = some (.inl (dA 0, 80, .inl (fun _ => 0)))) (g3 : h' (n + 1 + 2) = some (.inl (dA 0, 80, .inl (fun _ => 0)))) (g4 : h' (n + 1 + 3) = some (.inl (dA 0, 80, .inl (fun _ => 0)))) (g5 : h' (n + 1 + 4) = some (.inl (dA 4, 12, .inr (.inr (.inr (.inr (fun _ => none))))))) (g6 : h' (n + 1 + 5) = some (.inr (5, [.ref (ad 1 0), .ref (n + 1 + 6), .int 0, .ref (n + 1 + 7), .ref (n + 1 + 8), .long 0, .long 0]))) (g7 : h' (n + 1 + 6) = some (.inl (dA 5, 48, .inr (.inr (.inr (.inr (fun _ => none))))))) (g8 : h' (n + 1 + 7) = some (.inl (dA 1, 64, .inr (.inl (fun _ => 0))))) (g9 : h' (n + 1 + 8) = some (.inl (dA 1, 64, .inr (.inl (fun _ => 0))))) :
    dk_P dA (dk_aG ad ng n) (dk_lv (ng + 1) nM na no) (dk_xG X ng a) (dk_yG Y ng) (dk_zG Z ng) h' := by
  have ea : ∀ k, 20 ≤ k → k ≤ 29 → dk_aG ad ng n k ng = n + (k - 20) := fun k c1 c2 => if_pos ⟨⟨c1, c2⟩, rfl⟩
  have e1 : dk_aG ad ng n 1 0 = ad 1 0 := if_neg (by omega)
  have e20 := ea 20 (by decide) (by decide)
  have e21 := ea 21 (by decide) (by decide)
  have e22 := ea 22 (by decide) (by decide)
  have e23 := ea 23 (by decide) (by decide)
  have e24 := ea 24 (by decide) (by decide)
  have e25 := ea 25 (by decide) (by decide)
  have e26 := ea 26 (by decide) (by decide)
  have e27 := ea 27 (by decide) (by decide)
  have e28 := ea 28 (by decide) (by decide)
  have e29 := ea 29 (by decide) (by decide)
  refine dk_grow (N := dk_NG ng) (n := n) hP (fun k i => dk_lv_G) (fun k i => dk_lv_nG) (fun k i hN => ?_) (fun k i k' i' z w e => ?_) (fun k i hl => ?_) hlt hf
  · obtain ⟨⟨c1, c2⟩, rfl⟩ := hN
    refine ⟨?_, by rw [ea k c1 c2]; omega⟩
    have x0 : dk_xG X i a k i = (if k = 20 then upd (fun _ => 0) 0 a else fun _ => 0) := if_pos ⟨⟨c1, c2⟩, rfl⟩
    have y0 : dk_yG Y i k i = fun _ => 0 := if_pos ⟨⟨c1, c2⟩, rfl⟩
    have z0 : dk_zG Z i k i = fun _ => none := if_pos ⟨⟨c1, c2⟩, rfl⟩
    rw [x0, y0, z0]
    rcases (show k = 20 ∨ k = 21 ∨ k = 22 ∨ k = 23 ∨ k = 24 ∨ k = 25 ∨ k = 26 ∨ k = 27 ∨ k = 28 ∨ k = 29 by omega) with rfl | rfl | rfl | rfl | rfl | rfl | rfl | rfl | rfl | rfl
    · rw [e20]
      unfold dk_cl
      simp only [e1, e26, e21, e25]
      exact g0
    · rw [e21]
      unfold dk_cl
      simp only [e22, e23, e24]
      exact g1
    · rw [e22]; exact g2
    · rw [e23]; exact g3
    · rw [e24]; exact g4
    · rw [e25]; exact g5
    · rw [e26]
      unfold dk_cl
      simp only [e1, e27, e28, e29]
      exact g6
    · rw [e27]; exact g7
    · rw [e28]; exact g8
    · rw [e29]; exact g9
  · obtain ⟨⟨c1, c2⟩, rfl⟩ := z
    obtain ⟨⟨d1, d2⟩, rfl⟩ := w
    rw [ea k c1 c2, ea k' d1 d2] at e
    exact ⟨by omega, rfl⟩
  · have c := dk_lv_nG hl
    refine ⟨if_neg c, if_neg c, if_neg c, if_neg c, dk_cl_cg (fun k' hk' => if_neg (by omega)) (fun _ => if_neg (by omega)) (fun hk k' c1 c2 => if_neg (fun z => c ⟨by omega, z.2⟩)) (fun _ => ⟨if_neg (by omega), if_neg (by omega)⟩)⟩
/-! .. a method -/
abbrev dk_NM (nM k i : Nat) : Prop := (30 ≤ k ∧ k ≤ 32) ∧ i = nM
def dk_aM (ad : Nat → Nat → Nat) (nM n : Nat) : Nat → Nat → Nat := fun k i => if dk_NM nM k i then n + (k - 30) else ad k i
def dk_xM (X : dk_X) (nM : Nat) (a : Int32) : dk_X := fun k i => if dk_NM nM k i then (if k = 30 then upd (fun _ => 0) 0 a else fun _ => 0) else X k i
def dk_yM (Y : dk_Y) (nM : Nat) : dk_Y := fun k i => if dk_NM nM k i then (fun _ => 0) else Y k i
def dk_zM (Z : dk_Z) (nM o : Nat) : dk_Z := fun k i => if dk_NM nM k i then (if k = 30 then va_up (fun _ => none) 1 (some o) else fun _ => none) else Z k i
/-- a method's row anew -/
def dk_0 (f : Nat → Nat) (nM : Nat) : Nat → Nat := fun i => if i = nM then 0 else f i
theorem dk_lv_M {ng nM : Nat} {na no : Nat → Nat} {k i : Nat} : dk_lv ng (nM + 1) (dk_0 na nM) (dk_0 no nM) k i → dk_lv ng nM na no k i ∨ dk_NM nM k i := by
  unfold dk_lv
  split <;> intro h <;> first | exact Or.inl h | (by_cases c : i < nM <;> first | exact Or.inl c | exact Or.inr ⟨by decide, by omega⟩) | skip
  · by_cases c : i / 4 = nM
    · unfold dk_0 at h
      rw [if_pos c] at h
      omega
    · unfold dk_0 at h
      rw [if_neg c] at h
      exact Or.inl ⟨by omega, h.2⟩
  · by_cases c : i / 8 = nM
    · unfold dk_0 at h
      rw [if_pos c] at h
      omega
    · unfold dk_0 at h
      rw [if_neg c] at h
      exact Or.inl ⟨by omega, h.2⟩
theorem dk_lv_nM {ng nM : Nat} {na no : Nat → Nat} {k i : Nat} : dk_lv ng nM na no k i → ¬ dk_NM nM k i := by
  unfold dk_lv
  split <;> intro h z <;> obtain ⟨⟨z1, z2⟩, z3⟩ := z <;> omega
theorem dk_newM {dA : Nat → ClassId} {ad : Nat → Nat → Nat} {ng nM : Nat} {na no : Nat → Nat} {X : dk_X} {Y : dk_Y} {Z : dk_Z} {h h' : zz_H} {n o : Nat} {a : Int32} (hP : dk_P dA ad (dk_lv ng nM na no) X Y Z h) (hlt : ∀ k i, dk_lv ng nM na no k i → ad k i < n) (hf : ∀ a, a < n → h' a = h a)
    (g0 : h' n = some (.inr (4, [.int a, .ref o, .ref (n + 1), .int 0, .ref (n + 1 + 1), .int 0, .long 0, .long 0, .int 0, .int 0]))) (g1 : h' (n + 1) = some (.inl (dA 5, 4, .inr (.inr (.inr (.inr (fun _ => none))))))) (g2 : h' (n + 1 + 1) = some (.inl (dA 6, 8, .inr (.inr (.inr (.inr (fun _ => none))))))) :
    dk_P dA (dk_aM ad nM n) (dk_lv ng (nM + 1) (dk_0 na nM) (dk_0 no nM)) (dk_xM X nM a) (dk_yM Y nM) (dk_zM Z nM o) h' := by
  have ea : ∀ k, 30 ≤ k → k ≤ 32 → dk_aM ad nM n k nM = n + (k - 30) := fun k c1 c2 => if_pos ⟨⟨c1, c2⟩, rfl⟩
  have e30 := ea 30 (by decide) (by decide)
  have e31 := ea 31 (by decide) (by decide)
  have e32 := ea 32 (by decide) (by decide)
  refine dk_grow (N := dk_NM nM) (n := n) hP (fun k i => dk_lv_M) (fun k i => dk_lv_nM) (fun k i hN => ?_) (fun k i k' i' z w e => ?_) (fun k i hl => ?_) hlt hf
  · obtain ⟨⟨c1, c2⟩, rfl⟩ := hN
    refine ⟨?_, by rw [ea k c1 c2]; omega⟩
    have x0 : dk_xM X i a k i = (if k = 30 then upd (fun _ => 0) 0 a else fun _ => 0) := if_pos ⟨⟨c1, c2⟩, rfl⟩
    have y0 : dk_yM Y i k i = fun _ => 0 := if_pos ⟨⟨c1, c2⟩, rfl⟩
    have z0 : dk_zM Z i o k i = (if k = 30 then va_up (fun _ => none) 1 (some o) else fun _ => none) := if_pos ⟨⟨c1, c2⟩, rfl⟩
    rw [x0, y0, z0]
    rcases (show k = 30 ∨ k = 31 ∨ k = 32 by omega) with rfl | rfl | rfl
    · rw [e30]
      unfold dk_cl
      simp only [e31, e32]
      exact g0
    · rw [e31]; exact g1
    · rw [e32]; exact g2
  · obtain ⟨⟨c1, c2⟩, rfl⟩ := z
    obtain ⟨⟨d1, d2⟩, rfl⟩ := w
    rw [ea k c1 c2, ea k' d1 d2] at e
    exact ⟨by omega, rfl⟩
  · have c := dk_lv_nM hl
    refine ⟨if_neg c, if_neg c, if_neg c, if_neg c, dk_cl_cg (fun k' hk' => if_neg (by omega)) (fun _ => if_neg (by omega)) (fun hk k' c1 c2 => if_neg (by omega)) (fun hk => ⟨if_neg (fun z => c ⟨by omega, z.2⟩), if_neg (fun z => c ⟨by omega, z.2⟩)⟩)⟩
/-! .. an atom, an operation: cell i of kind k0, at n -/
def dk_a1 (ad : Nat → Nat → Nat) (k0 i0 n : Nat) : Nat → Nat → Nat := fun k i => if k = k0 ∧ i = i0 then n else ad k i
def dk_inc (f : Nat → Nat) (m : Nat) : Nat → Nat := fun i => if i = m then f m + 1 else f i
theorem dk_lv_A {ng nM m : Nat} {na no : Nat → Nat} {k i : Nat} (h4 : na m < 4) : dk_lv ng nM (dk_inc na m) no k i → dk_lv ng nM na no k i ∨ (k = 33 ∧ i = 4 * m + na m) := by
  unfold dk_lv
  split <;> intro h <;> first | exact Or.inl h | skip
  unfold dk_inc at h
  by_cases c : i / 4 = m
  · rw [if_pos c] at h
    by_cases c2 : i % 4 = na m
    · exact Or.inr ⟨rfl, by omega⟩
    · exact Or.inl ⟨h.1, by rw [c]; omega⟩
  · rw [if_neg c] at h
    exact Or.inl h
theorem dk_lv_nA {ng nM m : Nat} {na no : Nat → Nat} {k i : Nat} (h4 : na m < 4) : dk_lv ng nM na no k i → ¬ (k = 33 ∧ i = 4 * m + na m) := by
  rintro h ⟨rfl, rfl⟩
  have h2 : (4 * m + na m) % 4 < na ((4 * m + na m) / 4) := h.2
  rw [show (4 * m + na m) / 4 = m by omega] at h2
  omega
theorem dk_lv_O {ng nM m : Nat} {na no : Nat → Nat} {k i : Nat} (h4 : no m < 8) : dk_lv ng nM na (dk_inc no m) k i → dk_lv ng nM na no k i ∨ (k = 34 ∧ i = 8 * m + no m) := by
  unfold dk_lv
  split <;> intro h <;> first | exact Or.inl h | skip
  unfold dk_inc at h
  by_cases c : i / 8 = m
  · rw [if_pos c] at h
    by_cases c2 : i % 8 = no m
    · exact Or.inr ⟨rfl, by omega⟩
    · exact Or.inl ⟨h.1, by rw [c]; omega⟩
  · rw [if_neg c] at h
    exact Or.inl h
theorem dk_lv_nO {ng nM m : Nat} {na no : Nat → Nat} {k i : Nat} (h4 : no m < 8) : dk_lv ng nM na no k i → ¬ (k = 34 ∧ i = 8 * m + no m) := by
  rintro h ⟨rfl, rfl⟩
  have h2 : (8 * m + no m) % 8 < no ((8 * m + no m) / 8) := h.2
  rw [show (8 * m + no m) / 8 = m by omega] at h2
  omega
theorem dk_new1 {dA : Nat → ClassId} {ad : Nat → Nat → Nat} {lv lv' : Nat → Nat → Prop} {X : dk_X} {Y : dk_Y} {Z : dk_Z} {h h' : zz_H} {n k0 i0 : Nat} {f : Nat → Int32} (hk0 : k0 = 33 ∨ k0 = 34) (h1 : ∀ k i, lv' k i → lv k i ∨ (k = k0 ∧ i = i0)) (hd : ∀ k i, lv k i → ¬ (k = k0 ∧ i = i0)) (hP : dk_P dA ad lv X Y Z h) (hlt : ∀ k i, lv k i → ad k i < n) (hf : ∀ a, a < n → h' a = h a) (g0 : h' n = some (dk_cl dA ad k0 i0 f (Y k0 i0) (Z k0 i0))) : dk_P dA (dk_a1 ad k0 i0 n) lv' (dk_is X k0 i0 f) Y Z h' := by
  have cg : ∀ k i x y z, dk_cl dA (dk_a1 ad k0 i0 n) k i x y z = dk_cl dA ad k i x y z := fun k i x y z => dk_cl_cg (fun k' hk' => if_neg (by omega)) (fun _ => if_neg (by omega)) (fun _ k' c1 c2 => if_neg (by omega)) (fun _ => ⟨if_neg (by omega), if_neg (by omega)⟩)
  refine dk_grow (N := fun k i => k = k0 ∧ i = i0) (n := n) hP h1 hd (fun k i hN => ?_) (fun k i k' i' z w e => ⟨z.1.trans w.1.symm, z.2.trans w.2.symm⟩) (fun k i hl => ⟨if_neg (hd k i hl), dk_n (hd k i hl), rfl, rfl, cg _ _ _ _ _⟩) hlt hf
  obtain ⟨rfl, rfl⟩ := hN
  have e : dk_a1 ad k i n k i = n := if_pos ⟨rfl, rfl⟩
  rw [e, cg, dk_s]
  exact ⟨g0, Nat.le_refl _⟩
