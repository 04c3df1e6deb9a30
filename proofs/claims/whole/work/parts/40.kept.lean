/-! what stands in the memory is kept by the calls that add -/
theorem pu_fg_8 {I : Nat → Nat → Int32} {g : Nat} (k : Nat) (hk : k < 8) : pu_fg I g k = I k := by
  unfold pu_fg md_is
  rw [if_neg (by omega), if_neg (by omega)]
theorem pu_W_fg {F : Nat → Int32} {I : Nat → Nat → Int32} {nc ng nM : Nat} (W : pu_W F I nc ng nM) (g : Nat) : pu_W F (pu_fg I g) nc ng nM := pu_W_cg W (fun k hk => pu_fg_8 k hk)
theorem pu_W_klass {F : Nat → Int32} {I : Nat → Nat → Int32} {nc ng nM k : Nat} (W : pu_W F I nc ng nM) (hk : k < nc) (h8 : nc < 8) : pu_W (md_fs F 1 (nI (nc + 1))) (md_is I 0 (upd (I 0) nc (nI k))) (nc + 1) ng nM := by
  obtain ⟨a1, a2, a3, a4, a5, a6, a7, a8, a9, b1, b2⟩ := W
  refine ⟨by omega, by omega, rfl, a4, a5, a6, a7, ?_, a9, b1, b2⟩
  intro j h0 hj
  show ∃ p, p < j ∧ upd (I 0) nc (nI k) j = nI p
  by_cases e : j = nc
  · subst e
    exact ⟨k, hk, pk_us⟩
  · obtain ⟨p, hp, ep⟩ := a8 j h0 (by omega)
    exact ⟨p, hp, (pk_un e).trans ep⟩
theorem pu_W_generic {F : Nat → Int32} {I : Nat → Nat → Int32} {nc ng nM k : Nat} (W : pu_W F I nc ng nM) (hk : k = 1 ∨ k = 2) (h4 : ng < 4) : pu_W (md_fs F 3 (nI (ng + 1))) (md_is I 1 (upd (I 1) ng (nI k))) nc (ng + 1) nM := by
  obtain ⟨a1, a2, a3, a4, a5, a6, a7, a8, a9, b1, b2⟩ := W
  refine ⟨a1, a2, a3, by omega, rfl, a6, a7, a8, ?_, ?_, b2⟩
  · intro g hg
    show ∃ a, (a = 1 ∨ a = 2) ∧ upd (I 1) ng (nI k) g = nI a
    by_cases e : g = ng
    · subst e
      exact ⟨k, hk, pk_us⟩
    · obtain ⟨a, ha, ea⟩ := a9 g (by omega)
      exact ⟨a, ha, (pk_un e).trans ea⟩
  · intro m hm
    obtain ⟨g, hg, eg⟩ := b1 m hm
    exact ⟨g, by omega, eg⟩
/-- rows of what isn't there yet: no atoms, no operations -/
def pu_fresh (I : Nat → Nat → Int32) (nM : Nat) : Prop := ∀ m, nM ≤ m → m < 12 → I 3 m = 0 ∧ I 8 m = 0
theorem pu_W_method {F : Nat → Int32} {I : Nat → Nat → Int32} {nc ng nM k : Nat} (W : pu_W F I nc ng nM) (hk : k < ng) (h12 : nM < 12) (hf : pu_fresh I nM) : pu_W (md_fs F 5 (nI (nM + 1))) (md_is I 2 (upd (I 2) nM (nI k))) nc ng (nM + 1) := by
  obtain ⟨a1, a2, a3, a4, a5, a6, a7, a8, a9, b1, b2⟩ := W
  refine ⟨a1, a2, a3, a4, a5, by omega, rfl, a8, a9, ?_, ?_⟩
  · intro m hm
    show ∃ g, g < ng ∧ upd (I 2) nM (nI k) m = nI g
    by_cases e : m = nM
    · subst e
      exact ⟨k, hk, pk_us⟩
    · obtain ⟨g, hg, eg⟩ := b1 m (by omega)
      exact ⟨g, hg, (pk_un e).trans eg⟩
  · intro m hm
    by_cases e : m = nM
    · subst e
      exact ⟨0, by omega, (hf m (Nat.le_refl _) h12).1, fun j hj => absurd hj (by omega)⟩
    · exact b2 m (by omega)
theorem pu_W_op {F : Nat → Int32} {I : Nat → Nat → Int32} {nc ng nM m0 a kd : Nat} {n : Int32} (W : pu_W F I nc ng nM) : pu_W F (pu_addO I m0 a kd n) nc ng nM := pu_W_cg W (fun k hk => by
  unfold pu_addO md_is
  rw [if_neg (by omega), if_neg (by omega), if_neg (by omega)])
