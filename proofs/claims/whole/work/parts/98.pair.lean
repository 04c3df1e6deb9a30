/-! a call of both: what the law's memory is, and that both answer alike -/
theorem lx_ni {a c : Nat} (e : nI a = nI c) (ha : a < 2 ^ 30) (hc : c < 2 ^ 30) : a = c := by
  have e2 := congrArg Int32.toNatClampNeg e
  rw [nI_clamp (by omega), nI_clamp (by omega)] at e2
  exact e2
theorem lx_ar {I : mq_M} {g ar : Nat} (h : I 1 g = nI ar) (ha : ar = 1 ∨ ar = 2) : mq_ar I g = ar := by
  unfold mq_ar
  rw [h, nI_clamp (by omega)]
theorem lx_up {f : Nat → Int64} {i : Nat} {x : Int64} : vp_updL f i x i = x := if_pos rfl
theorem md_P.keep {dA : Nat → ClassId} {F : Nat → Int32} {I : Nat → Nat → Int32} {J : Nat → Nat → Int64} {q : Nat} {h h' : zz_H} (P : md_P dA F I J q h) (e : ∀ y, q ≤ y → y < q + 36 → h' y = h y) : md_P dA F I J q h' := ⟨(e q (Nat.le_refl _) (by omega)).trans P.1, fun k hk => (e _ (by omega) (by omega)).trans (P.2 k hk)⟩
theorem dk_P.keep {dA : Nat → ClassId} {ad : Nat → Nat → Nat} {lv : Nat → Nat → Prop} {X : dk_X} {Y : dk_Y} {Z : dk_Z} {h h' : zz_H} (P : dk_P dA ad lv X Y Z h) (e : ∀ k i, lv k i → h' (ad k i) = h (ad k i)) : dk_P dA ad lv X Y Z h' := ⟨fun k i l => (e k i l).trans (P.1 k i l), P.2⟩
/-- the desk at b0 .., the reference at b0 + 25 .., the row at b0 + 61 -/
def lx_C (dA : Nat → ClassId) (b0 n : Nat) (h : zz_H) (f : Nat → Int64) (ad : Nat → Nat → Nat) (ng nM : Nat) (na no : Nat → Nat) (X : dk_X) (Y : dk_Y) (Z : dk_Z) (F : Nat → Int32) (I : mq_M) (J : Nat → Nat → Int64) : Prop :=
  dk_P dA ad (dk_lv ng nM na no) X Y Z h ∧ (∀ k i, dk_lv ng nM na no k i → ad k i < n ∧ (ad k i < b0 + 25 ∨ b0 + 62 ≤ ad k i)) ∧ ad 0 0 = b0 ∧ md_P dA F I J (b0 + 25) h ∧ h (b0 + 61) = some (.inl (dA 1, 1, .inr (.inl f))) ∧ b0 + 62 ≤ n
def lx_w (F : Nat → Int32) : Prop := F 18 = 0 ∨ F 18 = 1 ∨ F 18 = 2
def lx_M (dA : Nat → ClassId) (b0 n : Nat) (h : zz_H) (f : Nat → Int64) (ad : Nat → Nat → Nat) (ng nM : Nat) (na no : Nat → Nat) (X : dk_X) (Y : dk_Y) (Z : dk_Z) (F : Nat → Int32) (I : mq_M) (J : Nat → Nat → Int64) (nc : Nat) (oc : Nat → Nat) (ow : Nat → Nat → Nat) : Prop :=
  lx_C dA b0 n h f ad ng nM na no X Y Z F I J ∧ dk_ST F ad ng nM na no X Y Z I nc oc ow ∧ lx_w F
/-- behind both: k is what was thrown, and where nothing was, the row holds the reference's answer r -/
def lx_E (dA : Nat → ClassId) (b0 n : Nat) (h : zz_H) (k r : Int32) : Prop := ∃ f ad ng nM na no X Y Z F I J nc oc ow, lx_M dA b0 n h f ad ng nM na no X Y Z F I J nc oc ow ∧ F 0 = k ∧ (k = 0 → f (Int32.toNatClampNeg 0) = r.toInt64)
def lx_c (E : String) (k : Int32) : Prop := (E = "java/lang/IllegalArgumentException" ∧ k = 1) ∨ (E = "java/lang/IllegalStateException" ∧ k = 2) ∨ (E = "java/util/NoSuchElementException" ∧ k = 3)
def lx_cw (E : String) (k : Int32) : Prop := E = "java/util/NoSuchElementException" ∧ k = 1
theorem lx_c1 {k : Int32} (h : lx_c "java/lang/IllegalArgumentException" k) : k = 1 := by
  rcases h with ⟨-, h⟩ | ⟨h, -⟩ | ⟨h, -⟩
  · exact h
  · exact absurd h (by decide)
  · exact absurd h (by decide)
theorem lx_c2 {k : Int32} (h : lx_c "java/lang/IllegalStateException" k) : k = 2 := by
  rcases h with ⟨h, -⟩ | ⟨-, h⟩ | ⟨h, -⟩
  · exact absurd h (by decide)
  · exact h
  · exact absurd h (by decide)
theorem lx_c3 {k : Int32} (h : lx_c "java/util/NoSuchElementException" k) : k = 3 := by
  rcases h with ⟨h, -⟩ | ⟨h, -⟩ | ⟨-, h⟩
  · exact absurd h (by decide)
  · exact absurd h (by decide)
  · exact h
/-- behind a helper of the law: the desk's call by Pc or Px -/
def lx_H (dA : Nat → ClassId) (b0 : Nat) (f : Nat → Int64) (Pc : Int32 → zz_H → Nat → Prop) (Px : String → zz_H → Nat → Prop) (cd : String → Int32 → Prop) (k : Int32) (h1 : zz_H) (n1 : Nat) : Prop := (k = 0 ∧ ∃ r hc, Pc r hc n1 ∧ h1 = zz_up hc (b0 + 61) (.inl (dA 1, 1, .inr (.inl (vp_updL f (Int32.toNatClampNeg 0) r.toInt64))))) ∨ ∃ E, Px E h1 n1 ∧ cd E k
section LXC
variable {dA : Nat → ClassId} {b0 n n1 : Nat} {h hc h1 h2 : zz_H} {f f' : Nat → Int64} {F F' : Nat → Int32} {ad ad' : Nat → Nat → Nat} {ng nM ng' nM' : Nat} {na no na' no' : Nat → Nat} {X X' : dk_X} {Y Y' : dk_Y} {Z Z' : dk_Z} {I I' : mq_M} {J J' : Nat → Nat → Int64} {nc nc' : Nat} {oc oc' : Nat → Nat} {ow ow' : Nat → Nat → Nat} {k1 : Int32}
theorem lx_C.le (c : lx_C dA b0 n h f ad ng nM na no X Y Z F I J) (hn : n ≤ n1) : lx_C dA b0 n1 h f ad ng nM na no X Y Z F I J := by
  obtain ⟨c1, c2, c3, c4, c5, c6⟩ := c
  exact ⟨c1, fun k i l => ⟨Nat.lt_of_lt_of_le (c2 k i l).1 hn, (c2 k i l).2⟩, c3, c4, c5, by omega⟩
theorem lx_C.put (c : lx_C dA b0 n h f ad ng nM na no X Y Z F I J) (K : dk_K dA ad (dk_lv ng nM na no) X' Y' Z' h hc) (hn : n ≤ n1) (f' : Nat → Int64) : lx_C dA b0 n1 (zz_up hc (b0 + 61) (.inl (dA 1, 1, .inr (.inl f')))) f' ad ng nM na no X' Y' Z' F I J := by
  obtain ⟨c1, c2, c3, c4, c5, c6⟩ := c
  exact ⟨K.1.keep (fun k i l => zz_un (by have := c2 k i l; omega)), fun k i l => by have := c2 k i l; omega, c3, c4.keep (fun y z1 z2 => (zz_un (by omega)).trans (K.2 y (fun k i l => by have := c2 k i l; omega))), zz_us _ _ _, by omega⟩
theorem lx_C.chg (c : lx_C dA b0 n h f ad ng nM na no X Y Z F I J) (K : dk_K dA ad (dk_lv ng nM na no) X' Y' Z' h hc) (hn : n ≤ n1) : lx_C dA b0 n1 hc f ad ng nM na no X' Y' Z' F I J := by
  obtain ⟨c1, c2, c3, c4, c5, c6⟩ := c
  exact ⟨K.1, fun k i l => by have := c2 k i l; omega, c3, c4.keep (fun y z1 z2 => K.2 y (fun k i l => by have := c2 k i l; omega)), (K.2 _ (fun k i l => by have := c2 k i l; omega)).trans c5, by omega⟩
theorem lx_C.same (c : lx_C dA b0 n h f ad ng nM na no X Y Z F I J) (hn : n ≤ n1) (f' : Nat → Int64) : lx_C dA b0 n1 (zz_up h (b0 + 61) (.inl (dA 1, 1, .inr (.inl f')))) f' ad ng nM na no X Y Z F I J := c.put ⟨c.1, fun _ _ => rfl⟩ hn f'
theorem lx_C.grow (c : lx_C dA b0 n h f ad ng nM na no X Y Z F I J) (P : dk_P dA ad' (dk_lv ng' nM' na' no') X' Y' Z' hc) (hlt : ∀ k i, dk_lv ng' nM' na' no' k i → ad' k i < n1) (fr : ∀ y, y < n → (∀ k i, dk_lv ng nM na no k i → y ≠ ad k i) → hc y = h y) (hn : n ≤ n1) (h0 : ad' 0 0 = b0) (hr : ∀ k i, dk_lv ng' nM' na' no' k i → ad' k i < b0 + 25 ∨ b0 + 62 ≤ ad' k i) (f' : Nat → Int64) : lx_C dA b0 n1 (zz_up hc (b0 + 61) (.inl (dA 1, 1, .inr (.inl f')))) f' ad' ng' nM' na' no' X' Y' Z' F I J := by
  obtain ⟨c1, c2, c3, c4, c5, c6⟩ := c
  exact ⟨P.keep (fun k i l => zz_un (by have := hr k i l; omega)), fun k i l => ⟨hlt k i l, hr k i l⟩, h0, c4.keep (fun y z1 z2 => (zz_un (by omega)).trans (fr y (by omega) (fun k i l => by have := c2 k i l; omega))), zz_us _ _ _, by omega⟩
theorem lx_C.ref (c : lx_C dA b0 n h1 f ad ng nM na no X Y Z F I J) (K : md_K dA F' I' J' (b0 + 25) h1 h2) (S : dk_ST F' ad ng nM na no X Y Z I' nc oc ow) (w : lx_w F') : lx_M dA b0 n h2 f ad ng nM na no X Y Z F' I' J' nc oc ow := by
  obtain ⟨c1, c2, c3, c4, c5, c6⟩ := c
  exact ⟨⟨c1.keep (fun k i l => K.2 _ (by have := c2 k i l; omega)), c2, c3, K.1, (K.2 _ (by omega)).trans c5, c6⟩, S, w⟩
theorem lx_M.E {r : Int32} (M : lx_M dA b0 n h f ad ng nM na no X Y Z F I J nc oc ow) (e : F 0 = k1) (v : k1 = 0 → f (Int32.toNatClampNeg 0) = r.toInt64) : lx_E dA b0 n h k1 r := ⟨f, ad, ng, nM, na, no, X, Y, Z, F, I, J, nc, oc, ow, M, e, v⟩
theorem lx_n1 {r : Int32} : (1 : Int32) = 0 → f (Int32.toNatClampNeg 0) = r.toInt64 := fun z => absurd z (by decide)
theorem lx_n2 {r : Int32} : (2 : Int32) = 0 → f (Int32.toNatClampNeg 0) = r.toInt64 := fun z => absurd z (by decide)
theorem lx_n3 {r : Int32} : (3 : Int32) = 0 → f (Int32.toNatClampNeg 0) = r.toInt64 := fun z => absurd z (by decide)
theorem lx_w0 (w : lx_w F) (v : Int32) : lx_w (md_fs F 0 v) := w
theorem lx_klass {x : Int32} (M : lx_M dA b0 n h f ad ng nM na no X Y Z F I J nc oc ow) (p : lx_H dA b0 f (fun r h' n' => n ≤ n' ∧ ∃ k, k < nc ∧ x = nI k ∧ nc < 8 ∧ r = nI nc ∧ dk_K dA ad (dk_lv ng nM na no) (dk_xk X ng nc k) Y Z h h') (fun E h' n' => h' = h ∧ n ≤ n' ∧ ((E = "java/lang/IllegalArgumentException" ∧ ∀ k, k < nc → ¬ x = nI k) ∨ (E = "java/lang/IllegalStateException" ∧ nc = 8 ∧ ∃ k, k < nc ∧ x = nI k))) lx_c k1 h1 n1) : n ≤ n1 ∧ md_P dA F I J (b0 + 25) h1 ∧ ∀ (r2 : Int32) (h2 : zz_H) (n2 : Nat), (fun r h' n' => n' = n1 ∧ ((r = 0 ∧ md_K dA (md_fs F 0 1) I J (b0 + 25) h1 h' ∧ ∀ k, k < nc → ¬ x = nI k) ∨ (∃ k, k < nc ∧ x = nI k ∧ nc = 8 ∧ r = 0 ∧ md_K dA (md_fs F 0 2) I J (b0 + 25) h1 h') ∨ (∃ k, k < nc ∧ x = nI k ∧ nc < 8 ∧ r = nI nc ∧ md_K dA (md_fs (md_fs (md_fs F 0 0) 1 (nI (nc + 1))) 18 0) (pu_fg (pu_fg (pu_fg (pu_fg (md_is I 0 (upd (I 0) nc (nI k))) 0) 1) 2) 3) J (b0 + 25) h1 h'))) r2 h2 n2 → n2 = n1 ∧ lx_E dA b0 n2 h2 k1 r2 := by
  obtain ⟨c, T, w⟩ := M
  have hc8 := T.1.1.1.c8
  rcases p with ⟨rfl, r, hc, ⟨hn, k0, a1, a2, a3, rfl, K⟩, rfl⟩ | ⟨E, ⟨rfl, hn, hx⟩, hk⟩
  · have c' := c.put K hn (vp_updL f (Int32.toNatClampNeg 0) (nI nc).toInt64)
    refine ⟨hn, c'.2.2.2.1, fun r2 h2 n2 p2 => ?_⟩
    obtain ⟨rfl, ⟨-, -, z⟩ | ⟨k2, z1, z2, z3, -⟩ | ⟨k2, z1, z2, z3, rfl, K2⟩⟩ := p2
    · exact absurd a2 (z k0 a1)
    · omega
    · cases lx_ni (a2.symm.trans z2) (by omega) (by omega)
      exact ⟨rfl, (c'.ref K2 (T.kls a1 a3) (Or.inl rfl)).E rfl (fun _ => lx_up)⟩
  · have c' := c.le hn
    refine ⟨hn, c'.2.2.2.1, fun r2 h2 n2 p2 => ?_⟩
    obtain ⟨rfl, p2⟩ := p2
    rcases hx with ⟨rfl, hx⟩ | ⟨rfl, hx, k0, a1, a2⟩
    · cases lx_c1 hk
      rcases p2 with ⟨-, K2, z⟩ | ⟨k2, z1, z2, z3, -, K2⟩ | ⟨k2, z1, z2, z3, -, K2⟩
      · exact ⟨rfl, (c'.ref K2 (T.f0 1) w).E rfl lx_n1⟩
      · exact absurd z2 (hx k2 z1)
      · exact absurd z2 (hx k2 z1)
    · cases lx_c2 hk
      rcases p2 with ⟨-, K2, z⟩ | ⟨k2, z1, z2, z3, -, K2⟩ | ⟨k2, z1, z2, z3, -, K2⟩
      · exact absurd a2 (z k0 a1)
      · exact ⟨rfl, (c'.ref K2 (T.f0 2) w).E rfl lx_n2⟩
      · omega
theorem lx_generic {x : Int32} (M : lx_M dA b0 n h f ad ng nM na no X Y Z F I J nc oc ow) (p : lx_H dA b0 f (fun r h' n' => n' = n + 10 ∧ ∃ k, (k = 1 ∨ k = 2) ∧ x = nI k ∧ ng < 4 ∧ r = nI ng ∧ dk_P dA (dk_aG ad ng n) (dk_lv (ng + 1) nM na no) (dk_is (dk_xG X ng x) 0 0 (upd (dk_xG X ng x 0 0) 2 (nI (ng + 1)))) (dk_yG Y ng) (dk_is (dk_zG Z ng) 3 0 (va_up (dk_zG Z ng 3 0) ng (some (dk_aG ad ng n 20 ng)))) h' ∧ (∀ k i, dk_lv (ng + 1) nM na no k i → dk_aG ad ng n k i < n') ∧ ∀ y, y < n → (∀ k i, dk_lv ng nM na no k i → y ≠ ad k i) → h' y = h y) (fun E h' n' => h' = h ∧ n ≤ n' ∧ ((E = "java/lang/IllegalArgumentException" ∧ ∀ k, (k = 1 ∨ k = 2) → ¬ x = nI k) ∨ (E = "java/lang/IllegalStateException" ∧ ng = 4 ∧ ∃ k, (k = 1 ∨ k = 2) ∧ x = nI k))) lx_c k1 h1 n1) : n ≤ n1 ∧ md_P dA F I J (b0 + 25) h1 ∧ ∀ (r2 : Int32) (h2 : zz_H) (n2 : Nat), (fun r h' n' => n' = n1 ∧ ((r = 0 ∧ md_K dA (md_fs F 0 1) I J (b0 + 25) h1 h' ∧ ∀ k, (k = 1 ∨ k = 2) → ¬ x = nI k) ∨ (∃ k, (k = 1 ∨ k = 2) ∧ x = nI k ∧ ng = 4 ∧ r = 0 ∧ md_K dA (md_fs F 0 2) I J (b0 + 25) h1 h') ∨ (∃ k, (k = 1 ∨ k = 2) ∧ x = nI k ∧ ng < 4 ∧ r = nI ng ∧ md_K dA (md_fs (md_fs F 0 0) 3 (nI (ng + 1))) (md_is I 1 (upd (I 1) ng (nI k))) J (b0 + 25) h1 h'))) r2 h2 n2 → n2 = n1 ∧ lx_E dA b0 n2 h2 k1 r2 := by
  obtain ⟨c, T, w⟩ := M
  rcases p with ⟨rfl, r, hc, ⟨rfl, k0, a1, a2, a3, rfl, P, hlt, fr⟩, rfl⟩ | ⟨E, ⟨rfl, hn, hx⟩, hk⟩
  · have c' := c.grow P hlt fr (by omega) ((if_neg (by unfold dk_NG; omega)).trans c.2.2.1) (fun k i l => by
      unfold dk_aG
      split
      · have := c.2.2.2.2.2
        omega
      · rename_i z
        exact (c.2.1 k i ((dk_lv_G l).resolve_right z)).2) (vp_updL f (Int32.toNatClampNeg 0) (nI ng).toInt64)
    refine ⟨by omega, c'.2.2.2.1, fun r2 h2 n2 p2 => ?_⟩
    obtain ⟨rfl, ⟨-, -, z⟩ | ⟨k2, z1, z2, z3, -⟩ | ⟨k2, z1, z2, z3, rfl, K2⟩⟩ := p2
    · exact absurd a2 (z k0 a1)
    · omega
    · cases lx_ni (a2.symm.trans z2) (by omega) (by omega)
      subst a2
      exact ⟨rfl, (c'.ref K2 (T.gen a1 a3) w).E rfl (fun _ => lx_up)⟩
  · have c' := c.le hn
    refine ⟨hn, c'.2.2.2.1, fun r2 h2 n2 p2 => ?_⟩
    obtain ⟨rfl, p2⟩ := p2
    rcases hx with ⟨rfl, hx⟩ | ⟨rfl, hx, k0, a1, a2⟩
    · cases lx_c1 hk
      rcases p2 with ⟨-, K2, z⟩ | ⟨k2, z1, z2, z3, -, K2⟩ | ⟨k2, z1, z2, z3, -, K2⟩
      · exact ⟨rfl, (c'.ref K2 (T.f0 1) w).E rfl lx_n1⟩
      · exact absurd z2 (hx k2 z1)
      · exact absurd z2 (hx k2 z1)
    · cases lx_c2 hk
      rcases p2 with ⟨-, K2, z⟩ | ⟨k2, z1, z2, z3, -, K2⟩ | ⟨k2, z1, z2, z3, -, K2⟩
      · exact absurd a2 (z k0 a1)
      · exact ⟨rfl, (c'.ref K2 (T.f0 2) w).E rfl lx_n2⟩
      · omega
theorem lx_method {x : Int32} (M : lx_M dA b0 n h f ad ng nM na no X Y Z F I J nc oc ow) (p : lx_H dA b0 f (fun r h' n' => n' = n + 3 ∧ ∃ g, g < ng ∧ x = nI g ∧ nM < 12 ∧ r = nI nM ∧ dk_P dA (dk_aM ad nM n) (dk_lv ng (nM + 1) (dk_0 na nM) (dk_0 no nM)) (dk_xm X nM g (oc g)) (dk_yM Y nM) (dk_zm ad Z nM g (oc g) n) h' ∧ (∀ k i, dk_lv ng (nM + 1) (dk_0 na nM) (dk_0 no nM) k i → dk_aM ad nM n k i < n') ∧ ∀ y, y < n → (∀ k i, dk_lv ng nM na no k i → y ≠ ad k i) → h' y = h y) (fun E h' n' => h' = h ∧ n ≤ n' ∧ ((E = "java/lang/IllegalArgumentException" ∧ ∀ g, g < ng → ¬ x = nI g) ∨ (E = "java/lang/IllegalStateException" ∧ nM = 12 ∧ ∃ g, g < ng ∧ x = nI g))) lx_c k1 h1 n1) : n ≤ n1 ∧ md_P dA F I J (b0 + 25) h1 ∧ ∀ (r2 : Int32) (h2 : zz_H) (n2 : Nat), (fun r h' n' => n' = n1 ∧ ((r = 0 ∧ md_K dA (md_fs F 0 1) I J (b0 + 25) h1 h' ∧ ∀ k, k < ng → ¬ x = nI k) ∨ (∃ k, k < ng ∧ x = nI k ∧ nM = 12 ∧ r = 0 ∧ md_K dA (md_fs F 0 2) I J (b0 + 25) h1 h') ∨ (∃ k, k < ng ∧ x = nI k ∧ nM < 12 ∧ r = nI nM ∧ md_K dA (md_fs (md_fs (md_fs F 0 0) 18 0) 5 (nI (nM + 1))) (pu_fg (md_is I 2 (upd (I 2) nM (nI k))) k) J (b0 + 25) h1 h'))) r2 h2 n2 → n2 = n1 ∧ lx_E dA b0 n2 h2 k1 r2 := by
  obtain ⟨c, T, w⟩ := M
  have hg4 := T.1.1.1.g4
  rcases p with ⟨rfl, r, hc, ⟨rfl, k0, a1, a2, a3, rfl, P, hlt, fr⟩, rfl⟩ | ⟨E, ⟨rfl, hn, hx⟩, hk⟩
  · have c' := c.grow P hlt fr (by omega) ((if_neg (by unfold dk_NM; omega)).trans c.2.2.1) (fun k i l => by
      unfold dk_aM
      split
      · have := c.2.2.2.2.2
        omega
      · rename_i z
        exact (c.2.1 k i ((dk_lv_M l).resolve_right z)).2) (vp_updL f (Int32.toNatClampNeg 0) (nI nM).toInt64)
    refine ⟨by omega, c'.2.2.2.1, fun r2 h2 n2 p2 => ?_⟩
    obtain ⟨rfl, ⟨-, -, z⟩ | ⟨k2, z1, z2, z3, -⟩ | ⟨k2, z1, z2, z3, rfl, K2⟩⟩ := p2
    · exact absurd a2 (z k0 a1)
    · omega
    · cases lx_ni (a2.symm.trans z2) (by omega) (by omega)
      exact ⟨rfl, (c'.ref K2 (T.met a1 a3) (Or.inl rfl)).E rfl (fun _ => lx_up)⟩
  · have c' := c.le hn
    refine ⟨hn, c'.2.2.2.1, fun r2 h2 n2 p2 => ?_⟩
    obtain ⟨rfl, p2⟩ := p2
    rcases hx with ⟨rfl, hx⟩ | ⟨rfl, hx, k0, a1, a2⟩
    · cases lx_c1 hk
      rcases p2 with ⟨-, K2, z⟩ | ⟨k2, z1, z2, z3, -, K2⟩ | ⟨k2, z1, z2, z3, -, K2⟩
      · exact ⟨rfl, (c'.ref K2 (T.f0 1) w).E rfl lx_n1⟩
      · exact absurd z2 (hx k2 z1)
      · exact absurd z2 (hx k2 z1)
    · cases lx_c2 hk
      rcases p2 with ⟨-, K2, z⟩ | ⟨k2, z1, z2, z3, -, K2⟩ | ⟨k2, z1, z2, z3, -, K2⟩
      · exact absurd a2 (z k0 a1)
      · exact ⟨rfl, (c'.ref K2 (T.f0 2) w).E rfl lx_n2⟩
      · omega
theorem lx_atom {x1 x2 x3 x4 x5 : Int32} (hb : x5 = 0 ∨ x5 = 1) (M : lx_M dA b0 n h f ad ng nM na no X Y Z F I J nc oc ow) (p : lx_H dA b0 f (fun r h' n' => n' = n + 1 ∧ ∃ m0 kd g0 ar, (m0 < nM ∧ x1 = nI m0 ∧ kd < 6 ∧ x2 = nI kd ∧ g0 < ng ∧ I 2 m0 = nI g0 ∧ (ar = 1 ∨ ar = 2) ∧ I 1 g0 = nI ar) ∧ pu_ain nc ar kd x3 x4 = true ∧ na m0 < 4 ∧ r = nI (na m0 + 1) ∧ dk_P dA (dk_a1 ad 33 (4 * m0 + na m0) n) (dk_lv ng nM (dk_inc na m0) no) (dk_xa X m0 g0 (na m0) (dk_fa (nI kd) (if 3 < kd then 0 else x3) (if 2 < kd then 0 else x4) x5)) Y (dk_is Z 31 m0 (va_up (Z 31 m0) (na m0) (some n))) h' ∧ (∀ k i, dk_lv ng nM (dk_inc na m0) no k i → dk_a1 ad 33 (4 * m0 + na m0) n k i < n') ∧ ∀ y, y < n → (∀ k i, dk_lv ng nM na no k i → y ≠ ad k i) → h' y = h y) (fun E h' n' => h' = h ∧ n ≤ n' ∧ ((E = "java/lang/IllegalArgumentException" ∧ ∀ m0 kd g0 ar, (m0 < nM ∧ x1 = nI m0 ∧ kd < 6 ∧ x2 = nI kd ∧ g0 < ng ∧ I 2 m0 = nI g0 ∧ (ar = 1 ∨ ar = 2) ∧ I 1 g0 = nI ar) → pu_ain nc ar kd x3 x4 = false) ∨ (E = "java/lang/IllegalStateException" ∧ ∃ m0 kd g0 ar, (m0 < nM ∧ x1 = nI m0 ∧ kd < 6 ∧ x2 = nI kd ∧ g0 < ng ∧ I 2 m0 = nI g0 ∧ (ar = 1 ∨ ar = 2) ∧ I 1 g0 = nI ar) ∧ pu_ain nc ar kd x3 x4 = true ∧ na m0 = 4))) lx_c k1 h1 n1) : n ≤ n1 ∧ md_P dA F I J (b0 + 25) h1 ∧ ∀ (r2 : Int32) (h2 : zz_H) (n2 : Nat), (fun r h' n' => n' = n1 ∧ (((pu_iv x1 0 (nI nM - 1) && pu_iv x2 0 (nI 5)) = false ∧ r = 0 ∧ md_K dA (md_fs F 0 1) I J (b0 + 25) h1 h') ∨ (∃ m9 k9 g9 r9 a9, m9 < nM ∧ x1 = nI m9 ∧ k9 < 6 ∧ x2 = nI k9 ∧ g9 < ng ∧ I 2 m9 = nI g9 ∧ (r9 = 1 ∨ r9 = 2) ∧ I 1 g9 = nI r9 ∧ a9 ≤ 4 ∧ I 3 m9 = nI a9 ∧ ((pu_ain nc r9 k9 x3 x4 = false ∧ r = 0 ∧ md_K dA (md_fs F 0 1) I J (b0 + 25) h1 h') ∨ (pu_ain nc r9 k9 x3 x4 = true ∧ a9 = 4 ∧ r = 0 ∧ md_K dA (md_fs F 0 2) I J (b0 + 25) h1 h') ∨ (pu_ain nc r9 k9 x3 x4 = true ∧ a9 < 4 ∧ r = nI (a9 + 1) ∧ md_K dA (md_fs (md_fs F 0 0) 18 0) (pu_addA I m9 a9 k9 x3 x4 x5 g9) J (b0 + 25) h1 h'))))) r2 h2 n2 → n2 = n1 ∧ lx_E dA b0 n2 h2 k1 r2 := by
  obtain ⟨c, T, w⟩ := M
  have h12 := T.1.1.1.m12
  have hg4 := T.1.1.1.g4
  have iv : ∀ {m kd : Nat} {y1 y2 : Int32}, m < nM → y1 = nI m → kd < 6 → y2 = nI kd → (pu_iv y1 0 (nI nM - 1) && pu_iv y2 0 (nI 5)) = true := by
    intro m kd y1 y2 z1 z2 z3 z4
    have q := (pu_iv_0 (v := y2) (N := 5 + 1) (by omega)).mpr ⟨kd, z3, z4⟩
    rw [nI_pred] at q
    rw [(pu_iv_0 (by omega)).mpr ⟨m, z1, z2⟩, q]
    rfl
  rcases p with ⟨rfl, r, hc, ⟨rfl, m0, kd, g0, ar, ⟨a1, a2, a3, a4, a5, a6, a7, a8⟩, a9, a10, rfl, P, hlt, fr⟩, rfl⟩ | ⟨E, ⟨rfl, hn, hx⟩, hk⟩
  · have c' := c.grow P hlt fr (by omega) ((if_neg (by omega)).trans c.2.2.1) (fun k i l => by
      unfold dk_a1
      split
      · have := c.2.2.2.2.2
        omega
      · rename_i z
        exact (c.2.1 k i ((dk_lv_A a10 l).resolve_right z)).2) (vp_updL f (Int32.toNatClampNeg 0) (nI (na m0 + 1)).toInt64)
    refine ⟨by omega, c'.2.2.2.1, fun r2 h2 n2 p2 => ?_⟩
    obtain ⟨rfl, ⟨z, -, -⟩ | ⟨m9, k9, g9, r9, b9, b1, b2, b3, b4, b5, b6, b7, b8, b10, b11, p2⟩⟩ := p2
    · rw [iv a1 a2 a3 a4] at z
      exact absurd z (by decide)
    · cases lx_ni (a2.symm.trans b2) (by omega) (by omega)
      cases lx_ni (a4.symm.trans b4) (by omega) (by omega)
      cases lx_ni (a6.symm.trans b6) (by omega) (by omega)
      cases lx_ni (a8.symm.trans b8) (by omega) (by omega)
      have h9 : na m0 = b9 := lx_ni ((T.1.1.2.1.2.2.2.2 m0 a1).2.2.2.1.symm.trans b11) (by omega) (by omega)
      rcases p2 with ⟨z, -⟩ | ⟨-, z, -⟩ | ⟨-, -, z, K2⟩
      · rw [a9] at z
        exact absurd z (by decide)
      · omega
      · subst h9 z
        exact ⟨rfl, (c'.ref K2 (T.atm a1 a3 a6 a5 a8 a7 a9 hb a10) (Or.inl rfl)).E rfl (fun _ => lx_up)⟩
  · have c' := c.le hn
    refine ⟨hn, c'.2.2.2.1, fun r2 h2 n2 p2 => ?_⟩
    obtain ⟨rfl, p2⟩ := p2
    rcases hx with ⟨rfl, hx⟩ | ⟨rfl, m0, kd, g0, ar, ⟨a1, a2, a3, a4, a5, a6, a7, a8⟩, a9, a10⟩
    · cases lx_c1 hk
      rcases p2 with ⟨-, -, K2⟩ | ⟨m9, k9, g9, r9, b9, b1, b2, b3, b4, b5, b6, b7, b8, b10, b11, p2⟩
      · exact ⟨rfl, (c'.ref K2 (T.f0 1) w).E rfl lx_n1⟩
      · have z9 := hx m9 k9 g9 r9 ⟨b1, b2, b3, b4, b5, b6, b7, b8⟩
        rcases p2 with ⟨-, -, K2⟩ | ⟨z, -⟩ | ⟨z, -⟩
        · exact ⟨rfl, (c'.ref K2 (T.f0 1) w).E rfl lx_n1⟩
        · rw [z9] at z
          exact absurd z (by decide)
        · rw [z9] at z
          exact absurd z (by decide)
    · cases lx_c2 hk
      rcases p2 with ⟨z, -, K2⟩ | ⟨m9, k9, g9, r9, b9, b1, b2, b3, b4, b5, b6, b7, b8, b10, b11, p2⟩
      · rw [iv a1 a2 a3 a4] at z
        exact absurd z (by decide)
      · cases lx_ni (a2.symm.trans b2) (by omega) (by omega)
        cases lx_ni (a4.symm.trans b4) (by omega) (by omega)
        cases lx_ni (a6.symm.trans b6) (by omega) (by omega)
        cases lx_ni (a8.symm.trans b8) (by omega) (by omega)
        have h9 : na m0 = b9 := lx_ni ((T.1.1.2.1.2.2.2.2 m0 a1).2.2.2.1.symm.trans b11) (by omega) (by omega)
        rcases p2 with ⟨z, -⟩ | ⟨-, z, -, K2⟩ | ⟨-, z, -⟩
        · rw [a9] at z
          exact absurd z (by decide)
        · exact ⟨rfl, (c'.ref K2 (T.f0 2) w).E rfl lx_n2⟩
        · omega
theorem lx_operation {x1 x2 x3 : Int32} (M : lx_M dA b0 n h f ad ng nM na no X Y Z F I J nc oc ow) (p : lx_H dA b0 f (fun r h' n' => n' = n + 1 ∧ ∃ m0 kd g0 ar, (m0 < nM ∧ x1 = nI m0 ∧ kd < 7 ∧ x2 = nI kd ∧ g0 < ng ∧ I 2 m0 = nI g0 ∧ (ar = 1 ∨ ar = 2) ∧ I 1 g0 = nI ar) ∧ pu_oin nc ng ar kd x3 = true ∧ no m0 < 8 ∧ r = nI (no m0 + 1) ∧ dk_P dA (dk_a1 ad 34 (8 * m0 + no m0) n) (dk_lv ng nM na (dk_inc no m0)) (dk_xo X m0 (no m0) (dk_fa (nI kd) x3 0 0)) Y (dk_is Z 32 m0 (va_up (Z 32 m0) (no m0) (some n))) h' ∧ (∀ k i, dk_lv ng nM na (dk_inc no m0) k i → dk_a1 ad 34 (8 * m0 + no m0) n k i < n') ∧ ∀ y, y < n → (∀ k i, dk_lv ng nM na no k i → y ≠ ad k i) → h' y = h y) (fun E h' n' => h' = h ∧ n ≤ n' ∧ ((E = "java/lang/IllegalArgumentException" ∧ ∀ m0 kd g0 ar, (m0 < nM ∧ x1 = nI m0 ∧ kd < 7 ∧ x2 = nI kd ∧ g0 < ng ∧ I 2 m0 = nI g0 ∧ (ar = 1 ∨ ar = 2) ∧ I 1 g0 = nI ar) → pu_oin nc ng ar kd x3 = false) ∨ (E = "java/lang/IllegalStateException" ∧ ∃ m0 kd g0 ar, (m0 < nM ∧ x1 = nI m0 ∧ kd < 7 ∧ x2 = nI kd ∧ g0 < ng ∧ I 2 m0 = nI g0 ∧ (ar = 1 ∨ ar = 2) ∧ I 1 g0 = nI ar) ∧ pu_oin nc ng ar kd x3 = true ∧ no m0 = 8))) lx_c k1 h1 n1) : n ≤ n1 ∧ md_P dA F I J (b0 + 25) h1 ∧ ∀ (r2 : Int32) (h2 : zz_H) (n2 : Nat), (fun r h' n' => n' = n1 ∧ (((pu_iv x1 0 (nI nM - 1) && pu_iv x2 0 (nI 6)) = false ∧ r = 0 ∧ md_K dA (md_fs F 0 1) I J (b0 + 25) h1 h') ∨ (∃ m9 k9 g9 r9 a9, m9 < nM ∧ x1 = nI m9 ∧ k9 < 7 ∧ x2 = nI k9 ∧ g9 < ng ∧ I 2 m9 = nI g9 ∧ (r9 = 1 ∨ r9 = 2) ∧ I 1 g9 = nI r9 ∧ a9 ≤ 8 ∧ I 8 m9 = nI a9 ∧ ((pu_oin nc ng r9 k9 x3 = false ∧ r = 0 ∧ md_K dA (md_fs F 0 1) I J (b0 + 25) h1 h') ∨ (pu_oin nc ng r9 k9 x3 = true ∧ a9 = 8 ∧ r = 0 ∧ md_K dA (md_fs F 0 2) I J (b0 + 25) h1 h') ∨ (pu_oin nc ng r9 k9 x3 = true ∧ a9 < 8 ∧ r = nI (a9 + 1) ∧ md_K dA (md_fs F 0 0) (pu_addO I m9 a9 k9 x3) J (b0 + 25) h1 h'))))) r2 h2 n2 → n2 = n1 ∧ lx_E dA b0 n2 h2 k1 r2 := by
  obtain ⟨c, T, w⟩ := M
  have h12 := T.1.1.1.m12
  have hg4 := T.1.1.1.g4
  have iv : ∀ {m kd : Nat} {y1 y2 : Int32}, m < nM → y1 = nI m → kd < 7 → y2 = nI kd → (pu_iv y1 0 (nI nM - 1) && pu_iv y2 0 (nI 6)) = true := by
    intro m kd y1 y2 z1 z2 z3 z4
    have q := (pu_iv_0 (v := y2) (N := 6 + 1) (by omega)).mpr ⟨kd, z3, z4⟩
    rw [nI_pred] at q
    rw [(pu_iv_0 (by omega)).mpr ⟨m, z1, z2⟩, q]
    rfl
  rcases p with ⟨rfl, r, hc, ⟨rfl, m0, kd, g0, ar, ⟨a1, a2, a3, a4, a5, a6, a7, a8⟩, a9, a10, rfl, P, hlt, fr⟩, rfl⟩ | ⟨E, ⟨rfl, hn, hx⟩, hk⟩
  · have c' := c.grow P hlt fr (by omega) ((if_neg (by omega)).trans c.2.2.1) (fun k i l => by
      unfold dk_a1
      split
      · have := c.2.2.2.2.2
        omega
      · rename_i z
        exact (c.2.1 k i ((dk_lv_O a10 l).resolve_right z)).2) (vp_updL f (Int32.toNatClampNeg 0) (nI (no m0 + 1)).toInt64)
    refine ⟨by omega, c'.2.2.2.1, fun r2 h2 n2 p2 => ?_⟩
    obtain ⟨rfl, ⟨z, -, -⟩ | ⟨m9, k9, g9, r9, b9, b1, b2, b3, b4, b5, b6, b7, b8, b10, b11, p2⟩⟩ := p2
    · rw [iv a1 a2 a3 a4] at z
      exact absurd z (by decide)
    · cases lx_ni (a2.symm.trans b2) (by omega) (by omega)
      cases lx_ni (a4.symm.trans b4) (by omega) (by omega)
      cases lx_ni (a6.symm.trans b6) (by omega) (by omega)
      cases lx_ni (a8.symm.trans b8) (by omega) (by omega)
      have h9 : no m0 = b9 := lx_ni ((T.1.2.2.2 m0 a1).2.2.1.symm.trans b11) (by omega) (by omega)
      rcases p2 with ⟨z, -⟩ | ⟨-, z, -⟩ | ⟨-, -, z, K2⟩
      · rw [a9] at z
        exact absurd z (by decide)
      · omega
      · subst h9 z
        exact ⟨rfl, (c'.ref K2 (T.opn a1 a3 a6 a5 a8 a7 a9 a10) w).E rfl (fun _ => lx_up)⟩
  · have c' := c.le hn
    refine ⟨hn, c'.2.2.2.1, fun r2 h2 n2 p2 => ?_⟩
    obtain ⟨rfl, p2⟩ := p2
    rcases hx with ⟨rfl, hx⟩ | ⟨rfl, m0, kd, g0, ar, ⟨a1, a2, a3, a4, a5, a6, a7, a8⟩, a9, a10⟩
    · cases lx_c1 hk
      rcases p2 with ⟨-, -, K2⟩ | ⟨m9, k9, g9, r9, b9, b1, b2, b3, b4, b5, b6, b7, b8, b10, b11, p2⟩
      · exact ⟨rfl, (c'.ref K2 (T.f0 1) w).E rfl lx_n1⟩
      · have z9 := hx m9 k9 g9 r9 ⟨b1, b2, b3, b4, b5, b6, b7, b8⟩
        rcases p2 with ⟨-, -, K2⟩ | ⟨z, -⟩ | ⟨z, -⟩
        · exact ⟨rfl, (c'.ref K2 (T.f0 1) w).E rfl lx_n1⟩
        · rw [z9] at z
          exact absurd z (by decide)
        · rw [z9] at z
          exact absurd z (by decide)
    · cases lx_c2 hk
      rcases p2 with ⟨z, -, K2⟩ | ⟨m9, k9, g9, r9, b9, b1, b2, b3, b4, b5, b6, b7, b8, b10, b11, p2⟩
      · rw [iv a1 a2 a3 a4] at z
        exact absurd z (by decide)
      · cases lx_ni (a2.symm.trans b2) (by omega) (by omega)
        cases lx_ni (a4.symm.trans b4) (by omega) (by omega)
        cases lx_ni (a6.symm.trans b6) (by omega) (by omega)
        cases lx_ni (a8.symm.trans b8) (by omega) (by omega)
        have h9 : no m0 = b9 := lx_ni ((T.1.2.2.2 m0 a1).2.2.1.symm.trans b11) (by omega) (by omega)
        rcases p2 with ⟨z, -⟩ | ⟨-, z, -, K2⟩ | ⟨-, z, -⟩
        · rw [a9] at z
          exact absurd z (by decide)
        · exact ⟨rfl, (c'.ref K2 (T.f0 2) w).E rfl lx_n2⟩
        · omega
theorem lx_beyond {x y : Int32} (M : lx_M dA b0 n h f ad ng nM na no X Y Z F I J nc oc ow) (p : lx_H dA b0 f (fun r h' n' => n ≤ n' ∧ ∃ a b g, pu_two I nM x y a b g ∧ g < ng ∧ r = pu_b (bt (pu_B I nc nM g (mq_ar I g) a) b) ∧ ∃ X' Y' Z', dk_K dA ad (dk_lv ng nM na no) X' Y' Z' h h' ∧ dk_IV F ad ng nM na no X' Y' Z' I nc oc ow ∧ X' 0 0 = X 0 0 ∧ X' 7 0 = X 7 0) (fun E h' n' => E = "java/lang/IllegalArgumentException" ∧ h' = h ∧ n ≤ n' ∧ ∀ a b g, ¬ pu_two I nM x y a b g) lx_c k1 h1 n1) : n ≤ n1 ∧ md_P dA F I J (b0 + 25) h1 ∧ ∀ (r2 : Int32) (h2 : zz_H) (n2 : Nat), (fun r h' n' => n' = n1 ∧ ((r = 0 ∧ md_K dA (md_fs F 0 1) I J (b0 + 25) h1 h' ∧ ∀ a b g, ¬ pu_two I nM x y a b g) ∨ ∃ a b g ar, pu_two I nM x y a b g ∧ g < ng ∧ I 1 g = nI ar ∧ (ar = 1 ∨ ar = 2) ∧ r = pu_b (bt (pu_know I nc nM g ar 13 a) b) ∧ md_K dA (md_fs F 0 0) (pu_know I nc nM g ar) J (b0 + 25) h1 h')) r2 h2 n2 → n2 = n1 ∧ (r2 = 0 ∨ r2 = 1) ∧ lx_E dA b0 n2 h2 k1 r2 := by
  obtain ⟨c, T, w⟩ := M
  have h12 := T.1.1.1.m12
  have hg4 := T.1.1.1.g4
  have pb : ∀ c : Bool, pu_b c = 0 ∨ pu_b c = 1 := fun c => by cases c <;> first | exact Or.inl rfl | exact Or.inr rfl
  rcases p with ⟨rfl, r, hc, ⟨hn, a, b, g, a1, a2, rfl, X', Y', Z', K, V, e0, e7⟩, rfl⟩ | ⟨E, ⟨rfl, rfl, hn, hx⟩, hk⟩
  · refine ⟨hn, (c.put K hn _).2.2.2.1, fun r2 h2 n2 p2 => ?_⟩
    obtain ⟨rfl, ⟨-, -, z⟩ | ⟨a', b', g', ar, z1, z2, z3, z4, rfl, K2⟩⟩ := p2
    · exact absurd a1 (z a b g)
    · have ea : a = a' := lx_ni (a1.2.2.1.symm.trans z1.2.2.1) (by have := a1.1; omega) (by have := z1.1; omega)
      have eb : b = b' := lx_ni (a1.2.2.2.1.symm.trans z1.2.2.2.1) (by have := a1.2.1; omega) (by have := z1.2.1; omega)
      subst ea eb
      cases lx_ni (a1.2.2.2.2.1.symm.trans z1.2.2.2.2.1) (by omega) (by omega)
      have e9 := pu_kn_13 T.2.1.1 a2 (by omega) z3 a1.1 a1.2.2.2.2.1
      refine ⟨rfl, pb _, ((c.put K hn _).ref K2 (T.ask V e0 e7 a2 z3 z4 0) w).E rfl (fun _ => ?_)⟩
      rw [lx_up, e9, lx_ar z3 z4]
  · have c' := c.le hn
    refine ⟨hn, c'.2.2.2.1, fun r2 h2 n2 p2 => ?_⟩
    cases lx_c1 hk
    obtain ⟨rfl, ⟨rfl, K2, z⟩ | ⟨a', b', g', ar, z1, z2, z3, z4, rfl, K2⟩⟩ := p2
    · exact ⟨rfl, Or.inl rfl, (c'.ref K2 (T.f0 1) w).E rfl lx_n1⟩
    · exact absurd z1 (hx a' b' g')
theorem lx_row {g x y : Int32} {g0 ar x0 y0 g1 ar1 x1 y1 : Nat} (W : pu_W F I nc ng nM) (p : pu_row I nc ng g x y g0 ar x0 y0) (p' : pu_row I nc ng g x y g1 ar1 x1 y1) : g0 = g1 ∧ ar = ar1 ∧ x0 = x1 ∧ y0 = y1 := by
  have hg4 := W.g4
  have hc8 := W.c8
  obtain ⟨a1, a2, a3, a4, a5, a6, a7, a8, a9⟩ := p
  obtain ⟨b1, b2, b3, b4, b5, b6, b7, b8, b9⟩ := p'
  cases lx_ni (a2.symm.trans b2) (by omega) (by omega)
  cases lx_ni (a4.symm.trans b4) (by omega) (by omega)
  cases lx_ni (a6.symm.trans b6) (by omega) (by omega)
  refine ⟨rfl, rfl, rfl, ?_⟩
  rcases a3 with h | h
  · rw [a8 h, b8 h]
  · exact lx_ni ((a9 h).symm.trans (b9 h)) (by omega) (by omega)
theorem lx_best {g x y : Int32} (M : lx_M dA b0 n h f ad ng nM na no X Y Z F I J nc oc ow) (p : lx_H dA b0 f (fun r h' n' => n ≤ n' ∧ ∃ g0 ar x0 y0, pu_row I nc ng g x y g0 ar x0 y0 ∧ r = pu_bs I nc nM g0 ar (pu_rw nc ar x0 y0) ∧ ∃ X' Y' Z', dk_K dA ad (dk_lv ng nM na no) X' Y' Z' h h' ∧ dk_IV F ad ng nM na no X' Y' Z' I nc oc ow ∧ X' 0 0 = X 0 0 ∧ X' 7 0 = X 7 0) (fun E h' n' => E = "java/lang/IllegalArgumentException" ∧ h' = h ∧ n ≤ n' ∧ ∀ g0 ar x0 y0, ¬ pu_row I nc ng g x y g0 ar x0 y0) lx_c k1 h1 n1) : n ≤ n1 ∧ md_P dA F I J (b0 + 25) h1 ∧ ∀ (r2 : Int32) (h2 : zz_H) (n2 : Nat), (fun r h' n' => n' = n1 ∧ ((r = 0 ∧ md_K dA (md_fs F 0 1) I J (b0 + 25) h1 h' ∧ ∀ g0 ar x0 y0, ¬ pu_row I nc ng g x y g0 ar x0 y0) ∨ ∃ g0 ar x0 y0, pu_row I nc ng g x y g0 ar x0 y0 ∧ r = pu_fm (pu_know I nc nM g0 ar 12 (4096 * g0 + pu_rw nc ar x0 y0)) (pu_know I nc nM g0 ar 13) nM ∧ md_K dA (md_fs F 0 0) (pu_know I nc nM g0 ar) J (b0 + 25) h1 h')) r2 h2 n2 → n2 = n1 ∧ lx_E dA b0 n2 h2 k1 r2 := by
  obtain ⟨c, T, w⟩ := M
  have h12 := T.1.1.1.m12
  rcases p with ⟨rfl, r, hc, ⟨hn, g0, ar, x0, y0, a1, rfl, X', Y', Z', K, V, e0, e7⟩, rfl⟩ | ⟨E, ⟨rfl, rfl, hn, hx⟩, hk⟩
  · refine ⟨hn, (c.put K hn _).2.2.2.1, fun r2 h2 n2 p2 => ?_⟩
    obtain ⟨rfl, ⟨-, -, z⟩ | ⟨g1, ar1, x1, y1, z1, rfl, K2⟩⟩ := p2
    · exact absurd a1 (z g0 ar x0 y0)
    · obtain ⟨rfl, rfl, rfl, rfl⟩ := lx_row T.1.1.1 a1 z1
      obtain ⟨q1, q2, q3, q4, q5, q6, q7, -⟩ := a1
      have e9 : pu_fm (pu_know I nc nM g0 ar 12 (4096 * g0 + pu_rw nc ar x0 y0)) (pu_know I nc nM g0 ar 13) nM = pu_bs I nc nM g0 ar (pu_rw nc ar x0 y0) := pu_best_bs T.2.1.1 h12 q1 (by omega) q4 (pu_rw_lt q5 q7)
      refine ⟨rfl, ((c.put K hn _).ref K2 (T.ask V e0 e7 q1 q4 q3 0) w).E rfl (fun _ => ?_)⟩
      rw [lx_up, e9]
  · have c' := c.le hn
    refine ⟨hn, c'.2.2.2.1, fun r2 h2 n2 p2 => ?_⟩
    cases lx_c1 hk
    obtain ⟨rfl, ⟨rfl, K2, z⟩ | ⟨g1, ar1, x1, y1, z1, rfl, K2⟩⟩ := p2
    · exact ⟨rfl, (c'.ref K2 (T.f0 1) w).E rfl lx_n1⟩
    · exact absurd z1 (hx g1 ar1 x1 y1)
theorem lx_check {g : Int32} (M : lx_M dA b0 n h f ad ng nM na no X Y Z F I J nc oc ow) (p : lx_H dA b0 f (fun r h' n' => n ≤ n' ∧ ∃ g0, g0 < ng ∧ g = nI g0 ∧ ∃ X' Y' Z', dk_K dA ad (dk_lv ng nM na no) X' Y' Z' h h' ∧ dk_IV F ad ng nM na no X' Y' Z' I nc oc ow ∧ X' 7 0 = X 7 0 ∧ ((r = 0 ∧ X' 0 0 7 = 0 ∧ ∀ r9, r9 < pu_R nc (mq_ar I g0) → ¬ pu_bs I nc nM g0 (mq_ar I g0) r9 < 0) ∨ ∃ r0, r0 < pu_R nc (mq_ar I g0) ∧ (∀ r9, r9 < r0 → ¬ pu_bs I nc nM g0 (mq_ar I g0) r9 < 0) ∧ pu_bs I nc nM g0 (mq_ar I g0) r0 < 0 ∧ r = - pu_bs I nc nM g0 (mq_ar I g0) r0 ∧ X' 0 0 7 = nI (mq_ar I g0) ∧ X' 0 0 8 = nI (pu_r1 nc (mq_ar I g0) r0) ∧ X' 0 0 9 = nI (pu_r2 nc (mq_ar I g0) r0))) (fun E h' n' => E = "java/lang/IllegalArgumentException" ∧ h' = h ∧ n ≤ n' ∧ ∀ g0, g0 < ng → ¬ g = nI g0) lx_c k1 h1 n1) : n ≤ n1 ∧ md_P dA F I J (b0 + 25) h1 ∧ ∀ (r2 : Int32) (h2 : zz_H) (n2 : Nat), (fun r h' n' => n' = n1 ∧ ((r = 0 ∧ md_K dA (md_fs F 0 1) I J (b0 + 25) h1 h' ∧ ∀ k, k < ng → ¬ g = nI k) ∨ ∃ g0 ar, g0 < ng ∧ g = nI g0 ∧ (ar = 1 ∨ ar = 2) ∧ I 1 g0 = nI ar ∧ ((r = 0 ∧ md_K dA (md_fs (md_fs F 0 0) 18 0) (pu_know I nc nM g0 ar) J (b0 + 25) h1 h' ∧ ∀ r, r < pu_R nc ar → ¬ pu_best (pu_know I nc nM g0 ar) nM g0 r < 0) ∨ (∃ r0, r0 < pu_R nc ar ∧ (∀ r, r < r0 → ¬ pu_best (pu_know I nc nM g0 ar) nM g0 r < 0) ∧ pu_best (pu_know I nc nM g0 ar) nM g0 r0 < 0 ∧ r = - pu_best (pu_know I nc nM g0 ar) nM g0 r0 ∧ md_K dA (md_fs (md_fs (md_fs (md_fs F 0 0) 18 (nI ar)) 19 (nI (pu_r1 nc ar r0))) 20 (nI (pu_r2 nc ar r0))) (pu_know I nc nM g0 ar) J (b0 + 25) h1 h')))) r2 h2 n2 → n2 = n1 ∧ lx_E dA b0 n2 h2 k1 r2 := by
  obtain ⟨c, T, w⟩ := M
  have h12 := T.1.1.1.m12
  have hg4 := T.1.1.1.g4
  rcases p with ⟨rfl, r, hc, ⟨hn, g0, a1, a2, X', Y', Z', K, V, e7, a3⟩, rfl⟩ | ⟨E, ⟨rfl, rfl, hn, hx⟩, hk⟩
  · refine ⟨hn, (c.put K hn _).2.2.2.1, fun r2 h2 n2 p2 => ?_⟩
    obtain ⟨rfl, ⟨-, -, z⟩ | ⟨g1, ar, z1, z2, z3, z4, p2⟩⟩ := p2
    · exact absurd a2 (z g0 a1)
    · cases lx_ni (a2.symm.trans z2) (by omega) (by omega)
      have eb : ∀ r9, r9 < pu_R nc ar → pu_best (pu_know I nc nM g0 ar) nM g0 r9 = pu_bs I nc nM g0 ar r9 := fun r9 hr => pu_best_bs T.2.1.1 h12 z1 (by omega) z4 hr
      rw [lx_ar z4 z3] at a3
      rcases a3 with ⟨rfl, x0, q⟩ | ⟨r0, q0, q1, q2, rfl, x0, x1, x2⟩
      · rcases p2 with ⟨rfl, K2, -⟩ | ⟨r1, y0, y1, y2, -, -⟩
        · exact ⟨rfl, ((c.put K hn _).ref K2 (T.chk0 V x0 e7 z1 z4 z3) (Or.inl rfl)).E rfl (fun _ => lx_up)⟩
        · rw [eb r1 y0] at y2
          exact absurd y2 (q r1 y0)
      · rcases p2 with ⟨-, -, y⟩ | ⟨r1, y0, y1, y2, rfl, K2⟩
        · have y9 := y r0 q0
          rw [eb r0 q0] at y9
          exact absurd q2 y9
        · have e1 : r0 = r1 := by
            rcases Nat.lt_trichotomy r0 r1 with h | h | h
            · have y9 := y1 r0 h
              rw [eb r0 q0] at y9
              exact absurd q2 y9
            · exact h
            · have y9 := q1 r1 h
              rw [← eb r1 y0] at y9
              exact absurd y2 y9
          subst e1
          refine ⟨rfl, ((c.put K hn _).ref K2 (T.chk1 V x0 x1 x2 e7 z1 z4 z3) ?_).E rfl (fun _ => ?_)⟩
          · show nI ar = 0 ∨ nI ar = 1 ∨ nI ar = 2
            rcases z3 with rfl | rfl
            · exact Or.inr (Or.inl rfl)
            · exact Or.inr (Or.inr rfl)
          · rw [lx_up, eb r0 q0]
  · have c' := c.le hn
    refine ⟨hn, c'.2.2.2.1, fun r2 h2 n2 p2 => ?_⟩
    cases lx_c1 hk
    obtain ⟨rfl, ⟨rfl, K2, z⟩ | ⟨g1, ar, z1, z2, z3, z4, p2⟩⟩ := p2
    · exact ⟨rfl, (c'.ref K2 (T.f0 1) w).E rfl lx_n1⟩
    · exact absurd z2 (hx g1 z1)
theorem lx_compile {g : Int32} (M : lx_M dA b0 n h f ad ng nM na no X Y Z F I J nc oc ow) (p : lx_H dA b0 f (fun r h' n' => n ≤ n' ∧ ∃ g0, g0 < ng ∧ g = nI g0 ∧ ¬ (dk_tr9 I nc nM g0 (mq_ar I g0)).2 = -1 ∧ r = nI (dk_trG I nc nM g0 (mq_ar I g0)).length ∧ ∃ Xf Yf Zf X' Y', dk_IV F ad ng nM na no Xf Yf Zf I nc oc ow ∧ Xf 20 g0 7 = 1 ∧ dk_fr X Xf Z Zf ∧ dk_K dA ad (dk_lv ng nM na no) X' Y' Zf h h' ∧ dk_gr X' g0 (dk_trG I nc nM g0 (mq_ar I g0)) ∧ dk_fb g0 Xf X' Yf Y' ∧ dk_ch X' Y' (ow g0) g0 (oc g0)) (fun E h' n' => n ≤ n' ∧ ((E = "java/lang/IllegalArgumentException" ∧ h' = h ∧ ∀ g0, g0 < ng → ¬ g = nI g0) ∨ (E = "java/lang/IllegalStateException" ∧ ∃ g0, g0 < ng ∧ g = nI g0 ∧ (dk_tr9 I nc nM g0 (mq_ar I g0)).2 = -1 ∧ ∃ Xf Yf Zf X' Y', dk_IV F ad ng nM na no Xf Yf Zf I nc oc ow ∧ Xf 20 g0 7 = 1 ∧ dk_fr X Xf Z Zf ∧ dk_K dA ad (dk_lv ng nM na no) X' Y' Zf h h' ∧ dk_gr X' g0 (dk_trG I nc nM g0 (mq_ar I g0)) ∧ dk_fb g0 Xf X' Yf Y' ∧ dk_ch X' Y' (ow g0) g0 (oc g0)))) lx_c k1 h1 n1) : n ≤ n1 ∧ md_P dA F I J (b0 + 25) h1 ∧ ∀ (r2 : Int32) (h2 : zz_H) (n2 : Nat), (fun r h' n' => n' = n1 ∧ ((r = 0 ∧ md_K dA (md_fs F 0 1) I J (b0 + 25) h1 h' ∧ ∀ k, k < ng → ¬ g = nI k) ∨ ∃ g9 r9, g9 < ng ∧ g = nI g9 ∧ (r9 = 1 ∨ r9 = 2) ∧ I 1 g9 = nI r9 ∧ ∃ X' J', pu_oth (pu_g3 (pu_know I nc nM g9 r9) g9 nM) X' g9 ∧ J' 22 = pu_gJ (pu_know I nc nM g9 r9) J nc nM g9 r9 22 ∧ (((pu_tre (pu_g3 (pu_know I nc nM g9 r9) g9 nM) (pu_gJ (pu_know I nc nM g9 r9) J nc nM g9 r9 22) nM g9 (pu_gT (pu_know I nc nM g9 r9) g9 nM) (pu_R nc r9)).2 = -1 ∧ r = 0 ∧ X' 14 g9 = 0 ∧ md_K dA (md_fs F 0 2) X' J' (b0 + 25) h1 h') ∨ (¬ (pu_tre (pu_g3 (pu_know I nc nM g9 r9) g9 nM) (pu_gJ (pu_know I nc nM g9 r9) J nc nM g9 r9 22) nM g9 (pu_gT (pu_know I nc nM g9 r9) g9 nM) (pu_R nc r9)).2 = -1 ∧ r = nI (pu_tre (pu_g3 (pu_know I nc nM g9 r9) g9 nM) (pu_gJ (pu_know I nc nM g9 r9) J nc nM g9 r9 22) nM g9 (pu_gT (pu_know I nc nM g9 r9) g9 nM) (pu_R nc r9)).1.length ∧ pu_gr X' g9 (pu_tre (pu_g3 (pu_know I nc nM g9 r9) g9 nM) (pu_gJ (pu_know I nc nM g9 r9) J nc nM g9 r9 22) nM g9 (pu_gT (pu_know I nc nM g9 r9) g9 nM) (pu_R nc r9)).1 ∧ md_K dA (md_fs F 0 0) X' J' (b0 + 25) h1 h')))) r2 h2 n2 → n2 = n1 ∧ lx_E dA b0 n2 h2 k1 r2 := by
  obtain ⟨c, T, w⟩ := M
  have hg4 := T.1.1.1.g4
  rcases p with ⟨rfl, r, hc, ⟨hn, g0, a1, a2, a3, rfl, Xf, Yf, Zf, X', Y', V, h7, fr, K, gr, fb, ch⟩, rfl⟩ | ⟨E, ⟨hn, hx⟩, hk⟩
  · refine ⟨hn, (c.put K hn _).2.2.2.1, fun r2 h2 n2 p2 => ?_⟩
    obtain ⟨rfl, ⟨-, -, z⟩ | ⟨g1, ar, z1, z2, z3, z4, I2, J2, oth, -, p2⟩⟩ := p2
    · exact absurd a2 (z g0 a1)
    · cases lx_ni (a2.symm.trans z2) (by omega) (by omega)
      rw [lx_ar z4 z3] at a3 gr
      rw [pu_tre_tr9 T.1.1.1 T.2.1.1 z1 z4 (by omega)] at p2
      rcases p2 with ⟨y, -⟩ | ⟨-, rfl, G, K2⟩
      · exact absurd y a3
      · have eG : dk_trG I nc nM g0 ar = (dk_tr9 I nc nM g0 ar).1 := if_neg a3
        have hG := mq_G_gr G
        have h14 : I2 14 g0 = nI (mq_G I2 g0).length := by
          rw [hG]
          exact G.2.1
        refine ⟨rfl, ((c.put K hn _).ref K2 (T.cmp V z1 z4 z3 h7 fr gr fb ch oth (hG.trans eG.symm) h14 0) w).E rfl (fun _ => ?_)⟩
        rw [lx_up, lx_ar z4 z3, eG]
  · rcases hx with ⟨rfl, rfl, hx⟩ | ⟨rfl, g0, a1, a2, a3, Xf, Yf, Zf, X', Y', V, h7, fr, K, gr, fb, ch⟩
    · have c' := c.le hn
      refine ⟨hn, c'.2.2.2.1, fun r2 h2 n2 p2 => ?_⟩
      cases lx_c1 hk
      obtain ⟨rfl, ⟨rfl, K2, z⟩ | ⟨g1, ar, z1, z2, z3, z4, I2, J2, oth, -, p2⟩⟩ := p2
      · exact ⟨rfl, (c'.ref K2 (T.f0 1) w).E rfl lx_n1⟩
      · exact absurd z2 (hx g1 z1)
    · have c' := c.chg K hn
      refine ⟨hn, c'.2.2.2.1, fun r2 h2 n2 p2 => ?_⟩
      cases lx_c2 hk
      obtain ⟨rfl, ⟨-, -, z⟩ | ⟨g1, ar, z1, z2, z3, z4, I2, J2, oth, -, p2⟩⟩ := p2
      · exact absurd a2 (z g0 a1)
      · cases lx_ni (a2.symm.trans z2) (by omega) (by omega)
        rw [lx_ar z4 z3] at a3 gr
        rw [pu_tre_tr9 T.1.1.1 T.2.1.1 z1 z4 (by omega)] at p2
        rcases p2 with ⟨-, rfl, y14, K2⟩ | ⟨y, -⟩
        · have eG : dk_trG I nc nM g0 ar = [] := if_pos a3
          have hG : mq_G I2 g0 = [] := by
            unfold mq_G
            rw [y14]
            rfl
          exact ⟨rfl, (c'.ref K2 (T.cmp V z1 z4 z3 h7 fr gr fb ch oth (hG.trans eG.symm) (by rw [hG, y14]; rfl) 2) w).E rfl lx_n2⟩
        · exact absurd a3 y
theorem lx_run {g x y f9 : Int32} (M : lx_M dA b0 n h f ad ng nM na no X Y Z F I J nc oc ow) (p : lx_H dA b0 f (fun r h' n' => n ≤ n' ∧ ∃ g9 ar x9 y9 f8, (pu_row I nc ng g x y g9 ar x9 y9 ∧ f8 ≤ 200 ∧ f9 = nI f8) ∧ ∃ X' Y' Z', dk_K dA ad (dk_lv ng nM na no) X' Y' Z' h h' ∧ dk_IV F ad ng nM na no X' Y' Z' I nc oc ow ∧ X' 0 0 = X 0 0 ∧ dk_rs I nc nM (mq_enter (mq_ch I nc nM g9 x9 y9) x9 y9 f8 0 [] 0) [] r X') (fun E h' n' => E = "java/lang/IllegalArgumentException" ∧ h' = h ∧ n ≤ n' ∧ ∀ g9 ar x9 y9 f8, ¬ (pu_row I nc ng g x y g9 ar x9 y9 ∧ f8 ≤ 200 ∧ f9 = nI f8)) lx_c k1 h1 n1) : n ≤ n1 ∧ md_P dA F I J (b0 + 25) h1 ∧ ∀ (r2 : Int32) (h2 : zz_H) (n2 : Nat), (fun r h' n' => n' = n1 ∧ ((r = 0 ∧ md_K dA (md_fs F 0 1) I J (b0 + 25) h1 h' ∧ ∀ g0 ar x0 y0 f0, ¬ (pu_row I nc ng g x y g0 ar x0 y0 ∧ f0 ≤ 200 ∧ f9 = nI f0)) ∨ ∃ g0 ar x0 y0 f0, (pu_row I nc ng g x y g0 ar x0 y0 ∧ f0 ≤ 200 ∧ f9 = nI f0) ∧ ∃ F' I', md_K dA F' I' J (b0 + 25) h1 h' ∧ mq_A (md_fs F 0 0) I nc ng nM F' I' (mq_go I nc nM 409 (mq_enter (mq_ch I nc nM g0 x0 y0) x0 y0 f0 0 [] 0)) ∧ r = if (mq_go I nc nM 409 (mq_enter (mq_ch I nc nM g0 x0 y0) x0 y0 f0 0 [] 0)).2.2.2.1 < 0 then (mq_go I nc nM 409 (mq_enter (mq_ch I nc nM g0 x0 y0) x0 y0 f0 0 [] 0)).2.2.2.1 else nI (mq_go I nc nM 409 (mq_enter (mq_ch I nc nM g0 x0 y0) x0 y0 f0 0 [] 0)).2.2.2.2)) r2 h2 n2 → n2 = n1 ∧ lx_E dA b0 n2 h2 k1 r2 := by
  obtain ⟨c, T, w⟩ := M
  rcases p with ⟨rfl, r, hc, ⟨hn, g0, ar, x0, y0, f0, ⟨a1, a2, a3⟩, X', Y', Z', K, V, e0, rs⟩, rfl⟩ | ⟨E, ⟨rfl, rfl, hn, hx⟩, hk⟩
  · refine ⟨hn, (c.put K hn _).2.2.2.1, fun r2 h2 n2 p2 => ?_⟩
    obtain ⟨rfl, ⟨-, -, z⟩ | ⟨g1, ar1, x1, y1, f1, ⟨z1, z2, z3⟩, F', I', K2, A, rfl⟩⟩ := p2
    · exact absurd ⟨a1, a2, a3⟩ (z g0 ar x0 y0 f0)
    · obtain ⟨rfl, rfl, rfl, rfl⟩ := lx_row T.1.1.1 a1 z1
      cases lx_ni (a3.symm.trans z3) (by omega) (by omega)
      obtain ⟨e7, e8, er⟩ := dk_rs_go a2 rs
      have e18 : F' 18 = F 18 := A.1 18 (by decide) (by decide) (by decide) (by decide)
      refine ⟨rfl, ((c.put K hn _).ref K2 (T.run V e0 A e7 e8) ?_).E ?_ (fun _ => ?_)⟩
      · unfold lx_w
        rw [e18]
        exact w
      · exact A.1 0 (by decide) (by decide) (by decide) (by decide)
      · rw [lx_up, ← er]
  · have c' := c.le hn
    refine ⟨hn, c'.2.2.2.1, fun r2 h2 n2 p2 => ?_⟩
    cases lx_c1 hk
    obtain ⟨rfl, ⟨rfl, K2, z⟩ | ⟨g1, ar1, x1, y1, f1, z1, F', I', K2, A, rfl⟩⟩ := p2
    · exact ⟨rfl, (c'.ref K2 (T.f0 1) w).E rfl lx_n1⟩
    · exact absurd z1 (hx g1 ar1 x1 y1 f1)
theorem lx_iv {x v : Int32} (hv : v = 0 ∨ v = 1 ∨ v = 2) : pu_iv x 0 (v - 1) = true ↔ ¬ x < 0 ∧ x < v := by
  rw [pu_iv_k, Int32.lt_iff_toInt_lt, Int32.lt_iff_toInt_lt]
  have z0 : (0 : Int32).toInt = 0 := rfl
  have z1 : (1 : Int32).toInt = 1 := rfl
  have z2 : (2 : Int32).toInt = 2 := rfl
  have z3 : ((0 : Int32) - 1).toInt = -1 := by decide
  have z4 : ((1 : Int32) - 1).toInt = 0 := by decide
  have z5 : ((2 : Int32) - 1).toInt = 1 := by decide
  rcases hv with rfl | rfl | rfl
  · omega
  · omega
  · omega
theorem lx_witness {x : Int32} (M : lx_M dA b0 n h f ad ng nM na no X Y Z F I J nc oc ow) (p : lx_H dA b0 f (fun r h' n' => h' = h ∧ n' = n ∧ ¬ x < 0 ∧ x < (X 0 0 7) ∧ ((x = 0 ∧ r = (X 0 0 8)) ∨ (¬ x = 0 ∧ r = (X 0 0 9)))) (fun E h' n' => E = "java/util/NoSuchElementException" ∧ h' = h ∧ n ≤ n' ∧ (x < 0 ∨ ¬ x < (X 0 0 7))) lx_cw k1 h1 n1) : n ≤ n1 ∧ md_P dA F I J (b0 + 25) h1 ∧ ∀ (r2 : Int32) (h2 : zz_H) (n2 : Nat), (fun r h' n' => n' = n1 ∧ ((pu_iv x 0 (F 18 - 1) = false ∧ r = 0 ∧ md_K dA (md_fs F 0 1) I J (b0 + 25) h1 h') ∨ (pu_iv x 0 (F 18 - 1) = true ∧ (r = if x = 0 then F 19 else F 20) ∧ md_K dA (md_fs F 0 0) I J (b0 + 25) h1 h'))) r2 h2 n2 → n2 = n1 ∧ lx_E dA b0 n2 h2 k1 r2 := by
  obtain ⟨c, T, w⟩ := M
  obtain ⟨t1, t2, t3, t4⟩ := T.2.2
  rcases p with ⟨rfl, r, hc, ⟨rfl, rfl, a1, a2, a3⟩, rfl⟩ | ⟨E, ⟨rfl, rfl, hn, hx⟩, hk⟩
  · refine ⟨Nat.le_refl _, (c.same (Nat.le_refl _) _).2.2.2.1, fun r2 h2 n2 p2 => ?_⟩
    have iv : pu_iv x 0 (F 18 - 1) = true := (lx_iv w).mpr ⟨a1, by rw [← t1]; exact a2⟩
    obtain ⟨rfl, ⟨z, -, -⟩ | ⟨-, rfl, K2⟩⟩ := p2
    · rw [iv] at z
      exact absurd z (by decide)
    · have n0 : ¬ F 18 = 0 := fun z => by
        rw [t1, z] at a2
        exact a1 a2
      have t5 := t2.resolve_left n0
      refine ⟨rfl, ((c.same (Nat.le_refl _) _).ref K2 (T.f0 0) w).E rfl (fun _ => ?_)⟩
      rw [lx_up]
      rcases a3 with ⟨q1, q2⟩ | ⟨q1, q2⟩
      · rw [if_pos q1, q2, t5.1]
      · rw [if_neg q1, q2, t5.2]
  · have c' := c.le hn
    refine ⟨hn, c'.2.2.2.1, fun r2 h2 n2 p2 => ?_⟩
    cases hk.2
    obtain ⟨rfl, ⟨z, rfl, K2⟩ | ⟨z, rfl, K2⟩⟩ := p2
    · exact ⟨rfl, (c'.ref K2 (T.f0 1) w).E rfl lx_n1⟩
    · obtain ⟨q1, q2⟩ := (lx_iv w).mp z
      rw [t1] at hx
      rcases hx with h | h
      · exact absurd h q1
      · exact absurd q2 h
theorem lx_node {x y z : Int32} (M : lx_M dA b0 n h f ad ng nM na no X Y Z F I J nc oc ow) (p : lx_H dA b0 f (fun r h' n' => h' = h ∧ n ≤ n' ∧ ∃ g9 w9 k9, (g9 < ng ∧ x = nI g9 ∧ w9 < 3 ∧ z = nI w9) ∧ ¬ (mq_G I g9).length = 0 ∧ k9 < (mq_G I g9).length ∧ y = nI k9 ∧ r = I (15 + w9) (80 * g9 + k9)) (fun E h' n' => h' = h ∧ n ≤ n' ∧ ((E = "java/lang/IllegalArgumentException" ∧ (pu_iv x 0 (nI ng - 1) && pu_iv z 0 (nI 2)) = false) ∨ (E = "java/lang/IllegalStateException" ∧ ∃ g9 w9, (g9 < ng ∧ x = nI g9 ∧ w9 < 3 ∧ z = nI w9) ∧ (mq_G I g9).length = 0) ∨ (E = "java/util/NoSuchElementException" ∧ ∃ g9 w9, (g9 < ng ∧ x = nI g9 ∧ w9 < 3 ∧ z = nI w9) ∧ ¬ (mq_G I g9).length = 0 ∧ pu_iv y 0 (nI (mq_G I g9).length - 1) = false))) lx_c k1 h1 n1) : n ≤ n1 ∧ md_P dA F I J (b0 + 25) h1 ∧ ∀ (r2 : Int32) (h2 : zz_H) (n2 : Nat), (fun r h' n' => n' = n1 ∧ (((pu_iv x 0 (nI ng - 1) && pu_iv z 0 (nI 2)) = false ∧ r = 0 ∧ md_K dA (md_fs F 0 1) I J (b0 + 25) h1 h') ∨ (∃ g9 w9 N9 M9, g9 < ng ∧ x = nI g9 ∧ w9 < 3 ∧ z = nI w9 ∧ I 14 g9 = nI N9 ∧ N9 ≤ 80 ∧ I 14 g9 = nI M9 ∧ M9 ≤ 80 ∧ ((N9 = 0 ∧ r = 0 ∧ md_K dA (md_fs F 0 2) I J (b0 + 25) h1 h') ∨ (¬ N9 = 0 ∧ pu_iv y 0 (nI M9 - 1) = false ∧ r = 0 ∧ md_K dA (md_fs F 0 3) I J (b0 + 25) h1 h') ∨ (¬ N9 = 0 ∧ ∃ k9, k9 < M9 ∧ y = nI k9 ∧ r = I (15 + w9) (80 * g9 + k9) ∧ md_K dA (md_fs F 0 0) I J (b0 + 25) h1 h'))))) r2 h2 n2 → n2 = n1 ∧ lx_E dA b0 n2 h2 k1 r2 := by
  obtain ⟨c, T, w⟩ := M
  have hg4 := T.1.1.1.g4
  have ln : ∀ {g9 N9 : Nat}, I 14 g9 = nI N9 → N9 ≤ 80 → (mq_G I g9).length = N9 := by
    intro g9 N9 z1 z2
    unfold mq_G
    rw [List.length_map, List.length_range, z1, nI_clamp (by omega)]
  have iv : ∀ {g9 w9 : Nat} {y1 y2 : Int32}, g9 < ng → y1 = nI g9 → w9 < 3 → y2 = nI w9 → (pu_iv y1 0 (nI ng - 1) && pu_iv y2 0 (nI 2)) = true := by
    intro m kd y1 y2 z1 z2 z3 z4
    have q := (pu_iv_0 (v := y2) (N := 2 + 1) (by omega)).mpr ⟨kd, z3, z4⟩
    rw [nI_pred] at q
    rw [(pu_iv_0 (by omega)).mpr ⟨m, z1, z2⟩, q]
    rfl
  rcases p with ⟨rfl, r, hc, ⟨rfl, hn, g0, w0, k0, ⟨a1, a2, a3, a4⟩, a5, a6, a7, rfl⟩, rfl⟩ | ⟨E, ⟨rfl, hn, hx⟩, hk⟩
  · refine ⟨hn, (c.same hn _).2.2.2.1, fun r2 h2 n2 p2 => ?_⟩
    obtain ⟨rfl, ⟨z, -, -⟩ | ⟨g1, w1, N9, M9, b1, b2, b3, b4, b5, b6, b7, b8, p2⟩⟩ := p2
    · rw [iv a1 a2 a3 a4] at z
      exact absurd z (by decide)
    · cases lx_ni (a2.symm.trans b2) (by omega) (by omega)
      cases lx_ni (a4.symm.trans b4) (by omega) (by omega)
      have l1 := ln b5 b6
      have l2 : (mq_G I g0).length = M9 := ln b7 b8
      rcases p2 with ⟨z, -⟩ | ⟨z, z2, -⟩ | ⟨z, k9, z1, z2, rfl, K2⟩
      · omega
      · rw [(pu_iv_0 (by omega)).mpr ⟨k0, by omega, a7⟩] at z2
        exact absurd z2 (by decide)
      · cases lx_ni (a7.symm.trans z2) (by omega) (by omega)
        exact ⟨rfl, ((c.same hn _).ref K2 (T.f0 0) w).E rfl (fun _ => lx_up)⟩
  · have c' := c.le hn
    refine ⟨hn, c'.2.2.2.1, fun r2 h2 n2 p2 => ?_⟩
    obtain ⟨rfl, p2⟩ := p2
    rcases hx with ⟨rfl, hx⟩ | ⟨rfl, g0, w0, ⟨a1, a2, a3, a4⟩, a5⟩ | ⟨rfl, g0, w0, ⟨a1, a2, a3, a4⟩, a5, a6⟩
    · cases lx_c1 hk
      rcases p2 with ⟨-, rfl, K2⟩ | ⟨g1, w1, N9, M9, b1, b2, b3, b4, -⟩
      · exact ⟨rfl, (c'.ref K2 (T.f0 1) w).E rfl lx_n1⟩
      · rw [iv b1 b2 b3 b4] at hx
        exact absurd hx (by decide)
    · cases lx_c2 hk
      rcases p2 with ⟨z, -, -⟩ | ⟨g1, w1, N9, M9, b1, b2, b3, b4, b5, b6, b7, b8, p2⟩
      · rw [iv a1 a2 a3 a4] at z
        exact absurd z (by decide)
      · cases lx_ni (a2.symm.trans b2) (by omega) (by omega)
        have l1 := ln b5 b6
        rcases p2 with ⟨-, rfl, K2⟩ | ⟨z, -⟩ | ⟨z, -⟩
        · exact ⟨rfl, (c'.ref K2 (T.f0 2) w).E rfl lx_n2⟩
        · omega
        · omega
    · cases lx_c3 hk
      rcases p2 with ⟨z, -, -⟩ | ⟨g1, w1, N9, M9, b1, b2, b3, b4, b5, b6, b7, b8, p2⟩
      · rw [iv a1 a2 a3 a4] at z
        exact absurd z (by decide)
      · cases lx_ni (a2.symm.trans b2) (by omega) (by omega)
        have l1 := ln b5 b6
        have l2 : (mq_G I g0).length = M9 := ln b7 b8
        rcases p2 with ⟨z, -⟩ | ⟨z, z2, rfl, K2⟩ | ⟨z, k9, z1, z2, -⟩
        · omega
        · exact ⟨rfl, (c'.ref K2 (T.f0 3) w).E rfl lx_n3⟩
        · rw [(pu_iv_0 (by omega)).mpr ⟨k9, by omega, z2⟩] at a6
          exact absurd a6 (by decide)
theorem lx_test {x y z : Int32} (M : lx_M dA b0 n h f ad ng nM na no X Y Z F I J nc oc ow) (p : lx_H dA b0 f (fun r h' n' => h' = h ∧ n ≤ n' ∧ ∃ g9 w9 k9, (g9 < ng ∧ x = nI g9 ∧ w9 < 3 ∧ z = nI w9) ∧ ¬ (mq_G I g9).length = 0 ∧ k9 < (dk_T (pu_g3 I g9 nM) g9) ∧ y = nI k9 ∧ r = I (19 + w9) (48 * g9 + k9)) (fun E h' n' => h' = h ∧ n ≤ n' ∧ ((E = "java/lang/IllegalArgumentException" ∧ (pu_iv x 0 (nI ng - 1) && pu_iv z 0 (nI 2)) = false) ∨ (E = "java/lang/IllegalStateException" ∧ ∃ g9 w9, (g9 < ng ∧ x = nI g9 ∧ w9 < 3 ∧ z = nI w9) ∧ (mq_G I g9).length = 0) ∨ (E = "java/util/NoSuchElementException" ∧ ∃ g9 w9, (g9 < ng ∧ x = nI g9 ∧ w9 < 3 ∧ z = nI w9) ∧ ¬ (mq_G I g9).length = 0 ∧ pu_iv y 0 (nI (dk_T (pu_g3 I g9 nM) g9) - 1) = false))) lx_c k1 h1 n1) : n ≤ n1 ∧ md_P dA F I J (b0 + 25) h1 ∧ ∀ (r2 : Int32) (h2 : zz_H) (n2 : Nat), (fun r h' n' => n' = n1 ∧ (((pu_iv x 0 (nI ng - 1) && pu_iv z 0 (nI 2)) = false ∧ r = 0 ∧ md_K dA (md_fs F 0 1) I J (b0 + 25) h1 h') ∨ (∃ g9 w9 N9 M9, g9 < ng ∧ x = nI g9 ∧ w9 < 3 ∧ z = nI w9 ∧ I 14 g9 = nI N9 ∧ N9 ≤ 80 ∧ I 18 g9 = nI M9 ∧ M9 ≤ 48 ∧ ((N9 = 0 ∧ r = 0 ∧ md_K dA (md_fs F 0 2) I J (b0 + 25) h1 h') ∨ (¬ N9 = 0 ∧ pu_iv y 0 (nI M9 - 1) = false ∧ r = 0 ∧ md_K dA (md_fs F 0 3) I J (b0 + 25) h1 h') ∨ (¬ N9 = 0 ∧ ∃ k9, k9 < M9 ∧ y = nI k9 ∧ r = I (19 + w9) (48 * g9 + k9) ∧ md_K dA (md_fs F 0 0) I J (b0 + 25) h1 h'))))) r2 h2 n2 → n2 = n1 ∧ lx_E dA b0 n2 h2 k1 r2 := by
  obtain ⟨c, T, w⟩ := M
  have hg4 := T.1.1.1.g4
  have ln : ∀ {g9 N9 : Nat}, I 14 g9 = nI N9 → N9 ≤ 80 → (mq_G I g9).length = N9 := by
    intro g9 N9 z1 z2
    unfold mq_G
    rw [List.length_map, List.length_range, z1, nI_clamp (by omega)]
  have iv : ∀ {g9 w9 : Nat} {y1 y2 : Int32}, g9 < ng → y1 = nI g9 → w9 < 3 → y2 = nI w9 → (pu_iv y1 0 (nI ng - 1) && pu_iv y2 0 (nI 2)) = true := by
    intro m kd y1 y2 z1 z2 z3 z4
    have q := (pu_iv_0 (v := y2) (N := 2 + 1) (by omega)).mpr ⟨kd, z3, z4⟩
    rw [nI_pred] at q
    rw [(pu_iv_0 (by omega)).mpr ⟨m, z1, z2⟩, q]
    rfl
  rcases p with ⟨rfl, r, hc, ⟨rfl, hn, g0, w0, k0, ⟨a1, a2, a3, a4⟩, a5, a6, a7, rfl⟩, rfl⟩ | ⟨E, ⟨rfl, hn, hx⟩, hk⟩
  · refine ⟨hn, (c.same hn _).2.2.2.1, fun r2 h2 n2 p2 => ?_⟩
    obtain ⟨rfl, ⟨z, -, -⟩ | ⟨g1, w1, N9, M9, b1, b2, b3, b4, b5, b6, b7, b8, p2⟩⟩ := p2
    · rw [iv a1 a2 a3 a4] at z
      exact absurd z (by decide)
    · cases lx_ni (a2.symm.trans b2) (by omega) (by omega)
      cases lx_ni (a4.symm.trans b4) (by omega) (by omega)
      have l1 := ln b5 b6
      have l2 : dk_T (pu_g3 I g0 nM) g0 = M9 := lx_ni (((T.1.2.1 g0 a1).2.2.2 a5).2.2.2.2.2.symm.trans b7) (by have := (pu_T48 (g := g0) T.1.1.1).1; omega) (by omega)
      rcases p2 with ⟨z, -⟩ | ⟨z, z2, -⟩ | ⟨z, k9, z1, z2, rfl, K2⟩
      · omega
      · rw [(pu_iv_0 (by omega)).mpr ⟨k0, by omega, a7⟩] at z2
        exact absurd z2 (by decide)
      · cases lx_ni (a7.symm.trans z2) (by omega) (by omega)
        exact ⟨rfl, ((c.same hn _).ref K2 (T.f0 0) w).E rfl (fun _ => lx_up)⟩
  · have c' := c.le hn
    refine ⟨hn, c'.2.2.2.1, fun r2 h2 n2 p2 => ?_⟩
    obtain ⟨rfl, p2⟩ := p2
    rcases hx with ⟨rfl, hx⟩ | ⟨rfl, g0, w0, ⟨a1, a2, a3, a4⟩, a5⟩ | ⟨rfl, g0, w0, ⟨a1, a2, a3, a4⟩, a5, a6⟩
    · cases lx_c1 hk
      rcases p2 with ⟨-, rfl, K2⟩ | ⟨g1, w1, N9, M9, b1, b2, b3, b4, -⟩
      · exact ⟨rfl, (c'.ref K2 (T.f0 1) w).E rfl lx_n1⟩
      · rw [iv b1 b2 b3 b4] at hx
        exact absurd hx (by decide)
    · cases lx_c2 hk
      rcases p2 with ⟨z, -, -⟩ | ⟨g1, w1, N9, M9, b1, b2, b3, b4, b5, b6, b7, b8, p2⟩
      · rw [iv a1 a2 a3 a4] at z
        exact absurd z (by decide)
      · cases lx_ni (a2.symm.trans b2) (by omega) (by omega)
        have l1 := ln b5 b6
        rcases p2 with ⟨-, rfl, K2⟩ | ⟨z, -⟩ | ⟨z, -⟩
        · exact ⟨rfl, (c'.ref K2 (T.f0 2) w).E rfl lx_n2⟩
        · omega
        · omega
    · cases lx_c3 hk
      rcases p2 with ⟨z, -, -⟩ | ⟨g1, w1, N9, M9, b1, b2, b3, b4, b5, b6, b7, b8, p2⟩
      · rw [iv a1 a2 a3 a4] at z
        exact absurd z (by decide)
      · cases lx_ni (a2.symm.trans b2) (by omega) (by omega)
        have l1 := ln b5 b6
        have l2 : dk_T (pu_g3 I g0 nM) g0 = M9 := lx_ni (((T.1.2.1 g0 a1).2.2.2 a5).2.2.2.2.2.symm.trans b7) (by have := (pu_T48 (g := g0) T.1.1.1).1; omega) (by omega)
        rcases p2 with ⟨z, -⟩ | ⟨z, z2, rfl, K2⟩ | ⟨z, k9, z1, z2, -⟩
        · omega
        · exact ⟨rfl, (c'.ref K2 (T.f0 3) w).E rfl lx_n3⟩
        · rw [(pu_iv_0 (by omega)).mpr ⟨k9, by omega, z2⟩] at a6
          exact absurd a6 (by decide)
theorem lx_C.kept (c : lx_C dA b0 n h f ad ng nM na no X Y Z F I J) (K : dk_K dA ad (dk_lv ng nM na no) X' Y' Z' h hc) : hc (b0 + 61) = some (.inl (dA 1, 1, .inr (.inl f))) := (K.2 _ (fun k i l => by have := c.2.1 k i l; omega)).trans c.2.2.2.2.1
theorem lx_C.fresh (c : lx_C dA b0 n h f ad ng nM na no X Y Z F I J) (fr : ∀ y, y < n → (∀ k i, dk_lv ng nM na no k i → y ≠ ad k i) → hc y = h y) : hc (b0 + 61) = some (.inl (dA 1, 1, .inr (.inl f))) := (fr _ (by have := c.2.2.2.2.2; omega) (fun k i l => by have := c.2.1 k i l; omega)).trans c.2.2.2.2.1
theorem lx_C.hq (c : lx_C dA b0 n h f ad ng nM na no X Y Z F I J) : h b0 = some (.inr (0, [.ref (ad 1 0), .ref (ad 3 0), .int (X 0 0 2), .ref (ad 4 0), .int (X 0 0 4), .ref (ad 5 0), .ref (ad 7 0), .int (X 0 0 7), .int (X 0 0 8), .int (X 0 0 9)])) := by
  have e := c.1.1 0 0 rfl
  rw [c.2.2.1] at e
  exact e
theorem lx_C.hm (c : lx_C dA b0 n h f ad ng nM na no X Y Z F I J) : h (ad 7 0) = some (.inr (10, [.int (X 7 0 0), .int (X 7 0 1), va_rf (Z 7 0 2), va_rf (Z 7 0 3), .ref (ad 8 0)])) := c.1.1 7 0 rfl
theorem lx_o_klass {x : Int32} (c : lx_C dA b0 n h f ad ng nM na no X Y Z F I J) : ∀ r hc n', (fun r h' n' => n ≤ n' ∧ ∃ k, k < nc ∧ x = nI k ∧ nc < 8 ∧ r = nI nc ∧ dk_K dA ad (dk_lv ng nM na no) (dk_xk X ng nc k) Y Z h h') r hc n' → hc (b0 + 61) = some (.inl (dA 1, 1, .inr (.inl f))) := by
  rintro r hc n' ⟨-, k0, -, -, -, -, K⟩
  exact c.kept K
theorem lx_e_klass {x : Int32} : ∀ (E : String) (h' : zz_H) (n' : Nat), (fun E h' n' => h' = h ∧ n ≤ n' ∧ ((E = "java/lang/IllegalArgumentException" ∧ ∀ k, k < nc → ¬ x = nI k) ∨ (E = "java/lang/IllegalStateException" ∧ nc = 8 ∧ ∃ k, k < nc ∧ x = nI k))) E h' n' → E = "java/lang/IllegalArgumentException" ∨ E = "java/lang/IllegalStateException" := by
  rintro E h' n' ⟨-, -, h9⟩
  rcases h9 with h9 | h9
  · exact Or.inl h9.1
  · exact Or.inr h9.1
theorem lx_o_generic {x : Int32} (c : lx_C dA b0 n h f ad ng nM na no X Y Z F I J) : ∀ r hc n', (fun r h' n' => n' = n + 10 ∧ ∃ k, (k = 1 ∨ k = 2) ∧ x = nI k ∧ ng < 4 ∧ r = nI ng ∧ dk_P dA (dk_aG ad ng n) (dk_lv (ng + 1) nM na no) (dk_is (dk_xG X ng x) 0 0 (upd (dk_xG X ng x 0 0) 2 (nI (ng + 1)))) (dk_yG Y ng) (dk_is (dk_zG Z ng) 3 0 (va_up (dk_zG Z ng 3 0) ng (some (dk_aG ad ng n 20 ng)))) h' ∧ (∀ k i, dk_lv (ng + 1) nM na no k i → dk_aG ad ng n k i < n') ∧ ∀ y, y < n → (∀ k i, dk_lv ng nM na no k i → y ≠ ad k i) → h' y = h y) r hc n' → hc (b0 + 61) = some (.inl (dA 1, 1, .inr (.inl f))) := by
  rintro r hc n' ⟨-, k0, -, -, -, -, -, -, fr⟩
  exact c.fresh fr
theorem lx_e_generic {x : Int32} : ∀ (E : String) (h' : zz_H) (n' : Nat), (fun E h' n' => h' = h ∧ n ≤ n' ∧ ((E = "java/lang/IllegalArgumentException" ∧ ∀ k, (k = 1 ∨ k = 2) → ¬ x = nI k) ∨ (E = "java/lang/IllegalStateException" ∧ ng = 4 ∧ ∃ k, (k = 1 ∨ k = 2) ∧ x = nI k))) E h' n' → E = "java/lang/IllegalArgumentException" ∨ E = "java/lang/IllegalStateException" := by
  rintro E h' n' ⟨-, -, h9⟩
  rcases h9 with h9 | h9
  · exact Or.inl h9.1
  · exact Or.inr h9.1
theorem lx_o_method {x : Int32} (c : lx_C dA b0 n h f ad ng nM na no X Y Z F I J) : ∀ r hc n', (fun r h' n' => n' = n + 3 ∧ ∃ g, g < ng ∧ x = nI g ∧ nM < 12 ∧ r = nI nM ∧ dk_P dA (dk_aM ad nM n) (dk_lv ng (nM + 1) (dk_0 na nM) (dk_0 no nM)) (dk_xm X nM g (oc g)) (dk_yM Y nM) (dk_zm ad Z nM g (oc g) n) h' ∧ (∀ k i, dk_lv ng (nM + 1) (dk_0 na nM) (dk_0 no nM) k i → dk_aM ad nM n k i < n') ∧ ∀ y, y < n → (∀ k i, dk_lv ng nM na no k i → y ≠ ad k i) → h' y = h y) r hc n' → hc (b0 + 61) = some (.inl (dA 1, 1, .inr (.inl f))) := by
  rintro r hc n' ⟨-, k0, -, -, -, -, -, -, fr⟩
  exact c.fresh fr
theorem lx_e_method {x : Int32} : ∀ (E : String) (h' : zz_H) (n' : Nat), (fun E h' n' => h' = h ∧ n ≤ n' ∧ ((E = "java/lang/IllegalArgumentException" ∧ ∀ g, g < ng → ¬ x = nI g) ∨ (E = "java/lang/IllegalStateException" ∧ nM = 12 ∧ ∃ g, g < ng ∧ x = nI g))) E h' n' → E = "java/lang/IllegalArgumentException" ∨ E = "java/lang/IllegalStateException" := by
  rintro E h' n' ⟨-, -, h9⟩
  rcases h9 with h9 | h9
  · exact Or.inl h9.1
  · exact Or.inr h9.1
theorem lx_o_atom {x1 x2 x3 x4 x5 : Int32} (c : lx_C dA b0 n h f ad ng nM na no X Y Z F I J) : ∀ r hc n', (fun r h' n' => n' = n + 1 ∧ ∃ m0 kd g0 ar, (m0 < nM ∧ x1 = nI m0 ∧ kd < 6 ∧ x2 = nI kd ∧ g0 < ng ∧ I 2 m0 = nI g0 ∧ (ar = 1 ∨ ar = 2) ∧ I 1 g0 = nI ar) ∧ pu_ain nc ar kd x3 x4 = true ∧ na m0 < 4 ∧ r = nI (na m0 + 1) ∧ dk_P dA (dk_a1 ad 33 (4 * m0 + na m0) n) (dk_lv ng nM (dk_inc na m0) no) (dk_xa X m0 g0 (na m0) (dk_fa (nI kd) (if 3 < kd then 0 else x3) (if 2 < kd then 0 else x4) x5)) Y (dk_is Z 31 m0 (va_up (Z 31 m0) (na m0) (some n))) h' ∧ (∀ k i, dk_lv ng nM (dk_inc na m0) no k i → dk_a1 ad 33 (4 * m0 + na m0) n k i < n') ∧ ∀ y, y < n → (∀ k i, dk_lv ng nM na no k i → y ≠ ad k i) → h' y = h y) r hc n' → hc (b0 + 61) = some (.inl (dA 1, 1, .inr (.inl f))) := by
  rintro r hc n' ⟨-, m0, kd, g0, ar, -, -, -, -, -, -, fr⟩
  exact c.fresh fr
theorem lx_e_atom {x1 x2 x3 x4 x5 : Int32} : ∀ (E : String) (h' : zz_H) (n' : Nat), (fun E h' n' => h' = h ∧ n ≤ n' ∧ ((E = "java/lang/IllegalArgumentException" ∧ ∀ m0 kd g0 ar, (m0 < nM ∧ x1 = nI m0 ∧ kd < 6 ∧ x2 = nI kd ∧ g0 < ng ∧ I 2 m0 = nI g0 ∧ (ar = 1 ∨ ar = 2) ∧ I 1 g0 = nI ar) → pu_ain nc ar kd x3 x4 = false) ∨ (E = "java/lang/IllegalStateException" ∧ ∃ m0 kd g0 ar, (m0 < nM ∧ x1 = nI m0 ∧ kd < 6 ∧ x2 = nI kd ∧ g0 < ng ∧ I 2 m0 = nI g0 ∧ (ar = 1 ∨ ar = 2) ∧ I 1 g0 = nI ar) ∧ pu_ain nc ar kd x3 x4 = true ∧ na m0 = 4))) E h' n' → E = "java/lang/IllegalArgumentException" ∨ E = "java/lang/IllegalStateException" := by
  rintro E h' n' ⟨-, -, h9⟩
  rcases h9 with h9 | h9
  · exact Or.inl h9.1
  · exact Or.inr h9.1
theorem lx_o_operation {x1 x2 x3 : Int32} (c : lx_C dA b0 n h f ad ng nM na no X Y Z F I J) : ∀ r hc n', (fun r h' n' => n' = n + 1 ∧ ∃ m0 kd g0 ar, (m0 < nM ∧ x1 = nI m0 ∧ kd < 7 ∧ x2 = nI kd ∧ g0 < ng ∧ I 2 m0 = nI g0 ∧ (ar = 1 ∨ ar = 2) ∧ I 1 g0 = nI ar) ∧ pu_oin nc ng ar kd x3 = true ∧ no m0 < 8 ∧ r = nI (no m0 + 1) ∧ dk_P dA (dk_a1 ad 34 (8 * m0 + no m0) n) (dk_lv ng nM na (dk_inc no m0)) (dk_xo X m0 (no m0) (dk_fa (nI kd) x3 0 0)) Y (dk_is Z 32 m0 (va_up (Z 32 m0) (no m0) (some n))) h' ∧ (∀ k i, dk_lv ng nM na (dk_inc no m0) k i → dk_a1 ad 34 (8 * m0 + no m0) n k i < n') ∧ ∀ y, y < n → (∀ k i, dk_lv ng nM na no k i → y ≠ ad k i) → h' y = h y) r hc n' → hc (b0 + 61) = some (.inl (dA 1, 1, .inr (.inl f))) := by
  rintro r hc n' ⟨-, m0, kd, g0, ar, -, -, -, -, -, -, fr⟩
  exact c.fresh fr
theorem lx_e_operation {x1 x2 x3 : Int32} : ∀ (E : String) (h' : zz_H) (n' : Nat), (fun E h' n' => h' = h ∧ n ≤ n' ∧ ((E = "java/lang/IllegalArgumentException" ∧ ∀ m0 kd g0 ar, (m0 < nM ∧ x1 = nI m0 ∧ kd < 7 ∧ x2 = nI kd ∧ g0 < ng ∧ I 2 m0 = nI g0 ∧ (ar = 1 ∨ ar = 2) ∧ I 1 g0 = nI ar) → pu_oin nc ng ar kd x3 = false) ∨ (E = "java/lang/IllegalStateException" ∧ ∃ m0 kd g0 ar, (m0 < nM ∧ x1 = nI m0 ∧ kd < 7 ∧ x2 = nI kd ∧ g0 < ng ∧ I 2 m0 = nI g0 ∧ (ar = 1 ∨ ar = 2) ∧ I 1 g0 = nI ar) ∧ pu_oin nc ng ar kd x3 = true ∧ no m0 = 8))) E h' n' → E = "java/lang/IllegalArgumentException" ∨ E = "java/lang/IllegalStateException" := by
  rintro E h' n' ⟨-, -, h9⟩
  rcases h9 with h9 | h9
  · exact Or.inl h9.1
  · exact Or.inr h9.1
theorem lx_o_beyond {x y : Int32} (c : lx_C dA b0 n h f ad ng nM na no X Y Z F I J) : ∀ r hc n', (fun r h' n' => n ≤ n' ∧ ∃ a b g, pu_two I nM x y a b g ∧ g < ng ∧ r = pu_b (bt (pu_B I nc nM g (mq_ar I g) a) b) ∧ ∃ X' Y' Z', dk_K dA ad (dk_lv ng nM na no) X' Y' Z' h h' ∧ dk_IV F ad ng nM na no X' Y' Z' I nc oc ow ∧ X' 0 0 = X 0 0 ∧ X' 7 0 = X 7 0) r hc n' → hc (b0 + 61) = some (.inl (dA 1, 1, .inr (.inl f))) := by
  rintro r hc n' ⟨-, a, b, g, -, -, -, X', Y', Z', K, -⟩
  exact c.kept K
theorem lx_e_beyond {x y : Int32} : ∀ (E : String) (h' : zz_H) (n' : Nat), (fun E h' n' => E = "java/lang/IllegalArgumentException" ∧ h' = h ∧ n ≤ n' ∧ ∀ a b g, ¬ pu_two I nM x y a b g) E h' n' → E = "java/lang/IllegalArgumentException" := by
  intro E h' n' p
  exact p.1
theorem lx_o_best {g x y : Int32} (c : lx_C dA b0 n h f ad ng nM na no X Y Z F I J) : ∀ r hc n', (fun r h' n' => n ≤ n' ∧ ∃ g0 ar x0 y0, pu_row I nc ng g x y g0 ar x0 y0 ∧ r = pu_bs I nc nM g0 ar (pu_rw nc ar x0 y0) ∧ ∃ X' Y' Z', dk_K dA ad (dk_lv ng nM na no) X' Y' Z' h h' ∧ dk_IV F ad ng nM na no X' Y' Z' I nc oc ow ∧ X' 0 0 = X 0 0 ∧ X' 7 0 = X 7 0) r hc n' → hc (b0 + 61) = some (.inl (dA 1, 1, .inr (.inl f))) := by
  rintro r hc n' ⟨-, g0, ar, x0, y0, -, -, X', Y', Z', K, -⟩
  exact c.kept K
theorem lx_e_best {g x y : Int32} : ∀ (E : String) (h' : zz_H) (n' : Nat), (fun E h' n' => E = "java/lang/IllegalArgumentException" ∧ h' = h ∧ n ≤ n' ∧ ∀ g0 ar x0 y0, ¬ pu_row I nc ng g x y g0 ar x0 y0) E h' n' → E = "java/lang/IllegalArgumentException" := by
  intro E h' n' p
  exact p.1
theorem lx_o_check {g : Int32} (c : lx_C dA b0 n h f ad ng nM na no X Y Z F I J) : ∀ r hc n', (fun r h' n' => n ≤ n' ∧ ∃ g0, g0 < ng ∧ g = nI g0 ∧ ∃ X' Y' Z', dk_K dA ad (dk_lv ng nM na no) X' Y' Z' h h' ∧ dk_IV F ad ng nM na no X' Y' Z' I nc oc ow ∧ X' 7 0 = X 7 0 ∧ ((r = 0 ∧ X' 0 0 7 = 0 ∧ ∀ r9, r9 < pu_R nc (mq_ar I g0) → ¬ pu_bs I nc nM g0 (mq_ar I g0) r9 < 0) ∨ ∃ r0, r0 < pu_R nc (mq_ar I g0) ∧ (∀ r9, r9 < r0 → ¬ pu_bs I nc nM g0 (mq_ar I g0) r9 < 0) ∧ pu_bs I nc nM g0 (mq_ar I g0) r0 < 0 ∧ r = - pu_bs I nc nM g0 (mq_ar I g0) r0 ∧ X' 0 0 7 = nI (mq_ar I g0) ∧ X' 0 0 8 = nI (pu_r1 nc (mq_ar I g0) r0) ∧ X' 0 0 9 = nI (pu_r2 nc (mq_ar I g0) r0))) r hc n' → hc (b0 + 61) = some (.inl (dA 1, 1, .inr (.inl f))) := by
  rintro r hc n' ⟨-, g0, -, -, X', Y', Z', K, -⟩
  exact c.kept K
theorem lx_e_check {g : Int32} : ∀ (E : String) (h' : zz_H) (n' : Nat), (fun E h' n' => E = "java/lang/IllegalArgumentException" ∧ h' = h ∧ n ≤ n' ∧ ∀ g0, g0 < ng → ¬ g = nI g0) E h' n' → E = "java/lang/IllegalArgumentException" := by
  intro E h' n' p
  exact p.1
theorem lx_o_compile {g : Int32} (c : lx_C dA b0 n h f ad ng nM na no X Y Z F I J) : ∀ r hc n', (fun r h' n' => n ≤ n' ∧ ∃ g0, g0 < ng ∧ g = nI g0 ∧ ¬ (dk_tr9 I nc nM g0 (mq_ar I g0)).2 = -1 ∧ r = nI (dk_trG I nc nM g0 (mq_ar I g0)).length ∧ ∃ Xf Yf Zf X' Y', dk_IV F ad ng nM na no Xf Yf Zf I nc oc ow ∧ Xf 20 g0 7 = 1 ∧ dk_fr X Xf Z Zf ∧ dk_K dA ad (dk_lv ng nM na no) X' Y' Zf h h' ∧ dk_gr X' g0 (dk_trG I nc nM g0 (mq_ar I g0)) ∧ dk_fb g0 Xf X' Yf Y' ∧ dk_ch X' Y' (ow g0) g0 (oc g0)) r hc n' → hc (b0 + 61) = some (.inl (dA 1, 1, .inr (.inl f))) := by
  rintro r hc n' ⟨-, g0, -, -, -, -, Xf, Yf, Zf, X', Y', -, -, -, K, -⟩
  exact c.kept K
theorem lx_e_compile {g : Int32} : ∀ (E : String) (h' : zz_H) (n' : Nat), (fun E h' n' => n ≤ n' ∧ ((E = "java/lang/IllegalArgumentException" ∧ h' = h ∧ ∀ g0, g0 < ng → ¬ g = nI g0) ∨ (E = "java/lang/IllegalStateException" ∧ ∃ g0, g0 < ng ∧ g = nI g0 ∧ (dk_tr9 I nc nM g0 (mq_ar I g0)).2 = -1 ∧ ∃ Xf Yf Zf X' Y', dk_IV F ad ng nM na no Xf Yf Zf I nc oc ow ∧ Xf 20 g0 7 = 1 ∧ dk_fr X Xf Z Zf ∧ dk_K dA ad (dk_lv ng nM na no) X' Y' Zf h h' ∧ dk_gr X' g0 (dk_trG I nc nM g0 (mq_ar I g0)) ∧ dk_fb g0 Xf X' Yf Y' ∧ dk_ch X' Y' (ow g0) g0 (oc g0)))) E h' n' → E = "java/lang/IllegalArgumentException" ∨ E = "java/lang/IllegalStateException" := by
  rintro E h' n' ⟨-, h9⟩
  rcases h9 with h9 | h9
  · exact Or.inl h9.1
  · exact Or.inr h9.1
theorem lx_o_run {g x y f9 : Int32} (c : lx_C dA b0 n h f ad ng nM na no X Y Z F I J) : ∀ r hc n', (fun r h' n' => n ≤ n' ∧ ∃ g9 ar x9 y9 f8, (pu_row I nc ng g x y g9 ar x9 y9 ∧ f8 ≤ 200 ∧ f9 = nI f8) ∧ ∃ X' Y' Z', dk_K dA ad (dk_lv ng nM na no) X' Y' Z' h h' ∧ dk_IV F ad ng nM na no X' Y' Z' I nc oc ow ∧ X' 0 0 = X 0 0 ∧ dk_rs I nc nM (mq_enter (mq_ch I nc nM g9 x9 y9) x9 y9 f8 0 [] 0) [] r X') r hc n' → hc (b0 + 61) = some (.inl (dA 1, 1, .inr (.inl f))) := by
  rintro r hc n' ⟨-, g9, ar, x9, y9, f8, -, X', Y', Z', K, -⟩
  exact c.kept K
theorem lx_e_run {g x y f9 : Int32} : ∀ (E : String) (h' : zz_H) (n' : Nat), (fun E h' n' => E = "java/lang/IllegalArgumentException" ∧ h' = h ∧ n ≤ n' ∧ ∀ g9 ar x9 y9 f8, ¬ (pu_row I nc ng g x y g9 ar x9 y9 ∧ f8 ≤ 200 ∧ f9 = nI f8)) E h' n' → E = "java/lang/IllegalArgumentException" := by
  intro E h' n' p
  exact p.1
theorem lx_o_witness {x : Int32} (c : lx_C dA b0 n h f ad ng nM na no X Y Z F I J) : ∀ r hc n', (fun r h' n' => h' = h ∧ n' = n ∧ ¬ x < 0 ∧ x < (X 0 0 7) ∧ ((x = 0 ∧ r = (X 0 0 8)) ∨ (¬ x = 0 ∧ r = (X 0 0 9)))) r hc n' → hc (b0 + 61) = some (.inl (dA 1, 1, .inr (.inl f))) := by
  rintro r hc n' ⟨rfl, -⟩
  exact c.2.2.2.2.1
theorem lx_e_witness {x : Int32} : ∀ (E : String) (h' : zz_H) (n' : Nat), (fun E h' n' => E = "java/util/NoSuchElementException" ∧ h' = h ∧ n ≤ n' ∧ (x < 0 ∨ ¬ x < (X 0 0 7))) E h' n' → E = "java/util/NoSuchElementException" := by
  intro E h' n' p
  exact p.1
theorem lx_o_node {x y z : Int32} (c : lx_C dA b0 n h f ad ng nM na no X Y Z F I J) : ∀ r hc n', (fun r h' n' => h' = h ∧ n ≤ n' ∧ ∃ g9 w9 k9, (g9 < ng ∧ x = nI g9 ∧ w9 < 3 ∧ z = nI w9) ∧ ¬ (mq_G I g9).length = 0 ∧ k9 < (mq_G I g9).length ∧ y = nI k9 ∧ r = I (15 + w9) (80 * g9 + k9)) r hc n' → hc (b0 + 61) = some (.inl (dA 1, 1, .inr (.inl f))) := by
  rintro r hc n' ⟨rfl, -⟩
  exact c.2.2.2.2.1
theorem lx_e_node {x y z : Int32} : ∀ (E : String) (h' : zz_H) (n' : Nat), (fun E h' n' => h' = h ∧ n ≤ n' ∧ ((E = "java/lang/IllegalArgumentException" ∧ (pu_iv x 0 (nI ng - 1) && pu_iv z 0 (nI 2)) = false) ∨ (E = "java/lang/IllegalStateException" ∧ ∃ g9 w9, (g9 < ng ∧ x = nI g9 ∧ w9 < 3 ∧ z = nI w9) ∧ (mq_G I g9).length = 0) ∨ (E = "java/util/NoSuchElementException" ∧ ∃ g9 w9, (g9 < ng ∧ x = nI g9 ∧ w9 < 3 ∧ z = nI w9) ∧ ¬ (mq_G I g9).length = 0 ∧ pu_iv y 0 (nI (mq_G I g9).length - 1) = false))) E h' n' → E = "java/lang/IllegalArgumentException" ∨ E = "java/lang/IllegalStateException" ∨ E = "java/util/NoSuchElementException" := by
  rintro E h' n' ⟨-, -, h9⟩
  rcases h9 with h9 | h9 | h9
  · exact Or.inl h9.1
  · exact Or.inr (Or.inl h9.1)
  · exact Or.inr (Or.inr h9.1)
theorem lx_o_test {x y z : Int32} (c : lx_C dA b0 n h f ad ng nM na no X Y Z F I J) : ∀ r hc n', (fun r h' n' => h' = h ∧ n ≤ n' ∧ ∃ g9 w9 k9, (g9 < ng ∧ x = nI g9 ∧ w9 < 3 ∧ z = nI w9) ∧ ¬ (mq_G I g9).length = 0 ∧ k9 < (dk_T (pu_g3 I g9 nM) g9) ∧ y = nI k9 ∧ r = I (19 + w9) (48 * g9 + k9)) r hc n' → hc (b0 + 61) = some (.inl (dA 1, 1, .inr (.inl f))) := by
  rintro r hc n' ⟨rfl, -⟩
  exact c.2.2.2.2.1
theorem lx_e_test {x y z : Int32} : ∀ (E : String) (h' : zz_H) (n' : Nat), (fun E h' n' => h' = h ∧ n ≤ n' ∧ ((E = "java/lang/IllegalArgumentException" ∧ (pu_iv x 0 (nI ng - 1) && pu_iv z 0 (nI 2)) = false) ∨ (E = "java/lang/IllegalStateException" ∧ ∃ g9 w9, (g9 < ng ∧ x = nI g9 ∧ w9 < 3 ∧ z = nI w9) ∧ (mq_G I g9).length = 0) ∨ (E = "java/util/NoSuchElementException" ∧ ∃ g9 w9, (g9 < ng ∧ x = nI g9 ∧ w9 < 3 ∧ z = nI w9) ∧ ¬ (mq_G I g9).length = 0 ∧ pu_iv y 0 (nI (dk_T (pu_g3 I g9 nM) g9) - 1) = false))) E h' n' → E = "java/lang/IllegalArgumentException" ∨ E = "java/lang/IllegalStateException" ∨ E = "java/util/NoSuchElementException" := by
  rintro E h' n' ⟨-, -, h9⟩
  rcases h9 with h9 | h9 | h9
  · exact Or.inl h9.1
  · exact Or.inr (Or.inl h9.1)
  · exact Or.inr (Or.inr h9.1)
theorem lx_z_beyond {x y : Int32} : ∀ (r : Int32) (hc : zz_H) (n' : Nat), (fun r h' n' => n ≤ n' ∧ ∃ a b g, pu_two I nM x y a b g ∧ g < ng ∧ r = pu_b (bt (pu_B I nc nM g (mq_ar I g) a) b) ∧ ∃ X' Y' Z', dk_K dA ad (dk_lv ng nM na no) X' Y' Z' h h' ∧ dk_IV F ad ng nM na no X' Y' Z' I nc oc ow ∧ X' 0 0 = X 0 0 ∧ X' 7 0 = X 7 0) r hc n' → r = 0 ∨ r = 1 := by
  rintro r hc n' ⟨-, a, b, g, -, -, rfl, -⟩
  exact (fun c => by cases c <;> first | exact Or.inl rfl | exact Or.inr rfl : ∀ c : Bool, pu_b c = 0 ∨ pu_b c = 1) _
end LXC
