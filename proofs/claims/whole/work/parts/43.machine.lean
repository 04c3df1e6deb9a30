/-! the machine of the bodies: frames (method, first, second, at, stack), the latest first -/
abbrev mq_F : Type := Nat × Nat × Nat × Nat × List Nat
/-- fuel, tests gone through, frames, what ended it (0: nothing), the latest result -/
abbrev mq_S : Type := Nat × Nat × List mq_F × Int32 × Nat
abbrev mq_M : Type := Nat → Nat → Int32
def pu_bs (I : mq_M) (nc nM g ar r : Nat) : Int32 := pu_fm (pu_A I nc nM g ar r) (pu_B I nc nM g ar) nM
def pu_nx (I : mq_M) (nc nM g ar m r : Nat) : Int32 := pu_fm (pu_A I nc nM g ar r &&& pu_B I nc nM g ar m) (pu_B I nc nM g ar) nM
def mq_G (I : mq_M) (g : Nat) : List tg_N := (List.range (I 14 g).toNatClampNeg).map fun k => (I 15 (80 * g + k), I 16 (80 * g + k), I 17 (80 * g + k))
def mq_ar (I : mq_M) (g : Nat) : Nat := (I 1 g).toNatClampNeg
def mq_of (I : mq_M) (m : Nat) : Nat := (I 2 m).toNatClampNeg
def mq_no (I : mq_M) (m : Nat) : Nat := (I 8 m).toNatClampNeg
def mq_kd (I : mq_M) (m j : Nat) : Nat := (I 9 (8 * m + j)).toNatClampNeg
/-- the method that a call takes, and how many tests -/
def mq_ch (I : mq_M) (nc nM g x y : Nat) : Int32 × Nat := if (mq_G I g).length = 0 then (pu_bs I nc nM g (mq_ar I g) (pu_rw nc (mq_ar I g) x y), 0) else tg_go (mq_G I g) (pu_qz I g x y) (mq_G I g).length ((mq_G I g).length - 1)
/-- the method that stands behind m -/
def mq_cn (I : mq_M) (nc nM m x y : Nat) : Int32 := pu_nx I nc nM (mq_of I m) (mq_ar I (mq_of I m)) m (pu_rw nc (mq_ar I (mq_of I m)) x y)
def mq_enter (c : Int32 × Nat) (x y fu th : Nat) (fs : List mq_F) (re : Nat) : mq_S :=
  if fs.length = 8 then (fu, th, fs, -5, re)
  else if fu = 0 then (0, th, fs, -3, re)
  else if c.1 < 0 then (fu - 1, th + c.2, fs, c.1, re)
  else (fu - 1, th + c.2, (c.1.toNatClampNeg, x, y, 0, []) :: fs, 0, re)
def mq_push (v fu th m x y a : Nat) (st : List Nat) (fs : List mq_F) (re : Nat) : mq_S := if st.length = 6 then (fu, th, (m, x, y, a, st) :: fs, -4, re) else (fu, th, (m, x, y, a, v :: st) :: fs, 0, re)
def mq_add (v u : Nat) : Nat := v / 8 * 8 + (v % 8 + u % 8 + 28) % 8
def mq_mul (v u : Nat) : Nat := v / 8 * 8 + ((((v % 8 : Nat) : Int) - 4) * (((u % 8 : Nat) : Int) - 4) + 36).toNat % 8
/-- one operation, its fuel spent and its place gone by -/
def mq_do (I : mq_M) (nc nM o : Nat) (n : Int32) (fu th m x y a : Nat) (st : List Nat) (fs : List mq_F) (re : Nat) : mq_S := match o with
  | 0 => mq_push (n + 4).toNatClampNeg fu th m x y a st fs re
  | 1 => mq_push (if n = 0 then x else y) fu th m x y a st fs re
  | 2 => match st with
    | u :: v :: t => (fu, th, (m, x, y, a, mq_add v u :: t) :: fs, 0, re)
    | _ => (fu, th, (m, x, y, a, st) :: fs, -4, re)
  | 3 => match st with
    | u :: v :: t => (fu, th, (m, x, y, a, mq_mul v u :: t) :: fs, 0, re)
    | _ => (fu, th, (m, x, y, a, st) :: fs, -4, re)
  | 4 => match st with
    | u :: t => (fu, th, (m, x, y, a, (8 * n.toNatClampNeg + u % 8) :: t) :: fs, 0, re)
    | _ => (fu, th, (m, x, y, a, st) :: fs, -4, re)
  | 5 => if mq_ar I n.toNatClampNeg = 1 then (match st with
    | u :: t => mq_enter (mq_ch I nc nM n.toNatClampNeg u 0) u 0 fu th ((m, x, y, a, t) :: fs) re
    | _ => (fu, th, (m, x, y, a, st) :: fs, -4, re)) else (match st with
    | u :: v :: t => mq_enter (mq_ch I nc nM n.toNatClampNeg v u) v u fu th ((m, x, y, a, t) :: fs) re
    | _ => (fu, th, (m, x, y, a, st) :: fs, -4, re))
  | _ => mq_enter (mq_cn I nc nM m x y, 0) x y fu th ((m, x, y, a, st) :: fs) re
/-- a frame is done: its answer goes to the one below -/
def mq_back (v fu th : Nat) : List mq_F → mq_S
  | [] => (fu, th, [], 0, v)
  | (m, x, y, a, st) :: fs => mq_push v fu th m x y a st fs v
def mq_step (I : mq_M) (nc nM : Nat) : mq_S → mq_S
  | (fu, th, (m, x, y, a, st) :: fs, _, re) =>
    if a < mq_no I m then (if fu = 0 then (0, th, (m, x, y, a, st) :: fs, -3, re) else mq_do I nc nM (mq_kd I m a) (I 10 (8 * m + a)) (fu - 1) th m x y (a + 1) st fs re)
    else mq_back (st.headD x) fu th fs
  | z => z
def mq_go (I : mq_M) (nc nM : Nat) : Nat → mq_S → mq_S
  | 0, z => z
  | k + 1, z => if z.2.2.1.length = 0 ∨ ¬ z.2.2.2.1 = 0 then z else mq_go I nc nM k (mq_step I nc nM z)
/-! what a set's best is -/
theorem pu_fm_rg (x : Int32) (be : Nat → Int32) : ∀ k, pu_fm x be k < 0 ∨ ∃ m, m < k ∧ pu_fm x be k = nI m ∧ bt x m = true
  | 0 => by
    left
    rw [pu_fm]
    split <;> decide
  | k + 1 => by
    rw [pu_fm]
    split
    · rename_i z
      exact Or.inr ⟨k, by omega, rfl, z.1⟩
    · rcases pu_fm_rg x be k with z | ⟨m, z1, z2, z3⟩
      · exact Or.inl z
      · exact Or.inr ⟨m, by omega, z2, z3⟩
theorem pu_fm_cg {x : Int32} {be be' : Nat → Int32} : ∀ k, (∀ m, m < k → bt x m = true → be m = be' m) → pu_fm x be k = pu_fm x be' k
  | 0, _ => rfl
  | k + 1, h => by
    rw [pu_fm, pu_fm, pu_fm_cg k (fun m hm => h m (by omega))]
    by_cases z : bt x k = true
    · rw [h k (by omega) z]
    · rw [if_neg (fun q => z q.1), if_neg (fun q => z q.1)]
theorem pu_A_of {I : mq_M} {nc nM g ar r m : Nat} (hn : nM ≤ 12) (h : bt (pu_A I nc nM g ar r) m = true) (hm : m < nM) : I 2 m = nI g := by
  unfold pu_A at h
  rw [bt_ms _ nM (by omega) m (by omega)] at h
  unfold pu_ap at h
  simp at h
  exact h.2.1
theorem pu_best_bs {I : mq_M} {nc ng nM g ar r : Nat} (h : pu_kn I nc ng nM) (hn : nM ≤ 12) (hg : g < ng) (ha : ar ≤ 2) (har : I 1 g = nI ar) (hr : r < pu_R nc ar) : pu_best (pu_know I nc nM g ar) nM g r = pu_bs I nc nM g ar r := by
  unfold pu_best pu_bs
  rw [pu_kn_kr h g ar hg ha har r hr]
  exact pu_fm_cg nM (fun m hm hb => pu_kn_13 h hg ha har hm (pu_A_of hn hb hm))
theorem pu_next_nx {I : mq_M} {nc ng nM g ar r m : Nat} (h : pu_kn I nc ng nM) (hn : nM ≤ 12) (hg : g < ng) (ha : ar ≤ 2) (har : I 1 g = nI ar) (hr : r < pu_R nc ar) (hm : m < nM) (eo : I 2 m = nI g) : pu_fm (pu_know I nc nM g ar 12 (4096 * g + r) &&& pu_know I nc nM g ar 13 m) (pu_know I nc nM g ar 13) nM = pu_nx I nc nM g ar m r := by
  unfold pu_nx
  rw [pu_kn_kr h g ar hg ha har r hr, pu_kn_13 h hg ha har hm eo]
  refine pu_fm_cg nM (fun k hk hb => pu_kn_13 h hg ha har hk ?_)
  rw [b_and] at hb
  simp at hb
  exact pu_A_of hn hb.1 hk
theorem pu_kn_know {I : mq_M} {nc ng nM g ar : Nat} (h : pu_kn I nc ng nM) (h8 : nc ≤ 8) (h4 : ng ≤ 4) (hg : g < ng) (har : I 1 g = nI ar) (ha : ar ≤ 2) : pu_kn (pu_know I nc nM g ar) nc ng nM := by
  by_cases c : I 11 g = 0
  · refine ⟨?_, fun g9 h1 h2 => ?_⟩
    rotate_left
    · unfold pu_know
      rw [if_pos c]
      show upd (I 11) g 1 g9 = _
      unfold upd
      rw [if_neg (by omega)]
      exact h.2 g9 h1 h2
    intro g9 ar9 hg9 ha9 har9
    rw [pu_know_8 _ _ _ _ _ _ (by decide)] at har9
    have hR := pu_R_le (nc := nc) (ar := ar) h8
    have hR9 := pu_R_le (nc := nc) (ar := ar9) h8
    have eA : ∀ g ar', pu_A (pu_know I nc nM g ar) nc nM g9 ar' = pu_A I nc nM g9 ar' := fun g _ => pu_A_cg (fun k hk => pu_know_8 _ _ _ _ _ _ (by omega)) _ _ _ _
    have eB : ∀ m, pu_B (pu_know I nc nM g ar) nc nM g9 ar9 m = pu_B I nc nM g9 ar9 m := fun m => pu_B_cg (fun k hk => pu_know_8 _ _ _ _ _ _ (by omega)) _ _ _ _ _
    by_cases e : g9 = g
    · subst e
      have ea : ar9 = ar := (nI_eq (by omega) (by omega)).mp (har9.symm.trans har)
      subst ea
      right
      refine ⟨fun r hr => ?_, fun m hm eo => ?_⟩
      · rw [pu_know_12 c hr, eA]
      · rw [pu_know_8 _ _ _ _ _ _ (by decide)] at eo
        rw [pu_know_13 c hm eo, eB]
    · have e11 : pu_know I nc nM g ar 11 g9 = I 11 g9 := by
        unfold pu_know
        rw [if_pos c]
        show upd (I 11) g 1 g9 = _
        unfold upd
        rw [if_neg e]
      have e12 : ∀ r, r < pu_R nc ar9 → pu_know I nc nM g ar 12 (4096 * g9 + r) = I 12 (4096 * g9 + r) := by
        intro r hr
        unfold pu_know
        rw [if_pos c]
        show pu_fill (I 12) (pu_A I nc nM g ar) (4096 * g) (pu_R nc ar) (4096 * g9 + r) = _
        unfold pu_fill
        rw [if_neg (by omega)]
      have e13 : ∀ m, I 2 m = nI g9 → pu_know I nc nM g ar 13 m = I 13 m := by
        intro m em
        unfold pu_know
        rw [if_pos c]
        show pu_fb (I 13) (pu_B I nc nM g ar) (I 2) g nM m = _
        unfold pu_fb
        rw [if_neg (fun z => e ((nI_eq (by omega) (by omega)).mp (em.symm.trans z.2)))]
      rcases h.1 g9 ar9 hg9 ha9 har9 with z | z
      · left
        rw [e11]
        exact z
      · right
        refine ⟨fun r hr => ?_, fun m hm eo => ?_⟩
        · rw [e12 r hr, eA]
          exact z.1 r hr
        · rw [pu_know_8 _ _ _ _ _ _ (by decide)] at eo
          rw [e13 m eo, eB]
          exact z.2 m hm eo
  · unfold pu_know
    rw [if_neg c]
    exact h
