/-! operations in order -/
def pu_ow (I : mq_M) (nc ng nM : Nat) : Prop := ∀ m, m < nM → mq_no I m ≤ 8 ∧ I 8 m = nI (mq_no I m) ∧ ∀ j, j < mq_no I m → mq_kd I m j < 7 ∧ I 9 (8 * m + j) = nI (mq_kd I m j) ∧ pu_oin nc ng (mq_ar I (mq_of I m)) (mq_kd I m j) (I 10 (8 * m + j)) = true
theorem mq_num {n : Int32} (h : pu_iv n (-4) 3 = true) : ∃ w, w < 8 ∧ n + 4 = nI w := by
  rw [pu_iv_k] at h
  have e1 : (-4 : Int32).toInt = -4 := by decide
  have e2 : (3 : Int32).toInt = 3 := by decide
  rw [e1, e2] at h
  refine ⟨(n.toInt + 4).toNat, by omega, ?_⟩
  apply Int32.toInt_inj.mp
  rw [Int32.toInt_add, nI_toInt (by omega)]
  have e3 : (4 : Int32).toInt = 4 := by decide
  rw [e3, Int.toNat_of_nonneg (by omega)]
  rw [Int.bmod_eq_of_le (by omega) (by omega)]
theorem mq_ad8 : ∀ a : Fin 8, ∀ b : Fin 8, ((nI a.val - 4) + (nI b.val - 4) + 36) - ((nI a.val - 4) + (nI b.val - 4) + 36) / 8 * 8 = nI ((a.val + b.val + 28) % 8) := by decide +kernel
theorem mq_ml8 : ∀ a : Fin 8, ∀ b : Fin 8, ((nI a.val - 4) * (nI b.val - 4) + 36) - ((nI a.val - 4) * (nI b.val - 4) + 36) / 8 * 8 = nI (((((a.val : Nat) : Int) - 4) * (((b.val : Nat) : Int) - 4) + 36).toNat % 8) := by decide +kernel
theorem mq_addI {v u : Nat} : ((nI (v % 8) - 4) + (nI (u % 8) - 4) + 36) - ((nI (v % 8) - 4) + (nI (u % 8) - 4) + 36) / 8 * 8 = nI ((v % 8 + u % 8 + 28) % 8) := mq_ad8 ⟨v % 8, Nat.mod_lt _ (by decide)⟩ ⟨u % 8, Nat.mod_lt _ (by decide)⟩
theorem mq_mulI {v u : Nat} : ((nI (v % 8) - 4) * (nI (u % 8) - 4) + 36) - ((nI (v % 8) - 4) * (nI (u % 8) - 4) + 36) / 8 * 8 = nI (((((v % 8 : Nat) : Int) - 4) * (((u % 8 : Nat) : Int) - 4) + 36).toNat % 8) := mq_ml8 ⟨v % 8, Nat.mod_lt _ (by decide)⟩ ⟨u % 8, Nat.mod_lt _ (by decide)⟩
theorem mq_add_lt {v u nc : Nat} (h : v < 8 * nc) : mq_add v u < 8 * nc := by
  unfold mq_add
  omega
theorem mq_mul_lt {v u nc : Nat} (h : v < 8 * nc) : mq_mul v u < 8 * nc := by
  unfold mq_mul
  have := Nat.mod_lt (((((v % 8 : Nat) : Int) - 4) * (((u % 8 : Nat) : Int) - 4) + 36).toNat) (show 0 < 8 by decide)
  omega
section MQC
variable {F0 F : Nat → Int32} {I0 I : mq_M} {nc ng nM fu th re m x y a : Nat} {st : List Nat} {fs : List mq_F} {en : Int32}
theorem mq_A.o (A : mq_A F0 I0 nc ng nM F I (fu, th, (m, x, y, a, st) :: fs, en, re)) : mq_1 I0 I nc fs.length (m, x, y, a, st) := A.2.2.2.2.2.2.2.1.1
theorem mq_A.u (A : mq_A F0 I0 nc ng nM F I (fu, th, (m, x, y, a, st) :: fs, en, re)) : mq_okF nc nM (m, x, y, a, st) := A.2.2.2.2.2.2.2.2.2.2 _ (List.mem_cons_self ..)
theorem mq_A.l (A : mq_A F0 I0 nc ng nM F I (fu, th, (m, x, y, a, st) :: fs, en, re)) : fs.length < 8 := A.2.2.2.2.2.2.2.2.2.1
/-- the place goes by one -/
theorem mq_A.q (A : mq_A F0 I0 nc ng nM F I (fu, th, (m, x, y, a, st) :: fs, en, re)) (ha : a < 8) : mq_A F0 I0 nc ng nM F (md_is I 32 (upd (I 32) fs.length (nI (a + 1)))) (fu, th, (m, x, y, a + 1, st) :: fs, en, re) :=
  A.x (I' := md_is I 32 (upd (I 32) fs.length (nI (a + 1)))) (fun k h1 h2 h3 => if_neg h1) (fun k j h1 h2 => by
    rcases h1 with rfl | rfl
    · exact pk_un (f := I 32) (by omega)
    · rfl) (fun j hj => rfl) (pk_us (f := I 32)) A.o.2.2.2.2.1 A.o.2.2.2.2.2 ha A.u.2.2.2.2.1 A.u.2.2.2.2.2 re
/-- the stack anew: place p of it is v, its height is that of st' -/
theorem mq_A.w {st' : List Nat} {p v : Nat} (A : mq_A F0 I0 nc ng nM F I (fu, th, (m, x, y, a, st) :: fs, en, re)) (hp : 6 * fs.length ≤ p) (b3 : mq_sk (upd (I 34) p (nI v)) (6 * fs.length) st') (c2 : st'.length ≤ 6) (c3 : ∀ v : Nat, v ∈ st' → v < 8 * nc) : mq_A F0 I0 nc ng nM F (md_is (md_is I 34 (upd (I 34) p (nI v))) 33 (upd (I 33) fs.length (nI st'.length))) (fu, th, (m, x, y, a, st') :: fs, en, re) :=
  A.x (I' := md_is (md_is I 34 (upd (I 34) p (nI v))) 33 (upd (I 33) fs.length (nI st'.length))) (fun k h1 h2 h3 => (if_neg h2).trans (if_neg h3)) (fun k j h1 h2 => by
    rcases h1 with rfl | rfl
    · rfl
    · exact pk_un (f := I 33) (by omega)) (fun j hj => pk_un (f := I 34) (by omega)) A.o.2.2.2.1 (pk_us (f := I 33)) b3 A.u.2.2.2.1 c2 c3 re
/-- .. of the same height -/
theorem mq_A.v {st' : List Nat} {p v : Nat} (A : mq_A F0 I0 nc ng nM F I (fu, th, (m, x, y, a, st) :: fs, en, re)) (hp : 6 * fs.length ≤ p) (b3 : mq_sk (upd (I 34) p (nI v)) (6 * fs.length) st') (c2 : st'.length = st.length) (c3 : ∀ v : Nat, v ∈ st' → v < 8 * nc) : mq_A F0 I0 nc ng nM F (md_is I 34 (upd (I 34) p (nI v))) (fu, th, (m, x, y, a, st') :: fs, en, re) :=
  A.x (I' := md_is I 34 (upd (I 34) p (nI v))) (fun k h1 h2 h3 => if_neg h3) (fun k j h1 h2 => by
    rcases h1 with rfl | rfl <;> rfl) (fun j hj => pk_un (f := I 34) (by omega)) A.o.2.2.2.1 (by rw [c2]; exact A.o.2.2.2.2.1) b3 A.u.2.2.2.1 (by rw [c2]; exact A.u.2.2.2.2.1) c3 re
/-- .. lower -/
theorem mq_A.g {st' : List Nat} (A : mq_A F0 I0 nc ng nM F I (fu, th, (m, x, y, a, st) :: fs, en, re)) (b3 : mq_sk (I 34) (6 * fs.length) st') (c2 : st'.length ≤ 6) (c3 : ∀ v : Nat, v ∈ st' → v < 8 * nc) : mq_A F0 I0 nc ng nM F (md_is I 33 (upd (I 33) fs.length (nI st'.length))) (fu, th, (m, x, y, a, st') :: fs, en, re) :=
  A.x (I' := md_is I 33 (upd (I 33) fs.length (nI st'.length))) (fun k h1 h2 h3 => if_neg h2) (fun k j h1 h2 => by
    rcases h1 with rfl | rfl
    · rfl
    · exact pk_un (f := I 33) (by omega)) (fun j hj => rfl) A.o.2.2.2.1 (pk_us (f := I 33)) b3 A.u.2.2.2.1 c2 c3 re
theorem mq_sk_up {X : Nat → Int32} {b p : Nat} {v : Int32} (st : List Nat) (hp : b + st.length ≤ p) (h : mq_sk X b st) : mq_sk (upd X p v) b st := mq_sk_cg st (fun j hj => if_neg (by omega)) h
theorem mq_push_ok {dA : Nat → ClassId} {J : Nat → Nat → Int64} {q v : Nat} {h h' : zz_H} (A : mq_A F0 I0 nc ng nM F I (fu, th, (m, x, y, a, st) :: fs, 0, re)) (hv : v < 8 * nc) (pp : (st.length = 6 ∧ md_K dA (md_fs F 45 (-4)) I J q h h') ∨ (st.length < 6 ∧ md_K dA F (pu_psh I fs.length st.length (nI v)) J q h h')) : ∃ F' I', md_K dA F' I' J q h h' ∧ mq_A F0 I0 nc ng nM F' I' (mq_push v fu th m x y a st fs re) := by
  rcases pp with ⟨z, k⟩ | ⟨z, k⟩
  · refine ⟨_, _, k, ?_⟩
    unfold mq_push
    rw [if_pos z]
    exact A.e (-4)
  · refine ⟨_, _, k, ?_⟩
    unfold mq_push
    rw [if_neg (by omega)]
    refine A.w (st' := v :: st) (by omega) ⟨if_pos rfl, mq_sk_up st (Nat.le_refl _) A.o.2.2.2.2.2⟩ z (fun w hw => ?_)
    rcases List.mem_cons.mp hw with e | e
    · rw [e]; exact hv
    · exact A.u.2.2.2.2.2 w e
end MQC
