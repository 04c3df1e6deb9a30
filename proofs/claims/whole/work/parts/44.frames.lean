/-! the machine's state as the reference's rows 29 to 34 hold it -/
def mq_sk (X : Nat → Int32) (b : Nat) : List Nat → Prop
  | [] => True
  | v :: vs => X (b + vs.length) = nI v ∧ mq_sk X b vs
theorem mq_sk_cg {X X' : Nat → Int32} {b : Nat} : ∀ st : List Nat, (∀ j : Nat, j < st.length → X' (b + j) = X (b + j)) → mq_sk X b st → mq_sk X' b st
  | [], _, _ => trivial
  | v :: vs, e, h => ⟨(e vs.length (by simp)).trans h.1, mq_sk_cg vs (fun j hj => e j (by simp; omega)) h.2⟩
def mq_1 (I0 I : mq_M) (nc d : Nat) (f : mq_F) : Prop := I 29 d = nI f.1 ∧ I 30 d = nI f.2.1 ∧ pu_y nc (mq_ar I0 (mq_of I0 f.1)) (I 31 d) f.2.2.1 ∧ I 32 d = nI f.2.2.2.1 ∧ I 33 d = nI f.2.2.2.2.length ∧ mq_sk (I 34) (6 * d) f.2.2.2.2
def mq_fr (I0 I : mq_M) (nc : Nat) : List mq_F → Prop
  | [] => True
  | f :: fs => mq_1 I0 I nc fs.length f ∧ mq_fr I0 I nc fs
/-- a frame in order -/
def mq_okF (nc nM : Nat) (f : mq_F) : Prop := f.1 < nM ∧ f.2.1 < 8 * nc ∧ f.2.2.1 < 8 * nc ∧ f.2.2.2.1 ≤ 8 ∧ f.2.2.2.2.length ≤ 6 ∧ ∀ v : Nat, v ∈ f.2.2.2.2 → v < 8 * nc
theorem mq_fr_cg {I0 I I' : mq_M} {nc nM n : Nat} (e : ∀ k d : Nat, 28 < k → k < 34 → d < n → I' k d = I k d) (e2 : ∀ j : Nat, j < 6 * n → I' 34 j = I 34 j) : ∀ fs : List mq_F, fs.length ≤ n → (∀ f, f ∈ fs → mq_okF nc nM f) → mq_fr I0 I nc fs → mq_fr I0 I' nc fs
  | [], _, _, _ => trivial
  | f :: fs, hl, ho, h => by
    have hl2 : fs.length + 1 ≤ n := hl
    have o1 := ho f (List.mem_cons_self ..)
    obtain ⟨a1, a2, a3, a4, a5, a6⟩ := h.1
    refine ⟨⟨?_, ?_, ?_, ?_, ?_, ?_⟩, mq_fr_cg e e2 fs (by omega) (fun f hf => ho f (List.mem_cons_of_mem _ hf)) h.2⟩
    · rw [e 29 _ (by omega) (by omega) (by omega)]; exact a1
    · rw [e 30 _ (by omega) (by omega) (by omega)]; exact a2
    · rw [e 31 _ (by omega) (by omega) (by omega)]; exact a3
    · rw [e 32 _ (by omega) (by omega) (by omega)]; exact a4
    · rw [e 33 _ (by omega) (by omega) (by omega)]; exact a5
    · refine mq_sk_cg _ (fun j hj => e2 _ ?_) a6
      have := o1.2.2.2.2.1
      omega
/-- the memory F, I of a run that began with F0, I0 stands for the state z -/
def mq_A (F0 : Nat → Int32) (I0 : mq_M) (nc ng nM : Nat) (F : Nat → Int32) (I : mq_M) (z : mq_S) : Prop :=
  (∀ k : Nat, k ≠ 36 → k ≠ 43 → k ≠ 44 → k ≠ 45 → F k = F0 k) ∧ (∀ k : Nat, (k < 11 ∨ (13 < k ∧ k < 29)) → I k = I0 k) ∧ pu_kn I nc ng nM ∧ F 43 = nI z.1 ∧ F 44 = nI z.2.1 ∧ F 36 = nI z.2.2.1.length ∧ F 45 = z.2.2.2.1 ∧ mq_fr I0 I nc z.2.2.1 ∧ z.1 ≤ 200 ∧ z.2.2.1.length ≤ 8 ∧ ∀ f, f ∈ z.2.2.1 → mq_okF nc nM f
section MQA
variable {F0 F : Nat → Int32} {I0 I : mq_M} {nc ng nM fu th re : Nat} {fs : List mq_F} {en : Int32}
theorem mq_A.e (A : mq_A F0 I0 nc ng nM F I (fu, th, fs, en, re)) (v : Int32) : mq_A F0 I0 nc ng nM (md_fs F 45 v) I (fu, th, fs, v, re) := by
  obtain ⟨a1, a2, a3, a4, a5, a6, a7, a8, a9, a10, a11⟩ := A
  exact ⟨fun k h1 h2 h3 h4 => by unfold md_fs; rw [if_neg h4]; exact a1 k h1 h2 h3 h4, a2, a3, a4, a5, a6, rfl, a8, a9, a10, a11⟩
theorem mq_A.s (A : mq_A F0 I0 nc ng nM F I (fu, th, fs, en, re)) (v : Int32) (k9 : Nat) (h9 : k9 ≤ 200) : mq_A F0 I0 nc ng nM (md_fs (md_fs F 45 v) 43 (nI k9)) I (k9, th, fs, v, re) := by
  obtain ⟨a1, a2, a3, a4, a5, a6, a7, a8, a9, a10, a11⟩ := A
  exact ⟨fun k h1 h2 h3 h4 => by unfold md_fs; rw [if_neg h2, if_neg h4]; exact a1 k h1 h2 h3 h4, a2, a3, rfl, a5, a6, rfl, a8, h9, a10, a11⟩
theorem mq_A.t (A : mq_A F0 I0 nc ng nM F I (fu, th, fs, en, re)) (c9 : Nat) : mq_A F0 I0 nc ng nM (md_fs F 44 (nI c9)) I (fu, c9, fs, en, re) := by
  obtain ⟨a1, a2, a3, a4, a5, a6, a7, a8, a9, a10, a11⟩ := A
  exact ⟨fun k h1 h2 h3 h4 => by unfold md_fs; rw [if_neg h3]; exact a1 k h1 h2 h3 h4, a2, a3, a4, rfl, a6, a7, a8, a9, a10, a11⟩
theorem mq_A.r (A : mq_A F0 I0 nc ng nM F I (fu, th, fs, en, re)) (re' : Nat) : mq_A F0 I0 nc ng nM F I (fu, th, fs, en, re') := A
theorem mq_A.k (A : mq_A F0 I0 nc ng nM F I (fu, th, fs, en, re)) {g ar : Nat} (h8 : nc ≤ 8) (h4 : ng ≤ 4) (hg : g < ng) (har : I 1 g = nI ar) (ha : ar ≤ 2) : mq_A F0 I0 nc ng nM F (pu_know I nc nM g ar) (fu, th, fs, en, re) := by
  obtain ⟨a1, a2, a3, a4, a5, a6, a7, a8, a9, a10, a11⟩ := A
  have hk : ∀ k, k ≠ 11 ∧ k ≠ 12 ∧ k ≠ 13 → pu_know I nc nM g ar k = I k := fun k hk => pu_know_8 _ _ _ _ _ k hk
  exact ⟨a1, fun k h => (hk k (by omega)).trans (a2 k h), pu_kn_know a3 h8 h4 hg har ha, a4, a5, a6, a7, mq_fr_cg (n := 8) (fun k d h1 h2 _ => by rw [hk k (by omega)]) (fun j _ => by rw [hk 34 (by omega)]) fs a10 a11 a8, a9, a10, a11⟩
theorem mq_A.d {f : mq_F} (A : mq_A F0 I0 nc ng nM F I (fu, th, f :: fs, en, re)) (re' : Nat) : mq_A F0 I0 nc ng nM (md_fs F 36 (nI fs.length)) I (fu, th, fs, en, re') := by
  obtain ⟨a1, a2, a3, a4, a5, a6, a7, a8, a9, a10, a11⟩ := A
  have a10b : fs.length + 1 ≤ 8 := a10
  exact ⟨fun k h1 h2 h3 h4 => by unfold md_fs; rw [if_neg h1]; exact a1 k h1 h2 h3 h4, a2, a3, a4, a5, rfl, a7, a8.2, a9, (show fs.length ≤ 8 by omega), fun f hf => a11 f (List.mem_cons_of_mem _ hf)⟩
theorem pu_kn_cg {I I' : mq_M} (e : ∀ k, k < 14 → I' k = I k) (h : pu_kn I nc ng nM) : pu_kn I' nc ng nM := by
  refine ⟨fun g ar hg ha har => ?_, fun g h1 h2 => by rw [e 11 (by omega)]; exact h.2 g h1 h2⟩
  rw [e 1 (by omega)] at har
  rw [e 11 (by omega), e 12 (by omega), e 13 (by omega), e 2 (by omega), pu_A_cg (fun k hk => e k (by omega))]
  have eB : ∀ m, pu_B I' nc nM g ar m = pu_B I nc nM g ar m := fun m => pu_B_cg (fun k hk => e k (by omega)) _ _ _ _ _
  simp only [eB]
  exact h.1 g ar hg ha har
/-- the latest frame anew -/
theorem mq_A.x {I' : mq_M} {m x y a a' : Nat} {st st' : List Nat} (A : mq_A F0 I0 nc ng nM F I (fu, th, (m, x, y, a, st) :: fs, en, re)) (e1 : ∀ k : Nat, k ≠ 32 → k ≠ 33 → k ≠ 34 → I' k = I k) (e2 : ∀ k j : Nat, (k = 32 ∨ k = 33) → j < fs.length → I' k j = I k j) (e3 : ∀ j : Nat, j < 6 * fs.length → I' 34 j = I 34 j) (b1 : I' 32 fs.length = nI a') (b2 : I' 33 fs.length = nI st'.length) (b3 : mq_sk (I' 34) (6 * fs.length) st') (c1 : a' ≤ 8) (c2 : st'.length ≤ 6) (c3 : ∀ v : Nat, v ∈ st' → v < 8 * nc) (re' : Nat) : mq_A F0 I0 nc ng nM F I' (fu, th, (m, x, y, a', st') :: fs, en, re') := by
  obtain ⟨a1, a2, a3, a4, a5, a6, a7, a8, a9, a10, a11⟩ := A
  have a10b : fs.length + 1 ≤ 8 := a10
  obtain ⟨d1, d2, d3, d4, d5, d6⟩ := a8.1
  refine ⟨a1, fun k h => (e1 k (by omega) (by omega) (by omega)).trans (a2 k h), pu_kn_cg (fun k hk => e1 k (by omega) (by omega) (by omega)) a3, a4, a5, a6, a7, ⟨⟨?_, ?_, ?_, b1, b2, b3⟩, ?_⟩, a9, a10, ?_⟩
  · rw [e1 29 (by omega) (by omega) (by omega)]; exact d1
  · rw [e1 30 (by omega) (by omega) (by omega)]; exact d2
  · rw [e1 31 (by omega) (by omega) (by omega)]; exact d3
  · refine mq_fr_cg (n := fs.length) (nM := nM) (fun k d h1 h2 h3 => ?_) e3 fs (Nat.le_refl _) (fun f hf => a11 f (List.mem_cons_of_mem _ hf)) a8.2
    by_cases z : k = 32 ∨ k = 33
    · exact e2 k d z h3
    · rw [e1 k (by omega) (by omega) (by omega)]
  · intro f hf
    rcases List.mem_cons.mp hf with z | z
    · have o := a11 _ (List.mem_cons_self ..)
      subst z
      exact ⟨o.1, o.2.1, o.2.2.1, c1, c2, c3⟩
    · exact a11 f (List.mem_cons_of_mem _ z)
/-- a frame more -/
theorem mq_A.p (A : mq_A F0 I0 nc ng nM F I (fu, th, fs, en, re)) {m x y : Nat} {y9 : Int32} (hd : fs.length < 8) (hm : m < nM) (hx : x < 8 * nc) (hy : pu_y nc (mq_ar I0 (mq_of I0 m)) y9 y) : mq_A F0 I0 nc ng nM (md_fs F 36 (nI (fs.length + 1))) (md_is (md_is (md_is (md_is (md_is I 29 (upd (I 29) fs.length (nI m))) 30 (upd (I 30) fs.length (nI x))) 31 (upd (I 31) fs.length y9)) 32 (upd (I 32) fs.length 0)) 33 (upd (I 33) fs.length 0)) (fu, th, (m, x, y, 0, []) :: fs, en, re) := by
  obtain ⟨a1, a2, a3, a4, a5, a6, a7, a8, a9, a10, a11⟩ := A
  refine ⟨fun k h1 h2 h3 h4 => by unfold md_fs; rw [if_neg h1]; exact a1 k h1 h2 h3 h4, fun k h => ?_, pu_kn_cg (I := I) (fun k hk => ?_) a3, a4, a5, rfl, a7, ⟨⟨?_, ?_, ?_, ?_, ?_, trivial⟩, ?_⟩, a9, hd, ?_⟩
  · rw [← a2 k h]
    unfold md_is
    rw [if_neg (by omega), if_neg (by omega), if_neg (by omega), if_neg (by omega), if_neg (by omega)]
  · unfold md_is
    rw [if_neg (by omega), if_neg (by omega), if_neg (by omega), if_neg (by omega), if_neg (by omega)]
  · exact if_pos rfl
  · exact if_pos rfl
  · show pu_y nc _ (upd (I 31) fs.length y9 fs.length) y
    rw [show upd (I 31) fs.length y9 fs.length = y9 from if_pos rfl]
    exact hy
  · exact if_pos rfl
  · exact if_pos rfl
  · refine mq_fr_cg (I := I) (I' := md_is (md_is (md_is (md_is (md_is I 29 (upd (I 29) fs.length (nI m))) 30 (upd (I 30) fs.length (nI x))) 31 (upd (I 31) fs.length y9)) 32 (upd (I 32) fs.length 0)) 33 (upd (I 33) fs.length 0)) (n := fs.length) (nM := nM) (fun k d h1 h2 h3 => ?_) (fun j hj => rfl) fs (Nat.le_refl _) a11 a8
    have hn : ¬ d = fs.length := by omega
    have hk : k = 29 ∨ k = 30 ∨ k = 31 ∨ k = 32 ∨ k = 33 := by omega
    rcases hk with rfl | rfl | rfl | rfl | rfl <;> exact if_neg hn
  · intro f hf
    rcases List.mem_cons.mp hf with z | z
    · subst z
      exact ⟨hm, hx, hy.1, Nat.zero_le 8, Nat.zero_le 6, fun v hv => by cases hv⟩
    · exact a11 f z
end MQA
/-! the graphs that stand -/
def pu_gs (I : mq_M) (ng nM : Nat) : Prop := ∀ g ar, g < ng → ar ≤ 2 → I 1 g = nI ar → ∃ T, T ≤ 48 ∧ pu_gr I g (mq_G I g) ∧ tg_wf (mq_G I g) T ∧ pu_w1 I g ar T ∧ ∀ (k : Nat) (x : tg_N), (mq_G I g)[k]? = some x → x.1 < 0 → (x.2.1 < 0 ∨ ∃ m, (m < nM ∧ I 2 m = nI g) ∧ x.2.1 = nI m)
theorem tg_go_rg {G : List tg_N} {T : Nat} {Pm : Nat → Prop} {pz : Nat → Bool} (hw : tg_wf G T) (hT : T ≤ 48) (hG : G.length ≤ 80) (hl : ∀ (k : Nat) (x : tg_N), G[k]? = some x → x.1 < 0 → (x.2.1 < 0 ∨ ∃ m, Pm m ∧ x.2.1 = nI m)) : ∀ fuel k, k < fuel → k < G.length → ((tg_go G pz fuel k).1 < 0 ∨ ∃ m, Pm m ∧ (tg_go G pz fuel k).1 = nI m)
  | 0, k, h, _ => by omega
  | fuel + 1, k, h, hk => by
    obtain ⟨x9, hx9⟩ : ∃ x9, G[k]? = some x9 := ⟨_, List.getElem?_eq_getElem hk⟩
    rw [tg_go, hx9]
    rcases hw k x9 hx9 with z | ⟨t, a, b, ht, rfl, ha, hb⟩
    · simp only [if_pos z]
      exact hl k x9 hx9 z
    · have hnl : ¬ nI t < 0 := nI_pos (by omega)
      simp only [if_neg hnl, nI_clamp (show t < 2 ^ 31 by omega), nI_clamp (show a < 2 ^ 31 by omega), nI_clamp (show b < 2 ^ 31 by omega)]
      cases pz t
      · exact tg_go_rg hw hT hG hl fuel b (by omega) (by omega)
      · exact tg_go_rg hw hT hG hl fuel a (by omega) (by omega)
theorem pu_W_cf {F F' : Nat → Int32} {I : mq_M} {nc ng nM : Nat} (W : pu_W F I nc ng nM) (e1 : F' 1 = F 1) (e3 : F' 3 = F 3) (e5 : F' 5 = F 5) : pu_W F' I nc ng nM := by
  obtain ⟨a1, a2, a3, a4, a5, a6, a7, a8⟩ := W
  exact ⟨a1, a2, e1.trans a3, a4, e3.trans a5, a6, e5.trans a7, a8⟩
section MQB
variable {F0 F : Nat → Int32} {I0 I : mq_M} {nc ng nM : Nat} {z : mq_S}
theorem mq_A.W (A : mq_A F0 I0 nc ng nM F I z) (W : pu_W F0 I0 nc ng nM) : pu_W F I nc ng nM := pu_W_cf (pu_W_cg W (fun k hk => A.2.1 k (by omega))) (A.1 1 (by decide) (by decide) (by decide) (by decide)) (A.1 3 (by decide) (by decide) (by decide) (by decide)) (A.1 5 (by decide) (by decide) (by decide) (by decide))
theorem mq_A.qz (A : mq_A F0 I0 nc ng nM F I z) (g x y : Nat) : pu_qz I g x y = pu_qz I0 g x y := by
  funext t
  unfold pu_qz
  rw [A.2.1 0 (by omega), A.2.1 19 (by omega), A.2.1 20 (by omega), A.2.1 21 (by omega)]
theorem mq_A.bs (A : mq_A F0 I0 nc ng nM F I z) (g ar r : Nat) : pu_bs I nc nM g ar r = pu_bs I0 nc nM g ar r := by
  unfold pu_bs
  rw [pu_A_cg (fun k hk => A.2.1 k (by omega)), show pu_B I nc nM g ar = pu_B I0 nc nM g ar from funext fun m => pu_B_cg (fun k hk => A.2.1 k (by omega)) _ _ _ _ _]
theorem mq_A.nx (A : mq_A F0 I0 nc ng nM F I z) (g ar m r : Nat) : pu_nx I nc nM g ar m r = pu_nx I0 nc nM g ar m r := by
  unfold pu_nx
  rw [pu_A_cg (fun k hk => A.2.1 k (by omega)), show pu_B I nc nM g ar = pu_B I0 nc nM g ar from funext fun m => pu_B_cg (fun k hk => A.2.1 k (by omega)) _ _ _ _ _]
theorem mq_A.gs (A : mq_A F0 I0 nc ng nM F I z) (S : pu_gs I0 ng nM) {g ar : Nat} (hg : g < ng) (ha : ar ≤ 2) (har : I0 1 g = nI ar) : ∃ T, T ≤ 48 ∧ pu_gr I g (mq_G I0 g) ∧ tg_wf (mq_G I0 g) T ∧ pu_w1 I g ar T ∧ ∀ (k : Nat) (x : tg_N), (mq_G I0 g)[k]? = some x → x.1 < 0 → (x.2.1 < 0 ∨ ∃ m, (m < nM ∧ I0 2 m = nI g) ∧ x.2.1 = nI m) := by
  obtain ⟨T, t1, t2, t3, t4, t5⟩ := S g ar hg ha har
  refine ⟨T, t1, ?_, t3, ?_, t5⟩
  · unfold pu_gr
    rw [A.2.1 14 (by omega), A.2.1 15 (by omega), A.2.1 16 (by omega), A.2.1 17 (by omega)]
    exact t2
  · unfold pu_w1
    rw [A.2.1 19 (by omega), A.2.1 20 (by omega), A.2.1 21 (by omega)]
    exact t4
end MQB
/-- behind a choice v -/
def mq_in (v : Int32) (x y fu th : Nat) (fs : List mq_F) (re : Nat) : mq_S := if v < 0 then (fu, th, fs, v, re) else (fu, th, (v.toNatClampNeg, x, y, 0, []) :: fs, 0, re)
theorem mq_enter_in {c : Int32 × Nat} {x y fu th : Nat} {fs : List mq_F} {re : Nat} (h1 : ¬ fs.length = 8) (h2 : 0 < fu) : mq_enter c x y fu th fs re = mq_in c.1 x y (fu - 1) (th + c.2) fs re := by
  unfold mq_enter mq_in
  rw [if_neg h1, if_neg (by omega)]
