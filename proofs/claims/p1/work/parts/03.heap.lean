/-! The abstract heap (zz_H): what lies at each address; a world of the walk by it (zz_I), locals by their slots (zz_L), the judgement zz_W over the kit's W; a row an instruction (z_..). -/
abbrev zz_H : Type := Nat → Option va_E
def zz_up (h : zz_H) (a : Nat) (e : va_E) : zz_H := fun x => if x = a then some e else h x
theorem zz_us (h : zz_H) (a : Nat) (e : va_E) : zz_up h a e a = some e := if_pos rfl
theorem zz_un {h : zz_H} {a x : Nat} {e : va_E} (hx : x ≠ a) : zz_up h a e x = h x := if_neg hx
/-- the heap has n cells and holds what h says, all of it from B on -/
def zz_I (D : va_G) (cl : List vw_C) (B : Nat) (h : zz_H) (n : Nat) (H : Heap) : Prop := H.size = n ∧ ∀ (a : Nat) (e : va_E), h a = some e → va_at D cl (a, e) H ∧ B ≤ a
theorem zz_I.set {D : va_G} {cl : List vw_C} {B : Nat} {h : zz_H} {n : Nat} {H H1 : Heap} {a : Nat} {e0 e : va_E} (hI : zz_I D cl B h n H) (ha : h a = some e0) (he : va_at D cl (a, e) H1) (z : H1.size = H.size) (oq : ∀ q : Nat, q ≠ a → H1[q]? = H[q]?) : zz_I D cl B (zz_up h a e) n H1 := by
  refine ⟨z.trans hI.1, fun x e' hx => ?_⟩
  by_cases hxa : x = a
  · subst hxa
    rw [zz_us] at hx
    cases hx
    exact ⟨he, (hI.2 _ _ ha).2⟩
  · rw [zz_un hxa] at hx
    exact ⟨(hI.2 x e' hx).1.kept (oq x hxa), (hI.2 x e' hx).2⟩
theorem zz_I.lt {D : va_G} {cl : List vw_C} {B : Nat} {h : zz_H} {n : Nat} {H : Heap} {a : Nat} {e : va_E} (hI : zz_I D cl B h n H) (ha : h a = some e) : a < n := by
  have h1 := (hI.2 a e ha).1.lt
  rw [hI.1] at h1
  exact h1
theorem zz_I.fresh {D : va_G} {cl : List vw_C} {B : Nat} {h : zz_H} {n : Nat} {H : Heap} (hI : zz_I D cl B h n H) {a : Nat} (ha : n ≤ a) : h a = none := by
  cases hx : h a with
  | none => rfl
  | some e => exact absurd (hI.lt hx) (by omega)
theorem zz_I.push {D : va_G} {cl : List vw_C} {B : Nat} {h : zz_H} {n : Nat} {H H1 : Heap} {e : va_E} (hI : zz_I D cl B h n H) (he : va_at D cl (n, e) H1) (z : H1.size = n + 1) (oq : ∀ q : Nat, q < n → H1[q]? = H[q]?) (hB : B ≤ n) : zz_I D cl B (zz_up h n e) (n + 1) H1 := by
  refine ⟨z, fun x e' hx => ?_⟩
  by_cases hxa : x = n
  · subst hxa
    rw [zz_us] at hx
    cases hx
    exact ⟨he, hB⟩
  · rw [zz_un hxa] at hx
    exact ⟨(hI.2 x e' hx).1.kept (oq x (hI.lt hx)), (hI.2 x e' hx).2⟩
theorem zz_one {D : va_G} {cl : List vw_C} {B : Nat} {h : zz_H} {n : Nat} {H : Heap} {a : Nat} {e : va_E} (hI : zz_I D cl B h n H) (ha : h a = some e) : va_P D cl [(a, e)] H := by
  intro k q hk
  cases k with
  | zero =>
    cases hk
    exact (hI.2 a e ha).1
  | succ k => simp at hk
/-! locals by their slots -/
def zz_p : Nat → List (Option Value) → List (Nat × Value)
  | _, [] => []
  | k, none :: t => zz_p (k + 1) t
  | k, some v :: t => (k, v) :: zz_p (k + 1) t
def zz_l : List (Option Value) → Nat → Option Value
  | [], _ => none
  | x :: _, 0 => x
  | _ :: t, i + 1 => zz_l t i
def zz_s : List (Option Value) → Nat → Option Value → List (Option Value)
  | [], _, _ => []
  | _ :: t, 0, v => v :: t
  | x :: t, i + 1, v => x :: zz_s t i v
theorem zz_pl : ∀ (L : List (Option Value)) (k i : Nat) (v : Value), (i, v) ∈ zz_p k L ↔ ∃ j, i = k + j ∧ zz_l L j = some v
  | [], k, i, v => by simp [zz_p, zz_l]
  | none :: t, k, i, v => by
    rw [zz_p, zz_pl t (k + 1) i v]
    constructor
    · intro h
      obtain ⟨j, hi, hj⟩ := h
      exact ⟨j + 1, by omega, hj⟩
    · intro h
      obtain ⟨j, hi, hj⟩ := h
      cases j with
      | zero => cases hj
      | succ j => exact ⟨j, by omega, hj⟩
  | some w :: t, k, i, v => by
    rw [zz_p, List.mem_cons, zz_pl t (k + 1) i v]
    constructor
    · intro h
      rcases h with h | ⟨j, hi, hj⟩
      · cases h
        exact ⟨0, rfl, rfl⟩
      · exact ⟨j + 1, by omega, hj⟩
    · intro h
      obtain ⟨j, hi, hj⟩ := h
      cases j with
      | zero =>
        left
        have hw : w = v := Option.some.inj hj
        rw [hw, hi]
        rfl
      | succ j => exact Or.inr ⟨j, by omega, hj⟩
theorem zz_sl : ∀ (L : List (Option Value)) (i : Nat) (v : Option Value), (zz_s L i v).length = L.length
  | [], _, _ => rfl
  | _ :: _, 0, _ => rfl
  | _ :: t, i + 1, v => by
    show (zz_s t i v).length + 1 = t.length + 1
    rw [zz_sl t i v]
theorem zz_ls : ∀ (L : List (Option Value)) (i j : Nat) (v : Option Value), zz_l (zz_s L i v) j = if j = i ∧ i < L.length then v else zz_l L j
  | [], i, j, v => by simp [zz_s, zz_l]
  | x :: t, 0, 0, v => by simp [zz_s, zz_l]
  | x :: t, 0, j + 1, v => by simp [zz_s, zz_l]
  | x :: t, i + 1, 0, v => by simp [zz_s, zz_l]
  | x :: t, i + 1, j + 1, v => by
    show zz_l (zz_s t i v) j = if j + 1 = i + 1 ∧ i + 1 < t.length + 1 then v else zz_l t j
    rw [zz_ls t i j v]
    by_cases h : j = i ∧ i < t.length
    · rw [if_pos h, if_pos ⟨by omega, by omega⟩]
    · rw [if_neg h, if_neg (fun q => h ⟨by omega, by omega⟩)]
def zz_L (ls : Array Slot) (L : List (Option Value)) : Prop := lv_has ls L.length (zz_p 0 L)
theorem zz_at {ls : Array Slot} {L : List (Option Value)} {i : Nat} {v : Value} (h : zz_L ls L) (hi : zz_l L i = some v) : ls[i]? = some (.val v) :=
  h.2.2 (i, v) ((zz_pl L 0 i v).mpr ⟨i, (Nat.zero_add i).symm, hi⟩)
/-- the slot below i holds no long, and i is a slot -/
def zz_nk (L : List (Option Value)) : Nat → Bool
  | 0 => true
  | i + 1 => match zz_l L i with
    | none => true
    | some w => Nat.beq w.category 1
theorem zz_nk_spec {L : List (Option Value)} {i j : Nat} {w : Value} (hk : zz_nk L i = true) (hw : zz_l L j = some w) (hj : j + 1 = i) : ¬ w.category = 2 := by
  subst hj
  have h1 : Nat.beq w.category 1 = true := by
    have h2 : zz_nk L (j + 1) = (match zz_l L j with
      | none => true
      | some w => Nat.beq w.category 1) := rfl
    rw [h2, hw] at hk
    exact hk
  have h3 := Nat.eq_of_beq_eq_true h1
  omega
def zz_so (L : List (Option Value)) (i : Nat) : Bool := zz_nk L i && Nat.ble (i + 1) L.length
def zz_so2 (L : List (Option Value)) (i : Nat) : Bool := zz_nk L i && Nat.ble (i + 2) L.length
theorem zz_so_lt {L : List (Option Value)} {i : Nat} (h : zz_so L i = true) : i < L.length := by
  unfold zz_so at h
  rw [Bool.and_eq_true] at h
  exact Nat.le_of_ble_eq_true h.2
theorem zz_so2_lt {L : List (Option Value)} {i : Nat} (h : zz_so2 L i = true) : i + 1 < L.length := by
  unfold zz_so2 at h
  rw [Bool.and_eq_true] at h
  exact Nat.le_of_ble_eq_true h.2
theorem zz_st1 {ls : Array Slot} {L : List (Option Value)} {i : Nat} {v : Value} (hk : zz_so L i = true) (h' : lv_has ls L.length ((i, v) :: (zz_p 0 L).filter (fun q => !(q.1 == i) && !(q.1 + 1 == i && q.2.category == 2)))) : zz_L ls (zz_s L i (some v)) := by
  have hi := zz_so_lt hk
  unfold zz_so at hk
  rw [Bool.and_eq_true] at hk
  refine ⟨by rw [zz_sl]; exact h'.1, h'.2.1, ?_⟩
  intro q hq
  obtain ⟨j, w⟩ := q
  obtain ⟨j', hj', hw⟩ := (zz_pl _ 0 j w).mp hq
  have hjj : j' = j := by omega
  subst hjj
  rw [zz_ls] at hw
  by_cases hji : j' = i
  · rw [if_pos ⟨hji, hi⟩] at hw
    cases hw
    subst hji
    exact h'.2.2 _ List.mem_cons_self
  · rw [if_neg (fun z => hji z.1)] at hw
    refine h'.2.2 (j', w) (List.mem_cons_of_mem _ (List.mem_filter.mpr ⟨(zz_pl L 0 j' w).mpr ⟨j', by omega, hw⟩, ?_⟩))
    have h2 : ¬ (j' + 1 = i ∧ w.category = 2) := fun z => zz_nk_spec hk.1 hw z.1 z.2
    simp only [Bool.and_eq_true, Bool.not_eq_true', beq_eq_false_iff_ne, ne_eq, Bool.and_eq_false_iff]
    refine ⟨hji, ?_⟩
    by_cases h3 : j' + 1 = i
    · exact Or.inr (fun z => h2 ⟨h3, z⟩)
    · exact Or.inl h3
theorem zz_st2 {ls : Array Slot} {L : List (Option Value)} {i : Nat} {v : Value} (hk : zz_so2 L i = true) (h' : lv_has ls L.length ((i, v) :: (zz_p 0 L).filter (fun q => !(q.1 == i) && (!(q.1 == i + 1) && !(q.1 + 1 == i && q.2.category == 2))))) : zz_L ls (zz_s (zz_s L i (some v)) (i + 1) none) := by
  have hi := zz_so2_lt hk
  unfold zz_so2 at hk
  rw [Bool.and_eq_true] at hk
  refine ⟨by rw [zz_sl, zz_sl]; exact h'.1, h'.2.1, ?_⟩
  intro q hq
  obtain ⟨j, w⟩ := q
  obtain ⟨j', hj', hw⟩ := (zz_pl _ 0 j w).mp hq
  have hjj : j' = j := by omega
  subst hjj
  rw [zz_ls] at hw
  by_cases hj1 : j' = i + 1
  · rw [if_pos ⟨hj1, by rw [zz_sl]; exact hi⟩] at hw
    cases hw
  · rw [if_neg (fun z => hj1 z.1), zz_ls] at hw
    by_cases hji : j' = i
    · rw [if_pos ⟨hji, by omega⟩] at hw
      cases hw
      subst hji
      exact h'.2.2 _ List.mem_cons_self
    · rw [if_neg (fun z => hji z.1)] at hw
      refine h'.2.2 (j', w) (List.mem_cons_of_mem _ (List.mem_filter.mpr ⟨(zz_pl L 0 j' w).mpr ⟨j', by omega, hw⟩, ?_⟩))
      have h2 : ¬ (j' + 1 = i ∧ w.category = 2) := fun z => zz_nk_spec hk.1 hw z.1 z.2
      simp only [Bool.and_eq_true, Bool.not_eq_true', beq_eq_false_iff_ne, ne_eq, Bool.and_eq_false_iff]
      refine ⟨hji, hj1, ?_⟩
      by_cases h3 : j' + 1 = i
      · exact Or.inr (fun z => h2 ⟨h3, z⟩)
      · exact Or.inl h3

/-- what is fixed along a method's walk -/
def zz_C (D : va_G) (cl : List vw_C) (tys : List (ClassId × FieldType)) (B : Nat) (tb : List Cond) (X : State → Heap → Prop) (p : Program) (s : State) (m : MethodId) (args : Array Value) (meth : Method) (c : Code) (cc : ByteArray) (own : String) (ret : Option FieldType) (nm : String) : Prop :=
  p.tables.exec = Jvm.exec ∧ c.code = cc ∧ s.vm.findClass own = some m.cls ∧ (∀ w ∈ tb, w.before args s = true) ∧ va_K D cl tys s ∧ B ≤ s.heap.size ∧ meth.locks = false ∧ meth.sig.returnType = ret ∧ meth.name = nm ∧ X s s.heap
/-- the machine at pc with the abstract heap h of n cells, the locals L and the stack st comes to Q -/
def zz_W (D : va_G) (cl : List vw_C) (B : Nat) (p : Program) (l : Launch) (e : Env) (R : Room) (s : State) (m : MethodId) (args : Array Value) (below : List Frame) (meth : Method) (c : Code) (Q : State → Prop) (h : zz_H) (n cells slots : Nat) (L : List (Option Value)) (pc : Nat) (st : List Value) : Prop :=
  ∀ (H : Heap) (locs : List Loc) (ls : Array Slot), L.length = c.maxLocals → zz_I D cl B h n H → va_S (fun q => B ≤ q) s.heap H locs → zz_L ls L → W p l e R s m args below meth c H locs cells slots Q (F0 m pc ls st)
section ZA
variable {D : va_G} {cl : List vw_C} {tys : List (ClassId × FieldType)} {B : Nat} {tb : List Cond} {X : State → Heap → Prop} {p : Program} {l : Launch} {e : Env} {R : Room} {s : State} {m : MethodId} {args : Array Value} {below : List Frame} {meth : Method} {c : Code} {Q : State → Prop} {h : zz_H} {n cells slots : Nat} {L : List (Option Value)} {cc : ByteArray} {pc : Nat} {rest : List Value} {own nm : String} {ret : Option FieldType}

theorem z_iconst (C : zz_C D cl tys B tb X p s m args meth c cc own ret nm) {k : Int} {v : Int32} (d : decode cc pc = .ok (.iconst k, 1)) (hv : Int32.ofInt k = v) (k : zz_W D cl B p l e R s m args below meth c Q h n cells slots L (pc + 1) (.int v :: rest)) : zz_W D cl B p l e R s m args below meth c Q h n cells slots L pc (rest) := fun H locs ls a0 a1 a2 a3 => lv_iconst C.1 C.2.1 d hv (k H locs ls a0 a1 a2 a3)
theorem z_bipush (C : zz_C D cl tys B tb X p s m args meth c cc own ret nm) {k : Int} {v : Int32} (d : decode cc pc = .ok (.bipush k, 2)) (hv : (Int8.ofInt k).toInt32 = v) (k : zz_W D cl B p l e R s m args below meth c Q h n cells slots L (pc + 2) (.int v :: rest)) : zz_W D cl B p l e R s m args below meth c Q h n cells slots L pc (rest) := fun H locs ls a0 a1 a2 a3 => lv_bipush C.1 C.2.1 d hv (k H locs ls a0 a1 a2 a3)
theorem z_sipush (C : zz_C D cl tys B tb X p s m args meth c cc own ret nm) {k : Int} {v : Int32} (d : decode cc pc = .ok (.sipush k, 3)) (hv : (Int16.ofInt k).toInt32 = v) (k : zz_W D cl B p l e R s m args below meth c Q h n cells slots L (pc + 3) (.int v :: rest)) : zz_W D cl B p l e R s m args below meth c Q h n cells slots L pc (rest) := fun H locs ls a0 a1 a2 a3 => lv_sipush C.1 C.2.1 d hv (k H locs ls a0 a1 a2 a3)
theorem z_lconst (C : zz_C D cl tys B tb X p s m args meth c cc own ret nm) {k : Fin 2} {v : Int64} (d : decode cc pc = .ok (.lconst k, 1)) (hv : Int64.ofNat (k : Nat) = v) (k : zz_W D cl B p l e R s m args below meth c Q h n cells slots L (pc + 1) (.long v :: rest)) : zz_W D cl B p l e R s m args below meth c Q h n cells slots L pc (rest) := fun H locs ls a0 a1 a2 a3 => lv_lconst C.1 C.2.1 d hv (k H locs ls a0 a1 a2 a3)
theorem z_null (C : zz_C D cl tys B tb X p s m args meth c cc own ret nm)  (d : decode cc pc = .ok (.aconst_null, 1)) (k : zz_W D cl B p l e R s m args below meth c Q h n cells slots L (pc + 1) (.null :: rest)) : zz_W D cl B p l e R s m args below meth c Q h n cells slots L pc (rest) := fun H locs ls a0 a1 a2 a3 => lv_null C.1 C.2.1 d (k H locs ls a0 a1 a2 a3)
theorem z_ldc (C : zz_C D cl tys B tb X p s m args meth c cc own ret nm) {index : Nat} {v : Int32} (hw : Cond.constant own index v ∈ tb) (d : decode cc pc = .ok (.ldc index, 2)) (k : zz_W D cl B p l e R s m args below meth c Q h n cells slots L (pc + 2) (.int v :: rest)) : zz_W D cl B p l e R s m args below meth c Q h n cells slots L pc (rest) := fun H locs ls a0 a1 a2 a3 => lv_ldc C.1 C.2.1 C.2.2.1 (C.2.2.2.1 _ hw) d (k H locs ls a0 a1 a2 a3)
theorem z_ldc2 (C : zz_C D cl tys B tb X p s m args meth c cc own ret nm) {index : Nat} {v : Int64} (hw : Cond.constantLong own index v ∈ tb) (d : decode cc pc = .ok (.ldc2_w index, 3)) (k : zz_W D cl B p l e R s m args below meth c Q h n cells slots L (pc + 3) (.long v :: rest)) : zz_W D cl B p l e R s m args below meth c Q h n cells slots L pc (rest) := fun H locs ls a0 a1 a2 a3 => lv_ldc2 C.1 C.2.1 C.2.2.1 (C.2.2.2.1 _ hw) d (k H locs ls a0 a1 a2 a3)
theorem z_iload_n (C : zz_C D cl tys B tb X p s m args meth c cc own ret nm) {k : Fin 4} {x : Int32} (d : decode cc pc = .ok (.iload_n k, 1)) (hl : zz_l L (k : Nat) = some (.int x)) (k9 : zz_W D cl B p l e R s m args below meth c Q h n cells slots L (pc + 1) (.int x :: rest)) : zz_W D cl B p l e R s m args below meth c Q h n cells slots L pc (rest) := fun H locs ls a0 a1 a2 a3 => lv_iload_n C.1 C.2.1 d rfl (zz_at a3 hl) (k9 H locs ls a0 a1 a2 a3)
theorem z_iload (C : zz_C D cl tys B tb X p s m args meth c cc own ret nm) {i : Nat} {x : Int32} (d : decode cc pc = .ok (.iload i, 2)) (hl : zz_l L i = some (.int x)) (k9 : zz_W D cl B p l e R s m args below meth c Q h n cells slots L (pc + 2) (.int x :: rest)) : zz_W D cl B p l e R s m args below meth c Q h n cells slots L pc (rest) := fun H locs ls a0 a1 a2 a3 => lv_iload C.1 C.2.1 d (zz_at a3 hl) (k9 H locs ls a0 a1 a2 a3)
theorem z_istore_n (C : zz_C D cl tys B tb X p s m args meth c cc own ret nm) {k : Fin 4} {x : Int32} (d : decode cc pc = .ok (.istore_n k, 1)) (hs : zz_so L (k : Nat) = true) (k9 : zz_W D cl B p l e R s m args below meth c Q h n cells slots (zz_s L (k : Nat) (some (.int x))) (pc + 1) rest) : zz_W D cl B p l e R s m args below meth c Q h n cells slots L pc (.int x :: rest) := fun H locs ls a0 a1 a2 a3 => lv_istore_n C.1 C.2.1 d rfl a3 (zz_so_lt hs) rfl (fun ls' h' => k9 H locs ls' (by rw [zz_sl]; exact a0) a1 a2 (zz_st1 hs h'))
theorem z_istore (C : zz_C D cl tys B tb X p s m args meth c cc own ret nm) {i : Nat} {x : Int32} (d : decode cc pc = .ok (.istore i, 2)) (hs : zz_so L i = true) (k9 : zz_W D cl B p l e R s m args below meth c Q h n cells slots (zz_s L i (some (.int x))) (pc + 2) rest) : zz_W D cl B p l e R s m args below meth c Q h n cells slots L pc (.int x :: rest) := fun H locs ls a0 a1 a2 a3 => lv_istore C.1 C.2.1 d a3 (zz_so_lt hs) rfl (fun ls' h' => k9 H locs ls' (by rw [zz_sl]; exact a0) a1 a2 (zz_st1 hs h'))
theorem z_lload_n (C : zz_C D cl tys B tb X p s m args meth c cc own ret nm) {k : Fin 4} {x : Int64} (d : decode cc pc = .ok (.lload_n k, 1)) (hl : zz_l L (k : Nat) = some (.long x)) (k9 : zz_W D cl B p l e R s m args below meth c Q h n cells slots L (pc + 1) (.long x :: rest)) : zz_W D cl B p l e R s m args below meth c Q h n cells slots L pc (rest) := fun H locs ls a0 a1 a2 a3 => lv_lload_n C.1 C.2.1 d rfl (zz_at a3 hl) (k9 H locs ls a0 a1 a2 a3)
theorem z_lload (C : zz_C D cl tys B tb X p s m args meth c cc own ret nm) {i : Nat} {x : Int64} (d : decode cc pc = .ok (.lload i, 2)) (hl : zz_l L i = some (.long x)) (k9 : zz_W D cl B p l e R s m args below meth c Q h n cells slots L (pc + 2) (.long x :: rest)) : zz_W D cl B p l e R s m args below meth c Q h n cells slots L pc (rest) := fun H locs ls a0 a1 a2 a3 => lv_lload C.1 C.2.1 d (zz_at a3 hl) (k9 H locs ls a0 a1 a2 a3)
theorem z_lstore_n (C : zz_C D cl tys B tb X p s m args meth c cc own ret nm) {k : Fin 4} {x : Int64} (d : decode cc pc = .ok (.lstore_n k, 1)) (hs : zz_so2 L (k : Nat) = true) (k9 : zz_W D cl B p l e R s m args below meth c Q h n cells slots (zz_s (zz_s L (k : Nat) (some (.long x))) ((k : Nat) + 1) none) (pc + 1) rest) : zz_W D cl B p l e R s m args below meth c Q h n cells slots L pc (.long x :: rest) := fun H locs ls a0 a1 a2 a3 => lv_lstore_n C.1 C.2.1 d rfl a3 (zz_so2_lt hs) rfl (fun ls' h' => k9 H locs ls' (by rw [zz_sl, zz_sl]; exact a0) a1 a2 (zz_st2 hs h'))
theorem z_lstore (C : zz_C D cl tys B tb X p s m args meth c cc own ret nm) {i : Nat} {x : Int64} (d : decode cc pc = .ok (.lstore i, 2)) (hs : zz_so2 L i = true) (k9 : zz_W D cl B p l e R s m args below meth c Q h n cells slots (zz_s (zz_s L i (some (.long x))) (i + 1) none) (pc + 2) rest) : zz_W D cl B p l e R s m args below meth c Q h n cells slots L pc (.long x :: rest) := fun H locs ls a0 a1 a2 a3 => lv_lstore C.1 C.2.1 d a3 (zz_so2_lt hs) rfl (fun ls' h' => k9 H locs ls' (by rw [zz_sl, zz_sl]; exact a0) a1 a2 (zz_st2 hs h'))
theorem z_aload_n (C : zz_C D cl tys B tb X p s m args meth c cc own ret nm) {k : Fin 4} {x : Nat} (d : decode cc pc = .ok (.aload_n k, 1)) (hl : zz_l L (k : Nat) = some (.ref x)) (k9 : zz_W D cl B p l e R s m args below meth c Q h n cells slots L (pc + 1) (.ref x :: rest)) : zz_W D cl B p l e R s m args below meth c Q h n cells slots L pc (rest) := fun H locs ls a0 a1 a2 a3 => lv_aload_n C.1 C.2.1 d rfl (zz_at a3 hl) (k9 H locs ls a0 a1 a2 a3)
theorem z_aload (C : zz_C D cl tys B tb X p s m args meth c cc own ret nm) {i : Nat} {x : Nat} (d : decode cc pc = .ok (.aload i, 2)) (hl : zz_l L i = some (.ref x)) (k9 : zz_W D cl B p l e R s m args below meth c Q h n cells slots L (pc + 2) (.ref x :: rest)) : zz_W D cl B p l e R s m args below meth c Q h n cells slots L pc (rest) := fun H locs ls a0 a1 a2 a3 => lv_aload C.1 C.2.1 d (zz_at a3 hl) (k9 H locs ls a0 a1 a2 a3)
theorem z_astore_n (C : zz_C D cl tys B tb X p s m args meth c cc own ret nm) {k : Fin 4} {x : Nat} (d : decode cc pc = .ok (.astore_n k, 1)) (hs : zz_so L (k : Nat) = true) (k9 : zz_W D cl B p l e R s m args below meth c Q h n cells slots (zz_s L (k : Nat) (some (.ref x))) (pc + 1) rest) : zz_W D cl B p l e R s m args below meth c Q h n cells slots L pc (.ref x :: rest) := fun H locs ls a0 a1 a2 a3 => lv_astore_n C.1 C.2.1 d rfl a3 (zz_so_lt hs) rfl (fun ls' h' => k9 H locs ls' (by rw [zz_sl]; exact a0) a1 a2 (zz_st1 hs h'))
theorem z_astore (C : zz_C D cl tys B tb X p s m args meth c cc own ret nm) {i : Nat} {x : Nat} (d : decode cc pc = .ok (.astore i, 2)) (hs : zz_so L i = true) (k9 : zz_W D cl B p l e R s m args below meth c Q h n cells slots (zz_s L i (some (.ref x))) (pc + 2) rest) : zz_W D cl B p l e R s m args below meth c Q h n cells slots L pc (.ref x :: rest) := fun H locs ls a0 a1 a2 a3 => lv_astore C.1 C.2.1 d a3 (zz_so_lt hs) rfl (fun ls' h' => k9 H locs ls' (by rw [zz_sl]; exact a0) a1 a2 (zz_st1 hs h'))
theorem zz_pk {L : List (Option Value)} {i : Nat} {v : Value} (h : zz_l L i = some v) : ∃ k : Nat, (zz_p 0 L)[k]? = some (i, v) := List.getElem?_of_mem ((zz_pl L 0 i v).mpr ⟨i, (Nat.zero_add i).symm, h⟩)
theorem z_iinc (C : zz_C D cl tys B tb X p s m args meth c cc own ret nm) {i : Nat} {k : Int} {x : Int32} (d : decode cc pc = .ok (.iinc i k, 3)) (hl : zz_l L i = some (.int x)) (hs : zz_so L i = true) (k9 : zz_W D cl B p l e R s m args below meth c Q h n cells slots (zz_s L i (some (.int (x + Int32.ofInt k)))) (pc + 3) rest) : zz_W D cl B p l e R s m args below meth c Q h n cells slots L pc rest := by
  intro H locs ls a0 a1 a2 a3
  obtain ⟨j, hj⟩ := zz_pk hl
  exact lv_iinc C.1 C.2.1 d a3 hj rfl (zz_so_lt hs) rfl (fun ls' h' => k9 H locs ls' (by rw [zz_sl]; exact a0) a1 a2 (zz_st1 hs h'))
theorem z_iadd (C : zz_C D cl tys B tb X p s m args meth c cc own ret nm) {x y : Int32} (d : decode cc pc = .ok (.iadd, 1)) (k : zz_W D cl B p l e R s m args below meth c Q h n cells slots L (pc + 1) (.int (x + y) :: rest)) : zz_W D cl B p l e R s m args below meth c Q h n cells slots L pc (.int y :: .int x :: rest) := fun H locs ls a0 a1 a2 a3 => lv_iadd C.1 C.2.1 d (k H locs ls a0 a1 a2 a3)
theorem z_isub (C : zz_C D cl tys B tb X p s m args meth c cc own ret nm) {x y : Int32} (d : decode cc pc = .ok (.isub, 1)) (k : zz_W D cl B p l e R s m args below meth c Q h n cells slots L (pc + 1) (.int (x - y) :: rest)) : zz_W D cl B p l e R s m args below meth c Q h n cells slots L pc (.int y :: .int x :: rest) := fun H locs ls a0 a1 a2 a3 => lv_isub C.1 C.2.1 d (k H locs ls a0 a1 a2 a3)
theorem z_imul (C : zz_C D cl tys B tb X p s m args meth c cc own ret nm) {x y : Int32} (d : decode cc pc = .ok (.imul, 1)) (k : zz_W D cl B p l e R s m args below meth c Q h n cells slots L (pc + 1) (.int (x * y) :: rest)) : zz_W D cl B p l e R s m args below meth c Q h n cells slots L pc (.int y :: .int x :: rest) := fun H locs ls a0 a1 a2 a3 => lv_imul C.1 C.2.1 d (k H locs ls a0 a1 a2 a3)
theorem z_iand (C : zz_C D cl tys B tb X p s m args meth c cc own ret nm) {x y : Int32} (d : decode cc pc = .ok (.iand, 1)) (k : zz_W D cl B p l e R s m args below meth c Q h n cells slots L (pc + 1) (.int (x &&& y) :: rest)) : zz_W D cl B p l e R s m args below meth c Q h n cells slots L pc (.int y :: .int x :: rest) := fun H locs ls a0 a1 a2 a3 => lv_iand C.1 C.2.1 d (k H locs ls a0 a1 a2 a3)
theorem z_ior (C : zz_C D cl tys B tb X p s m args meth c cc own ret nm) {x y : Int32} (d : decode cc pc = .ok (.ior, 1)) (k : zz_W D cl B p l e R s m args below meth c Q h n cells slots L (pc + 1) (.int (x ||| y) :: rest)) : zz_W D cl B p l e R s m args below meth c Q h n cells slots L pc (.int y :: .int x :: rest) := fun H locs ls a0 a1 a2 a3 => lv_ior C.1 C.2.1 d (k H locs ls a0 a1 a2 a3)
theorem z_ixor (C : zz_C D cl tys B tb X p s m args meth c cc own ret nm) {x y : Int32} (d : decode cc pc = .ok (.ixor, 1)) (k : zz_W D cl B p l e R s m args below meth c Q h n cells slots L (pc + 1) (.int (x ^^^ y) :: rest)) : zz_W D cl B p l e R s m args below meth c Q h n cells slots L pc (.int y :: .int x :: rest) := fun H locs ls a0 a1 a2 a3 => lv_ixor C.1 C.2.1 d (k H locs ls a0 a1 a2 a3)
theorem z_ladd (C : zz_C D cl tys B tb X p s m args meth c cc own ret nm) {x y : Int64} (d : decode cc pc = .ok (.ladd, 1)) (k : zz_W D cl B p l e R s m args below meth c Q h n cells slots L (pc + 1) (.long (x + y) :: rest)) : zz_W D cl B p l e R s m args below meth c Q h n cells slots L pc (.long y :: .long x :: rest) := fun H locs ls a0 a1 a2 a3 => lv_ladd C.1 C.2.1 d (k H locs ls a0 a1 a2 a3)
theorem z_lsub (C : zz_C D cl tys B tb X p s m args meth c cc own ret nm) {x y : Int64} (d : decode cc pc = .ok (.lsub, 1)) (k : zz_W D cl B p l e R s m args below meth c Q h n cells slots L (pc + 1) (.long (x - y) :: rest)) : zz_W D cl B p l e R s m args below meth c Q h n cells slots L pc (.long y :: .long x :: rest) := fun H locs ls a0 a1 a2 a3 => lv_lsub C.1 C.2.1 d (k H locs ls a0 a1 a2 a3)
theorem z_land (C : zz_C D cl tys B tb X p s m args meth c cc own ret nm) {x y : Int64} (d : decode cc pc = .ok (.land, 1)) (k : zz_W D cl B p l e R s m args below meth c Q h n cells slots L (pc + 1) (.long (x &&& y) :: rest)) : zz_W D cl B p l e R s m args below meth c Q h n cells slots L pc (.long y :: .long x :: rest) := fun H locs ls a0 a1 a2 a3 => lv_land C.1 C.2.1 d (k H locs ls a0 a1 a2 a3)
theorem z_lor (C : zz_C D cl tys B tb X p s m args meth c cc own ret nm) {x y : Int64} (d : decode cc pc = .ok (.lor, 1)) (k : zz_W D cl B p l e R s m args below meth c Q h n cells slots L (pc + 1) (.long (x ||| y) :: rest)) : zz_W D cl B p l e R s m args below meth c Q h n cells slots L pc (.long y :: .long x :: rest) := fun H locs ls a0 a1 a2 a3 => lv_lor C.1 C.2.1 d (k H locs ls a0 a1 a2 a3)
theorem z_lxor (C : zz_C D cl tys B tb X p s m args meth c cc own ret nm) {x y : Int64} (d : decode cc pc = .ok (.lxor, 1)) (k : zz_W D cl B p l e R s m args below meth c Q h n cells slots L (pc + 1) (.long (x ^^^ y) :: rest)) : zz_W D cl B p l e R s m args below meth c Q h n cells slots L pc (.long y :: .long x :: rest) := fun H locs ls a0 a1 a2 a3 => lv_lxor C.1 C.2.1 d (k H locs ls a0 a1 a2 a3)
theorem z_ishl (C : zz_C D cl tys B tb X p s m args meth c cc own ret nm) {x y : Int32} (d : decode cc pc = .ok (.ishl, 1)) (k : zz_W D cl B p l e R s m args below meth c Q h n cells slots L (pc + 1) (.int (x <<< (y &&& 31)) :: rest)) : zz_W D cl B p l e R s m args below meth c Q h n cells slots L pc (.int y :: .int x :: rest) := fun H locs ls a0 a1 a2 a3 => lv_ishl C.1 C.2.1 d (k H locs ls a0 a1 a2 a3)
theorem z_ishr (C : zz_C D cl tys B tb X p s m args meth c cc own ret nm) {x y : Int32} (d : decode cc pc = .ok (.ishr, 1)) (k : zz_W D cl B p l e R s m args below meth c Q h n cells slots L (pc + 1) (.int (x >>> (y &&& 31)) :: rest)) : zz_W D cl B p l e R s m args below meth c Q h n cells slots L pc (.int y :: .int x :: rest) := fun H locs ls a0 a1 a2 a3 => lv_ishr C.1 C.2.1 d (k H locs ls a0 a1 a2 a3)
theorem z_idiv (C : zz_C D cl tys B tb X p s m args meth c cc own ret nm) {x y : Int32} (d : decode cc pc = .ok (.idiv, 1)) (hne : ¬ y = 0) (k : zz_W D cl B p l e R s m args below meth c Q h n cells slots L (pc + 1) (.int (x / y) :: rest)) : zz_W D cl B p l e R s m args below meth c Q h n cells slots L pc (.int y :: .int x :: rest) := fun H locs ls a0 a1 a2 a3 => lv_idiv C.1 C.2.1 d hne (k H locs ls a0 a1 a2 a3)
theorem z_irem (C : zz_C D cl tys B tb X p s m args meth c cc own ret nm) {x y : Int32} (d : decode cc pc = .ok (.irem, 1)) (hne : ¬ y = 0) (k : zz_W D cl B p l e R s m args below meth c Q h n cells slots L (pc + 1) (.int (x - x / y * y) :: rest)) : zz_W D cl B p l e R s m args below meth c Q h n cells slots L pc (.int y :: .int x :: rest) := fun H locs ls a0 a1 a2 a3 => lv_irem C.1 C.2.1 d hne (k H locs ls a0 a1 a2 a3)
theorem z_ineg (C : zz_C D cl tys B tb X p s m args meth c cc own ret nm) {x : Int32} (d : decode cc pc = .ok (.ineg, 1)) (k : zz_W D cl B p l e R s m args below meth c Q h n cells slots L (pc + 1) (.int (-x) :: rest)) : zz_W D cl B p l e R s m args below meth c Q h n cells slots L pc (.int x :: rest) := fun H locs ls a0 a1 a2 a3 => lv_ineg C.1 C.2.1 d (k H locs ls a0 a1 a2 a3)
theorem z_i2l (C : zz_C D cl tys B tb X p s m args meth c cc own ret nm) {x : Int32} (d : decode cc pc = .ok (.i2l, 1)) (k : zz_W D cl B p l e R s m args below meth c Q h n cells slots L (pc + 1) (.long x.toInt64 :: rest)) : zz_W D cl B p l e R s m args below meth c Q h n cells slots L pc (.int x :: rest) := fun H locs ls a0 a1 a2 a3 => lv_i2l C.1 C.2.1 d rfl (k H locs ls a0 a1 a2 a3)
theorem z_l2i (C : zz_C D cl tys B tb X p s m args meth c cc own ret nm) {x : Int64} (d : decode cc pc = .ok (.l2i, 1)) (k : zz_W D cl B p l e R s m args below meth c Q h n cells slots L (pc + 1) (.int x.toInt32 :: rest)) : zz_W D cl B p l e R s m args below meth c Q h n cells slots L pc (.long x :: rest) := fun H locs ls a0 a1 a2 a3 => lv_l2i C.1 C.2.1 d rfl (k H locs ls a0 a1 a2 a3)
theorem z_iushr (C : zz_C D cl tys B tb X p s m args meth c cc own ret nm) {x y : Int32} (d : decode cc pc = .ok (.iushr, 1)) (k : zz_W D cl B p l e R s m args below meth c Q h n cells slots L (pc + 1) (.int (x.toUInt32 >>> (y.toUInt32 &&& Int32.toUInt32 31)).toInt32 :: rest)) : zz_W D cl B p l e R s m args below meth c Q h n cells slots L pc (.int y :: .int x :: rest) := fun H locs ls a0 a1 a2 a3 => lv_iushr C.1 C.2.1 d rfl (k H locs ls a0 a1 a2 a3)
theorem z_lushr (C : zz_C D cl tys B tb X p s m args meth c cc own ret nm) {x : Int64} {y : Int32} (d : decode cc pc = .ok (.lushr, 1)) (k : zz_W D cl B p l e R s m args below meth c Q h n cells slots L (pc + 1) (.long (x.toUInt64 >>> (y.toInt64.toUInt64 &&& Int64.toUInt64 63)).toInt64 :: rest)) : zz_W D cl B p l e R s m args below meth c Q h n cells slots L pc (.int y :: .long x :: rest) := fun H locs ls a0 a1 a2 a3 => lv_lushr C.1 C.2.1 d rfl (k H locs ls a0 a1 a2 a3)
theorem z_lshl (C : zz_C D cl tys B tb X p s m args meth c cc own ret nm) {x : Int64} {y : Int32} (d : decode cc pc = .ok (.lshl, 1)) (k : zz_W D cl B p l e R s m args below meth c Q h n cells slots L (pc + 1) (.long (x <<< (y.toInt64 &&& 63)) :: rest)) : zz_W D cl B p l e R s m args below meth c Q h n cells slots L pc (.int y :: .long x :: rest) := fun H locs ls a0 a1 a2 a3 => lv_lshl C.1 C.2.1 d rfl (k H locs ls a0 a1 a2 a3)
theorem z_lshr (C : zz_C D cl tys B tb X p s m args meth c cc own ret nm) {x : Int64} {y : Int32} (d : decode cc pc = .ok (.lshr, 1)) (k : zz_W D cl B p l e R s m args below meth c Q h n cells slots L (pc + 1) (.long (x >>> (y.toInt64 &&& 63)) :: rest)) : zz_W D cl B p l e R s m args below meth c Q h n cells slots L pc (.int y :: .long x :: rest) := fun H locs ls a0 a1 a2 a3 => lv_lshr C.1 C.2.1 d rfl (k H locs ls a0 a1 a2 a3)
theorem z_lcmp (C : zz_C D cl tys B tb X p s m args meth c cc own ret nm) {x y : Int64} (d : decode cc pc = .ok (.lcmp, 1)) (k : zz_W D cl B p l e R s m args below meth c Q h n cells slots L (pc + 1) (.int (lg_cmp x y) :: rest)) : zz_W D cl B p l e R s m args below meth c Q h n cells slots L pc (.long y :: .long x :: rest) := fun H locs ls a0 a1 a2 a3 => W.lcmp C.1 C.2.1 d (k H locs ls a0 a1 a2 a3)
theorem z_dup (C : zz_C D cl tys B tb X p s m args meth c cc own ret nm) {va : Value} (d : decode cc pc = .ok (.dup, 1)) (hva : va.category = 1) (k : zz_W D cl B p l e R s m args below meth c Q h n cells slots L (pc + 1) (va :: va :: rest)) : zz_W D cl B p l e R s m args below meth c Q h n cells slots L pc (va :: rest) := fun H locs ls a0 a1 a2 a3 => lv_dup C.1 C.2.1 d hva (k H locs ls a0 a1 a2 a3)
theorem z_pop (C : zz_C D cl tys B tb X p s m args meth c cc own ret nm) {va : Value} (d : decode cc pc = .ok (.pop, 1)) (hva : va.category = 1) (k : zz_W D cl B p l e R s m args below meth c Q h n cells slots L (pc + 1) (rest)) : zz_W D cl B p l e R s m args below meth c Q h n cells slots L pc (va :: rest) := fun H locs ls a0 a1 a2 a3 => lv_pop C.1 C.2.1 d hva (k H locs ls a0 a1 a2 a3)
theorem z_dup_x1 (C : zz_C D cl tys B tb X p s m args meth c cc own ret nm) {va vb : Value} (d : decode cc pc = .ok (.dup_x1, 1)) (hva : va.category = 1) (hvb : vb.category = 1) (k : zz_W D cl B p l e R s m args below meth c Q h n cells slots L (pc + 1) (va :: vb :: va :: rest)) : zz_W D cl B p l e R s m args below meth c Q h n cells slots L pc (va :: vb :: rest) := fun H locs ls a0 a1 a2 a3 => lv_dup_x1 C.1 C.2.1 d hva hvb (k H locs ls a0 a1 a2 a3)
theorem z_dup_x2 (C : zz_C D cl tys B tb X p s m args meth c cc own ret nm) {va vb vd : Value} (d : decode cc pc = .ok (.dup_x2, 1)) (hva : va.category = 1) (hvb : vb.category = 1) (hvd : vd.category = 1) (k : zz_W D cl B p l e R s m args below meth c Q h n cells slots L (pc + 1) (va :: vb :: vd :: va :: rest)) : zz_W D cl B p l e R s m args below meth c Q h n cells slots L pc (va :: vb :: vd :: rest) := fun H locs ls a0 a1 a2 a3 => lv_dup_x2 C.1 C.2.1 d hva hvb hvd (k H locs ls a0 a1 a2 a3)
theorem z_dup2_11 (C : zz_C D cl tys B tb X p s m args meth c cc own ret nm) {va vb : Value} (d : decode cc pc = .ok (.dup2, 1)) (hva : va.category = 1) (hvb : vb.category = 1) (k : zz_W D cl B p l e R s m args below meth c Q h n cells slots L (pc + 1) (va :: vb :: va :: vb :: rest)) : zz_W D cl B p l e R s m args below meth c Q h n cells slots L pc (va :: vb :: rest) := fun H locs ls a0 a1 a2 a3 => lv_dup2_11 C.1 C.2.1 d hva hvb (k H locs ls a0 a1 a2 a3)
theorem z_dup2_2 (C : zz_C D cl tys B tb X p s m args meth c cc own ret nm) {va : Value} (d : decode cc pc = .ok (.dup2, 1)) (hva : va.category = 2) (k : zz_W D cl B p l e R s m args below meth c Q h n cells slots L (pc + 1) (va :: va :: rest)) : zz_W D cl B p l e R s m args below meth c Q h n cells slots L pc (va :: rest) := fun H locs ls a0 a1 a2 a3 => lv_dup2_2 C.1 C.2.1 d hva (k H locs ls a0 a1 a2 a3)
theorem z_if_eq (C : zz_C D cl tys B tb X p s m args meth c cc own ret nm) {x : Int32} {off : Int} {tgt : Nat} (d : decode cc pc = .ok (.ifCond .eq off, 3)) (ht : (pc : Int) + off = (tgt : Int)) (kt : x = 0 → zz_W D cl B p l e R s m args below meth c Q h n cells slots L tgt rest) (kf : ¬ x = 0 → zz_W D cl B p l e R s m args below meth c Q h n cells slots L (pc + 3) rest) : zz_W D cl B p l e R s m args below meth c Q h n cells slots L pc (.int x :: rest) := fun H locs ls a0 a1 a2 a3 => lv_if_eq C.1 C.2.1 d ht (fun q => kt q H locs ls a0 a1 a2 a3) (fun q => kf q H locs ls a0 a1 a2 a3)
theorem z_icmp_eq (C : zz_C D cl tys B tb X p s m args meth c cc own ret nm) {x y : Int32} {off : Int} {tgt : Nat} (d : decode cc pc = .ok (.if_icmp .eq off, 3)) (ht : (pc : Int) + off = (tgt : Int)) (kt : x = y → zz_W D cl B p l e R s m args below meth c Q h n cells slots L tgt rest) (kf : ¬ x = y → zz_W D cl B p l e R s m args below meth c Q h n cells slots L (pc + 3) rest) : zz_W D cl B p l e R s m args below meth c Q h n cells slots L pc (.int y :: .int x :: rest) := fun H locs ls a0 a1 a2 a3 => lv_icmp_eq C.1 C.2.1 d ht (fun q => kt q H locs ls a0 a1 a2 a3) (fun q => kf q H locs ls a0 a1 a2 a3)
theorem z_if_ne (C : zz_C D cl tys B tb X p s m args meth c cc own ret nm) {x : Int32} {off : Int} {tgt : Nat} (d : decode cc pc = .ok (.ifCond .ne off, 3)) (ht : (pc : Int) + off = (tgt : Int)) (kt : ¬ x = 0 → zz_W D cl B p l e R s m args below meth c Q h n cells slots L tgt rest) (kf : x = 0 → zz_W D cl B p l e R s m args below meth c Q h n cells slots L (pc + 3) rest) : zz_W D cl B p l e R s m args below meth c Q h n cells slots L pc (.int x :: rest) := fun H locs ls a0 a1 a2 a3 => lv_if_ne C.1 C.2.1 d ht (fun q => kt q H locs ls a0 a1 a2 a3) (fun q => kf q H locs ls a0 a1 a2 a3)
theorem z_icmp_ne (C : zz_C D cl tys B tb X p s m args meth c cc own ret nm) {x y : Int32} {off : Int} {tgt : Nat} (d : decode cc pc = .ok (.if_icmp .ne off, 3)) (ht : (pc : Int) + off = (tgt : Int)) (kt : ¬ x = y → zz_W D cl B p l e R s m args below meth c Q h n cells slots L tgt rest) (kf : x = y → zz_W D cl B p l e R s m args below meth c Q h n cells slots L (pc + 3) rest) : zz_W D cl B p l e R s m args below meth c Q h n cells slots L pc (.int y :: .int x :: rest) := fun H locs ls a0 a1 a2 a3 => lv_icmp_ne C.1 C.2.1 d ht (fun q => kt q H locs ls a0 a1 a2 a3) (fun q => kf q H locs ls a0 a1 a2 a3)
theorem z_if_lt (C : zz_C D cl tys B tb X p s m args meth c cc own ret nm) {x : Int32} {off : Int} {tgt : Nat} (d : decode cc pc = .ok (.ifCond .lt off, 3)) (ht : (pc : Int) + off = (tgt : Int)) (kt : x < 0 → zz_W D cl B p l e R s m args below meth c Q h n cells slots L tgt rest) (kf : ¬ x < 0 → zz_W D cl B p l e R s m args below meth c Q h n cells slots L (pc + 3) rest) : zz_W D cl B p l e R s m args below meth c Q h n cells slots L pc (.int x :: rest) := fun H locs ls a0 a1 a2 a3 => lv_if_lt C.1 C.2.1 d ht (fun q => kt q H locs ls a0 a1 a2 a3) (fun q => kf q H locs ls a0 a1 a2 a3)
theorem z_icmp_lt (C : zz_C D cl tys B tb X p s m args meth c cc own ret nm) {x y : Int32} {off : Int} {tgt : Nat} (d : decode cc pc = .ok (.if_icmp .lt off, 3)) (ht : (pc : Int) + off = (tgt : Int)) (kt : x < y → zz_W D cl B p l e R s m args below meth c Q h n cells slots L tgt rest) (kf : ¬ x < y → zz_W D cl B p l e R s m args below meth c Q h n cells slots L (pc + 3) rest) : zz_W D cl B p l e R s m args below meth c Q h n cells slots L pc (.int y :: .int x :: rest) := fun H locs ls a0 a1 a2 a3 => lv_icmp_lt C.1 C.2.1 d ht (fun q => kt q H locs ls a0 a1 a2 a3) (fun q => kf q H locs ls a0 a1 a2 a3)
theorem z_if_ge (C : zz_C D cl tys B tb X p s m args meth c cc own ret nm) {x : Int32} {off : Int} {tgt : Nat} (d : decode cc pc = .ok (.ifCond .ge off, 3)) (ht : (pc : Int) + off = (tgt : Int)) (kt : 0 ≤ x → zz_W D cl B p l e R s m args below meth c Q h n cells slots L tgt rest) (kf : ¬ 0 ≤ x → zz_W D cl B p l e R s m args below meth c Q h n cells slots L (pc + 3) rest) : zz_W D cl B p l e R s m args below meth c Q h n cells slots L pc (.int x :: rest) := fun H locs ls a0 a1 a2 a3 => lv_if_ge C.1 C.2.1 d ht (fun q => kt q H locs ls a0 a1 a2 a3) (fun q => kf q H locs ls a0 a1 a2 a3)
theorem z_icmp_ge (C : zz_C D cl tys B tb X p s m args meth c cc own ret nm) {x y : Int32} {off : Int} {tgt : Nat} (d : decode cc pc = .ok (.if_icmp .ge off, 3)) (ht : (pc : Int) + off = (tgt : Int)) (kt : y ≤ x → zz_W D cl B p l e R s m args below meth c Q h n cells slots L tgt rest) (kf : ¬ y ≤ x → zz_W D cl B p l e R s m args below meth c Q h n cells slots L (pc + 3) rest) : zz_W D cl B p l e R s m args below meth c Q h n cells slots L pc (.int y :: .int x :: rest) := fun H locs ls a0 a1 a2 a3 => lv_icmp_ge C.1 C.2.1 d ht (fun q => kt q H locs ls a0 a1 a2 a3) (fun q => kf q H locs ls a0 a1 a2 a3)
theorem z_if_gt (C : zz_C D cl tys B tb X p s m args meth c cc own ret nm) {x : Int32} {off : Int} {tgt : Nat} (d : decode cc pc = .ok (.ifCond .gt off, 3)) (ht : (pc : Int) + off = (tgt : Int)) (kt : 0 < x → zz_W D cl B p l e R s m args below meth c Q h n cells slots L tgt rest) (kf : ¬ 0 < x → zz_W D cl B p l e R s m args below meth c Q h n cells slots L (pc + 3) rest) : zz_W D cl B p l e R s m args below meth c Q h n cells slots L pc (.int x :: rest) := fun H locs ls a0 a1 a2 a3 => lv_if_gt C.1 C.2.1 d ht (fun q => kt q H locs ls a0 a1 a2 a3) (fun q => kf q H locs ls a0 a1 a2 a3)
theorem z_icmp_gt (C : zz_C D cl tys B tb X p s m args meth c cc own ret nm) {x y : Int32} {off : Int} {tgt : Nat} (d : decode cc pc = .ok (.if_icmp .gt off, 3)) (ht : (pc : Int) + off = (tgt : Int)) (kt : y < x → zz_W D cl B p l e R s m args below meth c Q h n cells slots L tgt rest) (kf : ¬ y < x → zz_W D cl B p l e R s m args below meth c Q h n cells slots L (pc + 3) rest) : zz_W D cl B p l e R s m args below meth c Q h n cells slots L pc (.int y :: .int x :: rest) := fun H locs ls a0 a1 a2 a3 => lv_icmp_gt C.1 C.2.1 d ht (fun q => kt q H locs ls a0 a1 a2 a3) (fun q => kf q H locs ls a0 a1 a2 a3)
theorem z_if_le (C : zz_C D cl tys B tb X p s m args meth c cc own ret nm) {x : Int32} {off : Int} {tgt : Nat} (d : decode cc pc = .ok (.ifCond .le off, 3)) (ht : (pc : Int) + off = (tgt : Int)) (kt : x ≤ 0 → zz_W D cl B p l e R s m args below meth c Q h n cells slots L tgt rest) (kf : ¬ x ≤ 0 → zz_W D cl B p l e R s m args below meth c Q h n cells slots L (pc + 3) rest) : zz_W D cl B p l e R s m args below meth c Q h n cells slots L pc (.int x :: rest) := fun H locs ls a0 a1 a2 a3 => lv_if_le C.1 C.2.1 d ht (fun q => kt q H locs ls a0 a1 a2 a3) (fun q => kf q H locs ls a0 a1 a2 a3)
theorem z_icmp_le (C : zz_C D cl tys B tb X p s m args meth c cc own ret nm) {x y : Int32} {off : Int} {tgt : Nat} (d : decode cc pc = .ok (.if_icmp .le off, 3)) (ht : (pc : Int) + off = (tgt : Int)) (kt : x ≤ y → zz_W D cl B p l e R s m args below meth c Q h n cells slots L tgt rest) (kf : ¬ x ≤ y → zz_W D cl B p l e R s m args below meth c Q h n cells slots L (pc + 3) rest) : zz_W D cl B p l e R s m args below meth c Q h n cells slots L pc (.int y :: .int x :: rest) := fun H locs ls a0 a1 a2 a3 => lv_icmp_le C.1 C.2.1 d ht (fun q => kt q H locs ls a0 a1 a2 a3) (fun q => kf q H locs ls a0 a1 a2 a3)
theorem z_goto (C : zz_C D cl tys B tb X p s m args meth c cc own ret nm) {off : Int} {tgt : Nat} (d : decode cc pc = .ok (.goto off, 3)) (ht : (pc : Int) + off = (tgt : Int)) (k : zz_W D cl B p l e R s m args below meth c Q h n cells slots L tgt rest) : zz_W D cl B p l e R s m args below meth c Q h n cells slots L pc rest := fun H locs ls a0 a1 a2 a3 => lv_goto C.1 C.2.1 d ht (k H locs ls a0 a1 a2 a3)
theorem z_tableIn (C : zz_C D cl tys B tb X p s m args meth c cc own ret nm) {dflt lo hi : Int} {offs : Array Int} {len : Nat} {x : Int32} {off : Int} {tgt : Nat} (d : decode cc pc = .ok (.tableswitch dflt lo hi offs, len)) (h1 : ¬ x.toInt < lo) (h2 : ¬ hi < x.toInt) (ho : offs[(x.toInt - lo).toNat]? = some off) (ht : (pc : Int) + off = (tgt : Int)) (k : zz_W D cl B p l e R s m args below meth c Q h n cells slots L tgt rest) : zz_W D cl B p l e R s m args below meth c Q h n cells slots L pc (.int x :: rest) := fun H locs ls a0 a1 a2 a3 => lv_tableIn C.1 C.2.1 d h1 h2 ho ht (k H locs ls a0 a1 a2 a3)
theorem z_tableOut (C : zz_C D cl tys B tb X p s m args meth c cc own ret nm) {dflt lo hi : Int} {offs : Array Int} {len : Nat} {x : Int32} {tgt : Nat} (d : decode cc pc = .ok (.tableswitch dflt lo hi offs, len)) (h9 : x.toInt < lo ∨ hi < x.toInt) (ht : (pc : Int) + dflt = (tgt : Int)) (k : zz_W D cl B p l e R s m args below meth c Q h n cells slots L tgt rest) : zz_W D cl B p l e R s m args below meth c Q h n cells slots L pc (.int x :: rest) := fun H locs ls a0 a1 a2 a3 => lv_tableOut C.1 C.2.1 d h9 ht (k H locs ls a0 a1 a2 a3)
theorem z_acmp_eq (C : zz_C D cl tys B tb X p s m args meth c cc own ret nm) {rx ry : Option Nat} {off : Int} {tgt : Nat} (d : decode cc pc = .ok (.if_acmp .eq off, 3)) (ht : (pc : Int) + off = (tgt : Int)) (kt : rx = ry → zz_W D cl B p l e R s m args below meth c Q h n cells slots L tgt rest) (kf : ¬ rx = ry → zz_W D cl B p l e R s m args below meth c Q h n cells slots L (pc + 3) rest) : zz_W D cl B p l e R s m args below meth c Q h n cells slots L pc (va_rf ry :: va_rf rx :: rest) := fun H locs ls a0 a1 a2 a3 => lv_acmp_eq C.1 C.2.1 d ht (fun q => kt q H locs ls a0 a1 a2 a3) (fun q => kf q H locs ls a0 a1 a2 a3)
theorem z_acmp_ne (C : zz_C D cl tys B tb X p s m args meth c cc own ret nm) {rx ry : Option Nat} {off : Int} {tgt : Nat} (d : decode cc pc = .ok (.if_acmp .ne off, 3)) (ht : (pc : Int) + off = (tgt : Int)) (kt : ¬ rx = ry → zz_W D cl B p l e R s m args below meth c Q h n cells slots L tgt rest) (kf : rx = ry → zz_W D cl B p l e R s m args below meth c Q h n cells slots L (pc + 3) rest) : zz_W D cl B p l e R s m args below meth c Q h n cells slots L pc (va_rf ry :: va_rf rx :: rest) := fun H locs ls a0 a1 a2 a3 => lv_acmp_ne C.1 C.2.1 d ht (fun q => kt q H locs ls a0 a1 a2 a3) (fun q => kf q H locs ls a0 a1 a2 a3)
theorem z_topi {x y : Int32} (hxy : y = x) (k : zz_W D cl B p l e R s m args below meth c Q h n cells slots L pc (.int y :: rest)) : zz_W D cl B p l e R s m args below meth c Q h n cells slots L pc (.int x :: rest) := hxy ▸ k
theorem z_widen {c1 s1 : Nat} {st : List Value} (h1 : cells ≤ c1) (h2 : slots ≤ s1) (k : zz_W D cl B p l e R s m args below meth c Q h n c1 s1 L pc st) : zz_W D cl B p l e R s m args below meth c Q h n cells slots L pc st := fun H locs ls a0 a1 a2 a3 => W.widen h1 h2 (k H locs ls a0 a1 a2 a3)
theorem z_eq {h' : zz_H} {L' : List (Option Value)} {st st' : List Value} (e1 : h = h') (e2 : L = L') (e3 : st = st') (k : zz_W D cl B p l e R s m args below meth c Q h' n cells slots L' pc st') : zz_W D cl B p l e R s m args below meth c Q h n cells slots L pc st := by subst e1; subst e2; subst e3; exact k
/-! the heap -/
theorem z_get (C : zz_C D cl tys B tb X p s m args meth c cc own ret nm) {a ci k index N : Nat} {Cn ref : String} {T : u_T} {fs : List Value} {v : Value} (hc : cl[ci]? = some (Cn, T, N)) (hin : ∀ w ∈ u_ws Cn T N, w ∈ tb) (hk : k < N) (hw : Cond.fieldLink own index ref (T k).2.1 (T k).2.2.1 ∈ tb) (hr : (T k).1 = ref) (d : decode cc pc = .ok (.getfield index, 3)) (hh : h a = some (.inr (ci, fs))) (hv : fs[k]? = some v) (k9 : zz_W D cl B p l e R s m args below meth c Q h n cells slots L (pc + 3) (v :: rest)) : zz_W D cl B p l e R s m args below meth c Q h n cells slots L pc (.ref a :: rest) :=
  fun H locs ls a0 a1 a2 a3 => va_get (D := D) (cl := cl) (tys := tys) (ws := [(a, .inr (ci, fs))]) C.1 C.2.1 C.2.2.2.1 hin C.2.2.1 C.2.2.2.2.1 (zz_one a1 hh) 0 rfl hc k hk (C.2.2.2.1 _ hw) (fun x hx => hr ▸ hx) hv d (k9 H locs ls a0 a1 a2 a3)
theorem z_put (C : zz_C D cl tys B tb X p s m args meth c cc own ret nm) {a ci k index N : Nat} {Cn ref : String} {T : u_T} {fs : List Value} {v : Value} {ty : FieldType} (ty0 : Nat → FieldType) (hc : cl[ci]? = some (Cn, T, N)) (hin : ∀ w ∈ u_ws Cn T N, w ∈ tb) (hty : ∀ k, k < N → parseFieldDescriptor (T k).2.2.1 = some (ty0 k)) (hnm : ∀ a, a < N → ∀ b, b < N → a ≠ b → (T a).2.1 ≠ (T b).2.1) (hk : k < N) (hw : Cond.fieldLink own index ref (T k).2.1 (T k).2.2.1 ∈ tb) (hr : (T k).1 = ref) (hfin : (T k).2.2.2 = false) (hd : parseFieldDescriptor (T k).2.2.1 = some ty) (d : decode cc pc = .ok (.putfield index, 3)) (hh : h a = some (.inr (ci, fs))) (hlen : k < fs.length) (hn : narrow ty v = v) (hf : fits ty v = true) (k9 : zz_W D cl B p l e R s m args below meth c Q (zz_up h a (.inr (ci, fs.set k v))) n cells slots L (pc + 3) rest) : zz_W D cl B p l e R s m args below meth c Q h n cells slots L pc (v :: .ref a :: rest) := by
  intro H locs ls a0 a1 a2 a3
  have hts := C.2.2.2.1
  have hK := C.2.2.2.2.1
  have hap := va_apart (own := own) hts hin ty0 hty hnm hK hc
  obtain ⟨r, h1, cell, q1, q2, q3, q4⟩ := (a1.2 _ _ hh).1
  have hr9 : r = (Cn, T, N) := Option.some.inj (h1.symm.trans hc)
  subst hr9
  obtain ⟨hS9, hfc, kC, hkC, hkind⟩ := hK.1 ci _ hc
  obtain ⟨cf, kf, fi, f, hi, hsl⟩ := hS9 k hk
  have hlay := hts _ (hin _ (u_in_lay hk))
  unfold u_lay at hlay
  rw [if_neg (by rw [hfin]; decide)] at hlay
  have hst := (u_facts hfc hkC (u_lays hts hin hk) hi).1
  have h6 := u_store hfc hkC hkind hlay hi hd hn hf
  refine W.putK C.1 C.2.1 (f := f) ⟨C.2.2.1, hts _ hw, ⟨_, _, _, hr ▸ hi⟩, hst⟩ (by rw [q2]; exact h6) q1 q3 (by rw [hsl]; exact k2_hasslot (q4 k hk)) rfl rfl d fun H' e1 e2 e3 => ?_
  rw [hsl] at e1 ⊢
  exact k9 H' _ ls a0 (a1.set hh ⟨_, hc, t_OB.to (V := updV (vp_V fs) k v) ⟨_, e1, q2, q3, t_set q4 hap hk v⟩ (fun j _ => vp_updV_set hlen v j)⟩ e2 e3) (a2.put e2 e3 (a1.2 _ _ hh).2) a3
theorem z_putF (C : zz_C D cl tys B tb X p s m args meth c cc own ret nm) {a ci k index N : Nat} {Cn ref : String} {T : u_T} {fs : List Value} {v : Value} {ty : FieldType} (ty0 : Nat → FieldType) (hc : cl[ci]? = some (Cn, T, N)) (hin : ∀ w ∈ u_ws Cn T N, w ∈ tb) (hty : ∀ k, k < N → parseFieldDescriptor (T k).2.2.1 = some (ty0 k)) (hnm : ∀ a, a < N → ∀ b, b < N → a ≠ b → (T a).2.1 ≠ (T b).2.1) (hk : k < N) (hw : Cond.fieldLink own index ref (T k).2.1 (T k).2.2.1 ∈ tb) (hr : (T k).1 = ref) (hfin : (T k).2.2.2 = true) (hdecl : (T k).1 = own) (hinit : nm = "<init>") (hd : parseFieldDescriptor (T k).2.2.1 = some ty) (d : decode cc pc = .ok (.putfield index, 3)) (hh : h a = some (.inr (ci, fs))) (hlen : k < fs.length) (hn : narrow ty v = v) (hf : fits ty v = true) (k9 : zz_W D cl B p l e R s m args below meth c Q (zz_up h a (.inr (ci, fs.set k v))) n cells slots L (pc + 3) rest) : zz_W D cl B p l e R s m args below meth c Q h n cells slots L pc (v :: .ref a :: rest) := by
  intro H locs ls a0 a1 a2 a3
  have hts := C.2.2.2.1
  have hK := C.2.2.2.2.1
  have hown := C.2.2.1
  have hap := va_apart (own := own) hts hin ty0 hty hnm hK hc
  obtain ⟨r, h1, cell, q1, q2, q3, q4⟩ := (a1.2 _ _ hh).1
  have hr9 : r = (Cn, T, N) := Option.some.inj (h1.symm.trans hc)
  subst hr9
  obtain ⟨hS9, hfc, kC, hkC, hkind⟩ := hK.1 ci _ hc
  obtain ⟨cf, kf, fi, f, hi, hsl⟩ := hS9 k hk
  have hlay := hts _ (hin _ (u_in_lay hk))
  unfold u_lay at hlay
  rw [if_pos hfin] at hlay
  have hst := (u_facts hfc hkC (u_lays hts hin hk) hi).1
  have hcf : m.cls = cf := by
    obtain ⟨_, _, c', _, _, _, -, -, hf', -, -, -, hown2, -⟩ := Cond.laysFinal_spec hlay
    have e1 : c' = cf := by have := hi.symm.trans hf'; simp at this; exact this.1.symm
    rw [hdecl] at hown2
    rw [← e1]; exact Option.some.inj (hown.symm.trans hown2)
  have h6 := u_fits hfc hkC hkind (Or.inr hlay) hi hd hn hf
  refine W.putFinK C.1 C.2.1 hown (hts _ hw) (hr ▸ hi) hst hcf (C.2.2.2.2.2.2.2.2.1.trans hinit) (by rw [q2]; exact h6) q1 q3 (by rw [hsl]; exact k2_hasslot (q4 k hk)) rfl rfl d fun H' e1 e2 e3 => ?_
  rw [hsl] at e1 ⊢
  exact k9 H' _ ls a0 (a1.set hh ⟨_, hc, t_OB.to (V := updV (vp_V fs) k v) ⟨_, e1, q2, q3, t_set q4 hap hk v⟩ (fun j _ => vp_updV_set hlen v j)⟩ e2 e3) (a2.put e2 e3 (a1.2 _ _ hh).2) a3
theorem z_iald (C : zz_C D cl tys B tb X p s m args meth c cc own ret nm) {a N t0 : Nat} {cA : ClassId} {f : Nat → Int32} {i : Int32} (ht : tys[t0]? = some (cA, .int)) (d : decode cc pc = .ok (.iaload, 1)) (hh : h a = some (.inl (cA, N, .inl f))) (hin : vp_in i N) (k9 : zz_W D cl B p l e R s m args below meth c Q h n cells slots L (pc + 1) (.int (f i.toNatClampNeg) :: rest)) : zz_W D cl B p l e R s m args below meth c Q h n cells slots L pc (.int i :: .ref a :: rest) :=
  fun H locs ls a0 a1 a2 a3 => va_iald (D := D) (cl := cl) (ws := [(a, .inl (cA, N, .inl f))]) C.1 C.2.1 C.2.2.2.2.1 (zz_one a1 hh) 0 t0 rfl ht hin d (k9 H locs ls a0 a1 a2 a3)
theorem z_zald (C : zz_C D cl tys B tb X p s m args meth c cc own ret nm) {a N t0 : Nat} {cA : ClassId} {f : Nat → Int32} {i : Int32} (ht : tys[t0]? = some (cA, .boolean)) (d : decode cc pc = .ok (.baload, 1)) (hh : h a = some (.inl (cA, N, .inl f))) (hin : vp_in i N) (k9 : zz_W D cl B p l e R s m args below meth c Q h n cells slots L (pc + 1) (.int (f i.toNatClampNeg) :: rest)) : zz_W D cl B p l e R s m args below meth c Q h n cells slots L pc (.int i :: .ref a :: rest) :=
  fun H locs ls a0 a1 a2 a3 => va_zald (D := D) (cl := cl) (ws := [(a, .inl (cA, N, .inl f))]) C.1 C.2.1 C.2.2.2.2.1 (zz_one a1 hh) 0 t0 rfl ht hin d (k9 H locs ls a0 a1 a2 a3)
theorem z_lald (C : zz_C D cl tys B tb X p s m args meth c cc own ret nm) {a N t0 : Nat} {cA : ClassId} {f : Nat → Int64} {i : Int32} (ht : tys[t0]? = some (cA, .long)) (d : decode cc pc = .ok (.laload, 1)) (hh : h a = some (.inl (cA, N, .inr (.inl f)))) (hin : vp_in i N) (k9 : zz_W D cl B p l e R s m args below meth c Q h n cells slots L (pc + 1) (.long (f i.toNatClampNeg) :: rest)) : zz_W D cl B p l e R s m args below meth c Q h n cells slots L pc (.int i :: .ref a :: rest) :=
  fun H locs ls a0 a1 a2 a3 => va_lald (D := D) (cl := cl) (ws := [(a, .inl (cA, N, .inr (.inl f)))]) C.1 C.2.1 C.2.2.2.2.1 (zz_one a1 hh) 0 t0 rfl ht hin d (k9 H locs ls a0 a1 a2 a3)
theorem z_aald (C : zz_C D cl tys B tb X p s m args meth c cc own ret nm) {a N t0 : Nat} {cA : ClassId} {Cn : String} {f : Nat → Option Nat} {i : Int32} (ht : tys[t0]? = some (cA, .object Cn)) (d : decode cc pc = .ok (.aaload, 1)) (hh : h a = some (.inl (cA, N, .inr (.inr (.inr (.inr f)))))) (hin : vp_in i N) (k9 : zz_W D cl B p l e R s m args below meth c Q h n cells slots L (pc + 1) (va_rf (f i.toNatClampNeg) :: rest)) : zz_W D cl B p l e R s m args below meth c Q h n cells slots L pc (.int i :: .ref a :: rest) :=
  fun H locs ls a0 a1 a2 a3 => va_aldq (D := D) (cl := cl) (ws := [(a, .inl (cA, N, .inr (.inr (.inr (.inr f)))))]) C.1 C.2.1 C.2.2.2.2.1 (zz_one a1 hh) 0 t0 rfl ht hin d (k9 H locs ls a0 a1 a2 a3)
theorem z_alen (C : zz_C D cl tys B tb X p s m args meth c cc own ret nm) {a t0 : Nat} {cA : ClassId} {x : vp_A} {ty : FieldType} (ht : tys[t0]? = some (cA, ty)) (d : decode cc pc = .ok (.arraylength, 1)) (hh : h a = some (.inl (cA, x))) (k9 : zz_W D cl B p l e R s m args below meth c Q h n cells slots L (pc + 1) (.int (Int32.ofNat x.1) :: rest)) : zz_W D cl B p l e R s m args below meth c Q h n cells slots L pc (.ref a :: rest) :=
  fun H locs ls a0 a1 a2 a3 => va_alen (D := D) (cl := cl) (ws := [(a, .inl (cA, x))]) C.1 C.2.1 C.2.2.2.2.1 (zz_one a1 hh) 0 t0 rfl ht rfl d (k9 H locs ls a0 a1 a2 a3)
theorem z_iast (C : zz_C D cl tys B tb X p s m args meth c cc own ret nm) {a N t0 : Nat} {cA : ClassId} {f : Nat → Int32} {i : Int32} {x : Int32} (ht : tys[t0]? = some (cA, .int)) (d : decode cc pc = .ok (.iastore, 1)) (hh : h a = some (.inl (cA, N, .inl f))) (hin : vp_in i N) (k9 : zz_W D cl B p l e R s m args below meth c Q (zz_up h a (.inl (cA, N, .inl (upd f i.toNatClampNeg x)))) n cells slots L (pc + 1) rest) : zz_W D cl B p l e R s m args below meth c Q h n cells slots L pc (.int x :: .int i :: .ref a :: rest) := by
  intro H locs ls a0 a1 a2 a3
  have hK := C.2.2.2.2.1
  refine W.iast C.1 C.2.1 (a1.2 _ _ hh).1 ((hK.2 t0 _ ht).1 N (fun j => .int (f j))) (fun q => by cases q) (by show ¬ (i < 0 ∨ (arrV _ _ _).slots.size ≤ _); rw [arrV_size]; exact hin) rfl rfl d fun H1 e1 z oq => ?_
  refine k9 H1 _ ls a0 (a1.set hh ?_ z oq) (a2.put z oq (a1.2 _ _ hh).2) a3
  show H1[a]? = some (vp_cell _ _)
  rw [e1]
  rw [vp_cell_i, vp_cell_i, arrV_store]
  congr 2
  funext q
  by_cases hq : q = i.toNatClampNeg
  · subst hq
    simp [updV, upd]
    try rfl
  · simp [updV, upd, hq]
theorem z_zast (C : zz_C D cl tys B tb X p s m args meth c cc own ret nm) {a N t0 : Nat} {cA : ClassId} {f : Nat → Int32} {i : Int32} {x : Int32} (ht : tys[t0]? = some (cA, .boolean)) (d : decode cc pc = .ok (.bastore, 1)) (hh : h a = some (.inl (cA, N, .inl f))) (hin : vp_in i N) (k9 : zz_W D cl B p l e R s m args below meth c Q (zz_up h a (.inl (cA, N, .inl (upd f i.toNatClampNeg (vp_nar .boolean x))))) n cells slots L (pc + 1) rest) : zz_W D cl B p l e R s m args below meth c Q h n cells slots L pc (.int x :: .int i :: .ref a :: rest) := by
  intro H locs ls a0 a1 a2 a3
  have hK := C.2.2.2.2.1
  refine W.zast C.1 C.2.1 (a1.2 _ _ hh).1 ((hK.2 t0 _ ht).1 N (fun j => .int (f j))) (fun q => by cases q) (by show ¬ (i < 0 ∨ (arrV _ _ _).slots.size ≤ _); rw [arrV_size]; exact hin) rfl rfl d fun H1 e1 z oq => ?_
  refine k9 H1 _ ls a0 (a1.set hh ?_ z oq) (a2.put z oq (a1.2 _ _ hh).2) a3
  show H1[a]? = some (vp_cell _ _)
  rw [e1]
  rw [vp_cell_i, vp_cell_i, arrV_store]
  congr 2
  funext q
  by_cases hq : q = i.toNatClampNeg
  · subst hq
    simp [updV, upd, vp_nar]
    try rfl
  · simp [updV, upd, vp_nar, hq]
theorem z_last (C : zz_C D cl tys B tb X p s m args meth c cc own ret nm) {a N t0 : Nat} {cA : ClassId} {f : Nat → Int64} {i : Int32} {x : Int64} (ht : tys[t0]? = some (cA, .long)) (d : decode cc pc = .ok (.lastore, 1)) (hh : h a = some (.inl (cA, N, .inr (.inl f)))) (hin : vp_in i N) (k9 : zz_W D cl B p l e R s m args below meth c Q (zz_up h a (.inl (cA, N, .inr (.inl (vp_updL f i.toNatClampNeg x))))) n cells slots L (pc + 1) rest) : zz_W D cl B p l e R s m args below meth c Q h n cells slots L pc (.long x :: .int i :: .ref a :: rest) := by
  intro H locs ls a0 a1 a2 a3
  have hK := C.2.2.2.2.1
  refine W.last C.1 C.2.1 (a1.2 _ _ hh).1 ((hK.2 t0 _ ht).1 N (fun j => .long (f j))) (fun q => by cases q) (by show ¬ (i < 0 ∨ (arrV _ _ _).slots.size ≤ _); rw [arrV_size]; exact hin) rfl rfl d fun H1 e1 z oq => ?_
  refine k9 H1 _ ls a0 (a1.set hh ?_ z oq) (a2.put z oq (a1.2 _ _ hh).2) a3
  show H1[a]? = some (vp_cell _ _)
  rw [e1]
  rw [vp_cell_l, vp_cell_l, arrV_store]
  congr 2
  funext q
  by_cases hq : q = i.toNatClampNeg
  · subst hq
    simp [updV, vp_updL]
    try rfl
  · simp [updV, vp_updL, hq]
theorem z_aast (C : zz_C D cl tys B tb X p s m args meth c cc own ret nm) {a N t0 ci v : Nat} {cA : ClassId} {r : vw_C} {vs : List Value} {f : Nat → Option Nat} {i : Int32} (ht : tys[t0]? = some (cA, .object r.1)) (hc : cl[ci]? = some r) (d : decode cc pc = .ok (.aastore, 1)) (hh : h a = some (.inl (cA, N, .inr (.inr (.inr (.inr f)))))) (hv : h v = some (.inr (ci, vs))) (hin : vp_in i N) (k9 : zz_W D cl B p l e R s m args below meth c Q (zz_up h a (.inl (cA, N, .inr (.inr (.inr (.inr (va_up f i.toNatClampNeg (some v)))))))) n cells slots L (pc + 1) rest) : zz_W D cl B p l e R s m args below meth c Q h n cells slots L pc (.ref v :: .int i :: .ref a :: rest) := by
  intro H locs ls a0 a1 a2 a3
  have hK := C.2.2.2.2.1
  have hlt : i.toNatClampNeg < N := Nat.not_le.mp fun q => hin (Or.inr q)
  have h0 : ¬ i < 0 := fun q => hin (Or.inl q)
  obtain ⟨r', hr', cellV, g1, g2, g3, -⟩ := (a1.2 _ _ hv).1
  have hcls := (hK.1 ci r hc).2
  obtain ⟨kA, comp, k1, k2, k3, -⟩ := (hK.2 t0 _ ht).2
  have hcomp : comp = D.1 ci := Option.some.inj (k3.symm.trans hcls.1)
  subst hcomp
  obtain ⟨kC, hkC, -⟩ := hcls.2
  refine W.aast C.1 C.2.1 (a1.2 _ _ hh).1 (fun q h => by cases h) (fun h => by cases h) k1 k2 rfl hkC ⟨h0, by show _ < (arrV _ _ _).slots.size; rw [arrV_size]; exact hlt⟩ g1 (fun q h => by rw [g3] at h; cases h) (by rw [g2]; exact hkC) (by rw [g2]; exact va_assign hcls) rfl rfl d fun H1 e1 z oq => ?_
  refine k9 H1 _ ls a0 (a1.set hh ?_ z oq) (a2.put z oq (a1.2 _ _ hh).2) a3
  show H1[a]? = some (vp_cell _ _)
  rw [e1]
  rw [vp_cell_q, vp_cell_q, arrV_store]
  congr 2
  funext q
  by_cases hq : q = i.toNatClampNeg
  · subst hq
    simp [updV, va_up, va_rf]
  · simp [updV, va_up, hq]
theorem zz_grow {H H1 : Heap} {locs : List Loc} (hS : va_S (fun q => B ≤ q) s.heap H locs) (hn : H.size = n) (z : H1.size = n + 1) (o1 : ∀ q : Nat, q < n → H1[q]? = H[q]?) : va_S (fun q => B ≤ q) s.heap H1 locs :=
  ⟨by have := hS.1; omega, fun q h1 h2 => (o1 q (by have := hS.1; omega)).trans (hS.2.1 q h1 h2), hS.2.2⟩
theorem z_newa (C : zz_C D cl tys B tb X p s m args meth c cc own ret nm) {atype : ArrayType} {ty : FieldType} {t0 N : Nat} {cA : ClassId} {a9 : vp_A} {x : Int32} (hw : Cond.arrayClass (newarray.typeOf atype) ∈ tb) (hty : newarray.typeOf atype = ty) (ht : tys[t0]? = some (cA, ty)) (hra : ∀ U : State, va_RA U cA ty → U.vm.findClass ("[" ++ ty.toString) = some cA) (d : decode cc pc = .ok (.newarray atype, 2)) (ha : ∀ cA : ClassId, vp_cell cA a9 = arrV cA N (fun _ => defaultValue ty)) (hx : ¬ x < 0) (hN : x.toNatClampNeg = N) (hby : N * componentBytes ty ≤ 536870912) (hcl : cells + 1 ≤ R.cells) (hsl : slots + N ≤ R.slots) (k9 : zz_W D cl B p l e R s m args below meth c Q (zz_up h n (.inl (cA, a9))) (n + 1) (cells + 1) (slots + N) L (pc + 2) (.ref n :: rest)) : zz_W D cl B p l e R s m args below meth c Q h n cells slots L pc (.int x :: rest) := by
  intro H locs ls a0 a1 a2 a3
  have hK := C.2.2.2.2.1
  subst hty
  refine va_newaK C.1 C.2.1 (C.2.2.2.1 _ hw) rfl d rfl hx hN hby hcl hsl a1.1 fun H1 cA' e1 z1 o1 hAr hNm => ?_
  have hcA : cA' = cA := Option.some.inj (hNm.symm.trans (hra s (hK.2 t0 _ ht).2))
  subst hcA
  have hB : B ≤ n := by have h1 := C.2.2.2.2.2.1; have h2 := a2.1; have h3 := a1.1; omega
  exact k9 H1 locs ls a0 (a1.push (by show H1[n]? = some (vp_cell _ _); rw [ha]; exact e1) z1 o1 hB) (zz_grow a2 a1.1 z1 o1) a3
theorem z_anew (C : zz_C D cl tys B tb X p s m args meth c cc own ret nm) {index t0 N : Nat} {Cn : String} {cA : ClassId} {x : Int32} (hw : Cond.classLink own index Cn ∈ tb) (hw2 : Cond.arrayOver (.object Cn) ∈ tb) (ht : tys[t0]? = some (cA, .object Cn)) (d : decode cc pc = .ok (.anewarray index, 3)) (hx : ¬ x < 0) (hN : x.toNatClampNeg = N) (hby : N * 4 ≤ 536870912) (hcl : cells + 1 ≤ R.cells) (hsl : slots + N ≤ R.slots) (k9 : zz_W D cl B p l e R s m args below meth c Q (zz_up h n (.inl (cA, N, .inr (.inr (.inr (.inr (fun _ => none))))))) (n + 1) (cells + 1) (slots + N) L (pc + 3) (.ref n :: rest)) : zz_W D cl B p l e R s m args below meth c Q h n cells slots L pc (.int x :: rest) := by
  intro H locs ls a0 a1 a2 a3
  have hK := C.2.2.2.2.1
  subst hN
  refine W.anew C.1 C.2.1 C.2.2.1 (C.2.2.2.1 _ hw) (C.2.2.2.1 _ hw2) rfl d rfl hx hby hcl hsl fun cA' kA comp f1 f2 f3 f4 => ?_
  obtain ⟨kA9, comp9, -, -, -, g4⟩ := (hK.2 t0 _ ht).2
  have hcA : cA' = cA := Option.some.inj (f1.symm.trans g4)
  subst hcA
  generalize hH1 : H.push ({ cls := cA', slots := Array.replicate x.toNatClampNeg .null, vm := .none } : Cell) = H1
  have hs := a1.1
  have z1 : H1.size = n + 1 := by rw [← hH1, Array.size_push, hs]
  have e1 : H1[n]? = some (arrV cA' x.toNatClampNeg (fun _ => .null)) := by rw [← hH1, ← hs, Array.getElem?_push_size, ← arrV_new]
  have o1 : ∀ q : Nat, q < n → H1[q]? = H[q]? := fun q hq => by rw [← hH1, Array.getElem?_push, if_neg (by omega)]
  have hB : B ≤ n := by have h1 := C.2.2.2.2.2.1; have h2 := a2.1; omega
  have h9 := k9 H1 locs ls a0 (a1.push (by show H1[n]? = some (vp_cell _ _); rw [vp_cell_q]; exact e1) z1 o1 hB) (zz_grow a2 a1.1 z1 o1) a3
  rw [← hs] at h9
  exact h9
theorem z_new (C : zz_C D cl tys B tb X p s m args meth c cc own ret nm) {Cn : String} {T : u_T} {N ci index : Nat} {fs : List Value} (ty0 : Nat → FieldType) (hc : cl[ci]? = some (Cn, T, N)) (hin : ∀ w ∈ u_ws Cn T N, w ∈ tb) (hty : ∀ k, k < N → parseFieldDescriptor (T k).2.2.1 = some (ty0 k)) (w1 : Cond.classLink own index Cn ∈ tb) (w2 : Cond.instantiable Cn N ∈ tb) (w3 : Cond.initialized Cn ∈ tb) (hfs : ∀ j, j < N → defaultValue (ty0 j) = vp_V fs j) (d : decode cc pc = .ok (.new index, 3)) (hcl : cells + 1 ≤ R.cells) (hsl : slots + N ≤ R.slots) (k9 : zz_W D cl B p l e R s m args below meth c Q (zz_up h n (.inr (ci, fs))) (n + 1) (cells + 1) (slots + N) L (pc + 3) (.ref n :: rest)) : zz_W D cl B p l e R s m args below meth c Q h n cells slots L pc rest := by
  intro H locs ls a0 a1 a2 a3
  have hts := C.2.2.2.1
  have hK := C.2.2.2.2.1
  have hKn := hK.1 ci _ hc
  refine W.newcK C.1 C.2.1 C.2.2.1 (hts _ w1) (hts _ w2) (hts _ w3) rfl d hcl hsl hKn.2.1 a1.1 fun H1 kC hkC e1 z1 o1 => ?_
  have hB : B ≤ n := by have h1 := C.2.2.2.2.2.1; have h2 := a2.1; have h3 := a1.1; omega
  exact k9 H1 locs ls a0 (a1.push ⟨_, hc, (u_born ty0 hts hin hKn hkC e1 hty).to hfs⟩ z1 o1 hB) (zz_grow a2 a1.1 z1 o1) a3
theorem z_objInit (C : zz_C D cl tys B tb X p s m args meth c cc own ret nm) {a index : Nat} (w1 : Cond.methodLink own index objectInit ∈ tb) (w2 : Cond.instanceMethod objectInit ∈ tb) (w3 : Cond.code objectInit ⟨#[0xb1]⟩ 1 none ∈ tb) (d : decode cc pc = .ok (.invokespecial index, 3)) (hfr : 1 ≤ R.frames) (hlo : (rest.map fun v => v.category).sum + 12 ≤ R.locals) (k9 : zz_W D cl B p l e R s m args below meth c Q h n cells slots L (pc + 3) rest) : zz_W D cl B p l e R s m args below meth c Q h n cells slots L pc (.ref a :: rest) :=
  fun H locs ls a0 a1 a2 a3 => W.objInit C.1 C.2.1 C.2.2.1 (C.2.2.2.1 _ w1) (C.2.2.2.1 _ w2) (C.2.2.2.1 _ w3) rfl (a3.1.trans a0) rfl d hfr (by show 2 * 0 + _ + 12 ≤ _; omega) (k9 H locs ls a0 a1 a2 a3)
end ZA

