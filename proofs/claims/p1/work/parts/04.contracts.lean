/-- a method's start by the abstract heap -/
def zz_G (D : va_G) (cl : List vw_C) (tys : List (ClassId × FieldType)) (B : Nat) (tb : List Cond) (X : State → Heap → Prop) (h : zz_H) (n : Nat) (U : State) : Prop :=
  zz_I D cl B h n U.heap ∧ va_K D cl tys U ∧ B ≤ U.heap.size ∧ (∀ w ∈ tb, w.before #[] U = true) ∧ X U U.heap
/-- its end: the answer mk r, and what post says of r and of the abstract heap behind it -/
def zz_Q {ρ : Type} (D : va_G) (cl : List vw_C) (B : Nat) (mk : ρ → Option Value) (post : ρ → zz_H → Nat → Prop) : Array Value → State → Outcome → State → Prop := fun _ st oc t =>
  (∃ (r : ρ) (h' : zz_H) (n' : Nat), oc = .returned (mk r) ∧ post r h' n' ∧ zz_I D cl B h' n' t.heap) ∧ va_F (fun q => B ≤ q) st t
def zz_E (D : va_G) (cl : List vw_C) (B : Nat) (px : String → zz_H → Nat → Prop) : String → State → State → Prop := fun E st t =>
  (∃ (h' : zz_H) (n' : Nat), px E h' n' ∧ zz_I D cl B h' n' t.heap) ∧ va_F (fun q => B ≤ q) st t
/-- the words and X stay while only cells from B on change -/
def zz_F (B : Nat) (tb : List Cond) (X : State → Heap → Prop) : Prop :=
  (∀ w ∈ tb, ∀ (A A' : Array Value) (s U : State), s.WarmedH U.vm → w.before A s = true → w.before A' U = true) ∧
  (∀ (s U : State) (H : Heap), s.WarmedH U.vm → X s H → X U H) ∧
  ∀ (U : State) (H H1 : Heap), (∀ a : Nat, a < H.size → ¬ B ≤ a → H1[a]? = H[a]?) → X U H → X U H1
def zz_M {ρ : Type} (l : Launch) (D : va_G) (cl : List vw_C) (tys : List (ClassId × FieldType)) (B : Nat) (tb : List Cond) (X : State → Heap → Prop) (y : MethodName) (w : Cond) (rm : Room) (as : List Value) (h : zz_H) (n : Nat) (mk : ρ → Option Value) (post : ρ → zz_H → Nat → Prop) : Prop :=
  Met l y [w] rm (va_Pc as (zz_G D cl tys B tb X h n)) (zz_Q D cl B mk post) rm.cells rm.slots (fun q => B ≤ q)
def zz_MX {ρ : Type} (l : Launch) (D : va_G) (cl : List vw_C) (tys : List (ClassId × FieldType)) (B : Nat) (tb : List Cond) (X : State → Heap → Prop) (y : MethodName) (w : Cond) (rm : Room) (as : List Value) (h : zz_H) (n : Nat) (mk : ρ → Option Value) (post : ρ → zz_H → Nat → Prop) (px : String → zz_H → Nat → Prop) : Prop :=
  vx_Met l y [w] rm (va_Pc as (zz_G D cl tys B tb X h n)) (zz_Q D cl B mk post) (zz_E D cl B px) rm.cells rm.slots (fun q => B ≤ q)
abbrev zz_mi : Int32 → Option Value := fun r => some (.int r)
abbrev zz_ml : Int64 → Option Value := fun r => some (.long r)
abbrev zz_mr : Nat → Option Value := fun a => some (.ref a)
abbrev zz_mv : Unit → Option Value := fun _ => none
section ZB
variable {D : va_G} {cl : List vw_C} {tys : List (ClassId × FieldType)} {B : Nat} {tb : List Cond} {X : State → Heap → Prop} {p : Program} {l : Launch} {e : Env} {R : Room} {s : State} {m : MethodId} {args : Array Value} {below : List Frame} {meth : Method} {c : Code} {Q : State → Prop} {h : zz_H} {n cells slots : Nat} {L : List (Option Value)} {cc : ByteArray} {pc : Nat} {rest : List Value} {own nm : String} {ret : Option FieldType}
variable {ρ : Type} {mk : ρ → Option Value} {post : ρ → zz_H → Nat → Prop} {px : String → zz_H → Nat → Prop}
theorem zz_blind (F : zz_F B tb X) {as : List Value} : FrameBlind (va_Pc as (zz_G D cl tys B tb X h n)) := by
  intro a U g mk9 hq
  obtain ⟨q0, qI, qK, qB, qT, qX⟩ := hq
  exact ⟨q0, qI, va_K.moved (u := U) (U := U.calling g mk9 a) (Vm.Alike.refl U.vm) qK, qB, fun w hw => F.1 w hw #[] #[] U (U.calling g mk9 a) (State.WarmedH.refl U) (qT w hw), F.2.1 U (U.calling g mk9 a) U.heap (State.WarmedH.refl U) qX⟩
theorem zz_pre (F : zz_F B tb X) (C : zz_C D cl tys B tb X p s m args meth c cc own ret nm) {H : Heap} {locs : List Loc} (a1 : zz_I D cl B h n H) (a2 : va_S (fun q => B ≤ q) s.heap H locs) (as : List Value) : PreS s H (va_Pc as (zz_G D cl tys B tb X h n)) as := by
  refine ⟨zz_blind F, fun U hU hW => ⟨rfl, by rw [hU]; exact a1, va_K.moved hW.alike C.2.2.2.2.1, ?_, fun w hw => F.1 w hw args #[] s U hW (C.2.2.2.1 w hw), ?_⟩⟩
  · rw [hU]
    exact Nat.le_trans C.2.2.2.2.2.1 a2.1
  · rw [hU]
    exact F.2.1 s U H hW (F.2.2 s s.heap H (fun a ha hb => a2.2.1 a ha hb) C.2.2.2.2.2.2.2.2.2)
/-- a method begins -/
theorem zz_ofW (F : zz_F B tb X) {y : MethodName} {bytes : ByteArray} {maxL : Nat} {rt : Option FieldType} {rm : Room} {as : List Value} (L : List (Option Value)) (hy : plainName y.cls = true) (hL1 : L.length = maxL) (hL2 : zz_p 0 L = lv_args 0 as) (hL3 : (lg_sl as).length ≤ maxL)
    (body : ∀ (p : Program) (e : Env) (s : State) (m : MethodId) (below : List Frame) (meth : Method) (c : Code), zz_C D cl tys B tb X p s m as.toArray meth c bytes y.cls rt y.name → zz_W D cl B p l e rm s m as.toArray below meth c (MQ below (zz_Q D cl B mk post) as.toArray s rm.cells rm.slots (fun q => B ≤ q)) h n 0 0 L 0 []) :
    zz_M l D cl tys B tb X y (Cond.code y bytes maxL rt) rm as h n mk post := by
  refine Met.ofW (cc := bytes) (maxL := maxL) (ret := rt) hy rfl ?_
  intro p e s m args below meth c s₁ Bd hml hv
  obtain ⟨rfl, hI, hK, hB, hT, hX⟩ := hv
  have hl := lv_entry as (n := maxL) hL3
  rw [lg_entry_eq]
  generalize (lg_sl as ++ List.replicate (maxL - (lg_sl as).length) Slot.unset).toArray = ls at hl ⊢
  exact body p e s m below meth c ⟨Bd.exec, Bd.bytes, findClass_of_methodNamed Bd.named, fun w hw => F.1 w hw #[] as.toArray s s (State.WarmedH.refl s) (hT w hw), hK, hB, Bd.notSynchronized, Bd.returns, (name_of_methodNamed Bd.named Bd.method).1, hX⟩ s.heap [] ls (by rw [hL1, hml]) hI va_S.rf (by show lv_has ls L.length (zz_p 0 L); rw [hL1, hL2]; exact hl)
/-- a method that may throw begins -/
theorem zz_ofX (F : zz_F B tb X) {y : MethodName} {bytes : ByteArray} {maxL : Nat} {rt : Option FieldType} {rm : Room} {as : List Value} (L : List (Option Value)) (hy : plainName y.cls = true) (hL1 : L.length = maxL) (hL2 : zz_p 0 L = lv_args 0 as) (hL3 : (lg_sl as).length ≤ maxL)
    (body : ∀ (p : Program) (e : Env) (s : State) (m : MethodId) (below : List Frame) (meth : Method) (c : Code), zz_C D cl tys B tb X p s m as.toArray meth c bytes y.cls rt y.name → (∀ x ∈ c.exceptionTable.toList, False) → zz_W D cl B p l e rm s m as.toArray below meth c (vx_MQ below (zz_Q D cl B mk post) (zz_E D cl B px) as.toArray s rm.cells rm.slots (fun q => B ≤ q)) h n 0 0 L 0 []) :
    zz_MX l D cl tys B tb X y (Cond.code y bytes maxL rt) rm as h n mk post px := by
  refine vx_ofW (cc := bytes) (maxL := maxL) (ret := rt) hy rfl ?_
  intro p e s m args below meth c s₁ Bd hml hno hv
  obtain ⟨rfl, hI, hK, hB, hT, hX⟩ := hv
  have hl := lv_entry as (n := maxL) hL3
  rw [lg_entry_eq]
  generalize (lg_sl as ++ List.replicate (maxL - (lg_sl as).length) Slot.unset).toArray = ls at hl ⊢
  exact body p e s m below meth c ⟨Bd.exec, Bd.bytes, findClass_of_methodNamed Bd.named, fun w hw => F.1 w hw #[] as.toArray s s (State.WarmedH.refl s) (hT w hw), hK, hB, Bd.notSynchronized, Bd.returns, (name_of_methodNamed Bd.named Bd.method).1, hX⟩ hno s.heap [] ls (by rw [hL1, hml]) hI va_S.rf (by show lv_has ls L.length (zz_p 0 L); rw [hL1, hL2]; exact hl)

theorem z_iret {post9 : Int32 → zz_H → Nat → Prop} {v : Int32} {mc ms : Nat} (C : zz_C D cl tys B tb X p s m args meth c cc own (some .int) nm) (d : decode cc pc = .ok (.ireturn, 1)) (hp : post9 v h n) (hc : cells ≤ mc) (hs : slots ≤ ms) : zz_W D cl B p l e R s m args below meth c (MQ below (zz_Q D cl B zz_mi post9) args s mc ms (fun q => B ≤ q)) h n cells slots L pc [.int v] := fun H locs ls a0 a1 a2 a3 => W.widen hc hs (W.iret C.1 C.2.1 C.2.2.2.2.2.2.2.1 (fun t ht hW => ⟨⟨v, h, n, rfl, hp, by rw [ht]; exact a1⟩, a2.F ht⟩) a2.2.2 d C.2.2.2.2.2.2.1)
theorem z_iretX {post9 : Int32 → zz_H → Nat → Prop} {v : Int32} {mc ms : Nat} (C : zz_C D cl tys B tb X p s m args meth c cc own (some .int) nm) (d : decode cc pc = .ok (.ireturn, 1)) (hp : post9 v h n) (hc : cells ≤ mc) (hs : slots ≤ ms) : zz_W D cl B p l e R s m args below meth c (vx_MQ below (zz_Q D cl B zz_mi post9) (zz_E D cl B px) args s mc ms (fun q => B ≤ q)) h n cells slots L pc [.int v] := fun H locs ls a0 a1 a2 a3 => vx_ret (W.widen hc hs (W.iret C.1 C.2.1 C.2.2.2.2.2.2.2.1 (fun t ht hW => ⟨⟨v, h, n, rfl, hp, by rw [ht]; exact a1⟩, a2.F ht⟩) a2.2.2 d C.2.2.2.2.2.2.1))
theorem z_zret {post9 : Int32 → zz_H → Nat → Prop} {v : Int32} {mc ms : Nat} (C : zz_C D cl tys B tb X p s m args meth c cc own (some .boolean) nm) (d : decode cc pc = .ok (.ireturn, 1)) (hnr : narrow .boolean (.int v) = .int v) (hp : post9 v h n) (hc : cells ≤ mc) (hs : slots ≤ ms) : zz_W D cl B p l e R s m args below meth c (MQ below (zz_Q D cl B zz_mi post9) args s mc ms (fun q => B ≤ q)) h n cells slots L pc [.int v] := fun H locs ls a0 a1 a2 a3 => W.widen hc hs (W.zret C.1 C.2.1 C.2.2.2.2.2.2.2.1 hnr (fun t ht hW => ⟨⟨v, h, n, rfl, hp, by rw [ht]; exact a1⟩, a2.F ht⟩) a2.2.2 d C.2.2.2.2.2.2.1)
theorem z_zretX {post9 : Int32 → zz_H → Nat → Prop} {v : Int32} {mc ms : Nat} (C : zz_C D cl tys B tb X p s m args meth c cc own (some .boolean) nm) (d : decode cc pc = .ok (.ireturn, 1)) (hnr : narrow .boolean (.int v) = .int v) (hp : post9 v h n) (hc : cells ≤ mc) (hs : slots ≤ ms) : zz_W D cl B p l e R s m args below meth c (vx_MQ below (zz_Q D cl B zz_mi post9) (zz_E D cl B px) args s mc ms (fun q => B ≤ q)) h n cells slots L pc [.int v] := fun H locs ls a0 a1 a2 a3 => vx_ret (W.widen hc hs (W.zret C.1 C.2.1 C.2.2.2.2.2.2.2.1 hnr (fun t ht hW => ⟨⟨v, h, n, rfl, hp, by rw [ht]; exact a1⟩, a2.F ht⟩) a2.2.2 d C.2.2.2.2.2.2.1))
theorem z_lret {post9 : Int64 → zz_H → Nat → Prop} {v : Int64} {mc ms : Nat} (C : zz_C D cl tys B tb X p s m args meth c cc own (some .long) nm) (d : decode cc pc = .ok (.lreturn, 1)) (hp : post9 v h n) (hc : cells ≤ mc) (hs : slots ≤ ms) : zz_W D cl B p l e R s m args below meth c (MQ below (zz_Q D cl B zz_ml post9) args s mc ms (fun q => B ≤ q)) h n cells slots L pc [.long v] := fun H locs ls a0 a1 a2 a3 => W.widen hc hs (W.lret C.1 C.2.1 C.2.2.2.2.2.2.2.1 (fun t ht hW => ⟨⟨v, h, n, rfl, hp, by rw [ht]; exact a1⟩, a2.F ht⟩) a2.2.2 d C.2.2.2.2.2.2.1)
theorem z_lretX {post9 : Int64 → zz_H → Nat → Prop} {v : Int64} {mc ms : Nat} (C : zz_C D cl tys B tb X p s m args meth c cc own (some .long) nm) (d : decode cc pc = .ok (.lreturn, 1)) (hp : post9 v h n) (hc : cells ≤ mc) (hs : slots ≤ ms) : zz_W D cl B p l e R s m args below meth c (vx_MQ below (zz_Q D cl B zz_ml post9) (zz_E D cl B px) args s mc ms (fun q => B ≤ q)) h n cells slots L pc [.long v] := fun H locs ls a0 a1 a2 a3 => vx_ret (W.widen hc hs (W.lret C.1 C.2.1 C.2.2.2.2.2.2.2.1 (fun t ht hW => ⟨⟨v, h, n, rfl, hp, by rw [ht]; exact a1⟩, a2.F ht⟩) a2.2.2 d C.2.2.2.2.2.2.1))
theorem z_vret {post9 : Unit → zz_H → Nat → Prop}  {mc ms : Nat} (C : zz_C D cl tys B tb X p s m args meth c cc own (none) nm) (d : decode cc pc = .ok (.return_, 1)) (hp : post9 () h n) (hc : cells ≤ mc) (hs : slots ≤ ms) : zz_W D cl B p l e R s m args below meth c (MQ below (zz_Q D cl B zz_mv post9) args s mc ms (fun q => B ≤ q)) h n cells slots L pc [] := fun H locs ls a0 a1 a2 a3 => W.widen hc hs (W.vret C.1 C.2.1 C.2.2.2.2.2.2.2.1 (fun t ht hW => ⟨⟨(), h, n, rfl, hp, by rw [ht]; exact a1⟩, a2.F ht⟩) a2.2.2 d C.2.2.2.2.2.2.1)
theorem z_vretX {post9 : Unit → zz_H → Nat → Prop}  {mc ms : Nat} (C : zz_C D cl tys B tb X p s m args meth c cc own (none) nm) (d : decode cc pc = .ok (.return_, 1)) (hp : post9 () h n) (hc : cells ≤ mc) (hs : slots ≤ ms) : zz_W D cl B p l e R s m args below meth c (vx_MQ below (zz_Q D cl B zz_mv post9) (zz_E D cl B px) args s mc ms (fun q => B ≤ q)) h n cells slots L pc [] := fun H locs ls a0 a1 a2 a3 => vx_ret (W.widen hc hs (W.vret C.1 C.2.1 C.2.2.2.2.2.2.2.1 (fun t ht hW => ⟨⟨(), h, n, rfl, hp, by rw [ht]; exact a1⟩, a2.F ht⟩) a2.2.2 d C.2.2.2.2.2.2.1))
theorem z_aret {Cr : String} {post9 : Nat → zz_H → Nat → Prop} {v : Nat} {mc ms : Nat} (C : zz_C D cl tys B tb X p s m args meth c cc own (some (.object Cr)) nm) (d : decode cc pc = .ok (.areturn, 1)) (hp : post9 v h n) (hc : cells ≤ mc) (hs : slots ≤ ms) : zz_W D cl B p l e R s m args below meth c (MQ below (zz_Q D cl B zz_mr post9) args s mc ms (fun q => B ≤ q)) h n cells slots L pc [.ref v] := fun H locs ls a0 a1 a2 a3 => W.widen hc hs (W.aret C.1 C.2.1 C.2.2.2.2.2.2.2.1 (Or.inl ⟨_, rfl⟩) (Or.inr ⟨_, rfl⟩) (fun t ht hW => ⟨⟨v, h, n, rfl, hp, by rw [ht]; exact a1⟩, a2.F ht⟩) a2.2.2 d C.2.2.2.2.2.2.1)
theorem z_aretX {Cr : String} {post9 : Nat → zz_H → Nat → Prop} {v : Nat} {mc ms : Nat} (C : zz_C D cl tys B tb X p s m args meth c cc own (some (.object Cr)) nm) (d : decode cc pc = .ok (.areturn, 1)) (hp : post9 v h n) (hc : cells ≤ mc) (hs : slots ≤ ms) : zz_W D cl B p l e R s m args below meth c (vx_MQ below (zz_Q D cl B zz_mr post9) (zz_E D cl B px) args s mc ms (fun q => B ≤ q)) h n cells slots L pc [.ref v] := fun H locs ls a0 a1 a2 a3 => vx_ret (W.widen hc hs (W.aret C.1 C.2.1 C.2.2.2.2.2.2.2.1 (Or.inl ⟨_, rfl⟩) (Or.inr ⟨_, rfl⟩) (fun t ht hW => ⟨⟨v, h, n, rfl, hp, by rw [ht]; exact a1⟩, a2.F ht⟩) a2.2.2 d C.2.2.2.2.2.2.1))
/-- behind a call -/
theorem zz_goes {H : Heap} {locs : List Loc} {ls : Array Slot} {mc ms : Nat} {st0 : List Value} {arr : Array Value} {sk : ρ → List Value} (hr : va_Run p l e R s m args below meth c H locs cells slots mc ms (F0 m pc ls st0) rest (zz_Q D cl B mk post arr) (fun q => B ≤ q)) (a0 : L.length = c.maxLocals) (a2 : va_S (fun q => B ≤ q) s.heap H locs) (a3 : zz_L ls L) (hsk : ∀ r, (mk r).toList ++ rest = sk r)
    (kk : ∀ (r : ρ) (h' : zz_H) (n' : Nat), post r h' n' → zz_W D cl B p l e R s m args below meth c Q h' n' (cells + mc) (slots + ms) L (pc + 3) (sk r)) : W p l e R s m args below meth c H locs cells slots Q (F0 m pc ls st0) := by
  intro T hT X9
  obtain ⟨v, st₀, t, T', L9, h0, X', hL9, e1, e2, ⟨⟨r, h', n', hv, hp, hI⟩, hz, hk⟩, st⟩ := hr T hT X9
  cases hv
  rw [h0] at hz hk
  obtain ⟨t2, b1, b2⟩ := kk r h' n' hp T'.heap (locs ++ L9) ls a0 (by rw [e1]; exact hI) ⟨Nat.le_trans a2.1 (by rw [e1]; exact hz), fun q h1 h2 => by rw [e1, hk q (Nat.lt_of_lt_of_le h1 a2.1) h2]; exact a2.2.1 q h1 h2, fun q hq => (List.mem_append.mp hq).elim (a2.2.2 q) (hL9 q)⟩ a3 T' rfl X'
  refine ⟨t2, st t2 ?_, b2⟩
  have h9 : ({ F0 m pc ls st0 with pc := (F0 m pc ls st0).pc + 3, stack := (mk r).toList ++ rest } : JFrame) = F0 m (pc + 3) ls (sk r) := by rw [hsk r]
  rw [h9]
  exact b1
theorem zz_cb (F : zz_F B tb X) (C : zz_C D cl tys B tb X p s m args meth c cc own ret nm) {index maxL n9 : Nat} {y : MethodName} {bytes : ByteArray} {rt : Option FieldType} {rm : Room} (wc : Cond.code y bytes maxL rt ∈ tb) (wi : Cond.initialized y.cls ∈ tb) (wl : Cond.methodLink own index y ∈ tb) (hy : y.cls ≠ "java/lang/invoke/MethodHandle" ∧ y.cls ≠ "java/lang/invoke/VarHandle" ∧ (parseMethodDescriptor y.desc).map (fun d => d.parameters.length) = some n9) (hR : rm.frames + 1 ≤ R.frames ∧ 8 + (maxL + 11) + rm.locals ≤ R.locals) :
    CallB R s args own index y bytes maxL rt [Cond.code y bytes maxL rt] rm rm.cells rm.slots n9 := by
  refine ⟨rfl, rfl, hR.1, hR.2, fun w hw a' U hW => ?_, List.mem_singleton.mpr rfl, C.2.2.2.1 _ wc, C.2.2.2.1 _ wi, ⟨hy.1, hy.2.1⟩, fun sig hs => ?_, C.2.2.2.1 _ wl⟩
  · rw [List.mem_singleton.mp hw]
    exact F.1 _ wc args a' s U hW (C.2.2.2.1 _ wc)
  · have h2 := hy.2.2
    rw [hs] at h2
    exact (Option.some.inj h2).symm
theorem zz_recv {H : Heap} {b ci : Nat} {q : vw_C} {fs : List Value} (hK : va_K D cl tys s) (a1 : zz_I D cl B h n H) (hc : cl[ci]? = some q) (hh : h b = some (.inr (ci, fs))) : ∃ cell : Cell, H[b]? = some cell ∧ cell.vm.isStatics = false ∧ s.vm.findClass q.1 = some cell.cls :=
  va_recv hK (zz_one a1 hh) hc (q0 := 0) rfl

theorem z_callV (F : zz_F B tb X) (C : zz_C D cl tys B tb X p s m args meth c cc own ret nm) {index maxL n9 : Nat} {y : MethodName} {bytes : ByteArray} {rt : Option FieldType} {rm : Room} {As st0 : List Value} {sk : ρ → List Value} {b ci : Nat} {fs : List Value} {q : vw_C} (wc : Cond.code y bytes maxL rt ∈ tb) (wi : Cond.initialized y.cls ∈ tb) (wl : Cond.methodLink own index y ∈ tb) (w4 : Cond.instanceMethod y ∈ tb) (w5 : Cond.selects y.cls y y ∈ tb) (hy : y.cls ≠ "java/lang/invoke/MethodHandle" ∧ y.cls ≠ "java/lang/invoke/VarHandle" ∧ (parseMethodDescriptor y.desc).map (fun d => d.parameters.length) = some n9) (hc : cl[ci]? = some q) (hq : q.1 = y.cls) (d : decode cc pc = .ok (.invokevirtual index, 3))
    (hM : zz_M l D cl tys B tb X y (Cond.code y bytes maxL rt) rm (.ref b :: As) h n mk post) (hh : h b = some (.inr (ci, fs))) (hn : As.length = n9) (hst : st0 = As.reverse ++ .ref b :: rest) (hR : rm.frames + 1 ≤ R.frames ∧ 8 + (maxL + 11) + rm.locals ≤ R.locals) (hW : (rest.map fun v => v.category).sum ≤ 8) (hf : cells + rm.cells ≤ R.cells ∧ slots + rm.slots ≤ R.slots) (hsk : ∀ r, (mk r).toList ++ rest = sk r)
    (kk : ∀ (r : ρ) (h' : zz_H) (n' : Nat), post r h' n' → zz_W D cl B p l e R s m args below meth c Q h' n' (cells + rm.cells) (slots + rm.slots) L (pc + 3) (sk r)) : zz_W D cl B p l e R s m args below meth c Q h n cells slots L pc st0 := by
  intro H locs ls a0 a1 a2 a3
  obtain ⟨hb9, hp9⟩ := zz_pre F C a1 a2 (.ref b :: As)
  exact zz_goes (va_runV (Ts := tb) (nL := c.maxLocals) (C := y.cls) ⟨C.1, C.2.1, rfl, C.2.2.1, C.2.2.2.1⟩ hM ⟨zz_cb F C wc wi wl hy hR, C.2.2.2.1 _ w4, C.2.2.2.1 _ w5⟩ ⟨hb9, hq ▸ zz_recv C.2.2.2.2.1 a1 hc hh, hp9⟩ rfl hn (a3.1.trans a0) hst (lv_room hW) d hf) a0 a2 a3 hsk kk
theorem z_callS (F : zz_F B tb X) (C : zz_C D cl tys B tb X p s m args meth c cc own ret nm) {index maxL n9 : Nat} {y : MethodName} {bytes : ByteArray} {rt : Option FieldType} {rm : Room} {As st0 : List Value} {sk : ρ → List Value} (wc : Cond.code y bytes maxL rt ∈ tb) (wi : Cond.initialized y.cls ∈ tb) (wl : Cond.methodLink own index y ∈ tb) (w4 : Cond.static y ∈ tb) (hy : y.cls ≠ "java/lang/invoke/MethodHandle" ∧ y.cls ≠ "java/lang/invoke/VarHandle" ∧ (parseMethodDescriptor y.desc).map (fun d => d.parameters.length) = some n9) (d : decode cc pc = .ok (.invokestatic index, 3))
    (hM : zz_M l D cl tys B tb X y (Cond.code y bytes maxL rt) rm As h n mk post) (hn : As.length = n9) (hst : st0 = As.reverse ++ rest) (hR : rm.frames + 1 ≤ R.frames ∧ 8 + (maxL + 11) + rm.locals ≤ R.locals) (hW : (rest.map fun v => v.category).sum ≤ 8) (hf : cells + rm.cells ≤ R.cells ∧ slots + rm.slots ≤ R.slots) (hsk : ∀ r, (mk r).toList ++ rest = sk r)
    (kk : ∀ (r : ρ) (h' : zz_H) (n' : Nat), post r h' n' → zz_W D cl B p l e R s m args below meth c Q h' n' (cells + rm.cells) (slots + rm.slots) L (pc + 3) (sk r)) : zz_W D cl B p l e R s m args below meth c Q h n cells slots L pc st0 := by
  intro H locs ls a0 a1 a2 a3
  exact zz_goes (va_runS (Ts := tb) (nL := c.maxLocals) ⟨C.1, C.2.1, rfl, C.2.2.1, C.2.2.2.1⟩ hM ⟨zz_cb F C wc wi wl hy hR, C.2.2.2.1 _ w4⟩ (zz_pre F C a1 a2 As) rfl hn (a3.1.trans a0) hst (lv_room hW) d hf) a0 a2 a3 hsk kk
theorem z_callI (F : zz_F B tb X) (C : zz_C D cl tys B tb X p s m args meth c cc own ret nm) {index maxL n9 : Nat} {y : MethodName} {bytes : ByteArray} {rt : Option FieldType} {rm : Room} {As st0 : List Value} {sk : ρ → List Value} {b : Nat} (wc : Cond.code y bytes maxL none ∈ tb) (wi : Cond.initialized y.cls ∈ tb) (wl : Cond.methodLink own index y ∈ tb) (w4 : Cond.instanceMethod y ∈ tb) (hy1 : y.name = "<init>") (hy : y.cls ≠ "java/lang/invoke/MethodHandle" ∧ y.cls ≠ "java/lang/invoke/VarHandle" ∧ (parseMethodDescriptor y.desc).map (fun d => d.parameters.length) = some n9) (d : decode cc pc = .ok (.invokespecial index, 3))
    (hM : zz_M l D cl tys B tb X y (Cond.code y bytes maxL none) rm (.ref b :: As) h n mk post) (hn : As.length = n9) (hst : st0 = As.reverse ++ .ref b :: rest) (hR : rm.frames + 1 ≤ R.frames ∧ 8 + (maxL + 11) + rm.locals ≤ R.locals) (hW : (rest.map fun v => v.category).sum ≤ 8) (hf : cells + rm.cells ≤ R.cells ∧ slots + rm.slots ≤ R.slots) (hsk : ∀ r, (mk r).toList ++ rest = sk r)
    (kk : ∀ (r : ρ) (h' : zz_H) (n' : Nat), post r h' n' → zz_W D cl B p l e R s m args below meth c Q h' n' (cells + rm.cells) (slots + rm.slots) L (pc + 3) (sk r)) : zz_W D cl B p l e R s m args below meth c Q h n cells slots L pc st0 := by
  intro H locs ls a0 a1 a2 a3
  exact zz_goes (va_runI (Ts := tb) (nL := c.maxLocals) ⟨C.1, C.2.1, rfl, C.2.2.1, C.2.2.2.1⟩ hM ⟨zz_cb F C wc wi wl hy hR, hy1, C.2.2.2.1 _ w4⟩ (zz_pre F C a1 a2 (.ref b :: As)) rfl hn (a3.1.trans a0) hst (lv_room hW) d hf) a0 a2 a3 hsk kk
theorem zz_cn (F : zz_F B tb X) (C : zz_C D cl tys B tb X p s m args meth c cc own ret nm) {index maxL n9 : Nat} {host : String} {y : MethodName} {bytes : ByteArray} {rt : Option FieldType} {rm : Room} (wc : Cond.code y bytes maxL rt ∈ tb) (wi : Cond.initialized y.cls ∈ tb) (wl : Cond.methodLinkNest own index y host ∈ tb) (hy : y.cls ≠ "java/lang/invoke/MethodHandle" ∧ y.cls ≠ "java/lang/invoke/VarHandle" ∧ (parseMethodDescriptor y.desc).map (fun d => d.parameters.length) = some n9) (hR : rm.frames + 1 ≤ R.frames ∧ 8 + (maxL + 11) + rm.locals ≤ R.locals) :
    va_CN R s args own index y host bytes maxL rt [Cond.code y bytes maxL rt] rm rm.cells rm.slots n9 :=
  va_cnB n9 (Ts := tb) C.2.2.2.1 (fun w hw => by rw [List.mem_singleton.mp hw]; exact ⟨wc, Or.inl (by first | rfl | simp [Cond.onTables, Cond.keeps, Cond.steady])⟩) rfl rfl rfl (va_Nw.of rfl (C.2.2.2.1 _ wl)) (C.2.2.2.1 _ wi) hy hR
theorem z_callIN (F : zz_F B tb X) (C : zz_C D cl tys B tb X p s m args meth c cc own ret nm) {index maxL n9 : Nat} {y : MethodName} {bytes : ByteArray} {rt : Option FieldType} {rm : Room} {As st0 : List Value} {sk : ρ → List Value} {b : Nat} {host : String} (wc : Cond.code y bytes maxL none ∈ tb) (wi : Cond.initialized y.cls ∈ tb) (wl : Cond.methodLinkNest own index y host ∈ tb) (w4 : Cond.instanceMethod y ∈ tb) (hy1 : y.name = "<init>") (hy : y.cls ≠ "java/lang/invoke/MethodHandle" ∧ y.cls ≠ "java/lang/invoke/VarHandle" ∧ (parseMethodDescriptor y.desc).map (fun d => d.parameters.length) = some n9) (d : decode cc pc = .ok (.invokespecial index, 3))
    (hM : zz_M l D cl tys B tb X y (Cond.code y bytes maxL none) rm (.ref b :: As) h n mk post) (hn : As.length = n9) (hst : st0 = As.reverse ++ .ref b :: rest) (hR : rm.frames + 1 ≤ R.frames ∧ 8 + (maxL + 11) + rm.locals ≤ R.locals) (hW : (rest.map fun v => v.category).sum ≤ 8) (hf : cells + rm.cells ≤ R.cells ∧ slots + rm.slots ≤ R.slots) (hsk : ∀ r, (mk r).toList ++ rest = sk r)
    (kk : ∀ (r : ρ) (h' : zz_H) (n' : Nat), post r h' n' → zz_W D cl B p l e R s m args below meth c Q h' n' (cells + rm.cells) (slots + rm.slots) L (pc + 3) (sk r)) : zz_W D cl B p l e R s m args below meth c Q h n cells slots L pc st0 := by
  intro H locs ls a0 a1 a2 a3
  exact zz_goes (va_runIN (Ts := tb) (nL := c.maxLocals) (host := host) ⟨C.1, C.2.1, rfl, C.2.2.1, C.2.2.2.1⟩ hM ⟨zz_cn F C wc wi wl hy hR, hy1, C.2.2.2.1 _ w4⟩ (zz_pre F C a1 a2 (.ref b :: As)) rfl hn (a3.1.trans a0) hst (lv_room hW) d hf) a0 a2 a3 hsk kk
/-- behind a call that may throw, where no row of the table is: it goes on to the caller -/
theorem zz_goesX {post' : ρ → zz_H → Nat → Prop} {ρ' : Type} {mk' : ρ' → Option Value} {post9 : ρ' → zz_H → Nat → Prop} {px' : String → zz_H → Nat → Prop} {H : Heap} {locs : List Loc} {ls : Array Slot} {mc ms m9 s9 : Nat} {st0 : List Value} {arr : Array Value} {sk : ρ → List Value} (hr : vx_Run p l e R s m args below meth c H locs cells slots mc ms (F0 m pc ls st0) rest (zz_Q D cl B mk post arr) (zz_E D cl B px) (fun q => B ≤ q)) (a0 : L.length = c.maxLocals) (a2 : va_S (fun q => B ≤ q) s.heap H locs) (a3 : zz_L ls L) (hlk : meth.locks = false) (hno : ∀ x ∈ c.exceptionTable.toList, False) (hsk : ∀ r, (mk r).toList ++ rest = sk r) (hpx : ∀ (E : String) (h' : zz_H) (n' : Nat), px E h' n' → px' E h' n') (hm : cells + mc ≤ m9) (hs9 : slots + ms ≤ s9)
    (kk : ∀ (r : ρ) (h' : zz_H) (n' : Nat), post r h' n' → zz_W D cl B p l e R s m args below meth c (vx_MQ below (zz_Q D cl B mk' post9) (zz_E D cl B px') args s m9 s9 (fun q => B ≤ q)) h' n' (cells + mc) (slots + ms) L (pc + 3) (sk r)) : W p l e R s m args below meth c H locs cells slots (vx_MQ below (zz_Q D cl B mk' post9) (zz_E D cl B px') args s m9 s9 (fun q => B ≤ q)) (F0 m pc ls st0) := by
  intro T hT X9
  have keep : ∀ (L9 : List Loc) (H1 : Heap), (∀ q ∈ L9, B ≤ q.base) → H.size ≤ H1.size → (∀ q : Nat, q < H.size → ¬ B ≤ q → H1[q]? = H[q]?) → va_S (fun q => B ≤ q) s.heap H1 (locs ++ L9) := fun L9 H1 hL9 hz hk =>
    ⟨Nat.le_trans a2.1 hz, fun q h1 h2 => by rw [hk q (Nat.lt_of_lt_of_le h1 a2.1) h2]; exact a2.2.1 q h1 h2, fun q hq => (List.mem_append.mp hq).elim (a2.2.2 q) (hL9 q)⟩
  rcases hr T hT X9 with ⟨v, st₀, t, T', L9, h0, X', hL9, e1, e2, ⟨⟨r, h', n', hv, hp, hI⟩, hz, hk⟩, st⟩ | ⟨q, st₀, t, T', L9, E, ce, h0, X', hL9, e1, e2, ⟨⟨h', n', hp, hI⟩, hz, hk⟩, hce, hcv, hcl, st⟩
  · cases hv
    rw [h0] at hz hk
    obtain ⟨t2, b1, b2⟩ := kk r h' n' hp T'.heap (locs ++ L9) ls a0 (by rw [e1]; exact hI) (keep L9 T'.heap hL9 (by rw [e1]; exact hz) (fun q h1 h2 => by rw [e1]; exact hk q h1 h2)) a3 T' rfl X'
    refine ⟨t2, st t2 ?_, b2⟩
    have h9 : ({ F0 m pc ls st0 with pc := (F0 m pc ls st0).pc + 3, stack := (mk r).toList ++ rest } : JFrame) = F0 m (pc + 3) ls (sk r) := by rw [hsk r]
    rw [h9]
    exact b1
  · rw [h0] at hz hk
    have hS9 := keep L9 T'.heap hL9 (by rw [e1]; exact hz) (fun q h1 h2 => by rw [e1]; exact hk q h1 h2)
    obtain ⟨t2, b1, b2⟩ := vx_out (pc := pc) (ls := ls) (rest := rest) (E := E) (ce := ce) (q := q) (Qc := zz_Q D cl B mk' post9) (XC := zz_E D cl B px') (mc := m9) (ms := s9) (free := fun q => B ≤ q) (fun x hx => (hno x hx).elim) hlk (by rw [e1]; exact hce) hcv hcl (fun t9 ht9 _ => ⟨⟨h', n', hpx E h' n' hp, by rw [ht9, e1]; exact hI⟩, hS9.F ht9⟩) hS9.2.2 hm hs9 T' rfl X'
    exact ⟨t2, st.trans b1, b2⟩
theorem z_callVX (F : zz_F B tb X) (C : zz_C D cl tys B tb X p s m args meth c cc own ret nm) {index maxL n9 : Nat} {y : MethodName} {bytes : ByteArray} {rt : Option FieldType} {rm : Room} {As st0 : List Value} {sk : ρ → List Value} {b ci : Nat} {fs : List Value} {q : vw_C} {ρ' : Type} {mk' : ρ' → Option Value} {post9 : ρ' → zz_H → Nat → Prop} {px' : String → zz_H → Nat → Prop} {m9 s9 : Nat} (wc : Cond.code y bytes maxL rt ∈ tb) (wi : Cond.initialized y.cls ∈ tb) (wl : Cond.methodLink own index y ∈ tb) (w4 : Cond.instanceMethod y ∈ tb) (w5 : Cond.selects y.cls y y ∈ tb) (hy : y.cls ≠ "java/lang/invoke/MethodHandle" ∧ y.cls ≠ "java/lang/invoke/VarHandle" ∧ (parseMethodDescriptor y.desc).map (fun d => d.parameters.length) = some n9) (hc : cl[ci]? = some q) (hq : q.1 = y.cls) (d : decode cc pc = .ok (.invokevirtual index, 3))
    (hM : zz_MX l D cl tys B tb X y (Cond.code y bytes maxL rt) rm (.ref b :: As) h n mk post px) (hno : ∀ x ∈ c.exceptionTable.toList, False) (hh : h b = some (.inr (ci, fs))) (hn : As.length = n9) (hst : st0 = As.reverse ++ .ref b :: rest) (hR : rm.frames + 1 ≤ R.frames ∧ 8 + (maxL + 11) + rm.locals ≤ R.locals) (hW : (rest.map fun v => v.category).sum ≤ 8) (hf : cells + rm.cells ≤ R.cells ∧ slots + rm.slots ≤ R.slots) (hsk : ∀ r, (mk r).toList ++ rest = sk r) (hpx : ∀ (E : String) (h' : zz_H) (n' : Nat), px E h' n' → px' E h' n') (hm : cells + rm.cells ≤ m9) (hs9 : slots + rm.slots ≤ s9)
    (kk : ∀ (r : ρ) (h' : zz_H) (n' : Nat), post r h' n' → zz_W D cl B p l e R s m args below meth c (vx_MQ below (zz_Q D cl B mk' post9) (zz_E D cl B px') args s m9 s9 (fun q => B ≤ q)) h' n' (cells + rm.cells) (slots + rm.slots) L (pc + 3) (sk r)) : zz_W D cl B p l e R s m args below meth c (vx_MQ below (zz_Q D cl B mk' post9) (zz_E D cl B px') args s m9 s9 (fun q => B ≤ q)) h n cells slots L pc st0 := by
  intro H locs ls a0 a1 a2 a3
  obtain ⟨hb9, hp9⟩ := zz_pre F C a1 a2 (.ref b :: As)
  exact zz_goesX (post' := post) (vx_runV (Ts := tb) (nL := c.maxLocals) (C := y.cls) ⟨C.1, C.2.1, rfl, C.2.2.1, C.2.2.2.1⟩ hM ⟨zz_cb F C wc wi wl hy hR, C.2.2.2.1 _ w4, C.2.2.2.1 _ w5⟩ ⟨hb9, hq ▸ zz_recv C.2.2.2.2.1 a1 hc hh, hp9⟩ rfl hn (a3.1.trans a0) hst (lv_room hW) d hf) a0 a2 a3 C.2.2.2.2.2.2.1 hno hsk hpx hm hs9 kk
end ZB

