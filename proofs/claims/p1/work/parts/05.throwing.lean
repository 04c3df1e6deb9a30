/-- what a throw asks of the start: two statics of Throwable, and the texts -/
def zz_X (strs : List (String × Nat × String)) (B : Nat) (U : State) (H : Heap) : Prop :=
  vx_Zq Bundle.tN "UNASSIGNED_STACK" Bundle.steD (fun q => B ≤ q) U H ∧ vx_Zq Bundle.tN "SUPPRESSED_SENTINEL" Bundle.listD (fun q => B ≤ q) U H ∧ ∀ q ∈ strs, ∃ sa : Nat, vk_R q.1 q.2.1 q.2.2 sa U
/-- the machine with q of the class E thrown over the frame at pc -/
def zz_T (D : va_G) (cl : List vw_C) (B : Nat) (p : Program) (l : Launch) (e : Env) (R : Room) (s : State) (m : MethodId) (args : Array Value) (below : List Frame) (meth : Method) (c : Code) (Q : State → Prop) (h : zz_H) (n cells slots : Nat) (L : List (Option Value)) (pc : Nat) (st : List Value) (E : String) : Prop :=
  ∀ (H : Heap) (locs : List Loc) (ls : Array Slot) (ce : Cell) (q : Addr), L.length = c.maxLocals → zz_I D cl B h n H → va_S (fun q => B ≤ q) s.heap H locs → zz_L ls L → H[q]? = some ce → ce.vm = .none → s.vm.findClass E = some ce.cls → vx_W p l e R s m args below meth c H locs cells slots Q (F0 m pc ls st) q
section ZX
variable {D : va_G} {cl : List vw_C} {tys : List (ClassId × FieldType)} {B : Nat} {tb : List Cond} {X : State → Heap → Prop} {p : Program} {l : Launch} {e : Env} {R : Room} {s : State} {m : MethodId} {args : Array Value} {below : List Frame} {meth : Method} {c : Code} {Q : State → Prop} {h : zz_H} {n cells slots : Nat} {L : List (Option Value)} {cc : ByteArray} {pc : Nat} {rest : List Value} {own nm : String} {ret : Option FieldType}
variable {ρ : Type} {mk : ρ → Option Value} {post : ρ → zz_H → Nat → Prop} {px : String → zz_H → Nat → Prop} {strs : List (String × Nat × String)}
theorem z_throw (C : zz_C D cl tys B tb (zz_X strs B) p s m args meth c cc own ret nm) (hl : l.stackTraces = false) (hno : ∀ x ∈ c.exceptionTable.toList, False) {cls text : String} {names : List String} {ik is ic mc ms : Nat} (hcls : Bundle.fit cls = true) (hnames : ∀ n ∈ names, Bundle.fit n = true) (wk : Cond.classLink own ik cls ∈ tb) (wi : Cond.initialized cls ∈ tb) (wt : (own, is, text) ∈ strs) (wa : ∀ w ∈ vx_atS own ic cls names, w ∈ tb) (hgood : ∀ w ∈ Cond.classLink own ik cls :: Cond.initialized cls :: vx_atS own ic cls names, vx_ot w = true)
    (d0 : decode cc pc = .ok (.new ik, 3)) (d3 : decode cc (pc + 3) = .ok (.dup, 1)) (d4 : decode cc (pc + 4) = .ok (.ldc is, 2)) (d6 : decode cc (pc + 6) = .ok (.invokespecial ic, 3)) (d9 : decode cc (pc + 9) = .ok (.athrow, 1))
    (hRf : names.length + 3 < R.frames) (hRl : (rest.map fun v => v.category).sum + (13 * (names.length + 1) + 43) ≤ R.locals) (hRc : cells + 1 ≤ R.cells) (hRs : slots + 6 ≤ R.slots) (hc : cells + 1 ≤ mc) (hs : slots + 6 ≤ ms) (hp : ∀ n', n ≤ n' → px cls h n') :
    zz_W D cl B p l e R s m args below meth c (vx_MQ below (zz_Q D cl B mk post) (zz_E D cl B px) args s mc ms (fun q => B ≤ q)) h n cells slots L pc rest := by
  intro H locs ls a0 a1 a2 a3
  obtain ⟨hU, hN, hS9⟩ := C.2.2.2.2.2.2.2.2.2
  obtain ⟨sa, hsa⟩ := hS9 _ wt
  refine vx_throwS C.1 C.2.1 hl C.2.2.1 hcls hnames (C.2.2.2.1 _ wk) (C.2.2.2.1 _ wi) hsa (fun w hw => C.2.2.2.1 w (wa w hw)) hgood hU hN a2 (a3.1.trans a0) d0 d3 d4 d6 d9 (fun x hx => (hno x hx).elim) hRf hRl hRc hRs C.2.2.2.2.2.2.1 (fun t _ hz hk => ?_) a2.2.2 hc hs
  refine ⟨⟨h, t.heap.size, hp _ (by rw [← a1.1]; exact hz), rfl, fun a e he => ⟨(a1.2 a e he).1.kept (hk a (by rw [a1.1]; exact a1.lt he)), (a1.2 a e he).2⟩⟩, Nat.le_trans a2.1 hz, fun q h1 h2 => ?_⟩
  rw [hk q (Nat.lt_of_lt_of_le h1 a2.1)]
  exact a2.2.1 q h1 h2
theorem zz_throwW (C : zz_C D cl tys B tb (zz_X strs B) p s m args meth c cc own ret nm) (hl : l.stackTraces = false) (hno : ∀ x ∈ c.exceptionTable.toList, False) {cls text : String} {names : List String} {ik is ic mc ms : Nat} (hcls : Bundle.fit cls = true) (hnames : ∀ n ∈ names, Bundle.fit n = true) (wk : Cond.classLink own ik cls ∈ tb) (wi : Cond.initialized cls ∈ tb) (wt : (own, is, text) ∈ strs) (wa : ∀ w ∈ vx_atS own ic cls names, w ∈ tb) (hgood : ∀ w ∈ Cond.classLink own ik cls :: Cond.initialized cls :: vx_atS own ic cls names, vx_ot w = true)
    (d0 : decode cc pc = .ok (.new ik, 3)) (d3 : decode cc (pc + 3) = .ok (.dup, 1)) (d4 : decode cc (pc + 4) = .ok (.ldc_w is, 3)) (d7 : decode cc (pc + 7) = .ok (.invokespecial ic, 3)) (d10 : decode cc (pc + 10) = .ok (.athrow, 1))
    (hRf : names.length + 3 < R.frames) (hRl : (rest.map fun v => v.category).sum + (13 * (names.length + 1) + 43) ≤ R.locals) (hRc : cells + 1 ≤ R.cells) (hRs : slots + 6 ≤ R.slots) (hc : cells + 1 ≤ mc) (hs : slots + 6 ≤ ms) (hp : ∀ n', n ≤ n' → px cls h n') :
    zz_W D cl B p l e R s m args below meth c (vx_MQ below (zz_Q D cl B mk post) (zz_E D cl B px) args s mc ms (fun q => B ≤ q)) h n cells slots L pc rest := by
  intro H locs ls a0 a1 a2 a3
  obtain ⟨hU, hN, hS9⟩ := C.2.2.2.2.2.2.2.2.2
  obtain ⟨sa, hsa⟩ := hS9 _ wt
  refine vx_throwSW C.1 C.2.1 hl C.2.2.1 hcls hnames (C.2.2.2.1 _ wk) (C.2.2.2.1 _ wi) hsa (fun w hw => C.2.2.2.1 w (wa w hw)) hgood hU hN a2 (a3.1.trans a0) d0 d3 d4 d7 d10 (fun x hx => (hno x hx).elim) hRf hRl hRc hRs C.2.2.2.2.2.2.1 (fun t _ hz hk => ?_) a2.2.2 hc hs
  refine ⟨⟨h, t.heap.size, hp _ (by rw [← a1.1]; exact hz), rfl, fun a e he => ⟨(a1.2 a e he).1.kept (hk a (by rw [a1.1]; exact a1.lt he)), (a1.2 a e he).2⟩⟩, Nat.le_trans a2.1 hz, fun q h1 h2 => ?_⟩
  rw [hk q (Nat.lt_of_lt_of_le h1 a2.1)]
  exact a2.2.1 q h1 h2
/-- a method with a table of handlers begins -/
theorem zz_ofH (F : zz_F B tb X) {y : MethodName} {bytes : ByteArray} {maxL : Nat} {rt : Option FieldType} {hh : List (Nat × Nat × Nat × Nat)} {rm : Room} {as : List Value} (L : List (Option Value)) (hy : plainName y.cls = true) (hL1 : L.length = maxL) (hL2 : zz_p 0 L = lv_args 0 as) (hL3 : (lg_sl as).length ≤ maxL)
    (body : ∀ (p : Program) (e : Env) (s : State) (m : MethodId) (below : List Frame) (meth : Method) (c : Code), zz_C D cl tys B tb X p s m as.toArray meth c bytes y.cls rt y.name → c.exceptionTable.toList = tableOf hh → zz_W D cl B p l e rm s m as.toArray below meth c (MQ below (zz_Q D cl B mk post) as.toArray s rm.cells rm.slots (fun q => B ≤ q)) h n 0 0 L 0 []) :
    zz_M l D cl tys B tb X y (Cond.codeWith y bytes maxL rt hh) rm as h n mk post := by
  refine va_MetW (cc := bytes) (maxL := maxL) (ret := rt) (hh := hh) hy rfl ?_
  intro p e s m args below meth c s₁ Bd hml hv
  obtain ⟨rfl, hI, hK, hB, hT, hX⟩ := hv
  have htb : c.exceptionTable.toList = tableOf hh := vx_table (x := y) Bd (atoms_spec (ws := [Cond.codeWith y bytes maxL rt hh]) Bd.pre _ List.mem_cons_self)
  have hl := lv_entry as (n := maxL) hL3
  rw [lg_entry_eq]
  generalize (lg_sl as ++ List.replicate (maxL - (lg_sl as).length) Slot.unset).toArray = ls at hl ⊢
  exact body p e s m below meth c ⟨Bd.exec, Bd.bytes, findClass_of_methodNamed Bd.named, fun w hw => F.1 w hw #[] as.toArray s s (State.WarmedH.refl s) (hT w hw), hK, hB, Bd.notSynchronized, Bd.returns, (name_of_methodNamed Bd.named Bd.method).1, hX⟩ htb s.heap [] ls (by rw [hL1, hml]) hI va_S.rf (by show lv_has ls L.length (zz_p 0 L); rw [hL1, hL2]; exact hl)
/-- a call of it -/
theorem z_callSH (F : zz_F B tb X) (C : zz_C D cl tys B tb X p s m args meth c cc own ret nm) {index maxL n9 : Nat} {y : MethodName} {bytes : ByteArray} {rt : Option FieldType} {rm : Room} {As st0 : List Value} {sk : ρ → List Value} {hh : List (Nat × Nat × Nat × Nat)} (wc : Cond.codeWith y bytes maxL rt hh ∈ tb) (wi : Cond.initialized y.cls ∈ tb) (wl : Cond.methodLink own index y ∈ tb) (w4 : Cond.static y ∈ tb) (hy : y.cls ≠ "java/lang/invoke/MethodHandle" ∧ y.cls ≠ "java/lang/invoke/VarHandle" ∧ (parseMethodDescriptor y.desc).map (fun d => d.parameters.length) = some n9) (d : decode cc pc = .ok (.invokestatic index, 3))
    (hM : zz_M l D cl tys B tb X y (Cond.codeWith y bytes maxL rt hh) rm As h n mk post) (hn : As.length = n9) (hst : st0 = As.reverse ++ rest) (hR : rm.frames + 1 ≤ R.frames ∧ 8 + (maxL + 11) + rm.locals ≤ R.locals) (hW : (rest.map fun v => v.category).sum ≤ 8) (hf : cells + rm.cells ≤ R.cells ∧ slots + rm.slots ≤ R.slots) (hsk : ∀ r, (mk r).toList ++ rest = sk r)
    (kk : ∀ (r : ρ) (h' : zz_H) (n' : Nat), post r h' n' → zz_W D cl B p l e R s m args below meth c Q h' n' (cells + rm.cells) (slots + rm.slots) L (pc + 3) (sk r)) : zz_W D cl B p l e R s m args below meth c Q h n cells slots L pc st0 := by
  intro H locs ls a0 a1 a2 a3
  refine zz_goes (vx_runSW (Ts := tb) (nL := c.maxLocals) (hh := hh) ⟨C.1, C.2.1, rfl, C.2.2.1, C.2.2.2.1⟩ hM ⟨⟨rfl, rfl, hR.1, hR.2, fun w hw a' U hW => ?_, List.mem_singleton.mpr rfl⟩, C.2.2.2.1 _ wc, C.2.2.2.1 _ wi, ⟨hy.1, hy.2.1⟩, fun sig hs => ?_, C.2.2.2.1 _ wl, C.2.2.2.1 _ w4⟩ (zz_pre F C a1 a2 As) rfl hn (a3.1.trans a0) hst (lv_room hW) d hf) a0 a2 a3 hsk kk
  · rw [List.mem_singleton.mp hw]
    exact F.1 _ wc args a' s U hW (C.2.2.2.1 _ wc)
  · have h2 := hy.2.2
    rw [hs] at h2
    exact (Option.some.inj h2).symm
/-- a call that may throw, in a method with handlers -/
theorem z_callVT (F : zz_F B tb X) (C : zz_C D cl tys B tb X p s m args meth c cc own ret nm) {index maxL n9 : Nat} {y : MethodName} {bytes : ByteArray} {rt : Option FieldType} {rm : Room} {As st0 : List Value} {sk : ρ → List Value} {b ci : Nat} {fs : List Value} {q : vw_C} (wc : Cond.code y bytes maxL rt ∈ tb) (wi : Cond.initialized y.cls ∈ tb) (wl : Cond.methodLink own index y ∈ tb) (w4 : Cond.instanceMethod y ∈ tb) (w5 : Cond.selects y.cls y y ∈ tb) (hy : y.cls ≠ "java/lang/invoke/MethodHandle" ∧ y.cls ≠ "java/lang/invoke/VarHandle" ∧ (parseMethodDescriptor y.desc).map (fun d => d.parameters.length) = some n9) (hc : cl[ci]? = some q) (hq : q.1 = y.cls) (d : decode cc pc = .ok (.invokevirtual index, 3))
    (hM : zz_MX l D cl tys B tb X y (Cond.code y bytes maxL rt) rm (.ref b :: As) h n mk post px) (hh : h b = some (.inr (ci, fs))) (hn : As.length = n9) (hst : st0 = As.reverse ++ .ref b :: rest) (hR : rm.frames + 1 ≤ R.frames ∧ 8 + (maxL + 11) + rm.locals ≤ R.locals) (hW : (rest.map fun v => v.category).sum ≤ 8) (hf : cells + rm.cells ≤ R.cells ∧ slots + rm.slots ≤ R.slots) (hsk : ∀ r, (mk r).toList ++ rest = sk r)
    (kx : ∀ (E : String) (h' : zz_H) (n' : Nat), px E h' n' → zz_T D cl B p l e R s m args below meth c Q h' n' (cells + rm.cells) (slots + rm.slots) L pc rest E) (kk : ∀ (r : ρ) (h' : zz_H) (n' : Nat), post r h' n' → zz_W D cl B p l e R s m args below meth c Q h' n' (cells + rm.cells) (slots + rm.slots) L (pc + 3) (sk r)) : zz_W D cl B p l e R s m args below meth c Q h n cells slots L pc st0 := by
  intro H locs ls a0 a1 a2 a3
  obtain ⟨hb9, hp9⟩ := zz_pre F C a1 a2 (.ref b :: As)
  have hr := vx_runV (Ts := tb) (nL := c.maxLocals) (C := y.cls) (locs := locs) (cells := cells) (slots := slots) (g := F0 m pc ls st0) (rest := rest) (below := below) (meth := meth) (p := p) (e := e) (l := l) ⟨C.1, C.2.1, rfl, C.2.2.1, C.2.2.2.1⟩ hM ⟨zz_cb F C wc wi wl hy hR, C.2.2.2.1 _ w4, C.2.2.2.1 _ w5⟩ ⟨hb9, hq ▸ zz_recv C.2.2.2.2.1 a1 hc hh, hp9⟩ rfl hn (a3.1.trans a0) hst (lv_room hW) d hf
  intro T hT X9
  have keep : ∀ (L9 : List Loc) (H1 : Heap), (∀ q ∈ L9, B ≤ q.base) → H.size ≤ H1.size → (∀ q : Nat, q < H.size → ¬ B ≤ q → H1[q]? = H[q]?) → va_S (fun q => B ≤ q) s.heap H1 (locs ++ L9) := fun L9 H1 hL9 hz hk =>
    ⟨Nat.le_trans a2.1 hz, fun q h1 h2 => by rw [hk q (Nat.lt_of_lt_of_le h1 a2.1) h2]; exact a2.2.1 q h1 h2, fun q hq => (List.mem_append.mp hq).elim (a2.2.2 q) (hL9 q)⟩
  rcases hr T hT X9 with ⟨v, st₀, t, T', L9, h0, X', hL9, e1, e2, ⟨⟨r, h', n', hv, hp, hI⟩, hz, hk⟩, st⟩ | ⟨q, st₀, t, T', L9, E, ce, h0, X', hL9, e1, e2, ⟨⟨h', n', hp, hI⟩, hz, hk⟩, hce, hcv, hcl, st⟩
  · cases hv
    rw [h0] at hz hk
    obtain ⟨t2, b1, b2⟩ := kk r h' n' hp T'.heap (locs ++ L9) ls a0 (by rw [e1]; exact hI) (keep L9 T'.heap hL9 (by rw [e1]; exact hz) (fun q h1 h2 => by rw [e1]; exact hk q h1 h2)) a3 T' rfl X'
    refine ⟨t2, st t2 ?_, b2⟩
    have h9 : ({ F0 m pc ls st0 with pc := (F0 m pc ls st0).pc + 3, stack := (mk r).toList ++ rest } : JFrame) = F0 m (pc + 3) ls (sk r) := by rw [hsk r]
    rw [h9]
    exact b1
  · rw [h0] at hz hk
    obtain ⟨t2, b1, b2⟩ := kx E h' n' hp T'.heap (locs ++ L9) ls ce q a0 (by rw [e1]; exact hI) (keep L9 T'.heap hL9 (by rw [e1]; exact hz) (fun q h1 h2 => by rw [e1]; exact hk q h1 h2)) a3 (by rw [e1]; exact hce) hcv hcl T' rfl X'
    exact ⟨t2, st.trans b1, b2⟩
/-- caught by the row x of the table -/
theorem z_catch (C : zz_C D cl tys B tb X p s m args meth c cc own ret nm) {name E : String} (pre : List ExceptionTableEntry) (x : ExceptionTableEntry) (suf : List ExceptionTableEntry) (hsplit : c.exceptionTable.toList = pre ++ x :: suf) (hpass : ∀ z ∈ pre, covers z pc = false ∨ (z.catchType ≠ 0 ∧ ∃ nm : String, Cond.classLink own z.catchType nm ∈ tb ∧ va_Nc E nm s)) (hx : covers x pc = true) (h0 : x.catchType ≠ 0) (w1 : Cond.classLink own x.catchType name ∈ tb) (w2 : Cond.castable E name ∈ tb)
    (kk : ∀ q : Addr, zz_W D cl B p l e R s m args below meth c Q h n cells slots L x.handlerPc [.ref q]) : zz_T D cl B p l e R s m args below meth c Q h n cells slots L pc rest E := by
  intro H locs ls ce q a0 a1 a2 a3 hce hcv hcl
  refine vx_catch C.2.2.1 pre x suf hsplit (fun z hz => ?_) hx h0 (C.2.2.2.1 _ w1) (C.2.2.2.1 _ w2) hce hcv hcl (kk q H locs ls a0 a1 a2 a3)
  rcases hpass z hz with h9 | ⟨h9, nm9, hw, hn⟩
  · exact Or.inl h9
  · exact Or.inr ⟨h9, nm9, C.2.2.2.1 _ hw, hn⟩
end ZX

