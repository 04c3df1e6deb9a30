section LA
variable {D : va_G} {dA : Nat → ClassId} {B : Nat} {X : State → Heap → Prop} {p : Program} {l : Launch} {e : Env} {R : Room} {s : State} {m : MethodId} {args : Array Value} {below : List Frame} {meth : Method} {c : Code} {Q : State → Prop} {h : zz_H} {n cells slots : Nat} {L : List (Option Value)} {cc : ByteArray} {pc : Nat} {rest : List Value} {own nm : String} {ret9 : Option FieldType}
theorem z_sld (C : zz_C D zz_cl (zz_ty dA) B zz_tb X p s m args meth c cc own ret9 nm) {b9 L9 : Nat} {xs : Nat → Int32} {i : Int32} (hX : va_X b9 L9 xs s s.heap) (hbl : b9 < s.heap.size) (hB : ¬ B ≤ b9) (d : decode cc pc = .ok (.iaload, 1)) (hin : vp_in i L9) (k : zz_W D zz_cl B p l e R s m args below meth c Q h n cells slots L (pc + 1) (.int (xs i.toNatClampNeg) :: rest)) : zz_W D zz_cl B p l e R s m args below meth c Q h n cells slots L pc (.int i :: .ref b9 :: rest) :=
  fun H locs ls a0 a1 a2 a3 => va_sld C.1 C.2.1 hX hbl hB a2 hin d (k H locs ls a0 a1 a2 a3)
theorem z_slen (C : zz_C D zz_cl (zz_ty dA) B zz_tb X p s m args meth c cc own ret9 nm) {b9 L9 : Nat} {xs : Nat → Int32} (hX : va_X b9 L9 xs s s.heap) (hbl : b9 < s.heap.size) (hB : ¬ B ≤ b9) (d : decode cc pc = .ok (.arraylength, 1)) (k : zz_W D zz_cl B p l e R s m args below meth c Q h n cells slots L (pc + 1) (.int (Int32.ofNat L9) :: rest)) : zz_W D zz_cl B p l e R s m args below meth c Q h n cells slots L pc (.ref b9 :: rest) :=
  fun H locs ls a0 a1 a2 a3 => va_slen C.1 C.2.1 hX hbl hB a2 d (k H locs ls a0 a1 a2 a3)
end LA
theorem z_lawret {D : va_G} {dA : Nat → ClassId} {X : State → Heap → Prop} {p : Program} {l : Launch} {e : Env} {s : State} {m : MethodId} {below : List Frame} {meth : Method} {c : Code} {h : zz_H} {n cells slots b : Nat} {L : List (Option Value)} {pc : Nat} {own nm : String} (C : zz_C D zz_cl (zz_ty dA) s.heap.size zz_tb X p s m #[Value.ref b] meth c code own ret nm) (d : decode code pc = .ok (.ireturn, 1)) (hc : cells ≤ 601024) (hs : slots ≤ 7293034) : zz_W D zz_cl s.heap.size p l e room_1 s m #[Value.ref b] below meth c (lw_Z below #[Value.ref b] s) h n cells slots L pc [.int 1] :=
  fun H locs ls a0 a1 a2 a3 => W.widen hc hs (va_forget (fun q hq => a2.2.2 q hq) (lw_ret C.1 C.2.1 C.2.2.2.2.2.2.2.1 C.2.2.2.2.2.2.1 d))
theorem lx_gt {L9 k : Nat} (hL : L9 ≤ 3072) (hk : k ≤ 3072) : Int32.ofNat L9 - 6 < nI k ↔ L9 < k + 6 := by
  have e1 : (Int32.ofNat L9).toInt = (L9 : Int) := nI_toInt (by omega)
  have e2 : (6 : Int32).toInt = 6 := rfl
  rw [Int32.lt_iff_toInt_lt, Int32.toInt_sub, nI_toInt (by omega), e1, e2, Int.bmod_eq_of_le (by omega) (by omega)]
  omega
theorem lx_in {i j L9 : Nat} (hi : i + 6 ≤ L9) (hL : L9 ≤ 3072) (hj : j < 6) : vp_in (nI (i + j)) L9 := by
  unfold vp_in
  rw [nI_clamp (by omega)]
  intro z
  rcases z with z | z
  · exact nI_pos (by omega) z
  · omega
theorem lx_in0 {i L9 : Nat} (hi : i + 6 ≤ L9) (hL : L9 ≤ 3072) : vp_in (nI i) L9 := lx_in (j := 0) hi hL (by omega)
theorem lx_ad (i j : Nat) : nI i + nI j = nI (i + j) := by
  unfold nI
  rw [Int32.ofNat_add]
theorem lx_six (k : Nat) : nI (6 * k) + Int32.ofInt 6 = nI (6 * (k + 1)) := by
  rw [show Int32.ofInt 6 = nI 6 by decide, lx_ad, show 6 * (k + 1) = 6 * k + 6 by omega]
theorem lx_in1 {i L9 : Nat} (hi : i + 6 ≤ L9) (hL : L9 ≤ 3072) : vp_in (nI i + 1) L9 := by
  rw [show nI i + 1 = nI (i + 1) from lx_ad i 1]
  exact lx_in hi hL (by omega)
theorem lx_in2 {i L9 : Nat} (hi : i + 6 ≤ L9) (hL : L9 ≤ 3072) : vp_in (nI i + 2) L9 := by
  rw [show nI i + 2 = nI (i + 2) from lx_ad i 2]
  exact lx_in hi hL (by omega)
theorem lx_in3 {i L9 : Nat} (hi : i + 6 ≤ L9) (hL : L9 ≤ 3072) : vp_in (nI i + 3) L9 := by
  rw [show nI i + 3 = nI (i + 3) from lx_ad i 3]
  exact lx_in hi hL (by omega)
theorem lx_in4 {i L9 : Nat} (hi : i + 6 ≤ L9) (hL : L9 ≤ 3072) : vp_in (nI i + 4) L9 := by
  rw [show nI i + 4 = nI (i + 4) from lx_ad i 4]
  exact lx_in hi hL (by omega)
theorem lx_in5 {i L9 : Nat} (hi : i + 6 ≤ L9) (hL : L9 ≤ 3072) : vp_in (nI i + 5) L9 := by
  rw [show nI i + 5 = nI (i + 5) from lx_ad i 5]
  exact lx_in hi hL (by omega)
set_option maxHeartbeats 4000000 in
set_option maxRecDepth 20000 in
theorem la_klass (l : Launch) {D : va_G} {dA : Nat → ClassId} {p : Program} {e : Env} {s : State} {m : MethodId} {below : List Frame} {meth : Method} {c : Code} {nm : String} {b L9 : Nat} {xs : Nat → Int32} (hl : l.stackTraces = false) (C : zz_C D zz_cl (zz_ty dA) s.heap.size zz_tb (zy_x s.heap.size) p s m #[Value.ref b] meth c code RR_L ret nm) (hX : va_X b L9 xs s s.heap) (hbl : b < s.heap.size) (hB : ¬ s.heap.size ≤ b) (hL : L9 ≤ 3072) {i : Nat} (hi : i + 6 ≤ L9) {h : zz_H} {n cells slots : Nat} {L5 L6 : Option Value} (hS : lx_A dA s.heap.size n h) (hc : cells ≤ 600000) (hs : slots ≤ 7200000) (kt : ∀ (h' : zz_H) (n' c' s' : Nat) (L5 L6 : Option Value), lx_A dA s.heap.size n' h' → c' ≤ cells + 14 → s' ≤ slots + 480 → zz_W D zz_cl s.heap.size p l e room_1 s m #[Value.ref b] below meth c (lw_Z below #[Value.ref b] s) h' n' c' s' [some (.ref b), some (.ref s.heap.size), some (.ref (s.heap.size + 25)), some (.ref (s.heap.size + 61)), some (.int (nI i)), L5, L6] 1085 []) : zz_W D zz_cl s.heap.size p l e room_1 s m #[Value.ref b] below meth c (lw_Z below #[Value.ref b] s) h n cells slots [some (.ref b), some (.ref s.heap.size), some (.ref (s.heap.size + 25)), some (.ref (s.heap.size + 61)), some (.int (nI i)), L5, L6] 116 [] := by
  obtain ⟨f, ad, ng, nM, na, no, X, Y, Z, F, I, J, nc, oc, ow, M⟩ := hS
  refine z_aload_n C dd_L_law_116 rfl ?_
  refine z_aload_n C dd_L_law_117 rfl ?_
  refine z_iload C dd_L_law_118 rfl ?_
  refine z_iconst (v := 1) C dd_L_law_120 (by decide) ?_
  refine z_iadd C dd_L_law_121 ?_
  refine z_sld C hX hbl hB dd_L_law_122 (lx_in1 hi hL) ?_
  refine z_aload_n C dd_L_law_123 rfl ?_
  have hM := (cd_D_klass l D dA s.heap.size h n ad ng nM na no X Y Z M.1.1 F I nc oc ow M.2.1.1 (xs (nI i + 1).toNatClampNeg) hl)
  refine is_L_63 (sk := fun r => .int r :: []) (zy_f _) C dd_L_law_124 (cc_L_klass l D dA s.heap.size _ _ s.heap.size _ f _ (xs (nI i + 1).toNatClampNeg) hM M.1.2.2.1 M.1.hq (lx_o_klass M.1) lx_e_klass) rfl rfl ⟨by decide, by decide⟩ (Nat.le_of_ble_eq_true rfl) ⟨show cells + 2 ≤ 601024 by omega, show slots + 12 ≤ 7293034 by omega⟩ (fun _ => rfl) (fun k1 h1 n1 p1 => ?_)
  obtain ⟨hn1, Q1, B1⟩ := lx_klass M p1
  refine z_istore C dd_L_law_127 rfl ?_
  refine z_aload_n C dd_L_law_129 rfl ?_
  refine z_aload_n C dd_L_law_130 rfl ?_
  refine z_iload C dd_L_law_131 rfl ?_
  refine z_iconst (v := 1) C dd_L_law_133 (by decide) ?_
  refine z_iadd C dd_L_law_134 ?_
  refine z_sld C hX hbl hB dd_L_law_135 (lx_in1 hi hL) ?_
  refine iv_L_68 (sk := fun r => .int r :: []) (zy_f _) C dd_L_law_136 (zy_M (cc_Q_klass l D dA s.heap.size _ _ _ F I J Q1 nc ng nM M.2.1.1.1.1 (xs (nI i + 1).toNatClampNeg))) Q1.1 rfl rfl ⟨by decide, by decide⟩ (Nat.le_of_ble_eq_true rfl) ⟨show cells + 2 + 0 ≤ 601024 by omega, show slots + 12 + 0 ≤ 7293034 by omega⟩ (fun _ => rfl) (fun r2 h2 n2 p2 => ?_)
  obtain ⟨rfl, f2, ad2, ng2, nM2, na2, no2, X2, Y2, Z2, F2, I2, J2, nc2, oc2, ow2, M2, hk, hv⟩ := B1 r2 h2 n2 p2
  refine z_istore C dd_L_law_139 rfl ?_
  refine z_aload_n C dd_L_law_141 rfl ?_
  refine iv_L_69 (sk := fun r => .int r :: []) (zy_f _) C dd_L_law_142 (zy_M (cc_Q_thrown l D dA s.heap.size _ _ _ F2 I2 J2 M2.1.2.2.2.1)) M2.1.2.2.2.1.1 rfl rfl ⟨by decide, by decide⟩ (Nat.le_of_ble_eq_true rfl) ⟨show cells + 2 + 0 + 0 ≤ 601024 by omega, show slots + 12 + 0 + 0 ≤ 7293034 by omega⟩ (fun _ => rfl) (fun r3 h3 n3 p3 => ?_)
  obtain ⟨rfl, rfl, rfl⟩ := p3
  refine z_iload C dd_L_law_145 rfl ?_
  refine z_icmp_eq (tgt := 152) C dd_L_law_147 (by decide) (fun q147 => ?_) (fun q147 => absurd hk q147)
  refine z_iload C dd_L_law_152 rfl ?_
  refine z_if_ne (tgt := 169) C dd_L_law_154 (by decide) (fun q154 => ?_) (fun q154 => ?_)
  · skip
    refine z_goto (tgt := 1085) C dd_L_law_169 (by decide) ?_
    exact kt _ _ _ _ _ _ ⟨f2, ad2, ng2, nM2, na2, no2, X2, Y2, Z2, F2, I2, J2, nc2, oc2, ow2, M2⟩ (show cells + 2 + 0 + 0 ≤ cells + 14 by omega) (show slots + 12 + 0 + 0 ≤ slots + 480 by omega)
  · skip
    refine z_aload_n C dd_L_law_157 rfl ?_
    refine z_iconst (v := 0) C dd_L_law_158 (by decide) ?_
    refine z_lald (t0 := 1) C rfl dd_L_law_159 M2.1.2.2.2.2.1 (by unfold vp_in; decide) ?_
    refine z_iload C dd_L_law_160 rfl ?_
    refine z_i2l C dd_L_law_162 ?_
    refine z_lcmp C dd_L_law_163 ?_
    refine z_if_eq (tgt := 169) C dd_L_law_164 (by decide) (fun q164 => ?_) (fun q164 => absurd ((pu_lcmp _ _).mpr (hv q154)) q164)
    refine z_goto (tgt := 1085) C dd_L_law_169 (by decide) ?_
    exact kt _ _ _ _ _ _ ⟨f2, ad2, ng2, nM2, na2, no2, X2, Y2, Z2, F2, I2, J2, nc2, oc2, ow2, M2⟩ (show cells + 2 + 0 + 0 ≤ cells + 14 by omega) (show slots + 12 + 0 + 0 ≤ slots + 480 by omega)
set_option maxHeartbeats 4000000 in
set_option maxRecDepth 20000 in
theorem la_generic (l : Launch) {D : va_G} {dA : Nat → ClassId} {p : Program} {e : Env} {s : State} {m : MethodId} {below : List Frame} {meth : Method} {c : Code} {nm : String} {b L9 : Nat} {xs : Nat → Int32} (hl : l.stackTraces = false) (C : zz_C D zz_cl (zz_ty dA) s.heap.size zz_tb (zy_x s.heap.size) p s m #[Value.ref b] meth c code RR_L ret nm) (hX : va_X b L9 xs s s.heap) (hbl : b < s.heap.size) (hB : ¬ s.heap.size ≤ b) (hL : L9 ≤ 3072) {i : Nat} (hi : i + 6 ≤ L9) {h : zz_H} {n cells slots : Nat} {L5 L6 : Option Value} (hS : lx_A dA s.heap.size n h) (hc : cells ≤ 600000) (hs : slots ≤ 7200000) (kt : ∀ (h' : zz_H) (n' c' s' : Nat) (L5 L6 : Option Value), lx_A dA s.heap.size n' h' → c' ≤ cells + 14 → s' ≤ slots + 480 → zz_W D zz_cl s.heap.size p l e room_1 s m #[Value.ref b] below meth c (lw_Z below #[Value.ref b] s) h' n' c' s' [some (.ref b), some (.ref s.heap.size), some (.ref (s.heap.size + 25)), some (.ref (s.heap.size + 61)), some (.int (nI i)), L5, L6] 1085 []) : zz_W D zz_cl s.heap.size p l e room_1 s m #[Value.ref b] below meth c (lw_Z below #[Value.ref b] s) h n cells slots [some (.ref b), some (.ref s.heap.size), some (.ref (s.heap.size + 25)), some (.ref (s.heap.size + 61)), some (.int (nI i)), L5, L6] 172 [] := by
  obtain ⟨f, ad, ng, nM, na, no, X, Y, Z, F, I, J, nc, oc, ow, M⟩ := hS
  refine z_aload_n C dd_L_law_172 rfl ?_
  refine z_aload_n C dd_L_law_173 rfl ?_
  refine z_iload C dd_L_law_174 rfl ?_
  refine z_iconst (v := 1) C dd_L_law_176 (by decide) ?_
  refine z_iadd C dd_L_law_177 ?_
  refine z_sld C hX hbl hB dd_L_law_178 (lx_in1 hi hL) ?_
  refine z_aload_n C dd_L_law_179 rfl ?_
  have hM := (cd_D_generic l D dA s.heap.size h n ad ng nM na no X Y Z M.1.1 F I nc oc ow M.2.1.1 (fun k9 i9 l9 => (M.1.2.1 k9 i9 l9).1) (xs (nI i + 1).toNatClampNeg) hl)
  refine is_L_73 (sk := fun r => .int r :: []) (zy_f _) C dd_L_law_180 (cc_L_generic l D dA s.heap.size _ _ s.heap.size _ f _ (xs (nI i + 1).toNatClampNeg) hM M.1.2.2.1 M.1.hq (lx_o_generic M.1) lx_e_generic) rfl rfl ⟨by decide, by decide⟩ (Nat.le_of_ble_eq_true rfl) ⟨show cells + 12 ≤ 601024 by omega, show slots + 470 ≤ 7293034 by omega⟩ (fun _ => rfl) (fun k1 h1 n1 p1 => ?_)
  obtain ⟨hn1, Q1, B1⟩ := lx_generic M p1
  refine z_istore C dd_L_law_183 rfl ?_
  refine z_aload_n C dd_L_law_185 rfl ?_
  refine z_aload_n C dd_L_law_186 rfl ?_
  refine z_iload C dd_L_law_187 rfl ?_
  refine z_iconst (v := 1) C dd_L_law_189 (by decide) ?_
  refine z_iadd C dd_L_law_190 ?_
  refine z_sld C hX hbl hB dd_L_law_191 (lx_in1 hi hL) ?_
  refine iv_L_75 (sk := fun r => .int r :: []) (zy_f _) C dd_L_law_192 (zy_M (cc_Q_generic l D dA s.heap.size _ _ _ F I J Q1 nc ng nM M.2.1.1.1.1 (xs (nI i + 1).toNatClampNeg))) Q1.1 rfl rfl ⟨by decide, by decide⟩ (Nat.le_of_ble_eq_true rfl) ⟨show cells + 12 + 0 ≤ 601024 by omega, show slots + 470 + 0 ≤ 7293034 by omega⟩ (fun _ => rfl) (fun r2 h2 n2 p2 => ?_)
  obtain ⟨rfl, f2, ad2, ng2, nM2, na2, no2, X2, Y2, Z2, F2, I2, J2, nc2, oc2, ow2, M2, hk, hv⟩ := B1 r2 h2 n2 p2
  refine z_istore C dd_L_law_195 rfl ?_
  refine z_aload_n C dd_L_law_197 rfl ?_
  refine iv_L_69 (sk := fun r => .int r :: []) (zy_f _) C dd_L_law_198 (zy_M (cc_Q_thrown l D dA s.heap.size _ _ _ F2 I2 J2 M2.1.2.2.2.1)) M2.1.2.2.2.1.1 rfl rfl ⟨by decide, by decide⟩ (Nat.le_of_ble_eq_true rfl) ⟨show cells + 12 + 0 + 0 ≤ 601024 by omega, show slots + 470 + 0 + 0 ≤ 7293034 by omega⟩ (fun _ => rfl) (fun r3 h3 n3 p3 => ?_)
  obtain ⟨rfl, rfl, rfl⟩ := p3
  refine z_iload C dd_L_law_201 rfl ?_
  refine z_icmp_eq (tgt := 208) C dd_L_law_203 (by decide) (fun q203 => ?_) (fun q203 => absurd hk q203)
  refine z_iload C dd_L_law_208 rfl ?_
  refine z_if_ne (tgt := 225) C dd_L_law_210 (by decide) (fun q210 => ?_) (fun q210 => ?_)
  · skip
    refine z_goto (tgt := 1085) C dd_L_law_225 (by decide) ?_
    exact kt _ _ _ _ _ _ ⟨f2, ad2, ng2, nM2, na2, no2, X2, Y2, Z2, F2, I2, J2, nc2, oc2, ow2, M2⟩ (show cells + 12 + 0 + 0 ≤ cells + 14 by omega) (show slots + 470 + 0 + 0 ≤ slots + 480 by omega)
  · skip
    refine z_aload_n C dd_L_law_213 rfl ?_
    refine z_iconst (v := 0) C dd_L_law_214 (by decide) ?_
    refine z_lald (t0 := 1) C rfl dd_L_law_215 M2.1.2.2.2.2.1 (by unfold vp_in; decide) ?_
    refine z_iload C dd_L_law_216 rfl ?_
    refine z_i2l C dd_L_law_218 ?_
    refine z_lcmp C dd_L_law_219 ?_
    refine z_if_eq (tgt := 225) C dd_L_law_220 (by decide) (fun q220 => ?_) (fun q220 => absurd ((pu_lcmp _ _).mpr (hv q210)) q220)
    refine z_goto (tgt := 1085) C dd_L_law_225 (by decide) ?_
    exact kt _ _ _ _ _ _ ⟨f2, ad2, ng2, nM2, na2, no2, X2, Y2, Z2, F2, I2, J2, nc2, oc2, ow2, M2⟩ (show cells + 12 + 0 + 0 ≤ cells + 14 by omega) (show slots + 470 + 0 + 0 ≤ slots + 480 by omega)
set_option maxHeartbeats 4000000 in
set_option maxRecDepth 20000 in
theorem la_method (l : Launch) {D : va_G} {dA : Nat → ClassId} {p : Program} {e : Env} {s : State} {m : MethodId} {below : List Frame} {meth : Method} {c : Code} {nm : String} {b L9 : Nat} {xs : Nat → Int32} (hl : l.stackTraces = false) (C : zz_C D zz_cl (zz_ty dA) s.heap.size zz_tb (zy_x s.heap.size) p s m #[Value.ref b] meth c code RR_L ret nm) (hX : va_X b L9 xs s s.heap) (hbl : b < s.heap.size) (hB : ¬ s.heap.size ≤ b) (hL : L9 ≤ 3072) {i : Nat} (hi : i + 6 ≤ L9) {h : zz_H} {n cells slots : Nat} {L5 L6 : Option Value} (hS : lx_A dA s.heap.size n h) (hc : cells ≤ 600000) (hs : slots ≤ 7200000) (kt : ∀ (h' : zz_H) (n' c' s' : Nat) (L5 L6 : Option Value), lx_A dA s.heap.size n' h' → c' ≤ cells + 14 → s' ≤ slots + 480 → zz_W D zz_cl s.heap.size p l e room_1 s m #[Value.ref b] below meth c (lw_Z below #[Value.ref b] s) h' n' c' s' [some (.ref b), some (.ref s.heap.size), some (.ref (s.heap.size + 25)), some (.ref (s.heap.size + 61)), some (.int (nI i)), L5, L6] 1085 []) : zz_W D zz_cl s.heap.size p l e room_1 s m #[Value.ref b] below meth c (lw_Z below #[Value.ref b] s) h n cells slots [some (.ref b), some (.ref s.heap.size), some (.ref (s.heap.size + 25)), some (.ref (s.heap.size + 61)), some (.int (nI i)), L5, L6] 228 [] := by
  obtain ⟨f, ad, ng, nM, na, no, X, Y, Z, F, I, J, nc, oc, ow, M⟩ := hS
  refine z_aload_n C dd_L_law_228 rfl ?_
  refine z_aload_n C dd_L_law_229 rfl ?_
  refine z_iload C dd_L_law_230 rfl ?_
  refine z_iconst (v := 1) C dd_L_law_232 (by decide) ?_
  refine z_iadd C dd_L_law_233 ?_
  refine z_sld C hX hbl hB dd_L_law_234 (lx_in1 hi hL) ?_
  refine z_aload_n C dd_L_law_235 rfl ?_
  have hM := (cd_D_method l D dA s.heap.size h n ad ng nM na no X Y Z M.1.1 F I nc oc ow M.2.1.1 (fun k9 i9 l9 => (M.1.2.1 k9 i9 l9).1) (xs (nI i + 1).toNatClampNeg) hl)
  refine is_L_76 (sk := fun r => .int r :: []) (zy_f _) C dd_L_law_236 (cc_L_method l D dA s.heap.size _ _ s.heap.size _ f _ (xs (nI i + 1).toNatClampNeg) hM M.1.2.2.1 M.1.hq (lx_o_method M.1) lx_e_method) rfl rfl ⟨by decide, by decide⟩ (Nat.le_of_ble_eq_true rfl) ⟨show cells + 5 ≤ 601024 by omega, show slots + 40 ≤ 7293034 by omega⟩ (fun _ => rfl) (fun k1 h1 n1 p1 => ?_)
  obtain ⟨hn1, Q1, B1⟩ := lx_method M p1
  refine z_istore C dd_L_law_239 rfl ?_
  refine z_aload_n C dd_L_law_241 rfl ?_
  refine z_aload_n C dd_L_law_242 rfl ?_
  refine z_iload C dd_L_law_243 rfl ?_
  refine z_iconst (v := 1) C dd_L_law_245 (by decide) ?_
  refine z_iadd C dd_L_law_246 ?_
  refine z_sld C hX hbl hB dd_L_law_247 (lx_in1 hi hL) ?_
  refine iv_L_78 (sk := fun r => .int r :: []) (zy_f _) C dd_L_law_248 (zy_M (cc_Q_method l D dA s.heap.size _ _ _ F I J Q1 nc ng nM M.2.1.1.1.1 (xs (nI i + 1).toNatClampNeg))) Q1.1 rfl rfl ⟨by decide, by decide⟩ (Nat.le_of_ble_eq_true rfl) ⟨show cells + 5 + 0 ≤ 601024 by omega, show slots + 40 + 0 ≤ 7293034 by omega⟩ (fun _ => rfl) (fun r2 h2 n2 p2 => ?_)
  obtain ⟨rfl, f2, ad2, ng2, nM2, na2, no2, X2, Y2, Z2, F2, I2, J2, nc2, oc2, ow2, M2, hk, hv⟩ := B1 r2 h2 n2 p2
  refine z_istore C dd_L_law_251 rfl ?_
  refine z_aload_n C dd_L_law_253 rfl ?_
  refine iv_L_69 (sk := fun r => .int r :: []) (zy_f _) C dd_L_law_254 (zy_M (cc_Q_thrown l D dA s.heap.size _ _ _ F2 I2 J2 M2.1.2.2.2.1)) M2.1.2.2.2.1.1 rfl rfl ⟨by decide, by decide⟩ (Nat.le_of_ble_eq_true rfl) ⟨show cells + 5 + 0 + 0 ≤ 601024 by omega, show slots + 40 + 0 + 0 ≤ 7293034 by omega⟩ (fun _ => rfl) (fun r3 h3 n3 p3 => ?_)
  obtain ⟨rfl, rfl, rfl⟩ := p3
  refine z_iload C dd_L_law_257 rfl ?_
  refine z_icmp_eq (tgt := 264) C dd_L_law_259 (by decide) (fun q259 => ?_) (fun q259 => absurd hk q259)
  refine z_iload C dd_L_law_264 rfl ?_
  refine z_if_ne (tgt := 281) C dd_L_law_266 (by decide) (fun q266 => ?_) (fun q266 => ?_)
  · skip
    refine z_goto (tgt := 1085) C dd_L_law_281 (by decide) ?_
    exact kt _ _ _ _ _ _ ⟨f2, ad2, ng2, nM2, na2, no2, X2, Y2, Z2, F2, I2, J2, nc2, oc2, ow2, M2⟩ (show cells + 5 + 0 + 0 ≤ cells + 14 by omega) (show slots + 40 + 0 + 0 ≤ slots + 480 by omega)
  · skip
    refine z_aload_n C dd_L_law_269 rfl ?_
    refine z_iconst (v := 0) C dd_L_law_270 (by decide) ?_
    refine z_lald (t0 := 1) C rfl dd_L_law_271 M2.1.2.2.2.2.1 (by unfold vp_in; decide) ?_
    refine z_iload C dd_L_law_272 rfl ?_
    refine z_i2l C dd_L_law_274 ?_
    refine z_lcmp C dd_L_law_275 ?_
    refine z_if_eq (tgt := 281) C dd_L_law_276 (by decide) (fun q276 => ?_) (fun q276 => absurd ((pu_lcmp _ _).mpr (hv q266)) q276)
    refine z_goto (tgt := 1085) C dd_L_law_281 (by decide) ?_
    exact kt _ _ _ _ _ _ ⟨f2, ad2, ng2, nM2, na2, no2, X2, Y2, Z2, F2, I2, J2, nc2, oc2, ow2, M2⟩ (show cells + 5 + 0 + 0 ≤ cells + 14 by omega) (show slots + 40 + 0 + 0 ≤ slots + 480 by omega)
set_option maxHeartbeats 4000000 in
set_option maxRecDepth 20000 in
theorem la_atom (l : Launch) {D : va_G} {dA : Nat → ClassId} {p : Program} {e : Env} {s : State} {m : MethodId} {below : List Frame} {meth : Method} {c : Code} {nm : String} {b L9 : Nat} {xs : Nat → Int32} (hl : l.stackTraces = false) (C : zz_C D zz_cl (zz_ty dA) s.heap.size zz_tb (zy_x s.heap.size) p s m #[Value.ref b] meth c code RR_L ret nm) (hX : va_X b L9 xs s s.heap) (hbl : b < s.heap.size) (hB : ¬ s.heap.size ≤ b) (hL : L9 ≤ 3072) {i : Nat} (hi : i + 6 ≤ L9) {h : zz_H} {n cells slots : Nat} {L5 L6 : Option Value} (hS : lx_A dA s.heap.size n h) (hc : cells ≤ 600000) (hs : slots ≤ 7200000) (kt : ∀ (h' : zz_H) (n' c' s' : Nat) (L5 L6 : Option Value), lx_A dA s.heap.size n' h' → c' ≤ cells + 14 → s' ≤ slots + 480 → zz_W D zz_cl s.heap.size p l e room_1 s m #[Value.ref b] below meth c (lw_Z below #[Value.ref b] s) h' n' c' s' [some (.ref b), some (.ref s.heap.size), some (.ref (s.heap.size + 25)), some (.ref (s.heap.size + 61)), some (.int (nI i)), L5, L6] 1085 []) : zz_W D zz_cl s.heap.size p l e room_1 s m #[Value.ref b] below meth c (lw_Z below #[Value.ref b] s) h n cells slots [some (.ref b), some (.ref s.heap.size), some (.ref (s.heap.size + 25)), some (.ref (s.heap.size + 61)), some (.int (nI i)), L5, L6] 284 [] := by
  obtain ⟨f, ad, ng, nM, na, no, X, Y, Z, F, I, J, nc, oc, ow, M⟩ := hS
  refine z_aload_n C dd_L_law_284 rfl ?_
  refine z_aload_n C dd_L_law_285 rfl ?_
  refine z_iload C dd_L_law_286 rfl ?_
  refine z_iconst (v := 1) C dd_L_law_288 (by decide) ?_
  refine z_iadd C dd_L_law_289 ?_
  refine z_sld C hX hbl hB dd_L_law_290 (lx_in1 hi hL) ?_
  refine z_aload_n C dd_L_law_291 rfl ?_
  refine z_iload C dd_L_law_292 rfl ?_
  refine z_iconst (v := 2) C dd_L_law_294 (by decide) ?_
  refine z_iadd C dd_L_law_295 ?_
  refine z_sld C hX hbl hB dd_L_law_296 (lx_in2 hi hL) ?_
  refine z_aload_n C dd_L_law_297 rfl ?_
  refine z_iload C dd_L_law_298 rfl ?_
  refine z_iconst (v := 3) C dd_L_law_300 (by decide) ?_
  refine z_iadd C dd_L_law_301 ?_
  refine z_sld C hX hbl hB dd_L_law_302 (lx_in3 hi hL) ?_
  refine z_aload_n C dd_L_law_303 rfl ?_
  refine z_iload C dd_L_law_304 rfl ?_
  refine z_iconst (v := 4) C dd_L_law_306 (by decide) ?_
  refine z_iadd C dd_L_law_307 ?_
  refine z_sld C hX hbl hB dd_L_law_308 (lx_in4 hi hL) ?_
  refine z_aload_n C dd_L_law_309 rfl ?_
  refine z_iload C dd_L_law_310 rfl ?_
  refine z_iconst (v := 5) C dd_L_law_312 (by decide) ?_
  refine z_iadd C dd_L_law_313 ?_
  refine z_sld C hX hbl hB dd_L_law_314 (lx_in5 hi hL) ?_
  refine z_if_eq (tgt := 322) C dd_L_law_315 (by decide) (fun q315 => ?_) (fun q315 => ?_)
  · skip
    refine z_iconst (v := 0) C dd_L_law_322 (by decide) ?_
    refine z_aload_n C dd_L_law_323 rfl ?_
    have hM := (cd_D_atom l D dA s.heap.size h n ad ng nM na no X Y Z M.1.1 F I nc oc ow M.2.1.1 (fun k9 i9 l9 => (M.1.2.1 k9 i9 l9).1) (xs (nI i + 1).toNatClampNeg) (xs (nI i + 2).toNatClampNeg) (xs (nI i + 3).toNatClampNeg) (xs (nI i + 4).toNatClampNeg) 0 (Or.inl rfl) hl)
    refine is_L_79 (sk := fun r => .int r :: []) (zy_f _) C dd_L_law_324 (cc_L_atom l D dA s.heap.size _ _ s.heap.size _ f _ (xs (nI i + 1).toNatClampNeg) (xs (nI i + 2).toNatClampNeg) (xs (nI i + 3).toNatClampNeg) (xs (nI i + 4).toNatClampNeg) 0 hM M.1.2.2.1 M.1.hq (lx_o_atom M.1) (lx_e_atom (x5 := 0))) rfl rfl ⟨by decide, by decide⟩ (Nat.le_of_ble_eq_true rfl) ⟨show cells + 4 ≤ 601024 by omega, show slots + 30 ≤ 7293034 by omega⟩ (fun _ => rfl) (fun k1 h1 n1 p1 => ?_)
    obtain ⟨hn1, Q1, B1⟩ := lx_atom (Or.inl rfl) M p1
    refine z_istore C dd_L_law_327 rfl ?_
    refine z_aload_n C dd_L_law_329 rfl ?_
    refine z_aload_n C dd_L_law_330 rfl ?_
    refine z_iload C dd_L_law_331 rfl ?_
    refine z_iconst (v := 1) C dd_L_law_333 (by decide) ?_
    refine z_iadd C dd_L_law_334 ?_
    refine z_sld C hX hbl hB dd_L_law_335 (lx_in1 hi hL) ?_
    refine z_aload_n C dd_L_law_336 rfl ?_
    refine z_iload C dd_L_law_337 rfl ?_
    refine z_iconst (v := 2) C dd_L_law_339 (by decide) ?_
    refine z_iadd C dd_L_law_340 ?_
    refine z_sld C hX hbl hB dd_L_law_341 (lx_in2 hi hL) ?_
    refine z_aload_n C dd_L_law_342 rfl ?_
    refine z_iload C dd_L_law_343 rfl ?_
    refine z_iconst (v := 3) C dd_L_law_345 (by decide) ?_
    refine z_iadd C dd_L_law_346 ?_
    refine z_sld C hX hbl hB dd_L_law_347 (lx_in3 hi hL) ?_
    refine z_aload_n C dd_L_law_348 rfl ?_
    refine z_iload C dd_L_law_349 rfl ?_
    refine z_iconst (v := 4) C dd_L_law_351 (by decide) ?_
    refine z_iadd C dd_L_law_352 ?_
    refine z_sld C hX hbl hB dd_L_law_353 (lx_in4 hi hL) ?_
    refine z_aload_n C dd_L_law_354 rfl ?_
    refine z_iload C dd_L_law_355 rfl ?_
    refine z_iconst (v := 5) C dd_L_law_357 (by decide) ?_
    refine z_iadd C dd_L_law_358 ?_
    refine z_sld C hX hbl hB dd_L_law_359 (lx_in5 hi hL) ?_
    refine z_if_eq (tgt := 367) C dd_L_law_360 (by decide) (fun q360 => ?_) (fun q360 => absurd q315 q360)
    refine z_iconst (v := 0) C dd_L_law_367 (by decide) ?_
    refine iv_L_82 (sk := fun r => .int r :: []) (zy_f _) C dd_L_law_368 (zy_M (cc_Q_atom l D dA s.heap.size _ _ _ F I J Q1 nc ng nM M.2.1.1.1.1 (xs (nI i + 1).toNatClampNeg) (xs (nI i + 2).toNatClampNeg) (xs (nI i + 3).toNatClampNeg) (xs (nI i + 4).toNatClampNeg) 0 (Or.inl rfl))) Q1.1 rfl rfl ⟨by decide, by decide⟩ (Nat.le_of_ble_eq_true rfl) ⟨show cells + 4 + 0 ≤ 601024 by omega, show slots + 30 + 0 ≤ 7293034 by omega⟩ (fun _ => rfl) (fun r2 h2 n2 p2 => ?_)
    obtain ⟨rfl, f2, ad2, ng2, nM2, na2, no2, X2, Y2, Z2, F2, I2, J2, nc2, oc2, ow2, M2, hk, hv⟩ := B1 r2 h2 n2 p2
    refine z_istore C dd_L_law_371 rfl ?_
    refine z_aload_n C dd_L_law_373 rfl ?_
    refine iv_L_69 (sk := fun r => .int r :: []) (zy_f _) C dd_L_law_374 (zy_M (cc_Q_thrown l D dA s.heap.size _ _ _ F2 I2 J2 M2.1.2.2.2.1)) M2.1.2.2.2.1.1 rfl rfl ⟨by decide, by decide⟩ (Nat.le_of_ble_eq_true rfl) ⟨show cells + 4 + 0 + 0 ≤ 601024 by omega, show slots + 30 + 0 + 0 ≤ 7293034 by omega⟩ (fun _ => rfl) (fun r3 h3 n3 p3 => ?_)
    obtain ⟨rfl, rfl, rfl⟩ := p3
    refine z_iload C dd_L_law_377 rfl ?_
    refine z_icmp_eq (tgt := 384) C dd_L_law_379 (by decide) (fun q379 => ?_) (fun q379 => absurd hk q379)
    refine z_iload C dd_L_law_384 rfl ?_
    refine z_if_ne (tgt := 401) C dd_L_law_386 (by decide) (fun q386 => ?_) (fun q386 => ?_)
    · skip
      refine z_goto (tgt := 1085) C dd_L_law_401 (by decide) ?_
      exact kt _ _ _ _ _ _ ⟨f2, ad2, ng2, nM2, na2, no2, X2, Y2, Z2, F2, I2, J2, nc2, oc2, ow2, M2⟩ (show cells + 4 + 0 + 0 ≤ cells + 14 by omega) (show slots + 30 + 0 + 0 ≤ slots + 480 by omega)
    · skip
      refine z_aload_n C dd_L_law_389 rfl ?_
      refine z_iconst (v := 0) C dd_L_law_390 (by decide) ?_
      refine z_lald (t0 := 1) C rfl dd_L_law_391 M2.1.2.2.2.2.1 (by unfold vp_in; decide) ?_
      refine z_iload C dd_L_law_392 rfl ?_
      refine z_i2l C dd_L_law_394 ?_
      refine z_lcmp C dd_L_law_395 ?_
      refine z_if_eq (tgt := 401) C dd_L_law_396 (by decide) (fun q396 => ?_) (fun q396 => absurd ((pu_lcmp _ _).mpr (hv q386)) q396)
      refine z_goto (tgt := 1085) C dd_L_law_401 (by decide) ?_
      exact kt _ _ _ _ _ _ ⟨f2, ad2, ng2, nM2, na2, no2, X2, Y2, Z2, F2, I2, J2, nc2, oc2, ow2, M2⟩ (show cells + 4 + 0 + 0 ≤ cells + 14 by omega) (show slots + 30 + 0 + 0 ≤ slots + 480 by omega)
  · skip
    refine z_iconst (v := 1) C dd_L_law_318 (by decide) ?_
    refine z_goto (tgt := 323) C dd_L_law_319 (by decide) ?_
    refine z_aload_n C dd_L_law_323 rfl ?_
    have hM := (cd_D_atom l D dA s.heap.size h n ad ng nM na no X Y Z M.1.1 F I nc oc ow M.2.1.1 (fun k9 i9 l9 => (M.1.2.1 k9 i9 l9).1) (xs (nI i + 1).toNatClampNeg) (xs (nI i + 2).toNatClampNeg) (xs (nI i + 3).toNatClampNeg) (xs (nI i + 4).toNatClampNeg) 1 (Or.inr rfl) hl)
    refine is_L_79 (sk := fun r => .int r :: []) (zy_f _) C dd_L_law_324 (cc_L_atom l D dA s.heap.size _ _ s.heap.size _ f _ (xs (nI i + 1).toNatClampNeg) (xs (nI i + 2).toNatClampNeg) (xs (nI i + 3).toNatClampNeg) (xs (nI i + 4).toNatClampNeg) 1 hM M.1.2.2.1 M.1.hq (lx_o_atom M.1) (lx_e_atom (x5 := 0))) rfl rfl ⟨by decide, by decide⟩ (Nat.le_of_ble_eq_true rfl) ⟨show cells + 4 ≤ 601024 by omega, show slots + 30 ≤ 7293034 by omega⟩ (fun _ => rfl) (fun k1 h1 n1 p1 => ?_)
    obtain ⟨hn1, Q1, B1⟩ := lx_atom (Or.inr rfl) M p1
    refine z_istore C dd_L_law_327 rfl ?_
    refine z_aload_n C dd_L_law_329 rfl ?_
    refine z_aload_n C dd_L_law_330 rfl ?_
    refine z_iload C dd_L_law_331 rfl ?_
    refine z_iconst (v := 1) C dd_L_law_333 (by decide) ?_
    refine z_iadd C dd_L_law_334 ?_
    refine z_sld C hX hbl hB dd_L_law_335 (lx_in1 hi hL) ?_
    refine z_aload_n C dd_L_law_336 rfl ?_
    refine z_iload C dd_L_law_337 rfl ?_
    refine z_iconst (v := 2) C dd_L_law_339 (by decide) ?_
    refine z_iadd C dd_L_law_340 ?_
    refine z_sld C hX hbl hB dd_L_law_341 (lx_in2 hi hL) ?_
    refine z_aload_n C dd_L_law_342 rfl ?_
    refine z_iload C dd_L_law_343 rfl ?_
    refine z_iconst (v := 3) C dd_L_law_345 (by decide) ?_
    refine z_iadd C dd_L_law_346 ?_
    refine z_sld C hX hbl hB dd_L_law_347 (lx_in3 hi hL) ?_
    refine z_aload_n C dd_L_law_348 rfl ?_
    refine z_iload C dd_L_law_349 rfl ?_
    refine z_iconst (v := 4) C dd_L_law_351 (by decide) ?_
    refine z_iadd C dd_L_law_352 ?_
    refine z_sld C hX hbl hB dd_L_law_353 (lx_in4 hi hL) ?_
    refine z_aload_n C dd_L_law_354 rfl ?_
    refine z_iload C dd_L_law_355 rfl ?_
    refine z_iconst (v := 5) C dd_L_law_357 (by decide) ?_
    refine z_iadd C dd_L_law_358 ?_
    refine z_sld C hX hbl hB dd_L_law_359 (lx_in5 hi hL) ?_
    refine z_if_eq (tgt := 367) C dd_L_law_360 (by decide) (fun q360 => absurd q360 q315) (fun q360 => ?_)
    refine z_iconst (v := 1) C dd_L_law_363 (by decide) ?_
    refine z_goto (tgt := 368) C dd_L_law_364 (by decide) ?_
    refine iv_L_82 (sk := fun r => .int r :: []) (zy_f _) C dd_L_law_368 (zy_M (cc_Q_atom l D dA s.heap.size _ _ _ F I J Q1 nc ng nM M.2.1.1.1.1 (xs (nI i + 1).toNatClampNeg) (xs (nI i + 2).toNatClampNeg) (xs (nI i + 3).toNatClampNeg) (xs (nI i + 4).toNatClampNeg) 1 (Or.inr rfl))) Q1.1 rfl rfl ⟨by decide, by decide⟩ (Nat.le_of_ble_eq_true rfl) ⟨show cells + 4 + 0 ≤ 601024 by omega, show slots + 30 + 0 ≤ 7293034 by omega⟩ (fun _ => rfl) (fun r2 h2 n2 p2 => ?_)
    obtain ⟨rfl, f2, ad2, ng2, nM2, na2, no2, X2, Y2, Z2, F2, I2, J2, nc2, oc2, ow2, M2, hk, hv⟩ := B1 r2 h2 n2 p2
    refine z_istore C dd_L_law_371 rfl ?_
    refine z_aload_n C dd_L_law_373 rfl ?_
    refine iv_L_69 (sk := fun r => .int r :: []) (zy_f _) C dd_L_law_374 (zy_M (cc_Q_thrown l D dA s.heap.size _ _ _ F2 I2 J2 M2.1.2.2.2.1)) M2.1.2.2.2.1.1 rfl rfl ⟨by decide, by decide⟩ (Nat.le_of_ble_eq_true rfl) ⟨show cells + 4 + 0 + 0 ≤ 601024 by omega, show slots + 30 + 0 + 0 ≤ 7293034 by omega⟩ (fun _ => rfl) (fun r3 h3 n3 p3 => ?_)
    obtain ⟨rfl, rfl, rfl⟩ := p3
    refine z_iload C dd_L_law_377 rfl ?_
    refine z_icmp_eq (tgt := 384) C dd_L_law_379 (by decide) (fun q379 => ?_) (fun q379 => absurd hk q379)
    refine z_iload C dd_L_law_384 rfl ?_
    refine z_if_ne (tgt := 401) C dd_L_law_386 (by decide) (fun q386 => ?_) (fun q386 => ?_)
    · skip
      refine z_goto (tgt := 1085) C dd_L_law_401 (by decide) ?_
      exact kt _ _ _ _ _ _ ⟨f2, ad2, ng2, nM2, na2, no2, X2, Y2, Z2, F2, I2, J2, nc2, oc2, ow2, M2⟩ (show cells + 4 + 0 + 0 ≤ cells + 14 by omega) (show slots + 30 + 0 + 0 ≤ slots + 480 by omega)
    · skip
      refine z_aload_n C dd_L_law_389 rfl ?_
      refine z_iconst (v := 0) C dd_L_law_390 (by decide) ?_
      refine z_lald (t0 := 1) C rfl dd_L_law_391 M2.1.2.2.2.2.1 (by unfold vp_in; decide) ?_
      refine z_iload C dd_L_law_392 rfl ?_
      refine z_i2l C dd_L_law_394 ?_
      refine z_lcmp C dd_L_law_395 ?_
      refine z_if_eq (tgt := 401) C dd_L_law_396 (by decide) (fun q396 => ?_) (fun q396 => absurd ((pu_lcmp _ _).mpr (hv q386)) q396)
      refine z_goto (tgt := 1085) C dd_L_law_401 (by decide) ?_
      exact kt _ _ _ _ _ _ ⟨f2, ad2, ng2, nM2, na2, no2, X2, Y2, Z2, F2, I2, J2, nc2, oc2, ow2, M2⟩ (show cells + 4 + 0 + 0 ≤ cells + 14 by omega) (show slots + 30 + 0 + 0 ≤ slots + 480 by omega)
set_option maxHeartbeats 4000000 in
set_option maxRecDepth 20000 in
theorem la_operation (l : Launch) {D : va_G} {dA : Nat → ClassId} {p : Program} {e : Env} {s : State} {m : MethodId} {below : List Frame} {meth : Method} {c : Code} {nm : String} {b L9 : Nat} {xs : Nat → Int32} (hl : l.stackTraces = false) (C : zz_C D zz_cl (zz_ty dA) s.heap.size zz_tb (zy_x s.heap.size) p s m #[Value.ref b] meth c code RR_L ret nm) (hX : va_X b L9 xs s s.heap) (hbl : b < s.heap.size) (hB : ¬ s.heap.size ≤ b) (hL : L9 ≤ 3072) {i : Nat} (hi : i + 6 ≤ L9) {h : zz_H} {n cells slots : Nat} {L5 L6 : Option Value} (hS : lx_A dA s.heap.size n h) (hc : cells ≤ 600000) (hs : slots ≤ 7200000) (kt : ∀ (h' : zz_H) (n' c' s' : Nat) (L5 L6 : Option Value), lx_A dA s.heap.size n' h' → c' ≤ cells + 14 → s' ≤ slots + 480 → zz_W D zz_cl s.heap.size p l e room_1 s m #[Value.ref b] below meth c (lw_Z below #[Value.ref b] s) h' n' c' s' [some (.ref b), some (.ref s.heap.size), some (.ref (s.heap.size + 25)), some (.ref (s.heap.size + 61)), some (.int (nI i)), L5, L6] 1085 []) : zz_W D zz_cl s.heap.size p l e room_1 s m #[Value.ref b] below meth c (lw_Z below #[Value.ref b] s) h n cells slots [some (.ref b), some (.ref s.heap.size), some (.ref (s.heap.size + 25)), some (.ref (s.heap.size + 61)), some (.int (nI i)), L5, L6] 404 [] := by
  obtain ⟨f, ad, ng, nM, na, no, X, Y, Z, F, I, J, nc, oc, ow, M⟩ := hS
  refine z_aload_n C dd_L_law_404 rfl ?_
  refine z_aload_n C dd_L_law_405 rfl ?_
  refine z_iload C dd_L_law_406 rfl ?_
  refine z_iconst (v := 1) C dd_L_law_408 (by decide) ?_
  refine z_iadd C dd_L_law_409 ?_
  refine z_sld C hX hbl hB dd_L_law_410 (lx_in1 hi hL) ?_
  refine z_aload_n C dd_L_law_411 rfl ?_
  refine z_iload C dd_L_law_412 rfl ?_
  refine z_iconst (v := 2) C dd_L_law_414 (by decide) ?_
  refine z_iadd C dd_L_law_415 ?_
  refine z_sld C hX hbl hB dd_L_law_416 (lx_in2 hi hL) ?_
  refine z_aload_n C dd_L_law_417 rfl ?_
  refine z_iload C dd_L_law_418 rfl ?_
  refine z_iconst (v := 3) C dd_L_law_420 (by decide) ?_
  refine z_iadd C dd_L_law_421 ?_
  refine z_sld C hX hbl hB dd_L_law_422 (lx_in3 hi hL) ?_
  refine z_aload_n C dd_L_law_423 rfl ?_
  have hM := (cd_D_operation l D dA s.heap.size h n ad ng nM na no X Y Z M.1.1 F I nc oc ow M.2.1.1 (fun k9 i9 l9 => (M.1.2.1 k9 i9 l9).1) (xs (nI i + 1).toNatClampNeg) (xs (nI i + 2).toNatClampNeg) (xs (nI i + 3).toNatClampNeg) hl)
  refine is_L_83 (sk := fun r => .int r :: []) (zy_f _) C dd_L_law_424 (cc_L_operation l D dA s.heap.size _ _ s.heap.size _ f _ (xs (nI i + 1).toNatClampNeg) (xs (nI i + 2).toNatClampNeg) (xs (nI i + 3).toNatClampNeg) hM M.1.2.2.1 M.1.hq (lx_o_operation M.1) lx_e_operation) rfl rfl ⟨by decide, by decide⟩ (Nat.le_of_ble_eq_true rfl) ⟨show cells + 4 ≤ 601024 by omega, show slots + 30 ≤ 7293034 by omega⟩ (fun _ => rfl) (fun k1 h1 n1 p1 => ?_)
  obtain ⟨hn1, Q1, B1⟩ := lx_operation M p1
  refine z_istore C dd_L_law_427 rfl ?_
  refine z_aload_n C dd_L_law_429 rfl ?_
  refine z_aload_n C dd_L_law_430 rfl ?_
  refine z_iload C dd_L_law_431 rfl ?_
  refine z_iconst (v := 1) C dd_L_law_433 (by decide) ?_
  refine z_iadd C dd_L_law_434 ?_
  refine z_sld C hX hbl hB dd_L_law_435 (lx_in1 hi hL) ?_
  refine z_aload_n C dd_L_law_436 rfl ?_
  refine z_iload C dd_L_law_437 rfl ?_
  refine z_iconst (v := 2) C dd_L_law_439 (by decide) ?_
  refine z_iadd C dd_L_law_440 ?_
  refine z_sld C hX hbl hB dd_L_law_441 (lx_in2 hi hL) ?_
  refine z_aload_n C dd_L_law_442 rfl ?_
  refine z_iload C dd_L_law_443 rfl ?_
  refine z_iconst (v := 3) C dd_L_law_445 (by decide) ?_
  refine z_iadd C dd_L_law_446 ?_
  refine z_sld C hX hbl hB dd_L_law_447 (lx_in3 hi hL) ?_
  refine iv_L_86 (sk := fun r => .int r :: []) (zy_f _) C dd_L_law_448 (zy_M (cc_Q_operation l D dA s.heap.size _ _ _ F I J Q1 nc ng nM M.2.1.1.1.1 (fun m9 h9 => ⟨_, (M.2.1.1.1.2.2 m9 h9).1, (M.2.1.1.1.2.2 m9 h9).2.1⟩) (xs (nI i + 1).toNatClampNeg) (xs (nI i + 2).toNatClampNeg) (xs (nI i + 3).toNatClampNeg))) Q1.1 rfl rfl ⟨by decide, by decide⟩ (Nat.le_of_ble_eq_true rfl) ⟨show cells + 4 + 0 ≤ 601024 by omega, show slots + 30 + 0 ≤ 7293034 by omega⟩ (fun _ => rfl) (fun r2 h2 n2 p2 => ?_)
  obtain ⟨rfl, f2, ad2, ng2, nM2, na2, no2, X2, Y2, Z2, F2, I2, J2, nc2, oc2, ow2, M2, hk, hv⟩ := B1 r2 h2 n2 p2
  refine z_istore C dd_L_law_451 rfl ?_
  refine z_aload_n C dd_L_law_453 rfl ?_
  refine iv_L_69 (sk := fun r => .int r :: []) (zy_f _) C dd_L_law_454 (zy_M (cc_Q_thrown l D dA s.heap.size _ _ _ F2 I2 J2 M2.1.2.2.2.1)) M2.1.2.2.2.1.1 rfl rfl ⟨by decide, by decide⟩ (Nat.le_of_ble_eq_true rfl) ⟨show cells + 4 + 0 + 0 ≤ 601024 by omega, show slots + 30 + 0 + 0 ≤ 7293034 by omega⟩ (fun _ => rfl) (fun r3 h3 n3 p3 => ?_)
  obtain ⟨rfl, rfl, rfl⟩ := p3
  refine z_iload C dd_L_law_457 rfl ?_
  refine z_icmp_eq (tgt := 464) C dd_L_law_459 (by decide) (fun q459 => ?_) (fun q459 => absurd hk q459)
  refine z_iload C dd_L_law_464 rfl ?_
  refine z_if_ne (tgt := 481) C dd_L_law_466 (by decide) (fun q466 => ?_) (fun q466 => ?_)
  · skip
    refine z_goto (tgt := 1085) C dd_L_law_481 (by decide) ?_
    exact kt _ _ _ _ _ _ ⟨f2, ad2, ng2, nM2, na2, no2, X2, Y2, Z2, F2, I2, J2, nc2, oc2, ow2, M2⟩ (show cells + 4 + 0 + 0 ≤ cells + 14 by omega) (show slots + 30 + 0 + 0 ≤ slots + 480 by omega)
  · skip
    refine z_aload_n C dd_L_law_469 rfl ?_
    refine z_iconst (v := 0) C dd_L_law_470 (by decide) ?_
    refine z_lald (t0 := 1) C rfl dd_L_law_471 M2.1.2.2.2.2.1 (by unfold vp_in; decide) ?_
    refine z_iload C dd_L_law_472 rfl ?_
    refine z_i2l C dd_L_law_474 ?_
    refine z_lcmp C dd_L_law_475 ?_
    refine z_if_eq (tgt := 481) C dd_L_law_476 (by decide) (fun q476 => ?_) (fun q476 => absurd ((pu_lcmp _ _).mpr (hv q466)) q476)
    refine z_goto (tgt := 1085) C dd_L_law_481 (by decide) ?_
    exact kt _ _ _ _ _ _ ⟨f2, ad2, ng2, nM2, na2, no2, X2, Y2, Z2, F2, I2, J2, nc2, oc2, ow2, M2⟩ (show cells + 4 + 0 + 0 ≤ cells + 14 by omega) (show slots + 30 + 0 + 0 ≤ slots + 480 by omega)
set_option maxHeartbeats 4000000 in
set_option maxRecDepth 20000 in
theorem la_beyond (l : Launch) {D : va_G} {dA : Nat → ClassId} {p : Program} {e : Env} {s : State} {m : MethodId} {below : List Frame} {meth : Method} {c : Code} {nm : String} {b L9 : Nat} {xs : Nat → Int32} (hl : l.stackTraces = false) (C : zz_C D zz_cl (zz_ty dA) s.heap.size zz_tb (zy_x s.heap.size) p s m #[Value.ref b] meth c code RR_L ret nm) (hX : va_X b L9 xs s s.heap) (hbl : b < s.heap.size) (hB : ¬ s.heap.size ≤ b) (hL : L9 ≤ 3072) {i : Nat} (hi : i + 6 ≤ L9) {h : zz_H} {n cells slots : Nat} {L5 L6 : Option Value} (hS : lx_A dA s.heap.size n h) (hc : cells ≤ 600000) (hs : slots ≤ 7200000) (kt : ∀ (h' : zz_H) (n' c' s' : Nat) (L5 L6 : Option Value), lx_A dA s.heap.size n' h' → c' ≤ cells + 14 → s' ≤ slots + 480 → zz_W D zz_cl s.heap.size p l e room_1 s m #[Value.ref b] below meth c (lw_Z below #[Value.ref b] s) h' n' c' s' [some (.ref b), some (.ref s.heap.size), some (.ref (s.heap.size + 25)), some (.ref (s.heap.size + 61)), some (.int (nI i)), L5, L6] 1085 []) : zz_W D zz_cl s.heap.size p l e room_1 s m #[Value.ref b] below meth c (lw_Z below #[Value.ref b] s) h n cells slots [some (.ref b), some (.ref s.heap.size), some (.ref (s.heap.size + 25)), some (.ref (s.heap.size + 61)), some (.int (nI i)), L5, L6] 484 [] := by
  obtain ⟨f, ad, ng, nM, na, no, X, Y, Z, F, I, J, nc, oc, ow, M⟩ := hS
  refine z_aload_n C dd_L_law_484 rfl ?_
  refine z_aload_n C dd_L_law_485 rfl ?_
  refine z_iload C dd_L_law_486 rfl ?_
  refine z_iconst (v := 1) C dd_L_law_488 (by decide) ?_
  refine z_iadd C dd_L_law_489 ?_
  refine z_sld C hX hbl hB dd_L_law_490 (lx_in1 hi hL) ?_
  refine z_aload_n C dd_L_law_491 rfl ?_
  refine z_iload C dd_L_law_492 rfl ?_
  refine z_iconst (v := 2) C dd_L_law_494 (by decide) ?_
  refine z_iadd C dd_L_law_495 ?_
  refine z_sld C hX hbl hB dd_L_law_496 (lx_in2 hi hL) ?_
  refine z_aload_n C dd_L_law_497 rfl ?_
  have hM := (cd_D_beyond l D dA s.heap.size h n ad ng nM na no X Y Z M.1.1 F I nc oc ow M.2.1.1 (xs (nI i + 1).toNatClampNeg) (xs (nI i + 2).toNatClampNeg) hl)
  refine is_L_87 (sk := fun r => .int r :: []) (zy_f _) C dd_L_law_498 (cc_L_beyond l D dA s.heap.size _ _ s.heap.size _ f _ (xs (nI i + 1).toNatClampNeg) (xs (nI i + 2).toNatClampNeg) hM M.1.2.2.1 M.1.hq (lx_o_beyond M.1) lx_e_beyond lx_z_beyond) rfl rfl ⟨by decide, by decide⟩ (Nat.le_of_ble_eq_true rfl) ⟨show cells + 4 ≤ 601024 by omega, show slots + 24 ≤ 7293034 by omega⟩ (fun _ => rfl) (fun k1 h1 n1 p1 => ?_)
  obtain ⟨hn1, Q1, B1⟩ := lx_beyond M p1
  refine z_istore C dd_L_law_501 rfl ?_
  refine z_aload_n C dd_L_law_503 rfl ?_
  refine z_aload_n C dd_L_law_504 rfl ?_
  refine z_iload C dd_L_law_505 rfl ?_
  refine z_iconst (v := 1) C dd_L_law_507 (by decide) ?_
  refine z_iadd C dd_L_law_508 ?_
  refine z_sld C hX hbl hB dd_L_law_509 (lx_in1 hi hL) ?_
  refine z_aload_n C dd_L_law_510 rfl ?_
  refine z_iload C dd_L_law_511 rfl ?_
  refine z_iconst (v := 2) C dd_L_law_513 (by decide) ?_
  refine z_iadd C dd_L_law_514 ?_
  refine z_sld C hX hbl hB dd_L_law_515 (lx_in2 hi hL) ?_
  refine iv_L_90 (sk := fun r => .int r :: []) (zy_f _) C dd_L_law_516 (zy_M (cc_Q_beyond l D dA s.heap.size _ _ _ F I J Q1 nc ng nM M.2.1.1.1.1 (xs (nI i + 1).toNatClampNeg) (xs (nI i + 2).toNatClampNeg))) Q1.1 rfl rfl ⟨by decide, by decide⟩ (Nat.le_of_ble_eq_true rfl) ⟨show cells + 4 + 0 ≤ 601024 by omega, show slots + 24 + 0 ≤ 7293034 by omega⟩ (fun _ => rfl) (fun r2 h2 n2 p2 => ?_)
  obtain ⟨rfl, hz2, f2, ad2, ng2, nM2, na2, no2, X2, Y2, Z2, F2, I2, J2, nc2, oc2, ow2, M2, hk, hv⟩ := B1 r2 h2 n2 p2
  refine z_istore C dd_L_law_519 rfl ?_
  refine z_aload_n C dd_L_law_521 rfl ?_
  refine iv_L_69 (sk := fun r => .int r :: []) (zy_f _) C dd_L_law_522 (zy_M (cc_Q_thrown l D dA s.heap.size _ _ _ F2 I2 J2 M2.1.2.2.2.1)) M2.1.2.2.2.1.1 rfl rfl ⟨by decide, by decide⟩ (Nat.le_of_ble_eq_true rfl) ⟨show cells + 4 + 0 + 0 ≤ 601024 by omega, show slots + 24 + 0 + 0 ≤ 7293034 by omega⟩ (fun _ => rfl) (fun r3 h3 n3 p3 => ?_)
  obtain ⟨rfl, rfl, rfl⟩ := p3
  refine z_iload C dd_L_law_525 rfl ?_
  refine z_icmp_eq (tgt := 532) C dd_L_law_527 (by decide) (fun q527 => ?_) (fun q527 => absurd hk q527)
  refine z_iload C dd_L_law_532 rfl ?_
  refine z_if_ne (tgt := 556) C dd_L_law_534 (by decide) (fun q534 => ?_) (fun q534 => ?_)
  · skip
    refine z_goto (tgt := 1085) C dd_L_law_556 (by decide) ?_
    exact kt _ _ _ _ _ _ ⟨f2, ad2, ng2, nM2, na2, no2, X2, Y2, Z2, F2, I2, J2, nc2, oc2, ow2, M2⟩ (show cells + 4 + 0 + 0 ≤ cells + 14 by omega) (show slots + 24 + 0 + 0 ≤ slots + 480 by omega)
  · skip
    refine z_aload_n C dd_L_law_537 rfl ?_
    refine z_iconst (v := 0) C dd_L_law_538 (by decide) ?_
    refine z_lald (t0 := 1) C rfl dd_L_law_539 M2.1.2.2.2.2.1 (by unfold vp_in; decide) ?_
    refine z_iload C dd_L_law_540 rfl ?_
    refine z_if_eq (tgt := 549) C dd_L_law_542 (by decide) (fun q542 => ?_) (fun q542 => ?_)
    · skip
      refine z_lconst (v := 0) C dd_L_law_549 (by decide) ?_
      refine z_lcmp C dd_L_law_550 ?_
      refine z_if_eq (tgt := 556) C dd_L_law_551 (by decide) (fun q551 => ?_) (fun q551 => absurd ((pu_lcmp _ _).mpr ((hv q534).trans (by rw [q542]; decide))) q551)
      refine z_goto (tgt := 1085) C dd_L_law_556 (by decide) ?_
      exact kt _ _ _ _ _ _ ⟨f2, ad2, ng2, nM2, na2, no2, X2, Y2, Z2, F2, I2, J2, nc2, oc2, ow2, M2⟩ (show cells + 4 + 0 + 0 ≤ cells + 14 by omega) (show slots + 24 + 0 + 0 ≤ slots + 480 by omega)
    · skip
      refine z_lconst (v := 1) C dd_L_law_545 (by decide) ?_
      refine z_goto (tgt := 550) C dd_L_law_546 (by decide) ?_
      refine z_lcmp C dd_L_law_550 ?_
      refine z_if_eq (tgt := 556) C dd_L_law_551 (by decide) (fun q551 => ?_) (fun q551 => absurd ((pu_lcmp _ _).mpr ((hv q534).trans (by rw [hz2.resolve_left q542]; decide))) q551)
      refine z_goto (tgt := 1085) C dd_L_law_556 (by decide) ?_
      exact kt _ _ _ _ _ _ ⟨f2, ad2, ng2, nM2, na2, no2, X2, Y2, Z2, F2, I2, J2, nc2, oc2, ow2, M2⟩ (show cells + 4 + 0 + 0 ≤ cells + 14 by omega) (show slots + 24 + 0 + 0 ≤ slots + 480 by omega)
set_option maxHeartbeats 4000000 in
set_option maxRecDepth 20000 in
theorem la_best (l : Launch) {D : va_G} {dA : Nat → ClassId} {p : Program} {e : Env} {s : State} {m : MethodId} {below : List Frame} {meth : Method} {c : Code} {nm : String} {b L9 : Nat} {xs : Nat → Int32} (hl : l.stackTraces = false) (C : zz_C D zz_cl (zz_ty dA) s.heap.size zz_tb (zy_x s.heap.size) p s m #[Value.ref b] meth c code RR_L ret nm) (hX : va_X b L9 xs s s.heap) (hbl : b < s.heap.size) (hB : ¬ s.heap.size ≤ b) (hL : L9 ≤ 3072) {i : Nat} (hi : i + 6 ≤ L9) {h : zz_H} {n cells slots : Nat} {L5 L6 : Option Value} (hS : lx_A dA s.heap.size n h) (hc : cells ≤ 600000) (hs : slots ≤ 7200000) (kt : ∀ (h' : zz_H) (n' c' s' : Nat) (L5 L6 : Option Value), lx_A dA s.heap.size n' h' → c' ≤ cells + 14 → s' ≤ slots + 480 → zz_W D zz_cl s.heap.size p l e room_1 s m #[Value.ref b] below meth c (lw_Z below #[Value.ref b] s) h' n' c' s' [some (.ref b), some (.ref s.heap.size), some (.ref (s.heap.size + 25)), some (.ref (s.heap.size + 61)), some (.int (nI i)), L5, L6] 1085 []) : zz_W D zz_cl s.heap.size p l e room_1 s m #[Value.ref b] below meth c (lw_Z below #[Value.ref b] s) h n cells slots [some (.ref b), some (.ref s.heap.size), some (.ref (s.heap.size + 25)), some (.ref (s.heap.size + 61)), some (.int (nI i)), L5, L6] 559 [] := by
  obtain ⟨f, ad, ng, nM, na, no, X, Y, Z, F, I, J, nc, oc, ow, M⟩ := hS
  refine z_aload_n C dd_L_law_559 rfl ?_
  refine z_aload_n C dd_L_law_560 rfl ?_
  refine z_iload C dd_L_law_561 rfl ?_
  refine z_iconst (v := 1) C dd_L_law_563 (by decide) ?_
  refine z_iadd C dd_L_law_564 ?_
  refine z_sld C hX hbl hB dd_L_law_565 (lx_in1 hi hL) ?_
  refine z_aload_n C dd_L_law_566 rfl ?_
  refine z_iload C dd_L_law_567 rfl ?_
  refine z_iconst (v := 2) C dd_L_law_569 (by decide) ?_
  refine z_iadd C dd_L_law_570 ?_
  refine z_sld C hX hbl hB dd_L_law_571 (lx_in2 hi hL) ?_
  refine z_aload_n C dd_L_law_572 rfl ?_
  refine z_iload C dd_L_law_573 rfl ?_
  refine z_iconst (v := 3) C dd_L_law_575 (by decide) ?_
  refine z_iadd C dd_L_law_576 ?_
  refine z_sld C hX hbl hB dd_L_law_577 (lx_in3 hi hL) ?_
  refine z_aload_n C dd_L_law_578 rfl ?_
  have hM := (cd_D_best l D dA s.heap.size h n ad ng nM na no X Y Z M.1.1 F I nc oc ow M.2.1.1 (xs (nI i + 1).toNatClampNeg) (xs (nI i + 2).toNatClampNeg) (xs (nI i + 3).toNatClampNeg) hl)
  refine is_L_91 (sk := fun r => .int r :: []) (zy_f _) C dd_L_law_579 (cc_L_best l D dA s.heap.size _ _ s.heap.size _ f _ (xs (nI i + 1).toNatClampNeg) (xs (nI i + 2).toNatClampNeg) (xs (nI i + 3).toNatClampNeg) hM M.1.2.2.1 M.1.hq (lx_o_best M.1) lx_e_best) rfl rfl ⟨by decide, by decide⟩ (Nat.le_of_ble_eq_true rfl) ⟨show cells + 2 ≤ 601024 by omega, show slots + 12 ≤ 7293034 by omega⟩ (fun _ => rfl) (fun k1 h1 n1 p1 => ?_)
  obtain ⟨hn1, Q1, B1⟩ := lx_best M p1
  refine z_istore C dd_L_law_582 rfl ?_
  refine z_aload_n C dd_L_law_584 rfl ?_
  refine z_aload_n C dd_L_law_585 rfl ?_
  refine z_iload C dd_L_law_586 rfl ?_
  refine z_iconst (v := 1) C dd_L_law_588 (by decide) ?_
  refine z_iadd C dd_L_law_589 ?_
  refine z_sld C hX hbl hB dd_L_law_590 (lx_in1 hi hL) ?_
  refine z_aload_n C dd_L_law_591 rfl ?_
  refine z_iload C dd_L_law_592 rfl ?_
  refine z_iconst (v := 2) C dd_L_law_594 (by decide) ?_
  refine z_iadd C dd_L_law_595 ?_
  refine z_sld C hX hbl hB dd_L_law_596 (lx_in2 hi hL) ?_
  refine z_aload_n C dd_L_law_597 rfl ?_
  refine z_iload C dd_L_law_598 rfl ?_
  refine z_iconst (v := 3) C dd_L_law_600 (by decide) ?_
  refine z_iadd C dd_L_law_601 ?_
  refine z_sld C hX hbl hB dd_L_law_602 (lx_in3 hi hL) ?_
  refine iv_L_93 (sk := fun r => .int r :: []) (zy_f _) C dd_L_law_603 (zy_M (cc_Q_best l D dA s.heap.size _ _ _ F I J Q1 nc ng nM M.2.1.1.1.1 (xs (nI i + 1).toNatClampNeg) (xs (nI i + 2).toNatClampNeg) (xs (nI i + 3).toNatClampNeg))) Q1.1 rfl rfl ⟨by decide, by decide⟩ (Nat.le_of_ble_eq_true rfl) ⟨show cells + 2 + 0 ≤ 601024 by omega, show slots + 12 + 0 ≤ 7293034 by omega⟩ (fun _ => rfl) (fun r2 h2 n2 p2 => ?_)
  obtain ⟨rfl, f2, ad2, ng2, nM2, na2, no2, X2, Y2, Z2, F2, I2, J2, nc2, oc2, ow2, M2, hk, hv⟩ := B1 r2 h2 n2 p2
  refine z_istore C dd_L_law_606 rfl ?_
  refine z_aload_n C dd_L_law_608 rfl ?_
  refine iv_L_69 (sk := fun r => .int r :: []) (zy_f _) C dd_L_law_609 (zy_M (cc_Q_thrown l D dA s.heap.size _ _ _ F2 I2 J2 M2.1.2.2.2.1)) M2.1.2.2.2.1.1 rfl rfl ⟨by decide, by decide⟩ (Nat.le_of_ble_eq_true rfl) ⟨show cells + 2 + 0 + 0 ≤ 601024 by omega, show slots + 12 + 0 + 0 ≤ 7293034 by omega⟩ (fun _ => rfl) (fun r3 h3 n3 p3 => ?_)
  obtain ⟨rfl, rfl, rfl⟩ := p3
  refine z_iload C dd_L_law_612 rfl ?_
  refine z_icmp_eq (tgt := 619) C dd_L_law_614 (by decide) (fun q614 => ?_) (fun q614 => absurd hk q614)
  refine z_iload C dd_L_law_619 rfl ?_
  refine z_if_ne (tgt := 636) C dd_L_law_621 (by decide) (fun q621 => ?_) (fun q621 => ?_)
  · skip
    refine z_goto (tgt := 1085) C dd_L_law_636 (by decide) ?_
    exact kt _ _ _ _ _ _ ⟨f2, ad2, ng2, nM2, na2, no2, X2, Y2, Z2, F2, I2, J2, nc2, oc2, ow2, M2⟩ (show cells + 2 + 0 + 0 ≤ cells + 14 by omega) (show slots + 12 + 0 + 0 ≤ slots + 480 by omega)
  · skip
    refine z_aload_n C dd_L_law_624 rfl ?_
    refine z_iconst (v := 0) C dd_L_law_625 (by decide) ?_
    refine z_lald (t0 := 1) C rfl dd_L_law_626 M2.1.2.2.2.2.1 (by unfold vp_in; decide) ?_
    refine z_iload C dd_L_law_627 rfl ?_
    refine z_i2l C dd_L_law_629 ?_
    refine z_lcmp C dd_L_law_630 ?_
    refine z_if_eq (tgt := 636) C dd_L_law_631 (by decide) (fun q631 => ?_) (fun q631 => absurd ((pu_lcmp _ _).mpr (hv q621)) q631)
    refine z_goto (tgt := 1085) C dd_L_law_636 (by decide) ?_
    exact kt _ _ _ _ _ _ ⟨f2, ad2, ng2, nM2, na2, no2, X2, Y2, Z2, F2, I2, J2, nc2, oc2, ow2, M2⟩ (show cells + 2 + 0 + 0 ≤ cells + 14 by omega) (show slots + 12 + 0 + 0 ≤ slots + 480 by omega)
set_option maxHeartbeats 4000000 in
set_option maxRecDepth 20000 in
theorem la_check (l : Launch) {D : va_G} {dA : Nat → ClassId} {p : Program} {e : Env} {s : State} {m : MethodId} {below : List Frame} {meth : Method} {c : Code} {nm : String} {b L9 : Nat} {xs : Nat → Int32} (hl : l.stackTraces = false) (C : zz_C D zz_cl (zz_ty dA) s.heap.size zz_tb (zy_x s.heap.size) p s m #[Value.ref b] meth c code RR_L ret nm) (hX : va_X b L9 xs s s.heap) (hbl : b < s.heap.size) (hB : ¬ s.heap.size ≤ b) (hL : L9 ≤ 3072) {i : Nat} (hi : i + 6 ≤ L9) {h : zz_H} {n cells slots : Nat} {L5 L6 : Option Value} (hS : lx_A dA s.heap.size n h) (hc : cells ≤ 600000) (hs : slots ≤ 7200000) (kt : ∀ (h' : zz_H) (n' c' s' : Nat) (L5 L6 : Option Value), lx_A dA s.heap.size n' h' → c' ≤ cells + 14 → s' ≤ slots + 480 → zz_W D zz_cl s.heap.size p l e room_1 s m #[Value.ref b] below meth c (lw_Z below #[Value.ref b] s) h' n' c' s' [some (.ref b), some (.ref s.heap.size), some (.ref (s.heap.size + 25)), some (.ref (s.heap.size + 61)), some (.int (nI i)), L5, L6] 1085 []) : zz_W D zz_cl s.heap.size p l e room_1 s m #[Value.ref b] below meth c (lw_Z below #[Value.ref b] s) h n cells slots [some (.ref b), some (.ref s.heap.size), some (.ref (s.heap.size + 25)), some (.ref (s.heap.size + 61)), some (.int (nI i)), L5, L6] 639 [] := by
  obtain ⟨f, ad, ng, nM, na, no, X, Y, Z, F, I, J, nc, oc, ow, M⟩ := hS
  refine z_aload_n C dd_L_law_639 rfl ?_
  refine z_aload_n C dd_L_law_640 rfl ?_
  refine z_iload C dd_L_law_641 rfl ?_
  refine z_iconst (v := 1) C dd_L_law_643 (by decide) ?_
  refine z_iadd C dd_L_law_644 ?_
  refine z_sld C hX hbl hB dd_L_law_645 (lx_in1 hi hL) ?_
  refine z_aload_n C dd_L_law_646 rfl ?_
  have hM := (cd_D_check l D dA s.heap.size h n ad ng nM na no X Y Z M.1.1 F I nc oc ow M.2.1.1 (xs (nI i + 1).toNatClampNeg) hl)
  refine is_L_94 (sk := fun r => .int r :: []) (zy_f _) C dd_L_law_647 (cc_L_check l D dA s.heap.size _ _ s.heap.size _ f _ (xs (nI i + 1).toNatClampNeg) hM M.1.2.2.1 M.1.hq (lx_o_check M.1) lx_e_check) rfl rfl ⟨by decide, by decide⟩ (Nat.le_of_ble_eq_true rfl) ⟨show cells + 2 ≤ 601024 by omega, show slots + 12 ≤ 7293034 by omega⟩ (fun _ => rfl) (fun k1 h1 n1 p1 => ?_)
  obtain ⟨hn1, Q1, B1⟩ := lx_check M p1
  refine z_istore C dd_L_law_650 rfl ?_
  refine z_aload_n C dd_L_law_652 rfl ?_
  refine z_aload_n C dd_L_law_653 rfl ?_
  refine z_iload C dd_L_law_654 rfl ?_
  refine z_iconst (v := 1) C dd_L_law_656 (by decide) ?_
  refine z_iadd C dd_L_law_657 ?_
  refine z_sld C hX hbl hB dd_L_law_658 (lx_in1 hi hL) ?_
  refine iv_L_96 (sk := fun r => .int r :: []) (zy_f _) C dd_L_law_659 (zy_M (cc_Q_check l D dA s.heap.size _ _ _ F I J Q1 nc ng nM M.2.1.1.1.1 (xs (nI i + 1).toNatClampNeg))) Q1.1 rfl rfl ⟨by decide, by decide⟩ (Nat.le_of_ble_eq_true rfl) ⟨show cells + 2 + 0 ≤ 601024 by omega, show slots + 12 + 0 ≤ 7293034 by omega⟩ (fun _ => rfl) (fun r2 h2 n2 p2 => ?_)
  obtain ⟨rfl, f2, ad2, ng2, nM2, na2, no2, X2, Y2, Z2, F2, I2, J2, nc2, oc2, ow2, M2, hk, hv⟩ := B1 r2 h2 n2 p2
  refine z_istore C dd_L_law_662 rfl ?_
  refine z_aload_n C dd_L_law_664 rfl ?_
  refine iv_L_69 (sk := fun r => .int r :: []) (zy_f _) C dd_L_law_665 (zy_M (cc_Q_thrown l D dA s.heap.size _ _ _ F2 I2 J2 M2.1.2.2.2.1)) M2.1.2.2.2.1.1 rfl rfl ⟨by decide, by decide⟩ (Nat.le_of_ble_eq_true rfl) ⟨show cells + 2 + 0 + 0 ≤ 601024 by omega, show slots + 12 + 0 + 0 ≤ 7293034 by omega⟩ (fun _ => rfl) (fun r3 h3 n3 p3 => ?_)
  obtain ⟨rfl, rfl, rfl⟩ := p3
  refine z_iload C dd_L_law_668 rfl ?_
  refine z_icmp_eq (tgt := 675) C dd_L_law_670 (by decide) (fun q670 => ?_) (fun q670 => absurd hk q670)
  refine z_iload C dd_L_law_675 rfl ?_
  refine z_if_ne (tgt := 692) C dd_L_law_677 (by decide) (fun q677 => ?_) (fun q677 => ?_)
  · skip
    refine z_goto (tgt := 1085) C dd_L_law_692 (by decide) ?_
    exact kt _ _ _ _ _ _ ⟨f2, ad2, ng2, nM2, na2, no2, X2, Y2, Z2, F2, I2, J2, nc2, oc2, ow2, M2⟩ (show cells + 2 + 0 + 0 ≤ cells + 14 by omega) (show slots + 12 + 0 + 0 ≤ slots + 480 by omega)
  · skip
    refine z_aload_n C dd_L_law_680 rfl ?_
    refine z_iconst (v := 0) C dd_L_law_681 (by decide) ?_
    refine z_lald (t0 := 1) C rfl dd_L_law_682 M2.1.2.2.2.2.1 (by unfold vp_in; decide) ?_
    refine z_iload C dd_L_law_683 rfl ?_
    refine z_i2l C dd_L_law_685 ?_
    refine z_lcmp C dd_L_law_686 ?_
    refine z_if_eq (tgt := 692) C dd_L_law_687 (by decide) (fun q687 => ?_) (fun q687 => absurd ((pu_lcmp _ _).mpr (hv q677)) q687)
    refine z_goto (tgt := 1085) C dd_L_law_692 (by decide) ?_
    exact kt _ _ _ _ _ _ ⟨f2, ad2, ng2, nM2, na2, no2, X2, Y2, Z2, F2, I2, J2, nc2, oc2, ow2, M2⟩ (show cells + 2 + 0 + 0 ≤ cells + 14 by omega) (show slots + 12 + 0 + 0 ≤ slots + 480 by omega)
set_option maxHeartbeats 4000000 in
set_option maxRecDepth 20000 in
theorem la_witness (l : Launch) {D : va_G} {dA : Nat → ClassId} {p : Program} {e : Env} {s : State} {m : MethodId} {below : List Frame} {meth : Method} {c : Code} {nm : String} {b L9 : Nat} {xs : Nat → Int32} (hl : l.stackTraces = false) (C : zz_C D zz_cl (zz_ty dA) s.heap.size zz_tb (zy_x s.heap.size) p s m #[Value.ref b] meth c code RR_L ret nm) (hX : va_X b L9 xs s s.heap) (hbl : b < s.heap.size) (hB : ¬ s.heap.size ≤ b) (hL : L9 ≤ 3072) {i : Nat} (hi : i + 6 ≤ L9) {h : zz_H} {n cells slots : Nat} {L5 L6 : Option Value} (hS : lx_A dA s.heap.size n h) (hc : cells ≤ 600000) (hs : slots ≤ 7200000) (kt : ∀ (h' : zz_H) (n' c' s' : Nat) (L5 L6 : Option Value), lx_A dA s.heap.size n' h' → c' ≤ cells + 14 → s' ≤ slots + 480 → zz_W D zz_cl s.heap.size p l e room_1 s m #[Value.ref b] below meth c (lw_Z below #[Value.ref b] s) h' n' c' s' [some (.ref b), some (.ref s.heap.size), some (.ref (s.heap.size + 25)), some (.ref (s.heap.size + 61)), some (.int (nI i)), L5, L6] 1085 []) : zz_W D zz_cl s.heap.size p l e room_1 s m #[Value.ref b] below meth c (lw_Z below #[Value.ref b] s) h n cells slots [some (.ref b), some (.ref s.heap.size), some (.ref (s.heap.size + 25)), some (.ref (s.heap.size + 61)), some (.int (nI i)), L5, L6] 695 [] := by
  obtain ⟨f, ad, ng, nM, na, no, X, Y, Z, F, I, J, nc, oc, ow, M⟩ := hS
  refine z_aload_n C dd_L_law_695 rfl ?_
  refine z_aload_n C dd_L_law_696 rfl ?_
  refine z_iload C dd_L_law_697 rfl ?_
  refine z_iconst (v := 1) C dd_L_law_699 (by decide) ?_
  refine z_iadd C dd_L_law_700 ?_
  refine z_sld C hX hbl hB dd_L_law_701 (lx_in1 hi hL) ?_
  refine z_aload_n C dd_L_law_702 rfl ?_
  have hM := (cc_D_witness l D dA s.heap.size h n _ _ _ _ _ _ _ _ _ _ _ M.1.hq (xs (nI i + 1).toNatClampNeg) hl)
  refine is_L_97 (sk := fun r => .int r :: []) (zy_f _) C dd_L_law_703 (cc_L_witness l D dA s.heap.size _ _ s.heap.size _ f _ (xs (nI i + 1).toNatClampNeg) hM rfl M.1.hq (lx_o_witness M.1) lx_e_witness) rfl rfl ⟨by decide, by decide⟩ (Nat.le_of_ble_eq_true rfl) ⟨show cells + 1 ≤ 601024 by omega, show slots + 6 ≤ 7293034 by omega⟩ (fun _ => rfl) (fun k1 h1 n1 p1 => ?_)
  obtain ⟨hn1, Q1, B1⟩ := lx_witness M p1
  refine z_istore C dd_L_law_706 rfl ?_
  refine z_aload_n C dd_L_law_708 rfl ?_
  refine z_aload_n C dd_L_law_709 rfl ?_
  refine z_iload C dd_L_law_710 rfl ?_
  refine z_iconst (v := 1) C dd_L_law_712 (by decide) ?_
  refine z_iadd C dd_L_law_713 ?_
  refine z_sld C hX hbl hB dd_L_law_714 (lx_in1 hi hL) ?_
  refine iv_L_99 (sk := fun r => .int r :: []) (zy_f _) C dd_L_law_715 (zy_M (cc_Q_witness l D dA s.heap.size _ _ _ F I J Q1  (xs (nI i + 1).toNatClampNeg))) Q1.1 rfl rfl ⟨by decide, by decide⟩ (Nat.le_of_ble_eq_true rfl) ⟨show cells + 1 + 0 ≤ 601024 by omega, show slots + 6 + 0 ≤ 7293034 by omega⟩ (fun _ => rfl) (fun r2 h2 n2 p2 => ?_)
  obtain ⟨rfl, f2, ad2, ng2, nM2, na2, no2, X2, Y2, Z2, F2, I2, J2, nc2, oc2, ow2, M2, hk, hv⟩ := B1 r2 h2 n2 p2
  refine z_istore C dd_L_law_718 rfl ?_
  refine z_aload_n C dd_L_law_720 rfl ?_
  refine iv_L_69 (sk := fun r => .int r :: []) (zy_f _) C dd_L_law_721 (zy_M (cc_Q_thrown l D dA s.heap.size _ _ _ F2 I2 J2 M2.1.2.2.2.1)) M2.1.2.2.2.1.1 rfl rfl ⟨by decide, by decide⟩ (Nat.le_of_ble_eq_true rfl) ⟨show cells + 1 + 0 + 0 ≤ 601024 by omega, show slots + 6 + 0 + 0 ≤ 7293034 by omega⟩ (fun _ => rfl) (fun r3 h3 n3 p3 => ?_)
  obtain ⟨rfl, rfl, rfl⟩ := p3
  refine z_iload C dd_L_law_724 rfl ?_
  refine z_icmp_eq (tgt := 731) C dd_L_law_726 (by decide) (fun q726 => ?_) (fun q726 => absurd hk q726)
  refine z_iload C dd_L_law_731 rfl ?_
  refine z_if_ne (tgt := 748) C dd_L_law_733 (by decide) (fun q733 => ?_) (fun q733 => ?_)
  · skip
    refine z_goto (tgt := 1085) C dd_L_law_748 (by decide) ?_
    exact kt _ _ _ _ _ _ ⟨f2, ad2, ng2, nM2, na2, no2, X2, Y2, Z2, F2, I2, J2, nc2, oc2, ow2, M2⟩ (show cells + 1 + 0 + 0 ≤ cells + 14 by omega) (show slots + 6 + 0 + 0 ≤ slots + 480 by omega)
  · skip
    refine z_aload_n C dd_L_law_736 rfl ?_
    refine z_iconst (v := 0) C dd_L_law_737 (by decide) ?_
    refine z_lald (t0 := 1) C rfl dd_L_law_738 M2.1.2.2.2.2.1 (by unfold vp_in; decide) ?_
    refine z_iload C dd_L_law_739 rfl ?_
    refine z_i2l C dd_L_law_741 ?_
    refine z_lcmp C dd_L_law_742 ?_
    refine z_if_eq (tgt := 748) C dd_L_law_743 (by decide) (fun q743 => ?_) (fun q743 => absurd ((pu_lcmp _ _).mpr (hv q733)) q743)
    refine z_goto (tgt := 1085) C dd_L_law_748 (by decide) ?_
    exact kt _ _ _ _ _ _ ⟨f2, ad2, ng2, nM2, na2, no2, X2, Y2, Z2, F2, I2, J2, nc2, oc2, ow2, M2⟩ (show cells + 1 + 0 + 0 ≤ cells + 14 by omega) (show slots + 6 + 0 + 0 ≤ slots + 480 by omega)
set_option maxHeartbeats 4000000 in
set_option maxRecDepth 20000 in
theorem la_compile (l : Launch) {D : va_G} {dA : Nat → ClassId} {p : Program} {e : Env} {s : State} {m : MethodId} {below : List Frame} {meth : Method} {c : Code} {nm : String} {b L9 : Nat} {xs : Nat → Int32} (hl : l.stackTraces = false) (C : zz_C D zz_cl (zz_ty dA) s.heap.size zz_tb (zy_x s.heap.size) p s m #[Value.ref b] meth c code RR_L ret nm) (hX : va_X b L9 xs s s.heap) (hbl : b < s.heap.size) (hB : ¬ s.heap.size ≤ b) (hL : L9 ≤ 3072) {i : Nat} (hi : i + 6 ≤ L9) {h : zz_H} {n cells slots : Nat} {L5 L6 : Option Value} (hS : lx_A dA s.heap.size n h) (hc : cells ≤ 600000) (hs : slots ≤ 7200000) (kt : ∀ (h' : zz_H) (n' c' s' : Nat) (L5 L6 : Option Value), lx_A dA s.heap.size n' h' → c' ≤ cells + 14 → s' ≤ slots + 480 → zz_W D zz_cl s.heap.size p l e room_1 s m #[Value.ref b] below meth c (lw_Z below #[Value.ref b] s) h' n' c' s' [some (.ref b), some (.ref s.heap.size), some (.ref (s.heap.size + 25)), some (.ref (s.heap.size + 61)), some (.int (nI i)), L5, L6] 1085 []) : zz_W D zz_cl s.heap.size p l e room_1 s m #[Value.ref b] below meth c (lw_Z below #[Value.ref b] s) h n cells slots [some (.ref b), some (.ref s.heap.size), some (.ref (s.heap.size + 25)), some (.ref (s.heap.size + 61)), some (.int (nI i)), L5, L6] 751 [] := by
  obtain ⟨f, ad, ng, nM, na, no, X, Y, Z, F, I, J, nc, oc, ow, M⟩ := hS
  refine z_aload_n C dd_L_law_751 rfl ?_
  refine z_aload_n C dd_L_law_752 rfl ?_
  refine z_iload C dd_L_law_753 rfl ?_
  refine z_iconst (v := 1) C dd_L_law_755 (by decide) ?_
  refine z_iadd C dd_L_law_756 ?_
  refine z_sld C hX hbl hB dd_L_law_757 (lx_in1 hi hL) ?_
  refine z_aload_n C dd_L_law_758 rfl ?_
  have hM := (cd_D_compile l D dA s.heap.size h n ad ng nM na no X Y Z M.1.1 F I nc oc ow M.2.1.1 (xs (nI i + 1).toNatClampNeg) hl)
  refine is_L_100 (sk := fun r => .int r :: []) (zy_f _) C dd_L_law_759 (cc_L_compile l D dA s.heap.size _ _ s.heap.size _ f _ (xs (nI i + 1).toNatClampNeg) hM M.1.2.2.1 M.1.hq (lx_o_compile M.1) lx_e_compile) rfl rfl ⟨by decide, by decide⟩ (Nat.le_of_ble_eq_true rfl) ⟨show cells + 2 ≤ 601024 by omega, show slots + 12 ≤ 7293034 by omega⟩ (fun _ => rfl) (fun k1 h1 n1 p1 => ?_)
  obtain ⟨hn1, Q1, B1⟩ := lx_compile M p1
  refine z_istore C dd_L_law_762 rfl ?_
  refine z_aload_n C dd_L_law_764 rfl ?_
  refine z_aload_n C dd_L_law_765 rfl ?_
  refine z_iload C dd_L_law_766 rfl ?_
  refine z_iconst (v := 1) C dd_L_law_768 (by decide) ?_
  refine z_iadd C dd_L_law_769 ?_
  refine z_sld C hX hbl hB dd_L_law_770 (lx_in1 hi hL) ?_
  refine iv_L_102 (sk := fun r => .int r :: []) (zy_f _) C dd_L_law_771 (zy_M (cc_Q_compile l D dA s.heap.size _ _ _ F I J Q1 nc ng nM M.2.1.1.1.1 (pu_kn_kr M.2.1.2.1.1) (xs (nI i + 1).toNatClampNeg))) Q1.1 rfl rfl ⟨by decide, by decide⟩ (Nat.le_of_ble_eq_true rfl) ⟨show cells + 2 + 0 ≤ 601024 by omega, show slots + 12 + 0 ≤ 7293034 by omega⟩ (fun _ => rfl) (fun r2 h2 n2 p2 => ?_)
  obtain ⟨rfl, f2, ad2, ng2, nM2, na2, no2, X2, Y2, Z2, F2, I2, J2, nc2, oc2, ow2, M2, hk, hv⟩ := B1 r2 h2 n2 p2
  refine z_istore C dd_L_law_774 rfl ?_
  refine z_aload_n C dd_L_law_776 rfl ?_
  refine iv_L_69 (sk := fun r => .int r :: []) (zy_f _) C dd_L_law_777 (zy_M (cc_Q_thrown l D dA s.heap.size _ _ _ F2 I2 J2 M2.1.2.2.2.1)) M2.1.2.2.2.1.1 rfl rfl ⟨by decide, by decide⟩ (Nat.le_of_ble_eq_true rfl) ⟨show cells + 2 + 0 + 0 ≤ 601024 by omega, show slots + 12 + 0 + 0 ≤ 7293034 by omega⟩ (fun _ => rfl) (fun r3 h3 n3 p3 => ?_)
  obtain ⟨rfl, rfl, rfl⟩ := p3
  refine z_iload C dd_L_law_780 rfl ?_
  refine z_icmp_eq (tgt := 787) C dd_L_law_782 (by decide) (fun q782 => ?_) (fun q782 => absurd hk q782)
  refine z_iload C dd_L_law_787 rfl ?_
  refine z_if_ne (tgt := 804) C dd_L_law_789 (by decide) (fun q789 => ?_) (fun q789 => ?_)
  · skip
    refine z_goto (tgt := 1085) C dd_L_law_804 (by decide) ?_
    exact kt _ _ _ _ _ _ ⟨f2, ad2, ng2, nM2, na2, no2, X2, Y2, Z2, F2, I2, J2, nc2, oc2, ow2, M2⟩ (show cells + 2 + 0 + 0 ≤ cells + 14 by omega) (show slots + 12 + 0 + 0 ≤ slots + 480 by omega)
  · skip
    refine z_aload_n C dd_L_law_792 rfl ?_
    refine z_iconst (v := 0) C dd_L_law_793 (by decide) ?_
    refine z_lald (t0 := 1) C rfl dd_L_law_794 M2.1.2.2.2.2.1 (by unfold vp_in; decide) ?_
    refine z_iload C dd_L_law_795 rfl ?_
    refine z_i2l C dd_L_law_797 ?_
    refine z_lcmp C dd_L_law_798 ?_
    refine z_if_eq (tgt := 804) C dd_L_law_799 (by decide) (fun q799 => ?_) (fun q799 => absurd ((pu_lcmp _ _).mpr (hv q789)) q799)
    refine z_goto (tgt := 1085) C dd_L_law_804 (by decide) ?_
    exact kt _ _ _ _ _ _ ⟨f2, ad2, ng2, nM2, na2, no2, X2, Y2, Z2, F2, I2, J2, nc2, oc2, ow2, M2⟩ (show cells + 2 + 0 + 0 ≤ cells + 14 by omega) (show slots + 12 + 0 + 0 ≤ slots + 480 by omega)
set_option maxHeartbeats 4000000 in
set_option maxRecDepth 20000 in
theorem la_node (l : Launch) {D : va_G} {dA : Nat → ClassId} {p : Program} {e : Env} {s : State} {m : MethodId} {below : List Frame} {meth : Method} {c : Code} {nm : String} {b L9 : Nat} {xs : Nat → Int32} (hl : l.stackTraces = false) (C : zz_C D zz_cl (zz_ty dA) s.heap.size zz_tb (zy_x s.heap.size) p s m #[Value.ref b] meth c code RR_L ret nm) (hX : va_X b L9 xs s s.heap) (hbl : b < s.heap.size) (hB : ¬ s.heap.size ≤ b) (hL : L9 ≤ 3072) {i : Nat} (hi : i + 6 ≤ L9) {h : zz_H} {n cells slots : Nat} {L5 L6 : Option Value} (hS : lx_A dA s.heap.size n h) (hc : cells ≤ 600000) (hs : slots ≤ 7200000) (kt : ∀ (h' : zz_H) (n' c' s' : Nat) (L5 L6 : Option Value), lx_A dA s.heap.size n' h' → c' ≤ cells + 14 → s' ≤ slots + 480 → zz_W D zz_cl s.heap.size p l e room_1 s m #[Value.ref b] below meth c (lw_Z below #[Value.ref b] s) h' n' c' s' [some (.ref b), some (.ref s.heap.size), some (.ref (s.heap.size + 25)), some (.ref (s.heap.size + 61)), some (.int (nI i)), L5, L6] 1085 []) : zz_W D zz_cl s.heap.size p l e room_1 s m #[Value.ref b] below meth c (lw_Z below #[Value.ref b] s) h n cells slots [some (.ref b), some (.ref s.heap.size), some (.ref (s.heap.size + 25)), some (.ref (s.heap.size + 61)), some (.int (nI i)), L5, L6] 807 [] := by
  obtain ⟨f, ad, ng, nM, na, no, X, Y, Z, F, I, J, nc, oc, ow, M⟩ := hS
  refine z_aload_n C dd_L_law_807 rfl ?_
  refine z_aload_n C dd_L_law_808 rfl ?_
  refine z_iload C dd_L_law_809 rfl ?_
  refine z_iconst (v := 1) C dd_L_law_811 (by decide) ?_
  refine z_iadd C dd_L_law_812 ?_
  refine z_sld C hX hbl hB dd_L_law_813 (lx_in1 hi hL) ?_
  refine z_aload_n C dd_L_law_814 rfl ?_
  refine z_iload C dd_L_law_815 rfl ?_
  refine z_iconst (v := 2) C dd_L_law_817 (by decide) ?_
  refine z_iadd C dd_L_law_818 ?_
  refine z_sld C hX hbl hB dd_L_law_819 (lx_in2 hi hL) ?_
  refine z_aload_n C dd_L_law_820 rfl ?_
  refine z_iload C dd_L_law_821 rfl ?_
  refine z_iconst (v := 3) C dd_L_law_823 (by decide) ?_
  refine z_iadd C dd_L_law_824 ?_
  refine z_sld C hX hbl hB dd_L_law_825 (lx_in3 hi hL) ?_
  refine z_aload_n C dd_L_law_826 rfl ?_
  have hM := (cd_D_node l D dA s.heap.size h n ad ng nM na no X Y Z M.1.1 F I nc oc ow M.2.1.1 (xs (nI i + 1).toNatClampNeg) (xs (nI i + 2).toNatClampNeg) (xs (nI i + 3).toNatClampNeg) hl)
  refine is_L_103 (sk := fun r => .int r :: []) (zy_f _) C dd_L_law_827 (cc_L_node l D dA s.heap.size _ _ s.heap.size _ f _ (xs (nI i + 1).toNatClampNeg) (xs (nI i + 2).toNatClampNeg) (xs (nI i + 3).toNatClampNeg) hM M.1.2.2.1 M.1.hq (lx_o_node M.1) lx_e_node) rfl rfl ⟨by decide, by decide⟩ (Nat.le_of_ble_eq_true rfl) ⟨show cells + 4 ≤ 601024 by omega, show slots + 24 ≤ 7293034 by omega⟩ (fun _ => rfl) (fun k1 h1 n1 p1 => ?_)
  obtain ⟨hn1, Q1, B1⟩ := lx_node M p1
  refine z_istore C dd_L_law_830 rfl ?_
  refine z_aload_n C dd_L_law_832 rfl ?_
  refine z_aload_n C dd_L_law_833 rfl ?_
  refine z_iload C dd_L_law_834 rfl ?_
  refine z_iconst (v := 1) C dd_L_law_836 (by decide) ?_
  refine z_iadd C dd_L_law_837 ?_
  refine z_sld C hX hbl hB dd_L_law_838 (lx_in1 hi hL) ?_
  refine z_aload_n C dd_L_law_839 rfl ?_
  refine z_iload C dd_L_law_840 rfl ?_
  refine z_iconst (v := 2) C dd_L_law_842 (by decide) ?_
  refine z_iadd C dd_L_law_843 ?_
  refine z_sld C hX hbl hB dd_L_law_844 (lx_in2 hi hL) ?_
  refine z_aload_n C dd_L_law_845 rfl ?_
  refine z_iload C dd_L_law_846 rfl ?_
  refine z_iconst (v := 3) C dd_L_law_848 (by decide) ?_
  refine z_iadd C dd_L_law_849 ?_
  refine z_sld C hX hbl hB dd_L_law_850 (lx_in3 hi hL) ?_
  refine iv_L_105 (sk := fun r => .int r :: []) (zy_f _) C dd_L_law_851 (zy_M (cc_Q_node l D dA s.heap.size _ _ _ F I J Q1 nc ng nM M.2.1.1.1.1 M.2.1.2.1.2.2.2.1 (xs (nI i + 1).toNatClampNeg) (xs (nI i + 2).toNatClampNeg) (xs (nI i + 3).toNatClampNeg))) Q1.1 rfl rfl ⟨by decide, by decide⟩ (Nat.le_of_ble_eq_true rfl) ⟨show cells + 4 + 0 ≤ 601024 by omega, show slots + 24 + 0 ≤ 7293034 by omega⟩ (fun _ => rfl) (fun r2 h2 n2 p2 => ?_)
  obtain ⟨rfl, f2, ad2, ng2, nM2, na2, no2, X2, Y2, Z2, F2, I2, J2, nc2, oc2, ow2, M2, hk, hv⟩ := B1 r2 h2 n2 p2
  refine z_istore C dd_L_law_854 rfl ?_
  refine z_aload_n C dd_L_law_856 rfl ?_
  refine iv_L_69 (sk := fun r => .int r :: []) (zy_f _) C dd_L_law_857 (zy_M (cc_Q_thrown l D dA s.heap.size _ _ _ F2 I2 J2 M2.1.2.2.2.1)) M2.1.2.2.2.1.1 rfl rfl ⟨by decide, by decide⟩ (Nat.le_of_ble_eq_true rfl) ⟨show cells + 4 + 0 + 0 ≤ 601024 by omega, show slots + 24 + 0 + 0 ≤ 7293034 by omega⟩ (fun _ => rfl) (fun r3 h3 n3 p3 => ?_)
  obtain ⟨rfl, rfl, rfl⟩ := p3
  refine z_iload C dd_L_law_860 rfl ?_
  refine z_icmp_eq (tgt := 867) C dd_L_law_862 (by decide) (fun q862 => ?_) (fun q862 => absurd hk q862)
  refine z_iload C dd_L_law_867 rfl ?_
  refine z_if_ne (tgt := 884) C dd_L_law_869 (by decide) (fun q869 => ?_) (fun q869 => ?_)
  · skip
    refine z_goto (tgt := 1085) C dd_L_law_884 (by decide) ?_
    exact kt _ _ _ _ _ _ ⟨f2, ad2, ng2, nM2, na2, no2, X2, Y2, Z2, F2, I2, J2, nc2, oc2, ow2, M2⟩ (show cells + 4 + 0 + 0 ≤ cells + 14 by omega) (show slots + 24 + 0 + 0 ≤ slots + 480 by omega)
  · skip
    refine z_aload_n C dd_L_law_872 rfl ?_
    refine z_iconst (v := 0) C dd_L_law_873 (by decide) ?_
    refine z_lald (t0 := 1) C rfl dd_L_law_874 M2.1.2.2.2.2.1 (by unfold vp_in; decide) ?_
    refine z_iload C dd_L_law_875 rfl ?_
    refine z_i2l C dd_L_law_877 ?_
    refine z_lcmp C dd_L_law_878 ?_
    refine z_if_eq (tgt := 884) C dd_L_law_879 (by decide) (fun q879 => ?_) (fun q879 => absurd ((pu_lcmp _ _).mpr (hv q869)) q879)
    refine z_goto (tgt := 1085) C dd_L_law_884 (by decide) ?_
    exact kt _ _ _ _ _ _ ⟨f2, ad2, ng2, nM2, na2, no2, X2, Y2, Z2, F2, I2, J2, nc2, oc2, ow2, M2⟩ (show cells + 4 + 0 + 0 ≤ cells + 14 by omega) (show slots + 24 + 0 + 0 ≤ slots + 480 by omega)
set_option maxHeartbeats 4000000 in
set_option maxRecDepth 20000 in
theorem la_test (l : Launch) {D : va_G} {dA : Nat → ClassId} {p : Program} {e : Env} {s : State} {m : MethodId} {below : List Frame} {meth : Method} {c : Code} {nm : String} {b L9 : Nat} {xs : Nat → Int32} (hl : l.stackTraces = false) (C : zz_C D zz_cl (zz_ty dA) s.heap.size zz_tb (zy_x s.heap.size) p s m #[Value.ref b] meth c code RR_L ret nm) (hX : va_X b L9 xs s s.heap) (hbl : b < s.heap.size) (hB : ¬ s.heap.size ≤ b) (hL : L9 ≤ 3072) {i : Nat} (hi : i + 6 ≤ L9) {h : zz_H} {n cells slots : Nat} {L5 L6 : Option Value} (hS : lx_A dA s.heap.size n h) (hc : cells ≤ 600000) (hs : slots ≤ 7200000) (kt : ∀ (h' : zz_H) (n' c' s' : Nat) (L5 L6 : Option Value), lx_A dA s.heap.size n' h' → c' ≤ cells + 14 → s' ≤ slots + 480 → zz_W D zz_cl s.heap.size p l e room_1 s m #[Value.ref b] below meth c (lw_Z below #[Value.ref b] s) h' n' c' s' [some (.ref b), some (.ref s.heap.size), some (.ref (s.heap.size + 25)), some (.ref (s.heap.size + 61)), some (.int (nI i)), L5, L6] 1085 []) : zz_W D zz_cl s.heap.size p l e room_1 s m #[Value.ref b] below meth c (lw_Z below #[Value.ref b] s) h n cells slots [some (.ref b), some (.ref s.heap.size), some (.ref (s.heap.size + 25)), some (.ref (s.heap.size + 61)), some (.int (nI i)), L5, L6] 887 [] := by
  obtain ⟨f, ad, ng, nM, na, no, X, Y, Z, F, I, J, nc, oc, ow, M⟩ := hS
  refine z_aload_n C dd_L_law_887 rfl ?_
  refine z_aload_n C dd_L_law_888 rfl ?_
  refine z_iload C dd_L_law_889 rfl ?_
  refine z_iconst (v := 1) C dd_L_law_891 (by decide) ?_
  refine z_iadd C dd_L_law_892 ?_
  refine z_sld C hX hbl hB dd_L_law_893 (lx_in1 hi hL) ?_
  refine z_aload_n C dd_L_law_894 rfl ?_
  refine z_iload C dd_L_law_895 rfl ?_
  refine z_iconst (v := 2) C dd_L_law_897 (by decide) ?_
  refine z_iadd C dd_L_law_898 ?_
  refine z_sld C hX hbl hB dd_L_law_899 (lx_in2 hi hL) ?_
  refine z_aload_n C dd_L_law_900 rfl ?_
  refine z_iload C dd_L_law_901 rfl ?_
  refine z_iconst (v := 3) C dd_L_law_903 (by decide) ?_
  refine z_iadd C dd_L_law_904 ?_
  refine z_sld C hX hbl hB dd_L_law_905 (lx_in3 hi hL) ?_
  refine z_aload_n C dd_L_law_906 rfl ?_
  have hM := (cd_D_test l D dA s.heap.size h n ad ng nM na no X Y Z M.1.1 F I nc oc ow M.2.1.1 (xs (nI i + 1).toNatClampNeg) (xs (nI i + 2).toNatClampNeg) (xs (nI i + 3).toNatClampNeg) hl)
  refine is_L_106 (sk := fun r => .int r :: []) (zy_f _) C dd_L_law_907 (cc_L_test l D dA s.heap.size _ _ s.heap.size _ f _ (xs (nI i + 1).toNatClampNeg) (xs (nI i + 2).toNatClampNeg) (xs (nI i + 3).toNatClampNeg) hM M.1.2.2.1 M.1.hq (lx_o_test M.1) lx_e_test) rfl rfl ⟨by decide, by decide⟩ (Nat.le_of_ble_eq_true rfl) ⟨show cells + 4 ≤ 601024 by omega, show slots + 24 ≤ 7293034 by omega⟩ (fun _ => rfl) (fun k1 h1 n1 p1 => ?_)
  obtain ⟨hn1, Q1, B1⟩ := lx_test M p1
  refine z_istore C dd_L_law_910 rfl ?_
  refine z_aload_n C dd_L_law_912 rfl ?_
  refine z_aload_n C dd_L_law_913 rfl ?_
  refine z_iload C dd_L_law_914 rfl ?_
  refine z_iconst (v := 1) C dd_L_law_916 (by decide) ?_
  refine z_iadd C dd_L_law_917 ?_
  refine z_sld C hX hbl hB dd_L_law_918 (lx_in1 hi hL) ?_
  refine z_aload_n C dd_L_law_919 rfl ?_
  refine z_iload C dd_L_law_920 rfl ?_
  refine z_iconst (v := 2) C dd_L_law_922 (by decide) ?_
  refine z_iadd C dd_L_law_923 ?_
  refine z_sld C hX hbl hB dd_L_law_924 (lx_in2 hi hL) ?_
  refine z_aload_n C dd_L_law_925 rfl ?_
  refine z_iload C dd_L_law_926 rfl ?_
  refine z_iconst (v := 3) C dd_L_law_928 (by decide) ?_
  refine z_iadd C dd_L_law_929 ?_
  refine z_sld C hX hbl hB dd_L_law_930 (lx_in3 hi hL) ?_
  refine iv_L_108 (sk := fun r => .int r :: []) (zy_f _) C dd_L_law_931 (zy_M (cc_Q_test l D dA s.heap.size _ _ _ F I J Q1 nc ng nM M.2.1.1.1.1 M.2.1.2.1.2.2.2.1 (fun g9 h9 => M.2.1.2.1.2.2.2.2.1 g9 (by have := M.2.1.1.1.1.g4; omega)) (xs (nI i + 1).toNatClampNeg) (xs (nI i + 2).toNatClampNeg) (xs (nI i + 3).toNatClampNeg))) Q1.1 rfl rfl ⟨by decide, by decide⟩ (Nat.le_of_ble_eq_true rfl) ⟨show cells + 4 + 0 ≤ 601024 by omega, show slots + 24 + 0 ≤ 7293034 by omega⟩ (fun _ => rfl) (fun r2 h2 n2 p2 => ?_)
  obtain ⟨rfl, f2, ad2, ng2, nM2, na2, no2, X2, Y2, Z2, F2, I2, J2, nc2, oc2, ow2, M2, hk, hv⟩ := B1 r2 h2 n2 p2
  refine z_istore C dd_L_law_934 rfl ?_
  refine z_aload_n C dd_L_law_936 rfl ?_
  refine iv_L_69 (sk := fun r => .int r :: []) (zy_f _) C dd_L_law_937 (zy_M (cc_Q_thrown l D dA s.heap.size _ _ _ F2 I2 J2 M2.1.2.2.2.1)) M2.1.2.2.2.1.1 rfl rfl ⟨by decide, by decide⟩ (Nat.le_of_ble_eq_true rfl) ⟨show cells + 4 + 0 + 0 ≤ 601024 by omega, show slots + 24 + 0 + 0 ≤ 7293034 by omega⟩ (fun _ => rfl) (fun r3 h3 n3 p3 => ?_)
  obtain ⟨rfl, rfl, rfl⟩ := p3
  refine z_iload C dd_L_law_940 rfl ?_
  refine z_icmp_eq (tgt := 947) C dd_L_law_942 (by decide) (fun q942 => ?_) (fun q942 => absurd hk q942)
  refine z_iload C dd_L_law_947 rfl ?_
  refine z_if_ne (tgt := 964) C dd_L_law_949 (by decide) (fun q949 => ?_) (fun q949 => ?_)
  · skip
    refine z_goto (tgt := 1085) C dd_L_law_964 (by decide) ?_
    exact kt _ _ _ _ _ _ ⟨f2, ad2, ng2, nM2, na2, no2, X2, Y2, Z2, F2, I2, J2, nc2, oc2, ow2, M2⟩ (show cells + 4 + 0 + 0 ≤ cells + 14 by omega) (show slots + 24 + 0 + 0 ≤ slots + 480 by omega)
  · skip
    refine z_aload_n C dd_L_law_952 rfl ?_
    refine z_iconst (v := 0) C dd_L_law_953 (by decide) ?_
    refine z_lald (t0 := 1) C rfl dd_L_law_954 M2.1.2.2.2.2.1 (by unfold vp_in; decide) ?_
    refine z_iload C dd_L_law_955 rfl ?_
    refine z_i2l C dd_L_law_957 ?_
    refine z_lcmp C dd_L_law_958 ?_
    refine z_if_eq (tgt := 964) C dd_L_law_959 (by decide) (fun q959 => ?_) (fun q959 => absurd ((pu_lcmp _ _).mpr (hv q949)) q959)
    refine z_goto (tgt := 1085) C dd_L_law_964 (by decide) ?_
    exact kt _ _ _ _ _ _ ⟨f2, ad2, ng2, nM2, na2, no2, X2, Y2, Z2, F2, I2, J2, nc2, oc2, ow2, M2⟩ (show cells + 4 + 0 + 0 ≤ cells + 14 by omega) (show slots + 24 + 0 + 0 ≤ slots + 480 by omega)
set_option maxHeartbeats 4000000 in
set_option maxRecDepth 20000 in
theorem la_run (l : Launch) {D : va_G} {dA : Nat → ClassId} {p : Program} {e : Env} {s : State} {m : MethodId} {below : List Frame} {meth : Method} {c : Code} {nm : String} {b L9 : Nat} {xs : Nat → Int32} (hl : l.stackTraces = false) (C : zz_C D zz_cl (zz_ty dA) s.heap.size zz_tb (zy_x s.heap.size) p s m #[Value.ref b] meth c code RR_L ret nm) (hX : va_X b L9 xs s s.heap) (hbl : b < s.heap.size) (hB : ¬ s.heap.size ≤ b) (hL : L9 ≤ 3072) {i : Nat} (hi : i + 6 ≤ L9) {h : zz_H} {n cells slots : Nat} {L5 L6 : Option Value} (hS : lx_A dA s.heap.size n h) (hc : cells ≤ 600000) (hs : slots ≤ 7200000) (kt : ∀ (h' : zz_H) (n' c' s' : Nat) (L5 L6 : Option Value), lx_A dA s.heap.size n' h' → c' ≤ cells + 14 → s' ≤ slots + 480 → zz_W D zz_cl s.heap.size p l e room_1 s m #[Value.ref b] below meth c (lw_Z below #[Value.ref b] s) h' n' c' s' [some (.ref b), some (.ref s.heap.size), some (.ref (s.heap.size + 25)), some (.ref (s.heap.size + 61)), some (.int (nI i)), L5, L6] 1085 []) : zz_W D zz_cl s.heap.size p l e room_1 s m #[Value.ref b] below meth c (lw_Z below #[Value.ref b] s) h n cells slots [some (.ref b), some (.ref s.heap.size), some (.ref (s.heap.size + 25)), some (.ref (s.heap.size + 61)), some (.int (nI i)), L5, L6] 967 [] := by
  obtain ⟨f, ad, ng, nM, na, no, X, Y, Z, F, I, J, nc, oc, ow, M⟩ := hS
  refine z_aload_n C dd_L_law_967 rfl ?_
  refine z_aload_n C dd_L_law_968 rfl ?_
  refine z_iload C dd_L_law_969 rfl ?_
  refine z_iconst (v := 1) C dd_L_law_971 (by decide) ?_
  refine z_iadd C dd_L_law_972 ?_
  refine z_sld C hX hbl hB dd_L_law_973 (lx_in1 hi hL) ?_
  refine z_aload_n C dd_L_law_974 rfl ?_
  refine z_iload C dd_L_law_975 rfl ?_
  refine z_iconst (v := 2) C dd_L_law_977 (by decide) ?_
  refine z_iadd C dd_L_law_978 ?_
  refine z_sld C hX hbl hB dd_L_law_979 (lx_in2 hi hL) ?_
  refine z_aload_n C dd_L_law_980 rfl ?_
  refine z_iload C dd_L_law_981 rfl ?_
  refine z_iconst (v := 3) C dd_L_law_983 (by decide) ?_
  refine z_iadd C dd_L_law_984 ?_
  refine z_sld C hX hbl hB dd_L_law_985 (lx_in3 hi hL) ?_
  refine z_aload_n C dd_L_law_986 rfl ?_
  refine z_iload C dd_L_law_987 rfl ?_
  refine z_iconst (v := 4) C dd_L_law_989 (by decide) ?_
  refine z_iadd C dd_L_law_990 ?_
  refine z_sld C hX hbl hB dd_L_law_991 (lx_in4 hi hL) ?_
  refine z_aload_n C dd_L_law_992 rfl ?_
  have hM := (cd_D_run l D dA s.heap.size h n ad ng nM na no X Y Z M.1.1 F I nc oc ow M.2.1.1 (xs (nI i + 1).toNatClampNeg) (xs (nI i + 2).toNatClampNeg) (xs (nI i + 3).toNatClampNeg) (xs (nI i + 4).toNatClampNeg) hl)
  refine is_L_109 (sk := fun r => .int r :: []) (zy_f _) C dd_L_law_993 (cc_L_run l D dA s.heap.size _ _ s.heap.size _ f _ (xs (nI i + 1).toNatClampNeg) (xs (nI i + 2).toNatClampNeg) (xs (nI i + 3).toNatClampNeg) (xs (nI i + 4).toNatClampNeg) hM M.1.2.2.1 M.1.hq (lx_o_run M.1) lx_e_run) rfl rfl ⟨by decide, by decide⟩ (Nat.le_of_ble_eq_true rfl) ⟨show cells + 4 ≤ 601024 by omega, show slots + 24 ≤ 7293034 by omega⟩ (fun _ => rfl) (fun k1 h1 n1 p1 => ?_)
  obtain ⟨hn1, Q1, B1⟩ := lx_run M p1
  refine z_istore C dd_L_law_996 rfl ?_
  refine z_aload_n C dd_L_law_998 rfl ?_
  refine z_aload_n C dd_L_law_999 rfl ?_
  refine z_iload C dd_L_law_1000 rfl ?_
  refine z_iconst (v := 1) C dd_L_law_1002 (by decide) ?_
  refine z_iadd C dd_L_law_1003 ?_
  refine z_sld C hX hbl hB dd_L_law_1004 (lx_in1 hi hL) ?_
  refine z_aload_n C dd_L_law_1005 rfl ?_
  refine z_iload C dd_L_law_1006 rfl ?_
  refine z_iconst (v := 2) C dd_L_law_1008 (by decide) ?_
  refine z_iadd C dd_L_law_1009 ?_
  refine z_sld C hX hbl hB dd_L_law_1010 (lx_in2 hi hL) ?_
  refine z_aload_n C dd_L_law_1011 rfl ?_
  refine z_iload C dd_L_law_1012 rfl ?_
  refine z_iconst (v := 3) C dd_L_law_1014 (by decide) ?_
  refine z_iadd C dd_L_law_1015 ?_
  refine z_sld C hX hbl hB dd_L_law_1016 (lx_in3 hi hL) ?_
  refine z_aload_n C dd_L_law_1017 rfl ?_
  refine z_iload C dd_L_law_1018 rfl ?_
  refine z_iconst (v := 4) C dd_L_law_1020 (by decide) ?_
  refine z_iadd C dd_L_law_1021 ?_
  refine z_sld C hX hbl hB dd_L_law_1022 (lx_in4 hi hL) ?_
  refine iv_L_112 (sk := fun r => .int r :: []) (zy_f _) C dd_L_law_1023 (zy_M (cc_Q_run l D dA s.heap.size _ _ _ F I J Q1 nc ng nM M.2.1.1.1.1 M.2.1.gs M.2.1.1.1.2.2 M.2.1.2.1.1 (xs (nI i + 1).toNatClampNeg) (xs (nI i + 2).toNatClampNeg) (xs (nI i + 3).toNatClampNeg) (xs (nI i + 4).toNatClampNeg))) Q1.1 rfl rfl ⟨by decide, by decide⟩ (Nat.le_of_ble_eq_true rfl) ⟨show cells + 4 + 0 ≤ 601024 by omega, show slots + 24 + 0 ≤ 7293034 by omega⟩ (fun _ => rfl) (fun r2 h2 n2 p2 => ?_)
  obtain ⟨rfl, f2, ad2, ng2, nM2, na2, no2, X2, Y2, Z2, F2, I2, J2, nc2, oc2, ow2, M2, hk, hv⟩ := B1 r2 h2 n2 p2
  refine z_istore C dd_L_law_1026 rfl ?_
  refine z_aload_n C dd_L_law_1028 rfl ?_
  refine iv_L_69 (sk := fun r => .int r :: []) (zy_f _) C dd_L_law_1029 (zy_M (cc_Q_thrown l D dA s.heap.size _ _ _ F2 I2 J2 M2.1.2.2.2.1)) M2.1.2.2.2.1.1 rfl rfl ⟨by decide, by decide⟩ (Nat.le_of_ble_eq_true rfl) ⟨show cells + 4 + 0 + 0 ≤ 601024 by omega, show slots + 24 + 0 + 0 ≤ 7293034 by omega⟩ (fun _ => rfl) (fun r3 h3 n3 p3 => ?_)
  obtain ⟨rfl, rfl, rfl⟩ := p3
  refine z_iload C dd_L_law_1032 rfl ?_
  refine z_icmp_eq (tgt := 1039) C dd_L_law_1034 (by decide) (fun q1034 => ?_) (fun q1034 => absurd hk q1034)
  refine z_iload C dd_L_law_1039 rfl ?_
  refine z_if_ne (tgt := 1056) C dd_L_law_1041 (by decide) (fun q1041 => ?_) (fun q1041 => ?_)
  · skip
    refine z_goto (tgt := 1085) C dd_L_law_1056 (by decide) ?_
    exact kt _ _ _ _ _ _ ⟨f2, ad2, ng2, nM2, na2, no2, X2, Y2, Z2, F2, I2, J2, nc2, oc2, ow2, M2⟩ (show cells + 4 + 0 + 0 ≤ cells + 14 by omega) (show slots + 24 + 0 + 0 ≤ slots + 480 by omega)
  · skip
    refine z_aload_n C dd_L_law_1044 rfl ?_
    refine z_iconst (v := 0) C dd_L_law_1045 (by decide) ?_
    refine z_lald (t0 := 1) C rfl dd_L_law_1046 M2.1.2.2.2.2.1 (by unfold vp_in; decide) ?_
    refine z_iload C dd_L_law_1047 rfl ?_
    refine z_i2l C dd_L_law_1049 ?_
    refine z_lcmp C dd_L_law_1050 ?_
    refine z_if_eq (tgt := 1056) C dd_L_law_1051 (by decide) (fun q1051 => ?_) (fun q1051 => absurd ((pu_lcmp _ _).mpr (hv q1041)) q1051)
    refine z_goto (tgt := 1085) C dd_L_law_1056 (by decide) ?_
    exact kt _ _ _ _ _ _ ⟨f2, ad2, ng2, nM2, na2, no2, X2, Y2, Z2, F2, I2, J2, nc2, oc2, ow2, M2⟩ (show cells + 4 + 0 + 0 ≤ cells + 14 by omega) (show slots + 24 + 0 + 0 ≤ slots + 480 by omega)
set_option maxHeartbeats 4000000 in
set_option maxRecDepth 20000 in
theorem la_left (l : Launch) {D : va_G} {dA : Nat → ClassId} {p : Program} {e : Env} {s : State} {m : MethodId} {below : List Frame} {meth : Method} {c : Code} {nm : String} {b L9 : Nat} {xs : Nat → Int32} (hl : l.stackTraces = false) (C : zz_C D zz_cl (zz_ty dA) s.heap.size zz_tb (zy_x s.heap.size) p s m #[Value.ref b] meth c code RR_L ret nm) (hX : va_X b L9 xs s s.heap) (hbl : b < s.heap.size) (hB : ¬ s.heap.size ≤ b) (hL : L9 ≤ 3072) {i : Nat} (hi : i + 6 ≤ L9) {h : zz_H} {n cells slots : Nat} {L5 L6 : Option Value} (hS : lx_A dA s.heap.size n h) (hc : cells ≤ 600000) (hs : slots ≤ 7200000) (kt : ∀ (h' : zz_H) (n' c' s' : Nat) (L5 L6 : Option Value), lx_A dA s.heap.size n' h' → c' ≤ cells + 14 → s' ≤ slots + 480 → zz_W D zz_cl s.heap.size p l e room_1 s m #[Value.ref b] below meth c (lw_Z below #[Value.ref b] s) h' n' c' s' [some (.ref b), some (.ref s.heap.size), some (.ref (s.heap.size + 25)), some (.ref (s.heap.size + 61)), some (.int (nI i)), L5, L6] 1085 []) : zz_W D zz_cl s.heap.size p l e room_1 s m #[Value.ref b] below meth c (lw_Z below #[Value.ref b] s) h n cells slots [some (.ref b), some (.ref s.heap.size), some (.ref (s.heap.size + 25)), some (.ref (s.heap.size + 61)), some (.int (nI i)), L5, L6] 1059 [] := by
  obtain ⟨f, ad, ng, nM, na, no, X, Y, Z, F, I, J, nc, oc, ow, M⟩ := hS
  refine z_aload_n C dd_L_law_1059 rfl ?_
  refine iv_L_113 (sk := fun r => .int r :: []) (zy_f _) C dd_L_law_1060 (zy_M (cc_D_left l D dA s.heap.size _ _ _ _ _ _ _ _ _ _ _ _ _ M.1.hq _ _ _ _ _ M.1.hm)) M.1.hq rfl rfl ⟨by decide, by decide⟩ (Nat.le_of_ble_eq_true rfl) ⟨show cells + 0 ≤ 601024 by omega, show slots + 0 ≤ 7293034 by omega⟩ (fun _ => rfl) (fun r1 h1 n1 p1 => ?_)
  obtain ⟨rfl, rfl, rfl⟩ := p1
  refine z_aload_n C dd_L_law_1063 rfl ?_
  refine iv_L_116 (sk := fun r => .int r :: [.int ((X 7 0 0))]) (zy_f _) C dd_L_law_1064 (zy_M (cc_Q_left l D dA s.heap.size _ _ _ F I J M.1.2.2.2.1)) M.1.2.2.2.1.1 rfl rfl ⟨by decide, by decide⟩ (Nat.le_of_ble_eq_true rfl) ⟨show cells + 0 + 0 ≤ 601024 by omega, show slots + 0 + 0 ≤ 7293034 by omega⟩ (fun _ => rfl) (fun r2 h2 n2 p2 => ?_)
  obtain ⟨rfl, rfl, K2⟩ := p2
  refine z_icmp_eq (tgt := 1085) C dd_L_law_1067 (by decide) (fun q1067 => ?_) (fun q1067 => absurd M.2.1.2.2.2.2.1 q1067)
  exact kt _ _ _ _ _ _ ⟨f, ad, ng, nM, na, no, X, Y, Z, _, I, J, nc, oc, ow, M.1.ref K2 (M.2.1.f0 0) M.2.2⟩ (show cells + 0 + 0 ≤ cells + 14 by omega) (show slots + 0 + 0 ≤ slots + 480 by omega)
set_option maxHeartbeats 4000000 in
set_option maxRecDepth 20000 in
theorem la_tests (l : Launch) {D : va_G} {dA : Nat → ClassId} {p : Program} {e : Env} {s : State} {m : MethodId} {below : List Frame} {meth : Method} {c : Code} {nm : String} {b L9 : Nat} {xs : Nat → Int32} (hl : l.stackTraces = false) (C : zz_C D zz_cl (zz_ty dA) s.heap.size zz_tb (zy_x s.heap.size) p s m #[Value.ref b] meth c code RR_L ret nm) (hX : va_X b L9 xs s s.heap) (hbl : b < s.heap.size) (hB : ¬ s.heap.size ≤ b) (hL : L9 ≤ 3072) {i : Nat} (hi : i + 6 ≤ L9) {h : zz_H} {n cells slots : Nat} {L5 L6 : Option Value} (hS : lx_A dA s.heap.size n h) (hc : cells ≤ 600000) (hs : slots ≤ 7200000) (kt : ∀ (h' : zz_H) (n' c' s' : Nat) (L5 L6 : Option Value), lx_A dA s.heap.size n' h' → c' ≤ cells + 14 → s' ≤ slots + 480 → zz_W D zz_cl s.heap.size p l e room_1 s m #[Value.ref b] below meth c (lw_Z below #[Value.ref b] s) h' n' c' s' [some (.ref b), some (.ref s.heap.size), some (.ref (s.heap.size + 25)), some (.ref (s.heap.size + 61)), some (.int (nI i)), L5, L6] 1085 []) : zz_W D zz_cl s.heap.size p l e room_1 s m #[Value.ref b] below meth c (lw_Z below #[Value.ref b] s) h n cells slots [some (.ref b), some (.ref s.heap.size), some (.ref (s.heap.size + 25)), some (.ref (s.heap.size + 61)), some (.int (nI i)), L5, L6] 1072 [] := by
  obtain ⟨f, ad, ng, nM, na, no, X, Y, Z, F, I, J, nc, oc, ow, M⟩ := hS
  refine z_aload_n C dd_L_law_1072 rfl ?_
  refine iv_L_117 (sk := fun r => .int r :: []) (zy_f _) C dd_L_law_1073 (zy_M (cc_D_tests l D dA s.heap.size _ _ _ _ _ _ _ _ _ _ _ _ _ M.1.hq _ _ _ _ _ M.1.hm)) M.1.hq rfl rfl ⟨by decide, by decide⟩ (Nat.le_of_ble_eq_true rfl) ⟨show cells + 0 ≤ 601024 by omega, show slots + 0 ≤ 7293034 by omega⟩ (fun _ => rfl) (fun r1 h1 n1 p1 => ?_)
  obtain ⟨rfl, rfl, rfl⟩ := p1
  refine z_aload_n C dd_L_law_1076 rfl ?_
  refine iv_L_120 (sk := fun r => .int r :: [.int ((X 7 0 1))]) (zy_f _) C dd_L_law_1077 (zy_M (cc_Q_tests l D dA s.heap.size _ _ _ F I J M.1.2.2.2.1)) M.1.2.2.2.1.1 rfl rfl ⟨by decide, by decide⟩ (Nat.le_of_ble_eq_true rfl) ⟨show cells + 0 + 0 ≤ 601024 by omega, show slots + 0 + 0 ≤ 7293034 by omega⟩ (fun _ => rfl) (fun r2 h2 n2 p2 => ?_)
  obtain ⟨rfl, rfl, K2⟩ := p2
  refine z_icmp_eq (tgt := 1085) C dd_L_law_1080 (by decide) (fun q1080 => ?_) (fun q1080 => absurd M.2.1.2.2.2.2.2 q1080)
  exact kt _ _ _ _ _ _ ⟨f, ad, ng, nM, na, no, X, Y, Z, _, I, J, nc, oc, ow, M.1.ref K2 (M.2.1.f0 0) M.2.2⟩ (show cells + 0 + 0 ≤ cells + 14 by omega) (show slots + 0 + 0 ≤ slots + 480 by omega)
set_option maxHeartbeats 4000000 in
set_option maxRecDepth 20000 in
theorem la_switch (l : Launch) {D : va_G} {dA : Nat → ClassId} {p : Program} {e : Env} {s : State} {m : MethodId} {below : List Frame} {meth : Method} {c : Code} {nm : String} {b L9 : Nat} {xs : Nat → Int32} (hl : l.stackTraces = false) (C : zz_C D zz_cl (zz_ty dA) s.heap.size zz_tb (zy_x s.heap.size) p s m #[Value.ref b] meth c code RR_L ret nm) (hX : va_X b L9 xs s s.heap) (hbl : b < s.heap.size) (hB : ¬ s.heap.size ≤ b) (hL : L9 ≤ 3072) {i : Nat} (hi : i + 6 ≤ L9) {h : zz_H} {n cells slots : Nat} {L5 L6 : Option Value} (hS : lx_A dA s.heap.size n h) (hc : cells ≤ 600000) (hs : slots ≤ 7200000) (kt : ∀ (h' : zz_H) (n' c' s' : Nat) (L5 L6 : Option Value), lx_A dA s.heap.size n' h' → c' ≤ cells + 14 → s' ≤ slots + 480 → zz_W D zz_cl s.heap.size p l e room_1 s m #[Value.ref b] below meth c (lw_Z below #[Value.ref b] s) h' n' c' s' [some (.ref b), some (.ref s.heap.size), some (.ref (s.heap.size + 25)), some (.ref (s.heap.size + 61)), some (.int (nI i)), L5, L6] 1085 []) : zz_W D zz_cl s.heap.size p l e room_1 s m #[Value.ref b] below meth c (lw_Z below #[Value.ref b] s) h n cells slots [some (.ref b), some (.ref s.heap.size), some (.ref (s.heap.size + 25)), some (.ref (s.heap.size + 61)), some (.int (nI i)), L5, L6] 33 [] := by
  refine z_aload_n C dd_L_law_33 rfl ?_
  refine z_iload C dd_L_law_34 rfl ?_
  refine z_sld C hX hbl hB dd_L_law_36 (lx_in0 hi hL) ?_
  refine z_bipush (v := 15) C dd_L_law_37 (by decide) ?_
  refine z_iand C dd_L_law_39 ?_
  obtain ⟨j, hj, e9⟩ := pk_andE (xs (nI i).toNatClampNeg) (m := 15) 4 (by decide)
  refine z_topi e9.symm ?_
  rcases (show j = 0 ∨ j = 1 ∨ j = 2 ∨ j = 3 ∨ j = 4 ∨ j = 5 ∨ j = 6 ∨ j = 7 ∨ j = 8 ∨ j = 9 ∨ j = 10 ∨ j = 11 ∨ j = 12 ∨ j = 13 ∨ j = 14 ∨ j = 15 by omega) with rfl | rfl | rfl | rfl | rfl | rfl | rfl | rfl | rfl | rfl | rfl | rfl | rfl | rfl | rfl | rfl
  · exact z_tableIn (off := 76) (tgt := 116) C dd_L_law_40 (by decide) (by decide) (by decide) (by decide) (la_klass l hl C hX hbl hB hL hi hS hc hs kt)
  · exact z_tableIn (off := 132) (tgt := 172) C dd_L_law_40 (by decide) (by decide) (by decide) (by decide) (la_generic l hl C hX hbl hB hL hi hS hc hs kt)
  · exact z_tableIn (off := 188) (tgt := 228) C dd_L_law_40 (by decide) (by decide) (by decide) (by decide) (la_method l hl C hX hbl hB hL hi hS hc hs kt)
  · exact z_tableIn (off := 244) (tgt := 284) C dd_L_law_40 (by decide) (by decide) (by decide) (by decide) (la_atom l hl C hX hbl hB hL hi hS hc hs kt)
  · exact z_tableIn (off := 364) (tgt := 404) C dd_L_law_40 (by decide) (by decide) (by decide) (by decide) (la_operation l hl C hX hbl hB hL hi hS hc hs kt)
  · exact z_tableIn (off := 444) (tgt := 484) C dd_L_law_40 (by decide) (by decide) (by decide) (by decide) (la_beyond l hl C hX hbl hB hL hi hS hc hs kt)
  · exact z_tableIn (off := 519) (tgt := 559) C dd_L_law_40 (by decide) (by decide) (by decide) (by decide) (la_best l hl C hX hbl hB hL hi hS hc hs kt)
  · exact z_tableIn (off := 599) (tgt := 639) C dd_L_law_40 (by decide) (by decide) (by decide) (by decide) (la_check l hl C hX hbl hB hL hi hS hc hs kt)
  · exact z_tableIn (off := 655) (tgt := 695) C dd_L_law_40 (by decide) (by decide) (by decide) (by decide) (la_witness l hl C hX hbl hB hL hi hS hc hs kt)
  · exact z_tableIn (off := 711) (tgt := 751) C dd_L_law_40 (by decide) (by decide) (by decide) (by decide) (la_compile l hl C hX hbl hB hL hi hS hc hs kt)
  · exact z_tableIn (off := 767) (tgt := 807) C dd_L_law_40 (by decide) (by decide) (by decide) (by decide) (la_node l hl C hX hbl hB hL hi hS hc hs kt)
  · exact z_tableIn (off := 847) (tgt := 887) C dd_L_law_40 (by decide) (by decide) (by decide) (by decide) (la_test l hl C hX hbl hB hL hi hS hc hs kt)
  · exact z_tableIn (off := 927) (tgt := 967) C dd_L_law_40 (by decide) (by decide) (by decide) (by decide) (la_run l hl C hX hbl hB hL hi hS hc hs kt)
  · exact z_tableIn (off := 1019) (tgt := 1059) C dd_L_law_40 (by decide) (by decide) (by decide) (by decide) (la_left l hl C hX hbl hB hL hi hS hc hs kt)
  · exact z_tableIn (off := 1032) (tgt := 1072) C dd_L_law_40 (by decide) (by decide) (by decide) (by decide) (la_tests l hl C hX hbl hB hL hi hS hc hs kt)
  · exact z_tableOut (tgt := 1085) C dd_L_law_40 (by decide) (by decide) (kt _ _ _ _ _ _ hS (by omega) (by omega))
set_option maxHeartbeats 4000000 in
set_option maxRecDepth 20000 in
theorem la_loop (l : Launch) {D : va_G} {dA : Nat → ClassId} {p : Program} {e : Env} {s : State} {m : MethodId} {below : List Frame} {meth : Method} {c : Code} {nm : String} {b L9 : Nat} {xs : Nat → Int32} (hl : l.stackTraces = false) (C : zz_C D zz_cl (zz_ty dA) s.heap.size zz_tb (zy_x s.heap.size) p s m #[Value.ref b] meth c code RR_L ret nm) (hX : va_X b L9 xs s s.heap) (hbl : b < s.heap.size) (hB : ¬ s.heap.size ≤ b) (hL : L9 ≤ 3072) : ∀ d k, L9 ≤ 6 * k + 6 * d + 5 → 6 * k ≤ 3072 → ∀ (h : zz_H) (n cells slots : Nat) (L5 L6 : Option Value), lx_A dA s.heap.size n h → cells ≤ 62 + 14 * k → slots ≤ 27152 + 480 * k → zz_W D zz_cl s.heap.size p l e room_1 s m #[Value.ref b] below meth c (lw_Z below #[Value.ref b] s) h n cells slots [some (.ref b), some (.ref s.heap.size), some (.ref (s.heap.size + 25)), some (.ref (s.heap.size + 61)), some (.int (nI (6 * k))), L5, L6] 23 [] := by
  intro d
  induction d with
  | zero =>
    intro k h1 h2 h n cells slots L5 L6 hS hc hs
    refine z_iload C dd_L_law_23 rfl ?_
    refine z_aload_n C dd_L_law_25 rfl ?_
    refine z_slen C hX hbl hB dd_L_law_26 ?_
    refine z_bipush (v := 6) C dd_L_law_27 (by decide) ?_
    refine z_isub C dd_L_law_29 ?_
    refine z_icmp_gt (tgt := 1091) C dd_L_law_30 (by decide) (fun q30 => ?_) (fun q30 => ?_)
    · refine z_iconst (v := 1) C dd_L_law_1091 (by decide) ?_
      exact z_lawret C dd_L_law_1092 (by omega) (by omega)
    · exact absurd ((lx_gt hL h2).mpr (by omega)) q30
  | succ d ih =>
    intro k h1 h2 h n cells slots L5 L6 hS hc hs
    refine z_iload C dd_L_law_23 rfl ?_
    refine z_aload_n C dd_L_law_25 rfl ?_
    refine z_slen C hX hbl hB dd_L_law_26 ?_
    refine z_bipush (v := 6) C dd_L_law_27 (by decide) ?_
    refine z_isub C dd_L_law_29 ?_
    refine z_icmp_gt (tgt := 1091) C dd_L_law_30 (by decide) (fun q30 => ?_) (fun q30 => ?_)
    · refine z_iconst (v := 1) C dd_L_law_1091 (by decide) ?_
      exact z_lawret C dd_L_law_1092 (by omega) (by omega)
    · have h9 : 6 * k + 6 ≤ L9 := by
        rcases Nat.lt_or_ge L9 (6 * k + 6) with h9 | h9
        · exact absurd ((lx_gt hL h2).mpr h9) q30
        · exact h9
      refine la_switch l hl C hX hbl hB hL h9 hS (by omega) (by omega) (fun h' n' c' s' L5 L6 hS' hc' hs' => ?_)
      refine z_iinc C dd_L_law_1085 rfl rfl ?_
      refine z_goto (tgt := 23) C dd_L_law_1088 (by decide) ?_
      rw [lx_six]
      exact ih (k + 1) (by omega) (by omega) h' n' c' s' L5 L6 hS' (by omega) (by omega)
