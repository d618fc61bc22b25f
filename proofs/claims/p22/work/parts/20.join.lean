/-! calls over a piece of the world, handlers, methods with a table, the law's own cells -/
def jOk (isC isR : List Nat) : Bool := va_nd isC && (va_nd isR && isR.all (fun i => !isC.contains i))
theorem jOk_spec {isC isR : List Nat} (h : jOk isC isR = true) : va_nd isC = true ∧ va_nd isR = true ∧ ∀ i ∈ isR, i ∉ isC := by
  simp only [jOk, Bool.and_eq_true] at h
  refine ⟨h.1, h.2.1, fun i hi => ?_⟩
  have h3 := List.all_eq_true.mp h.2.2 i hi
  simpa using h3
section
variable {p : Program} {l : Launch} {e : Env} {R : Room} {s : State} {m : MethodId} {args : Array Value} {below : List Frame} {meth : Method} {c : Code} {D : va_G} {A : Nat → Prop} {tys : List (ClassId × FieldType)} {cc : ByteArray} {own : String} {n cells slots pc : Nat} {Q : State → Prop} {ws wc wr : va_W} {L : List (Nat × Value)} {st : List Value}
variable {y : MethodName} {cd : ByteArray} {maxL k9 idx : Nat} {ret : Option FieldType} {rm : Room} {As rest : List Value} {post : Option Value → va_W → Prop} {pe : String → va_W → Prop} {b : Nat} {C : String}
theorem gg_perm (is : List Nat) {ws' : va_W} (hn : va_nd is = true) (h : is.map (fun i => ws[i]?) = ws'.map some) (k : gg p l e R s m args below meth c D A n cells slots Q ws' pc L st) : gg p l e R s m args below meth c D A n cells slots Q ws pc L st :=
  fun H locs ls hP hD hS hl => k H locs ls (hP.sub is (fm_of_map h)) (hD.sub is hn h) hS hl
theorem gg_callJ (isC isR : List Nat) (hj : jOk isC isR = true) (hC : isC.map (fun i => ws[i]?) = wc.map some) (hR : isR.map (fun i => ws[i]?) = wr.map some) (K : kx p s m args meth c D A tys cc own n) (ok : okV own idx C y (.code y cd maxL ret) k9) (hM : mA l D tys y cd maxL ret rm wc (.ref b :: As) post) (q0 : Nat) {ci N : Nat} {fs : List Value} {T : u_T} (hrec : wc[q0]? = some (b, .inr (ci, fs))) (hcl : vwCl[ci]? = some (C, T, N)) (hd : decode cc pc = .ok (.invokevirtual idx, 3)) (hst : st = As.reverse ++ .ref b :: rest) (hAs : As.length = k9) (hr : rOk rm R maxL cells slots = true) (hw : c8 rest = true)
    (kk : ∀ (v : Option Value) (u : va_W), post v u → gg p l e R s m args below meth c D A n (cells + rm.cells) (slots + rm.slots) Q (wr ++ u) (pc + 3) L (v.toList ++ rest)) : gg p l e R s m args below meth c D A n cells slots Q ws pc L st := by
  intro H locs ls hP hD hS hl
  subst hst
  obtain ⟨j1, j2, j3⟩ := jOk_spec hj
  have hPc := hP.sub isC (fm_of_map hC)
  have hDc := hD.sub isC j1 hC
  have hF := va_free hD hS K.2.2.1 isC hC
  refine va_callo (va_runV (As := As) (rest := rest) K.1 (hM H.size) (cwV k9 K.1.2.2.2.2 ok.1 rfl rfl rfl ok.2 (rOk_spec hr).1) ⟨inW_blind, va_recv K.2.1 hPc hcl hrec, fun U hU hW => ⟨rfl, by rw [hU], by rw [hU]; exact hPc, va_K.moved hW.alike K.2.1, hDc.weaken (fun _ _ _ _ => trivial)⟩⟩ rfl hAs hl.1 rfl (lv_room (Nat.le_of_ble_eq_true hw)) hd (rOk_spec hr).2) hS (fun q _ h => hF q h) hF (fun v u t H1 locs1 ht hvm hp hB hz hk hS1 => ?_)
  obtain ⟨hP1, hK1, hD1⟩ := hB
  rw [ht] at hP1
  obtain ⟨hP2, hD2⟩ := va_join hP hD isC isR hC hR j2 j3 hk hF hP1 hD1
  exact kk v u hp H1 locs1 ls hP2 hD2 hS1 hl
theorem gg_callJX (isC isR : List Nat) (hj : jOk isC isR = true) (hC : isC.map (fun i => ws[i]?) = wc.map some) (hR : isR.map (fun i => ws[i]?) = wr.map some) (K : kx p s m args meth c D A tys cc own n) (T9 : te A s s.heap) (ok : okV own idx C y (.code y cd maxL ret) k9) (hM : mX l D tys y (.code y cd maxL ret) rm wc (.ref b :: As) post pe) (q0 : Nat) {ci N : Nat} {fs : List Value} {T : u_T} (hrec : wc[q0]? = some (b, .inr (ci, fs))) (hcl : vwCl[ci]? = some (C, T, N)) (hd : decode cc pc = .ok (.invokevirtual idx, 3)) (hst : st = As.reverse ++ .ref b :: rest) (hAs : As.length = k9) (hr : rOk rm R maxL cells slots = true) (hw : c8 rest = true)
    (kt : ∀ (E : String) (u : va_W), pe E u → gx p l e R s m args below meth c D A n (cells + rm.cells) (slots + rm.slots) Q (wr ++ u) pc L rest E)
    (kk : ∀ (v : Option Value) (u : va_W), post v u → gg p l e R s m args below meth c D A n (cells + rm.cells) (slots + rm.slots) Q (wr ++ u) (pc + 3) L (v.toList ++ rest)) : gg p l e R s m args below meth c D A n cells slots Q ws pc L st := by
  intro H locs ls hP hD hS hl
  subst hst
  obtain ⟨j1, j2, j3⟩ := jOk_spec hj
  have hPc := hP.sub isC (fm_of_map hC)
  have hDc := hD.sub isC j1 hC
  have hF := va_free hD hS K.2.2.1 isC hC
  refine vx_callo (vx_runV (As := As) (rest := rest) K.1 (hM H.size) (cwV k9 K.1.2.2.2.2 ok.1 rfl rfl rfl ok.2 (rOk_spec hr).1) ⟨inX_blind, va_recv K.2.1 hPc hcl hrec, fun U hU hW => ⟨rfl, ⟨by rw [hU], by rw [hU]; exact hPc, va_K.moved hW.alike K.2.1, hDc.weaken (fun _ _ _ _ => trivial)⟩, by rw [hU]; exact T9.go hW hS hF⟩⟩ rfl hAs hl.1 rfl (lv_room (Nat.le_of_ble_eq_true hw)) hd (rOk_spec hr).2) hS (fun q _ h => hF q h) hF (fun E ce q9 u t H1 locs1 ht hvm hp hB hz hk hS1 h1 h2 h3 => ?_) (fun v u t H1 locs1 ht hvm hp hB hz hk hS1 => ?_)
  · obtain ⟨hP1, hK1, hD1⟩ := hB
    rw [ht] at hP1
    obtain ⟨hP2, hD2⟩ := va_join hP hD isC isR hC hR j2 j3 hk hF hP1 hD1
    exact kt E u hp H1 locs1 ls ce q9 hP2 hD2 hS1 hl h1 h2 h3
  · obtain ⟨hP1, hK1, hD1⟩ := hB
    rw [ht] at hP1
    obtain ⟨hP2, hD2⟩ := va_join hP hD isC isR hC hR j2 j3 hk hF hP1 hD1
    exact kk v u hp H1 locs1 ls hP2 hD2 hS1 hl
/-- a static method with a table, that lets no throw out -/
theorem gg_callJH {hh : List (Nat × Nat × Nat × Nat)} (isC isR : List Nat) (hj : jOk isC isR = true) (hC : isC.map (fun i => ws[i]?) = wc.map some) (hR : isR.map (fun i => ws[i]?) = wr.map some) (K : kx p s m args meth c D A tys cc own n) (T9 : te A s s.heap) (ok : okS own idx y (.codeWith y cd maxL ret hh) k9) (hM : mX l D tys y (.codeWith y cd maxL ret hh) rm wc As post (fun _ _ => False)) (hd : decode cc pc = .ok (.invokestatic idx, 3)) (hst : st = As.reverse ++ rest) (hAs : As.length = k9) (hr : rOk rm R maxL cells slots = true) (hw : c8 rest = true)
    (kk : ∀ (v : Option Value) (u : va_W), post v u → gg p l e R s m args below meth c D A n (cells + rm.cells) (slots + rm.slots) Q (wr ++ u) (pc + 3) L (v.toList ++ rest)) : gg p l e R s m args below meth c D A n cells slots Q ws pc L st := by
  intro H locs ls hP hD hS hl
  subst hst
  obtain ⟨j1, j2, j3⟩ := jOk_spec hj
  have hPc := hP.sub isC (fm_of_map hC)
  have hDc := hD.sub isC j1 hC
  have hF := va_free hD hS K.2.2.1 isC hC
  refine vx_callo (vx_runSX (As := As) (rest := rest) K.1 (hM H.size) (vx_cwSW k9 K.1.2.2.2.2 ok.1 rfl rfl rfl ok.2 (rOk_spec hr).1) ⟨inX_blind, fun U hU hW => ⟨rfl, ⟨by rw [hU], by rw [hU]; exact hPc, va_K.moved hW.alike K.2.1, hDc.weaken (fun _ _ _ _ => trivial)⟩, by rw [hU]; exact T9.go hW hS hF⟩⟩ rfl hAs hl.1 rfl (lv_room (Nat.le_of_ble_eq_true hw)) hd (rOk_spec hr).2) hS (fun q _ h => hF q h) hF (fun E ce q9 u t H1 locs1 ht hvm hp hB hz hk hS1 h1 h2 h3 => hp.elim) (fun v u t H1 locs1 ht hvm hp hB hz hk hS1 => ?_)
  obtain ⟨hP1, hK1, hD1⟩ := hB
  rw [ht] at hP1
  obtain ⟨hP2, hD2⟩ := va_join hP hD isC isR hC hR j2 j3 hk hF hP1 hD1
  exact kk v u hp H1 locs1 ls hP2 hD2 hS1 hl
/-- a constructor -/
theorem gg_callJI (isC isR : List Nat) (hj : jOk isC isR = true) (hC : isC.map (fun i => ws[i]?) = wc.map some) (hR : isR.map (fun i => ws[i]?) = wr.map some) (K : kx p s m args meth c D A tys cc own n) (h0 : Cond.code y cd maxL none ∈ GW) (h1 : Cond.methodLink own idx y ∈ GW) (h2 : Cond.instanceMethod y ∈ GW) (h3 : Cond.initialized y.cls ∈ GW) (h4 : y.name = "<init>") (h5 : y.cls ≠ "java/lang/invoke/MethodHandle" ∧ y.cls ≠ "java/lang/invoke/VarHandle" ∧ (parseMethodDescriptor y.desc).map (fun d => d.parameters.length) = some 0) (hM : mA l D tys y cd maxL none rm wc [.ref b] post) (hd : decode cc pc = .ok (.invokespecial idx, 3)) (hr : rOk rm R maxL cells slots = true) (hw : c8 rest = true)
    (kk : ∀ (v : Option Value) (u : va_W), post v u → gg p l e R s m args below meth c D A n (cells + rm.cells) (slots + rm.slots) Q (wr ++ u) (pc + 3) L (v.toList ++ rest)) : gg p l e R s m args below meth c D A n cells slots Q ws pc L (.ref b :: rest) := by
  intro H locs ls hP hD hS hl
  obtain ⟨j1, j2, j3⟩ := jOk_spec hj
  have hPc := hP.sub isC (fm_of_map hC)
  have hDc := hD.sub isC j1 hC
  have hF := va_free hD hS K.2.2.1 isC hC
  refine va_callo (va_runI (As := []) (rest := rest) K.1 (hM H.size) (cwI 0 K.1.2.2.2.2 (gw_cons h0) rfl rfl rfl (K.1.2.2.2.2 _ h3) (K.1.2.2.2.2 _ h1) (K.1.2.2.2.2 _ h2) h4 h5 (rOk_spec hr).1) ⟨inW_blind, fun U hU hW => ⟨rfl, by rw [hU], by rw [hU]; exact hPc, va_K.moved hW.alike K.2.1, hDc.weaken (fun _ _ _ _ => trivial)⟩⟩ rfl rfl hl.1 rfl (lv_room (Nat.le_of_ble_eq_true hw)) hd (rOk_spec hr).2) hS (fun q _ h => hF q h) hF (fun v u t H1 locs1 ht hvm hp hB hz hk hS1 => ?_)
  obtain ⟨hP1, hK1, hD1⟩ := hB
  rw [ht] at hP1
  obtain ⟨hP2, hD2⟩ := va_join hP hD isC isR hC hR j2 j3 hk hF hP1 hD1
  exact kk v u hp H1 locs1 ls hP2 hD2 hS1 hl
/-- the handler x of the table takes the throw -/
theorem gx_catch {hh : List (Nat × Nat × Nat × Nat)} {E : String} (K : kx p s m args meth c D A tys cc own n) (T9 : te A s s.heap) (htab : c.exceptionTable.toList = tableOf hh) (pre : List ExceptionTableEntry) (x : ExceptionTableEntry) (suf : List ExceptionTableEntry) (hsplit : tableOf hh = pre ++ x :: suf) (hpass : ∀ z ∈ pre, z.catchType ≠ 0 ∧ ∃ nm : String, Cond.classLink own z.catchType nm ∈ GW ∧ (E, nm) ∈ teN) (hx : covers x pc = true) (h0 : x.catchType ≠ 0) (hlink : Cond.classLink own x.catchType E ∈ GW) (hcast : Cond.castable E E ∈ teW)
    (kk : ∀ q : Nat, gg p l e R s m args below meth c D A n cells slots Q ws x.handlerPc L [.ref q]) : gx p l e R s m args below meth c D A n cells slots Q ws pc L st E :=
  fun H locs ls ce q hP hD hS hl h1 h2 h3 => vx_catch (own := own) (name := E) K.1.2.2.2.1 pre x suf (htab.trans hsplit) (fun z hz => by
    obtain ⟨g1, nm, g2, g3⟩ := hpass z hz
    exact Or.inr ⟨g1, nm, K.1.2.2.2.2 _ g2, T9.2.2.2.2 _ g3⟩) hx h0 (K.1.2.2.2.2 _ hlink) (va_Nw.use rfl (T9.2.2.2.1 _ hcast)) h1 h2 h3 (kk q H locs ls hP hD hS hl)
end
theorem mH_intro {l : Launch} {D : va_G} {tys : List (ClassId × FieldType)} {y : MethodName} {cd : ByteArray} {maxL : Nat} {ret : Option FieldType} {hh : List (Nat × Nat × Nat × Nat)} {rm : Room} {ws : va_W} {As : List Value} {post : Option Value → va_W → Prop} {pe : String → va_W → Prop} {own : String} (L0 : List (Nat × Value)) (hy : plainName y.cls = true) (hcls : y.cls = own) (hlen : Nat.ble (lg_sl As).length maxL = true) (hL : lv_args 0 As = L0) (hc : L0.all (fun q => q.2.category == 1) = true)
    (body : ∀ (p : Program) (e : Env) (s : State) (m : MethodId) (args : Array Value) (below : List Frame) (meth : Method) (c : Code) (A : Nat → Prop), kx p s m args meth c D A tys cd own maxL → meth.sig.returnType = ret → te A s s.heap → c.exceptionTable.toList = tableOf hh → gg p l e rm s m args below meth c D A maxL 0 0 (vx_MQ below (qA D tys A post) (xA D tys A pe) args s rm.cells rm.slots A) ws 0 L0 []) : mX l D tys y (.codeWith y cd maxL ret hh) rm ws As post pe := by
  intro sz
  refine vx_ofWH (cc := cd) (maxL := maxL) (ret := ret) (hh := hh) hy rfl ?_
  intro p e s m args below meth c s₁ B hml hv
  obtain ⟨rfl, ⟨hsz, hP, hK, hD0⟩, hte⟩ := hv
  subst hsz
  have hts := atoms_spec (ws := .codeWith y cd maxL ret hh :: GW) B.pre
  have htab := vx_table (x := y) B (hts _ List.mem_cons_self)
  have hl := lv_entry As (Nat.le_of_ble_eq_true hlen)
  rw [hL] at hl
  rw [lg_entry_eq]
  exact body p e s m _ below meth c (va_A ws s.heap.size) ⟨⟨B.exec, B.bytes, hml, by rw [← hcls]; exact findClass_of_methodNamed B.named, fun w hw => hts w (List.mem_cons_of_mem _ hw)⟩, hK, fun q h => Or.inr h, B.notSynchronized⟩ B.returns hte htab s.heap [] _ hP hD0.self va_S.rf (lvk_of hl hc)
section
variable {p : Program} {l : Launch} {e : Env} {R : Room} {s : State} {m : MethodId} {args : Array Value} {below : List Frame} {meth : Method} {c : Code} {Z : ZT} {A : Nat → Prop} {cc : ByteArray} {own : String} {n cells slots pc : Nat} {Q : State → Prop} {ws ws' : va_W} {L : List (Nat × Value)} {st : List Value}
end
