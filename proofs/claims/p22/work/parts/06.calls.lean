/-! calls: contracts that return (mA) or return and throw (mX); what a throw needs (te) -/
def okV (own : String) (idx : Nat) (C : String) (y : MethodName) (c0 : Cond) (k : Nat) : Prop := GoodIn GW (wsV own idx C y (c0 :: GW)) ∧ (y.cls = C ∧ y.cls ≠ "java/lang/invoke/MethodHandle" ∧ y.cls ≠ "java/lang/invoke/VarHandle" ∧ (parseMethodDescriptor y.desc).map (fun d => d.parameters.length) = some k)
def okS (own : String) (idx : Nat) (y : MethodName) (c0 : Cond) (k : Nat) : Prop := GoodIn GW (va_wsS own idx y (c0 :: GW)) ∧ (y.cls ≠ "java/lang/invoke/MethodHandle" ∧ y.cls ≠ "java/lang/invoke/VarHandle" ∧ (parseMethodDescriptor y.desc).map (fun d => d.parameters.length) = some k)
def rOk (rm R : Room) (maxL cells slots : Nat) : Bool := Nat.ble (rm.frames + 1) R.frames && (Nat.ble (8 + (maxL + 11) + rm.locals) R.locals && (Nat.ble (cells + rm.cells) R.cells && Nat.ble (slots + rm.slots) R.slots))
theorem rOk_spec {rm R : Room} {maxL cells slots : Nat} (h : rOk rm R maxL cells slots = true) : (rm.frames + 1 ≤ R.frames ∧ 8 + (maxL + 11) + rm.locals ≤ R.locals) ∧ (cells + rm.cells ≤ R.cells ∧ slots + rm.slots ≤ R.slots) := by
  simp only [rOk, Bool.and_eq_true] at h
  exact ⟨⟨Nat.le_of_ble_eq_true h.1, Nat.le_of_ble_eq_true h.2.1⟩, Nat.le_of_ble_eq_true h.2.2.1, Nat.le_of_ble_eq_true h.2.2.2⟩
def c8 (st : List Value) : Bool := Nat.ble (st.map fun v => v.category).sum 8
theorem fm_of_map {α β : Type} {f : α → Option β} : ∀ {is : List α} {w : List β}, is.map f = w.map some → is.filterMap f = w
  | [], [], _ => rfl
  | [], _ :: _, h => by simp at h
  | _ :: _, [], h => by simp at h
  | i :: is, x :: w, h => by
    simp only [List.map_cons, List.cons.injEq] at h
    rw [List.filterMap_cons, h.1]
    simp only
    rw [fm_of_map h.2]
def strs : List (Nat × String) := [(132, "no values"), (134, "out of range"), (136, "span"), (138, "record"), (153, "references"), (165, "row"), (57, "days"), (68, "the last day"), (93, "run")]
abbrev eA : String := "java/lang/IllegalArgumentException"
abbrev eS : String := "java/lang/IllegalStateException"
abbrev eB : String := "java/lang/IndexOutOfBoundsException"
def teW : List Cond := [.castable eA eA, .castable eS eS, .castable eB eB, .declares (Bundle.initS "java/lang/RuntimeException"), .declares (Bundle.initS "java/lang/Exception"), .declares (Bundle.initS Bundle.tN)]
def teN : List (String × String) := [(eA, eS), (eA, eB), (eS, eA), (eS, eB), (eB, eA), (eB, eS)]
/-- what a throw needs of the launch's statics, texts and classes -/
def te (A : Nat → Prop) (U : State) (H : Heap) : Prop := vx_Zq Bundle.tN "UNASSIGNED_STACK" Bundle.steD A U H ∧ vx_Zq Bundle.tN "SUPPRESSED_SENTINEL" Bundle.listD A U H ∧ (∀ q ∈ strs, ∃ sa : Nat, vk_R RX0 q.1 q.2 sa U) ∧ (∀ w ∈ teW, va_Nw w U) ∧ ∀ q ∈ teN, va_Nc q.1 q.2 U
theorem teW_ot : ∀ w ∈ teW, w.onTables = true := fun w hw => by
  simp only [teW, List.mem_cons, List.not_mem_nil, or_false] at hw
  rcases hw with rfl | rfl | rfl | rfl | rfl | rfl <;> rfl
theorem teW_warm {s U : State} (hW : s.WarmedH U.vm) : ∀ w ∈ teW, va_Nw w s → va_Nw w U := fun w hw h => by
  simp only [teW, List.mem_cons, List.not_mem_nil, or_false] at hw
  rcases hw with rfl | rfl | rfl | rfl | rfl | rfl <;> first | exact va_Nw.warmC hW h | exact va_Nw.warmD hW h
theorem teW_same {u U : State} (hv : u.vm = U.vm) : ∀ w ∈ teW, va_Nw w u → va_Nw w U := fun w hw h => by
  simp only [teW, List.mem_cons, List.not_mem_nil, or_false] at hw
  rcases hw with rfl | rfl | rfl | rfl | rfl | rfl <;> exact va_Nw.same rfl hv h
theorem te.go {A B : Nat → Prop} {s U : State} {H : Heap} {locs : List Loc} (h : te A s s.heap) (hW : s.WarmedH U.vm) (hS : va_S A s.heap H locs) (hAB : ∀ q, B q → A q) : te B U H :=
  ⟨((h.1.kept hS.2.1).moved hW.alike).narrow hAB, ((h.2.1.kept hS.2.1).moved hW.alike).narrow hAB, fun q hq => by obtain ⟨sa, hsa⟩ := h.2.2.1 q hq; exact ⟨sa, hsa.warm hW⟩, fun w hw => teW_warm hW w hw (h.2.2.2.1 w hw), fun q hq => va_Nc.moved hW.alike (h.2.2.2.2 q hq)⟩
theorem te.blind {A : Nat → Prop} {U : State} {H : Heap} {g : JFrame} {mk : MethodId} {a : Array Value} (h : te A U H) : te A (U.calling g mk a) H :=
  ⟨h.1.moved (u := U) (U := U.calling g mk a) (Vm.Alike.refl U.vm), h.2.1.moved (u := U) (U := U.calling g mk a) (Vm.Alike.refl U.vm), fun q hq => by obtain ⟨sa, hsa⟩ := h.2.2.1 q hq; exact ⟨sa, vk_R.same (u := U) (U := U.calling g mk a) rfl hsa⟩, fun w hw => teW_same (u := U) (U := U.calling g mk a) rfl w hw (h.2.2.2.1 w hw), fun q hq => va_Nc.moved (u := U) (U := U.calling g mk a) (Vm.Alike.refl U.vm) (h.2.2.2.2 q hq)⟩
def inX (D : va_G) (tys : List (ClassId × FieldType)) (ws : va_W) (sz : Nat) (U : State) : Prop := inW D tys ws sz U ∧ te (va_A ws sz) U U.heap
/-- a contract that returns (post) or throws (pe) -/
def mX (l : Launch) (D : va_G) (tys : List (ClassId × FieldType)) (y : MethodName) (c0 : Cond) (rm : Room) (ws : va_W) (As : List Value) (post : Option Value → va_W → Prop) (pe : String → va_W → Prop) : Prop :=
  ∀ sz : Nat, vx_Met l y (c0 :: GW) rm (va_Pc As (inX D tys ws sz)) (qA D tys (va_A ws sz) post) (xA D tys (va_A ws sz) pe) rm.cells rm.slots (va_A ws sz)
theorem inW_blind {D : va_G} {tys : List (ClassId × FieldType)} {ws : va_W} {sz : Nat} {As : List Value} : FrameBlind (va_Pc As (inW D tys ws sz)) := fun a U g mk q => by
  obtain ⟨q0, q1, qP, qK, qD⟩ := q
  exact ⟨q0, q1, qP, va_K.moved (u := U) (U := U.calling g mk a) (Vm.Alike.refl U.vm) qK, qD⟩
theorem inX_blind {D : va_G} {tys : List (ClassId × FieldType)} {ws : va_W} {sz : Nat} {As : List Value} : FrameBlind (va_Pc As (inX D tys ws sz)) := fun a U g mk q => by
  obtain ⟨q0, q1, q2⟩ := q
  exact ⟨q0, (inW_blind (As := As) a U g mk ⟨q0, q1⟩).2, q2.blind⟩
section
variable {p : Program} {l : Launch} {e : Env} {R : Room} {s : State} {m : MethodId} {args : Array Value} {below : List Frame} {meth : Method} {c : Code} {H : Heap} {locs : List Loc} {cells slots : Nat} {Q : State → Prop}
variable {pc : Nat} {ls : Array Slot} {rest st0 : List Value} {a : Array Value} {A0 A1 : Nat → Prop} {H0 : Heap} {mc ms : Nat} {free : Addr → Prop} {D : va_G} {tys : List (ClassId × FieldType)}
theorem va_callo {post : Option Value → va_W → Prop} (hr : va_Run p l e R s m args below meth c H locs cells slots mc ms (F0 m pc ls st0) rest (qA D tys A1 post a) free) (hS : va_S A0 H0 H locs) (hA : ∀ q, q < H.size → A1 q → A0 q) (hf : ∀ q, free q → A0 q)
    (kk : ∀ (v : Option Value) (u : va_W) (t : State) (H1 : Heap) (locs1 : List Loc), t.heap = H1 → s.vm.Alike t.vm → post v u → outW D tys A1 u t → H.size ≤ H1.size → (∀ q : Nat, q < H.size → ¬ A1 q → H1[q]? = H[q]?) → va_S A0 H0 H1 locs1 → W p l e R s m args below meth c H1 locs1 (cells + mc) (slots + ms) Q (F0 m (pc + 3) ls (v.toList ++ rest))) : W p l e R s m args below meth c H locs cells slots Q (F0 m pc ls st0) := by
  intro T hT X
  obtain ⟨v, st₀, t, T', L, h0, X', hL, e1, e2, ⟨⟨v2, u, hv, hp, hb⟩, hF⟩, st⟩ := hr T hT X
  cases hv
  obtain ⟨k1, k2, k3⟩ := vx_keep h0 e1 hS hA hf hL hF
  obtain ⟨t2, a1, b1⟩ := kk v u t T'.heap (locs ++ L) e1.symm (by rw [← e2]; exact X'.warmed.alike) hp hb k1 k2 k3 T' rfl X'
  exact ⟨t2, st t2 a1, b1⟩
theorem vx_callo {post : Option Value → va_W → Prop} {pe : String → va_W → Prop} (hr : vx_Run p l e R s m args below meth c H locs cells slots mc ms (F0 m pc ls st0) rest (qA D tys A1 post a) (xA D tys A1 pe) free) (hS : va_S A0 H0 H locs) (hA : ∀ q, q < H.size → A1 q → A0 q) (hf : ∀ q, free q → A0 q)
    (kx9 : ∀ (E : String) (ce : Cell) (q9 : Addr) (u : va_W) (t : State) (H1 : Heap) (locs1 : List Loc), t.heap = H1 → s.vm.Alike t.vm → pe E u → outW D tys A1 u t → H.size ≤ H1.size → (∀ q : Nat, q < H.size → ¬ A1 q → H1[q]? = H[q]?) → va_S A0 H0 H1 locs1 → H1[q9]? = some ce → ce.vm = .none → s.vm.findClass E = some ce.cls → vx_W p l e R s m args below meth c H1 locs1 (cells + mc) (slots + ms) Q (F0 m pc ls rest) q9)
    (kk : ∀ (v : Option Value) (u : va_W) (t : State) (H1 : Heap) (locs1 : List Loc), t.heap = H1 → s.vm.Alike t.vm → post v u → outW D tys A1 u t → H.size ≤ H1.size → (∀ q : Nat, q < H.size → ¬ A1 q → H1[q]? = H[q]?) → va_S A0 H0 H1 locs1 → W p l e R s m args below meth c H1 locs1 (cells + mc) (slots + ms) Q (F0 m (pc + 3) ls (v.toList ++ rest))) : W p l e R s m args below meth c H locs cells slots Q (F0 m pc ls st0) := by
  intro T hT X
  rcases hr T hT X with ⟨v, st₀, t, T', L, h0, X', hL, e1, e2, ⟨⟨v2, u, hv, hp, hb⟩, hF⟩, st⟩ | ⟨q, st₀, t, T', L, E, ce, h0, X', hL, e1, e2, ⟨⟨u, hp, hb⟩, hF⟩, hce, hcv, hcl, st⟩
  · cases hv
    obtain ⟨k1, k2, k3⟩ := vx_keep h0 e1 hS hA hf hL hF
    obtain ⟨t2, a1, b1⟩ := kk v u t T'.heap (locs ++ L) e1.symm (by rw [← e2]; exact X'.warmed.alike) hp hb k1 k2 k3 T' rfl X'
    exact ⟨t2, st t2 a1, b1⟩
  · obtain ⟨k1, k2, k3⟩ := vx_keep h0 e1 hS hA hf hL hF
    obtain ⟨t2, a1, b1⟩ := kx9 E ce q u t T'.heap (locs ++ L) e1.symm (by rw [← e2]; exact X'.warmed.alike) hp hb k1 k2 k3 (by rw [e1]; exact hce) hcv hcl T' rfl X'
    exact ⟨t2, st.trans a1, b1⟩
end
/-- a throw under way in this method, with the world ws -/
def gx (p : Program) (l : Launch) (e : Env) (R : Room) (s : State) (m : MethodId) (args : Array Value) (below : List Frame) (meth : Method) (c : Code) (D : va_G) (A : Nat → Prop) (n cells slots : Nat) (Q : State → Prop) (ws : va_W) (pc : Nat) (L : List (Nat × Value)) (st : List Value) (E : String) : Prop :=
  ∀ (H : Heap) (locs : List Loc) (ls : Array Slot) (ce : Cell) (q : Addr), va_P D vwCl ws H → va_D A ws → va_S A s.heap H locs → lvk ls n L → H[q]? = some ce → ce.vm = .none → s.vm.findClass E = some ce.cls → vx_W p l e R s m args below meth c H locs cells slots Q (F0 m pc ls st) q
theorem self_free {A : Nat → Prop} {ws : va_W} {H0 H : Heap} {locs : List Loc} (hD : va_D A ws) (hS : va_S A H0 H locs) (hA : ∀ q, H0.size ≤ q → A q) : ∀ q, va_A ws H.size q → A q := fun q h => h.elim (fun ⟨k, e, h⟩ => hD.2 k (q, e) h) (fun h => hA q (Nat.le_trans hS.1 h))
theorem nil_free {A : Nat → Prop} {H0 H : Heap} {locs : List Loc} (hS : va_S A H0 H locs) (hA : ∀ q, H0.size ≤ q → A q) : ∀ q, va_A [] H.size q → A q := fun q h => h.elim (fun ⟨k, e, h⟩ => by simp at h) (fun h => hA q (Nat.le_trans hS.1 h))
theorem nil_kept {D : va_G} {ws : va_W} {H H1 : Heap} (hP : va_P D vwCl ws H) (hk : ∀ q : Nat, q < H.size → ¬ va_A [] H.size q → H1[q]? = H[q]?) : va_P D vwCl ws H1 := hP.kept (fun k q h => hk q.1 (hP k q h).lt (fun z => z.elim (fun ⟨k, e, z⟩ => by simp at z) (fun z => absurd (hP k q h).lt (Nat.not_lt.mpr z))))
theorem nil_P {D : va_G} {H : Heap} : va_P D vwCl [] H := fun k q h => by simp at h
theorem nil_D {A : Nat → Prop} : va_D A [] := ⟨fun i j p q h => by simp at h, fun k q h => by simp at h⟩

theorem gg_callW {p : Program} {l : Launch} {e : Env} {R : Room} {s : State} {m : MethodId} {args : Array Value} {below : List Frame} {meth : Method} {c : Code} {D : va_G} {A : Nat → Prop} {tys : List (ClassId × FieldType)} {cc : ByteArray} {own : String} {n cells slots pc : Nat} {Q : State → Prop} {ws : va_W} {L : List (Nat × Value)} {st : List Value} {y : MethodName} {cd : ByteArray} {maxL k9 idx : Nat} {ret : Option FieldType} {rm : Room} {As rest : List Value} {post : Option Value → va_W → Prop} {b : Nat} {C : String} (K : kx p s m args meth c D A tys cc own n) (ok : okV own idx C y (.code y cd maxL ret) k9) (hM : mA l D tys y cd maxL ret rm ws (.ref b :: As) post) (q0 : Nat) {ci N : Nat} {fs : List Value} {T : u_T} (hrec : ws[q0]? = some (b, .inr (ci, fs))) (hcl : vwCl[ci]? = some (C, T, N)) (hd : decode cc pc = .ok (.invokevirtual idx, 3)) (hst : st = As.reverse ++ .ref b :: rest) (hAs : As.length = k9) (hr : rOk rm R maxL cells slots = true) (hw : c8 rest = true)
    (kk : ∀ (v : Option Value) (u : va_W), post v u → gg p l e R s m args below meth c D A n (cells + rm.cells) (slots + rm.slots) Q u (pc + 3) L (v.toList ++ rest)) : gg p l e R s m args below meth c D A n cells slots Q ws pc L st := by
  intro H locs ls hP hD hS hl
  subst hst
  have hF := self_free hD hS K.2.2.1
  refine va_callo (va_runV (As := As) (rest := rest) K.1 (hM H.size) (cwV k9 K.1.2.2.2.2 ok.1 rfl rfl rfl ok.2 (rOk_spec hr).1) ⟨inW_blind, va_recv K.2.1 hP hcl hrec, fun U hU hW => ⟨rfl, by rw [hU], by rw [hU]; exact hP, va_K.moved hW.alike K.2.1, hD.weaken (fun _ _ _ _ => trivial)⟩⟩ rfl hAs hl.1 rfl (lv_room (Nat.le_of_ble_eq_true hw)) hd (rOk_spec hr).2) hS (fun q _ h => hF q h) hF (fun v u t H1 locs1 ht hvm hp hB hz hk hS1 => ?_)
  obtain ⟨hP1, hK1, hD1⟩ := hB
  rw [ht] at hP1
  exact kk v u hp H1 locs1 ls hP1 (hD1.weaken (fun k q _ h => hF q.1 h)) hS1 hl
theorem gg_callWX {p : Program} {l : Launch} {e : Env} {R : Room} {s : State} {m : MethodId} {args : Array Value} {below : List Frame} {meth : Method} {c : Code} {D : va_G} {A : Nat → Prop} {tys : List (ClassId × FieldType)} {cc : ByteArray} {own : String} {n cells slots pc : Nat} {Q : State → Prop} {ws : va_W} {L : List (Nat × Value)} {st : List Value} {y : MethodName} {cd : ByteArray} {maxL k9 idx : Nat} {ret : Option FieldType} {rm : Room} {As rest : List Value} {post : Option Value → va_W → Prop} {pe : String → va_W → Prop} {b : Nat} {C : String} (K : kx p s m args meth c D A tys cc own n) (T9 : te A s s.heap) (ok : okV own idx C y (.code y cd maxL ret) k9) (hM : mX l D tys y (.code y cd maxL ret) rm ws (.ref b :: As) post pe) (q0 : Nat) {ci N : Nat} {fs : List Value} {T : u_T} (hrec : ws[q0]? = some (b, .inr (ci, fs))) (hcl : vwCl[ci]? = some (C, T, N)) (hd : decode cc pc = .ok (.invokevirtual idx, 3)) (hst : st = As.reverse ++ .ref b :: rest) (hAs : As.length = k9) (hr : rOk rm R maxL cells slots = true) (hw : c8 rest = true)
    (kt : ∀ (E : String) (u : va_W), pe E u → gx p l e R s m args below meth c D A n (cells + rm.cells) (slots + rm.slots) Q u pc L rest E)
    (kk : ∀ (v : Option Value) (u : va_W), post v u → gg p l e R s m args below meth c D A n (cells + rm.cells) (slots + rm.slots) Q u (pc + 3) L (v.toList ++ rest)) : gg p l e R s m args below meth c D A n cells slots Q ws pc L st := by
  intro H locs ls hP hD hS hl
  subst hst
  have hF := self_free hD hS K.2.2.1
  refine vx_callo (vx_runV (As := As) (rest := rest) K.1 (hM H.size) (cwV k9 K.1.2.2.2.2 ok.1 rfl rfl rfl ok.2 (rOk_spec hr).1) ⟨inX_blind, va_recv K.2.1 hP hcl hrec, fun U hU hW => ⟨rfl, ⟨by rw [hU], by rw [hU]; exact hP, va_K.moved hW.alike K.2.1, hD.weaken (fun _ _ _ _ => trivial)⟩, by rw [hU]; exact T9.go hW hS hF⟩⟩ rfl hAs hl.1 rfl (lv_room (Nat.le_of_ble_eq_true hw)) hd (rOk_spec hr).2) hS (fun q _ h => hF q h) hF (fun E ce q9 u t H1 locs1 ht hvm hp hB hz hk hS1 h1 h2 h3 => ?_) (fun v u t H1 locs1 ht hvm hp hB hz hk hS1 => ?_)
  · obtain ⟨hP1, hK1, hD1⟩ := hB
    rw [ht] at hP1
    exact kt E u hp H1 locs1 ls ce q9 hP1 (hD1.weaken (fun k q _ h => hF q.1 h)) hS1 hl h1 h2 h3
  · obtain ⟨hP1, hK1, hD1⟩ := hB
    rw [ht] at hP1
    exact kk v u hp H1 locs1 ls hP1 (hD1.weaken (fun k q _ h => hF q.1 h)) hS1 hl
theorem gg_callS {p : Program} {l : Launch} {e : Env} {R : Room} {s : State} {m : MethodId} {args : Array Value} {below : List Frame} {meth : Method} {c : Code} {D : va_G} {A : Nat → Prop} {tys : List (ClassId × FieldType)} {cc : ByteArray} {own : String} {n cells slots pc : Nat} {Q : State → Prop} {ws : va_W} {L : List (Nat × Value)} {st : List Value} {y : MethodName} {cd : ByteArray} {maxL k9 idx : Nat} {ret : Option FieldType} {rm : Room} {As rest : List Value} {post : Option Value → va_W → Prop} (K : kx p s m args meth c D A tys cc own n) (ok : okS own idx y (.code y cd maxL ret) k9) (hM : mA l D tys y cd maxL ret rm [] As post) (hd : decode cc pc = .ok (.invokestatic idx, 3)) (hst : st = As.reverse ++ rest) (hAs : As.length = k9) (hr : rOk rm R maxL cells slots = true) (hw : c8 rest = true)
    (kk : ∀ (v : Option Value) (u : va_W), post v u → gg p l e R s m args below meth c D A n (cells + rm.cells) (slots + rm.slots) Q ws (pc + 3) L (v.toList ++ rest)) : gg p l e R s m args below meth c D A n cells slots Q ws pc L st := by
  intro H locs ls hP hD hS hl
  subst hst
  have hF := nil_free hS K.2.2.1
  refine va_callo (va_runS (As := As) (rest := rest) K.1 (hM H.size) (va_cwS k9 K.1.2.2.2.2 ok.1 rfl rfl rfl ok.2 (rOk_spec hr).1) ⟨inW_blind, fun U hU hW => ⟨rfl, by rw [hU], nil_P, va_K.moved hW.alike K.2.1, nil_D⟩⟩ rfl hAs hl.1 rfl (lv_room (Nat.le_of_ble_eq_true hw)) hd (rOk_spec hr).2) hS (fun q _ h => hF q h) hF (fun v u t H1 locs1 ht hvm hp hB hz hk hS1 => ?_)
  exact kk v u hp H1 locs1 ls (nil_kept hP hk) hD hS1 hl
theorem gg_callSX {p : Program} {l : Launch} {e : Env} {R : Room} {s : State} {m : MethodId} {args : Array Value} {below : List Frame} {meth : Method} {c : Code} {D : va_G} {A : Nat → Prop} {tys : List (ClassId × FieldType)} {cc : ByteArray} {own : String} {n cells slots pc : Nat} {Q : State → Prop} {ws : va_W} {L : List (Nat × Value)} {st : List Value} {y : MethodName} {cd : ByteArray} {maxL k9 idx : Nat} {ret : Option FieldType} {rm : Room} {As rest : List Value} {post : Option Value → va_W → Prop} {pe : String → va_W → Prop} (K : kx p s m args meth c D A tys cc own n) (T9 : te A s s.heap) (ok : okS own idx y (.code y cd maxL ret) k9) (hM : mX l D tys y (.code y cd maxL ret) rm [] As post pe) (hd : decode cc pc = .ok (.invokestatic idx, 3)) (hst : st = As.reverse ++ rest) (hAs : As.length = k9) (hr : rOk rm R maxL cells slots = true) (hw : c8 rest = true)
    (kt : ∀ (E : String) (u : va_W), pe E u → gx p l e R s m args below meth c D A n (cells + rm.cells) (slots + rm.slots) Q ws pc L rest E)
    (kk : ∀ (v : Option Value) (u : va_W), post v u → gg p l e R s m args below meth c D A n (cells + rm.cells) (slots + rm.slots) Q ws (pc + 3) L (v.toList ++ rest)) : gg p l e R s m args below meth c D A n cells slots Q ws pc L st := by
  intro H locs ls hP hD hS hl
  subst hst
  have hF := nil_free hS K.2.2.1
  refine vx_callo (vx_runS (As := As) (rest := rest) K.1 (hM H.size) (va_cwS k9 K.1.2.2.2.2 ok.1 rfl rfl rfl ok.2 (rOk_spec hr).1) ⟨inX_blind, fun U hU hW => ⟨rfl, ⟨by rw [hU], nil_P, va_K.moved hW.alike K.2.1, nil_D⟩, by rw [hU]; exact T9.go hW hS hF⟩⟩ rfl hAs hl.1 rfl (lv_room (Nat.le_of_ble_eq_true hw)) hd (rOk_spec hr).2) hS (fun q _ h => hF q h) hF (fun E ce q9 u t H1 locs1 ht hvm hp hB hz hk hS1 h1 h2 h3 => ?_) (fun v u t H1 locs1 ht hvm hp hB hz hk hS1 => ?_)
  · exact kt E u hp H1 locs1 ls ce q9 (nil_kept hP hk) hD hS1 hl h1 h2 h3
  · exact kk v u hp H1 locs1 ls (nil_kept hP hk) hD hS1 hl
theorem gg_iret {p : Program} {l : Launch} {e : Env} {R : Room} {s : State} {m : MethodId} {args : Array Value} {below : List Frame} {meth : Method} {c : Code} {D : va_G} {A : Nat → Prop} {tys : List (ClassId × FieldType)} {cc : ByteArray} {own : String} {n cells slots pc : Nat} {ws : va_W} {L : List (Nat × Value)} {mc ms : Nat} {post : Option Value → va_W → Prop} {x : Int32} (K : kx p s m args meth c D A tys cc own n) (hr : meth.sig.returnType = some .int) (hd : decode cc pc = .ok (.ireturn, 1)) (hc : cells ≤ mc) (hs : slots ≤ ms) (hp : post (some (.int x)) ws) : gg p l e R s m args below meth c D A n cells slots (MQ below (qA D tys A post) args s mc ms A) ws pc L [.int x] :=
  fun H locs ls hP hD hS hl => W.widen hc hs (W.iret K.1.1 K.1.2.1 hr (fun t ht hW => ⟨⟨_, ws, rfl, hp, by rw [ht]; exact hP, va_K.moved hW.alike K.2.1, hD⟩, hS.F ht⟩) hS.2.2 hd (hlocks := K.2.2.2))
theorem gg_zret {p : Program} {l : Launch} {e : Env} {R : Room} {s : State} {m : MethodId} {args : Array Value} {below : List Frame} {meth : Method} {c : Code} {D : va_G} {A : Nat → Prop} {tys : List (ClassId × FieldType)} {cc : ByteArray} {own : String} {n cells slots pc : Nat} {ws : va_W} {L : List (Nat × Value)} {mc ms : Nat} {post : Option Value → va_W → Prop} {x : Int32} (K : kx p s m args meth c D A tys cc own n) (hr : meth.sig.returnType = some .boolean) (hd : decode cc pc = .ok (.ireturn, 1)) (hx : x = 0 ∨ x = 1) (hc : cells ≤ mc) (hs : slots ≤ ms) (hp : post (some (.int x)) ws) : gg p l e R s m args below meth c D A n cells slots (MQ below (qA D tys A post) args s mc ms A) ws pc L [.int x] :=
  fun H locs ls hP hD hS hl => W.widen hc hs (W.zret K.1.1 K.1.2.1 hr (by rcases hx with rfl | rfl <;> rfl) (fun t ht hW => ⟨⟨_, ws, rfl, hp, by rw [ht]; exact hP, va_K.moved hW.alike K.2.1, hD⟩, hS.F ht⟩) hS.2.2 hd (hlocks := K.2.2.2))
theorem gg_vret {p : Program} {l : Launch} {e : Env} {R : Room} {s : State} {m : MethodId} {args : Array Value} {below : List Frame} {meth : Method} {c : Code} {D : va_G} {A : Nat → Prop} {tys : List (ClassId × FieldType)} {cc : ByteArray} {own : String} {n cells slots pc : Nat} {ws : va_W} {L : List (Nat × Value)} {mc ms : Nat} {post : Option Value → va_W → Prop} (K : kx p s m args meth c D A tys cc own n) (hr : meth.sig.returnType = none) (hd : decode cc pc = .ok (.return_, 1)) (hc : cells ≤ mc) (hs : slots ≤ ms) (hp : post none ws) : gg p l e R s m args below meth c D A n cells slots (MQ below (qA D tys A post) args s mc ms A) ws pc L [] :=
  fun H locs ls hP hD hS hl => W.widen hc hs (W.vret K.1.1 K.1.2.1 hr (fun t ht hW => ⟨⟨_, ws, rfl, hp, by rw [ht]; exact hP, va_K.moved hW.alike K.2.1, hD⟩, hS.F ht⟩) hS.2.2 hd (hlocks := K.2.2.2))
theorem gg_fret {p : Program} {l : Launch} {e : Env} {R : Room} {s : State} {m : MethodId} {args : Array Value} {below : List Frame} {meth : Method} {c : Code} {D : va_G} {A : Nat → Prop} {tys : List (ClassId × FieldType)} {cc : ByteArray} {own : String} {n cells slots pc : Nat} {ws : va_W} {L : List (Nat × Value)} {mc ms : Nat} {post : Option Value → va_W → Prop} {x : UInt32} (K : kx p s m args meth c D A tys cc own n) (hr : meth.sig.returnType = some .float) (hd : decode cc pc = .ok (.freturn, 1)) (hc : cells ≤ mc) (hs : slots ≤ ms) (hp : post (some (.float x)) ws) : gg p l e R s m args below meth c D A n cells slots (MQ below (qA D tys A post) args s mc ms A) ws pc L [.float x] :=
  fun H locs ls hP hD hS hl => W.widen hc hs (W.fret K.1.1 K.1.2.1 hr (fun t ht hW => ⟨⟨_, ws, rfl, hp, by rw [ht]; exact hP, va_K.moved hW.alike K.2.1, hD⟩, hS.F ht⟩) hS.2.2 hd (hlocks := K.2.2.2))
theorem gg_x {p : Program} {l : Launch} {e : Env} {R : Room} {s : State} {m : MethodId} {args : Array Value} {below : List Frame} {meth : Method} {c : Code} {D : va_G} {A : Nat → Prop} {tys : List (ClassId × FieldType)} {n cells slots pc : Nat} {ws : va_W} {L : List (Nat × Value)} {st : List Value} {mc ms : Nat} {post : Option Value → va_W → Prop} {pe : String → va_W → Prop} (k : gg p l e R s m args below meth c D A n cells slots (MQ below (qA D tys A post) args s mc ms A) ws pc L st) : gg p l e R s m args below meth c D A n cells slots (vx_MQ below (qA D tys A post) (xA D tys A pe) args s mc ms A) ws pc L st := fun H locs ls hP hD hS hl => vx_ret (k H locs ls hP hD hS hl)
theorem gx_out {p : Program} {l : Launch} {e : Env} {R : Room} {s : State} {m : MethodId} {args : Array Value} {below : List Frame} {meth : Method} {c : Code} {D : va_G} {A : Nat → Prop} {tys : List (ClassId × FieldType)} {cc : ByteArray} {own : String} {n cells slots pc : Nat} {ws : va_W} {L : List (Nat × Value)} {st : List Value} {mc ms : Nat} {post : Option Value → va_W → Prop} {pe : String → va_W → Prop} {E : String} (K : kx p s m args meth c D A tys cc own n) (htab : ∀ x ∈ c.exceptionTable.toList, False) (hc : cells ≤ mc) (hs : slots ≤ ms) (hp : pe E ws) : gx p l e R s m args below meth c D A n cells slots (vx_MQ below (qA D tys A post) (xA D tys A pe) args s mc ms A) ws pc L st E :=
  fun H locs ls ce q hP hD hS hl h1 h2 h3 => vx_out (fun x hx => (htab x hx).elim) K.2.2.2 h1 h2 h3 (fun t ht hvm => ⟨⟨ws, hp, by rw [ht]; exact hP, va_K.moved hvm K.2.1, hD⟩, hS.F ht⟩) hS.2.2 hc hs
theorem thr_good_eA : ∀ w ∈ Cond.classLink RX0 55 eA :: Cond.initialized eA :: vx_atS RX0 59 eA ["java/lang/RuntimeException", "java/lang/Exception"], vx_ot w = true := by decide +kernel
theorem thr_rest_eA : ∀ w ∈ (vx_atS RX0 59 eA ["java/lang/RuntimeException", "java/lang/Exception"]).filter (fun w => !goodWord w), w ∈ teW := by decide +kernel
theorem thr_in_eA : ∀ w ∈ (vx_atS RX0 59 eA ["java/lang/RuntimeException", "java/lang/Exception"]).filter goodWord, w ∈ GW := fun w h => gw_of (wsL_law_x0 w h) (List.mem_filter.mp h).2
theorem thr_cl_eA : Cond.classLink RX0 55 eA ∈ GW := by decide +kernel
theorem thr_ini_eA : Cond.initialized eA ∈ GW := by decide +kernel
theorem gg_throw_eA {p : Program} {l : Launch} {e : Env} {R : Room} {s : State} {m : MethodId} {args : Array Value} {below : List Frame} {meth : Method} {c : Code} {D : va_G} {A : Nat → Prop} {tys : List (ClassId × FieldType)} {cc : ByteArray} {n cells slots pc : Nat} {ws : va_W} {L : List (Nat × Value)} {st : List Value} {mc ms : Nat} {post : Option Value → va_W → Prop} {pe : String → va_W → Prop} {is : Nat} {text : String} (K : kx p s m args meth c D A tys cc RX0 n) (T9 : te A s s.heap) (hl0 : l.stackTraces = false) (htab : ∀ x ∈ c.exceptionTable.toList, False) (hstr : (is, text) ∈ strs) (d0 : decode cc pc = .ok (.new 55, 3)) (d3 : decode cc (pc + 3) = .ok (.dup, 1)) (d4 : decode cc (pc + 4) = .ok (.ldc is, 2)) (d6 : decode cc (pc + 6) = .ok (.invokespecial 59, 3)) (d9 : decode cc (pc + 9) = .ok (.athrow, 1)) (hR : (Nat.ble 6 R.frames && (Nat.ble 90 R.locals && (Nat.ble (cells + 1) R.cells && Nat.ble (slots + 6) R.slots))) = true) (hw : c8 st = true) (hc : cells + 1 ≤ mc) (hs : slots + 6 ≤ ms) (hp : pe eA ws) : gg p l e R s m args below meth c D A n cells slots (vx_MQ below (qA D tys A post) (xA D tys A pe) args s mc ms A) ws pc L st := by
  intro H locs ls hP hD hS hl
  simp only [Bool.and_eq_true] at hR
  obtain ⟨r1, r2, r3, r4⟩ := hR
  have r1 := Nat.le_of_ble_eq_true r1
  have r2 := Nat.le_of_ble_eq_true r2
  have r3 := Nat.le_of_ble_eq_true r3
  have r4 := Nat.le_of_ble_eq_true r4
  have hw := Nat.le_of_ble_eq_true hw
  obtain ⟨sa, hsa⟩ := T9.2.2.1 _ hstr
  refine vx_throwS K.1.1 K.1.2.1 hl0 (names := ["java/lang/RuntimeException", "java/lang/Exception"]) (ik := 55) (ic := 59) (A := A) K.1.2.2.2.1 (by decide +kernel) (by decide +kernel) (K.1.2.2.2.2 _ thr_cl_eA) (K.1.2.2.2.2 _ thr_ini_eA) hsa (vx_hat (fun w h => K.1.2.2.2.2 _ (thr_in_eA w h)) thr_rest_eA (fun w h => va_Nw.use (teW_ot w h) (T9.2.2.2.1 w h))) thr_good_eA T9.1 T9.2.1 hS (hl.1.trans K.1.2.2.1.symm) d0 d3 d4 d6 d9 (fun x hx => (htab x hx).elim) (by show 2 + 3 < R.frames; omega) (by show (st.map fun v => v.category).sum + (13 * (2 + 1) + 43) ≤ R.locals; omega) r3 r4 K.2.2.2 (fun t hvm hz hk => ⟨⟨ws, hp, hP.kept (fun k q h => hk q.1 (hP k q h).lt), va_K.moved hvm K.2.1, hD⟩, Nat.le_trans hS.1 hz, fun q h1 h2 => (hk q (Nat.lt_of_lt_of_le h1 hS.1)).trans (hS.2.1 q h1 h2)⟩) hS.2.2 hc hs
theorem thr_good_eS : ∀ w ∈ Cond.classLink RX0 66 eS :: Cond.initialized eS :: vx_atS RX0 70 eS ["java/lang/RuntimeException", "java/lang/Exception"], vx_ot w = true := by decide +kernel
theorem thr_rest_eS : ∀ w ∈ (vx_atS RX0 70 eS ["java/lang/RuntimeException", "java/lang/Exception"]).filter (fun w => !goodWord w), w ∈ teW := by decide +kernel
theorem thr_in_eS : ∀ w ∈ (vx_atS RX0 70 eS ["java/lang/RuntimeException", "java/lang/Exception"]).filter goodWord, w ∈ GW := fun w h => gw_of (wsL_law_x1 w h) (List.mem_filter.mp h).2
theorem thr_cl_eS : Cond.classLink RX0 66 eS ∈ GW := by decide +kernel
theorem thr_ini_eS : Cond.initialized eS ∈ GW := by decide +kernel
theorem gg_throw_eS {p : Program} {l : Launch} {e : Env} {R : Room} {s : State} {m : MethodId} {args : Array Value} {below : List Frame} {meth : Method} {c : Code} {D : va_G} {A : Nat → Prop} {tys : List (ClassId × FieldType)} {cc : ByteArray} {n cells slots pc : Nat} {ws : va_W} {L : List (Nat × Value)} {st : List Value} {mc ms : Nat} {post : Option Value → va_W → Prop} {pe : String → va_W → Prop} {is : Nat} {text : String} (K : kx p s m args meth c D A tys cc RX0 n) (T9 : te A s s.heap) (hl0 : l.stackTraces = false) (htab : ∀ x ∈ c.exceptionTable.toList, False) (hstr : (is, text) ∈ strs) (d0 : decode cc pc = .ok (.new 66, 3)) (d3 : decode cc (pc + 3) = .ok (.dup, 1)) (d4 : decode cc (pc + 4) = .ok (.ldc is, 2)) (d6 : decode cc (pc + 6) = .ok (.invokespecial 70, 3)) (d9 : decode cc (pc + 9) = .ok (.athrow, 1)) (hR : (Nat.ble 6 R.frames && (Nat.ble 90 R.locals && (Nat.ble (cells + 1) R.cells && Nat.ble (slots + 6) R.slots))) = true) (hw : c8 st = true) (hc : cells + 1 ≤ mc) (hs : slots + 6 ≤ ms) (hp : pe eS ws) : gg p l e R s m args below meth c D A n cells slots (vx_MQ below (qA D tys A post) (xA D tys A pe) args s mc ms A) ws pc L st := by
  intro H locs ls hP hD hS hl
  simp only [Bool.and_eq_true] at hR
  obtain ⟨r1, r2, r3, r4⟩ := hR
  have r1 := Nat.le_of_ble_eq_true r1
  have r2 := Nat.le_of_ble_eq_true r2
  have r3 := Nat.le_of_ble_eq_true r3
  have r4 := Nat.le_of_ble_eq_true r4
  have hw := Nat.le_of_ble_eq_true hw
  obtain ⟨sa, hsa⟩ := T9.2.2.1 _ hstr
  refine vx_throwS K.1.1 K.1.2.1 hl0 (names := ["java/lang/RuntimeException", "java/lang/Exception"]) (ik := 66) (ic := 70) (A := A) K.1.2.2.2.1 (by decide +kernel) (by decide +kernel) (K.1.2.2.2.2 _ thr_cl_eS) (K.1.2.2.2.2 _ thr_ini_eS) hsa (vx_hat (fun w h => K.1.2.2.2.2 _ (thr_in_eS w h)) thr_rest_eS (fun w h => va_Nw.use (teW_ot w h) (T9.2.2.2.1 w h))) thr_good_eS T9.1 T9.2.1 hS (hl.1.trans K.1.2.2.1.symm) d0 d3 d4 d6 d9 (fun x hx => (htab x hx).elim) (by show 2 + 3 < R.frames; omega) (by show (st.map fun v => v.category).sum + (13 * (2 + 1) + 43) ≤ R.locals; omega) r3 r4 K.2.2.2 (fun t hvm hz hk => ⟨⟨ws, hp, hP.kept (fun k q h => hk q.1 (hP k q h).lt), va_K.moved hvm K.2.1, hD⟩, Nat.le_trans hS.1 hz, fun q h1 h2 => (hk q (Nat.lt_of_lt_of_le h1 hS.1)).trans (hS.2.1 q h1 h2)⟩) hS.2.2 hc hs
theorem thr_good_eB : ∀ w ∈ Cond.classLink RX0 91 eB :: Cond.initialized eB :: vx_atS RX0 95 eB ["java/lang/RuntimeException", "java/lang/Exception"], vx_ot w = true := by decide +kernel
theorem thr_rest_eB : ∀ w ∈ (vx_atS RX0 95 eB ["java/lang/RuntimeException", "java/lang/Exception"]).filter (fun w => !goodWord w), w ∈ teW := by decide +kernel
theorem thr_in_eB : ∀ w ∈ (vx_atS RX0 95 eB ["java/lang/RuntimeException", "java/lang/Exception"]).filter goodWord, w ∈ GW := fun w h => gw_of (wsL_law_x2 w h) (List.mem_filter.mp h).2
theorem thr_cl_eB : Cond.classLink RX0 91 eB ∈ GW := by decide +kernel
theorem thr_ini_eB : Cond.initialized eB ∈ GW := by decide +kernel
theorem gg_throw_eB {p : Program} {l : Launch} {e : Env} {R : Room} {s : State} {m : MethodId} {args : Array Value} {below : List Frame} {meth : Method} {c : Code} {D : va_G} {A : Nat → Prop} {tys : List (ClassId × FieldType)} {cc : ByteArray} {n cells slots pc : Nat} {ws : va_W} {L : List (Nat × Value)} {st : List Value} {mc ms : Nat} {post : Option Value → va_W → Prop} {pe : String → va_W → Prop} {is : Nat} {text : String} (K : kx p s m args meth c D A tys cc RX0 n) (T9 : te A s s.heap) (hl0 : l.stackTraces = false) (htab : ∀ x ∈ c.exceptionTable.toList, False) (hstr : (is, text) ∈ strs) (d0 : decode cc pc = .ok (.new 91, 3)) (d3 : decode cc (pc + 3) = .ok (.dup, 1)) (d4 : decode cc (pc + 4) = .ok (.ldc is, 2)) (d6 : decode cc (pc + 6) = .ok (.invokespecial 95, 3)) (d9 : decode cc (pc + 9) = .ok (.athrow, 1)) (hR : (Nat.ble 6 R.frames && (Nat.ble 90 R.locals && (Nat.ble (cells + 1) R.cells && Nat.ble (slots + 6) R.slots))) = true) (hw : c8 st = true) (hc : cells + 1 ≤ mc) (hs : slots + 6 ≤ ms) (hp : pe eB ws) : gg p l e R s m args below meth c D A n cells slots (vx_MQ below (qA D tys A post) (xA D tys A pe) args s mc ms A) ws pc L st := by
  intro H locs ls hP hD hS hl
  simp only [Bool.and_eq_true] at hR
  obtain ⟨r1, r2, r3, r4⟩ := hR
  have r1 := Nat.le_of_ble_eq_true r1
  have r2 := Nat.le_of_ble_eq_true r2
  have r3 := Nat.le_of_ble_eq_true r3
  have r4 := Nat.le_of_ble_eq_true r4
  have hw := Nat.le_of_ble_eq_true hw
  obtain ⟨sa, hsa⟩ := T9.2.2.1 _ hstr
  refine vx_throwS K.1.1 K.1.2.1 hl0 (names := ["java/lang/RuntimeException", "java/lang/Exception"]) (ik := 91) (ic := 95) (A := A) K.1.2.2.2.1 (by decide +kernel) (by decide +kernel) (K.1.2.2.2.2 _ thr_cl_eB) (K.1.2.2.2.2 _ thr_ini_eB) hsa (vx_hat (fun w h => K.1.2.2.2.2 _ (thr_in_eB w h)) thr_rest_eB (fun w h => va_Nw.use (teW_ot w h) (T9.2.2.2.1 w h))) thr_good_eB T9.1 T9.2.1 hS (hl.1.trans K.1.2.2.1.symm) d0 d3 d4 d6 d9 (fun x hx => (htab x hx).elim) (by show 2 + 3 < R.frames; omega) (by show (st.map fun v => v.category).sum + (13 * (2 + 1) + 43) ≤ R.locals; omega) r3 r4 K.2.2.2 (fun t hvm hz hk => ⟨⟨ws, hp, hP.kept (fun k q h => hk q.1 (hP k q h).lt), va_K.moved hvm K.2.1, hD⟩, Nat.le_trans hS.1 hz, fun q h1 h2 => (hk q (Nat.lt_of_lt_of_le h1 hS.1)).trans (hS.2.1 q h1 h2)⟩) hS.2.2 hc hs
theorem mA_intro {l : Launch} {D : va_G} {tys : List (ClassId × FieldType)} {y : MethodName} {cd : ByteArray} {maxL : Nat} {ret : Option FieldType} {rm : Room} {ws : va_W} {As : List Value} {post : Option Value → va_W → Prop} {own : String} (L0 : List (Nat × Value)) (hy : plainName y.cls = true) (hcls : y.cls = own) (hlen : Nat.ble (lg_sl As).length maxL = true) (hL : lv_args 0 As = L0) (hc : L0.all (fun q => q.2.category == 1) = true)
    (body : ∀ (p : Program) (e : Env) (s : State) (m : MethodId) (args : Array Value) (below : List Frame) (meth : Method) (c : Code) (A : Nat → Prop), kx p s m args meth c D A tys cd own maxL → meth.sig.returnType = ret → (y.name = "<init>" → meth.name = "<init>") → gg p l e rm s m args below meth c D A maxL 0 0 (MQ below (qA D tys A post) args s rm.cells rm.slots A) ws 0 L0 []) : mA l D tys y cd maxL ret rm ws As post := by
  intro sz
  refine Met.ofW (cc := cd) (maxL := maxL) (ret := ret) hy rfl ?_
  intro p e s m args below meth c s₁ B hml hv
  obtain ⟨rfl, hsz, hP, hK, hD0⟩ := hv
  subst hsz
  have hts := atoms_spec (ws := .code y cd maxL ret :: GW) B.pre
  have hl := lv_entry As (Nat.le_of_ble_eq_true hlen)
  rw [hL] at hl
  rw [lg_entry_eq]
  exact body p e s m _ below meth c (va_A ws s.heap.size) ⟨⟨B.exec, B.bytes, hml, by rw [← hcls]; exact findClass_of_methodNamed B.named, fun w hw => hts w (List.mem_cons_of_mem _ hw)⟩, hK, fun q h => Or.inr h, B.notSynchronized⟩ B.returns (fun h => by rw [(name_of_methodNamed B.named B.method).1]; exact h) s.heap [] _ hP hD0.self va_S.rf (lvk_of hl hc)
theorem mX_intro {l : Launch} {D : va_G} {tys : List (ClassId × FieldType)} {y : MethodName} {cd : ByteArray} {maxL : Nat} {ret : Option FieldType} {rm : Room} {ws : va_W} {As : List Value} {post : Option Value → va_W → Prop} {pe : String → va_W → Prop} {own : String} (L0 : List (Nat × Value)) (hy : plainName y.cls = true) (hcls : y.cls = own) (hlen : Nat.ble (lg_sl As).length maxL = true) (hL : lv_args 0 As = L0) (hc : L0.all (fun q => q.2.category == 1) = true)
    (body : ∀ (p : Program) (e : Env) (s : State) (m : MethodId) (args : Array Value) (below : List Frame) (meth : Method) (c : Code) (A : Nat → Prop), kx p s m args meth c D A tys cd own maxL → meth.sig.returnType = ret → te A s s.heap → (∀ x ∈ c.exceptionTable.toList, False) → gg p l e rm s m args below meth c D A maxL 0 0 (vx_MQ below (qA D tys A post) (xA D tys A pe) args s rm.cells rm.slots A) ws 0 L0 []) : mX l D tys y (.code y cd maxL ret) rm ws As post pe := by
  intro sz
  refine vx_ofW (cc := cd) (maxL := maxL) (ret := ret) hy rfl ?_
  intro p e s m args below meth c s₁ B hml htab hv
  obtain ⟨rfl, ⟨hsz, hP, hK, hD0⟩, hte⟩ := hv
  subst hsz
  have hts := atoms_spec (ws := .code y cd maxL ret :: GW) B.pre
  have hl := lv_entry As (Nat.le_of_ble_eq_true hlen)
  rw [hL] at hl
  rw [lg_entry_eq]
  exact body p e s m _ below meth c (va_A ws s.heap.size) ⟨⟨B.exec, B.bytes, hml, by rw [← hcls]; exact findClass_of_methodNamed B.named, fun w hw => hts w (List.mem_cons_of_mem _ hw)⟩, hK, fun q h => Or.inr h, B.notSynchronized⟩ B.returns hte htab s.heap [] _ hP hD0.self va_S.rf (lvk_of hl hc)
