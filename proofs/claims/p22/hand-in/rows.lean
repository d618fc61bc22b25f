section
-- ===== PART A: goes FIRST, ahead of the names: the tables' words, and 'selects' of the private methods out of them =====
/-- a private method of a class that the tables say can be made, by its rows of tables_1 -/
def lw_okq (q : MethodName × Nat) : Prop := (q.1.cls ≠ "java/lang/invoke/MethodHandle" ∧ q.1.cls ≠ "java/lang/invoke/VarHandle") ∧ Cond.instantiable q.1.cls q.2 ∈ tables_1 ∧ Cond.privateMethod q.1 ∈ tables_1 ∧ Cond.instanceMethod q.1 ∈ tables_1
theorem lw_p0 : lw_okq (⟨"java/lang/Throwable", "fillInStackTrace", "(I)Ljava/lang/Throwable;"⟩, 6) := ⟨⟨by decide +kernel, by decide +kernel⟩, List.mem_of_getElem? (i := 102) (by decide +kernel), List.mem_of_getElem? (i := 100) (by decide +kernel), List.mem_of_getElem? (i := 101) (by decide +kernel)⟩
theorem lw_p1 : lw_okq (⟨"Twotimes", "draftSpan", "(IIII)V"⟩, 4) := ⟨⟨by decide +kernel, by decide +kernel⟩, List.mem_of_getElem? (i := 11) (by decide +kernel), List.mem_of_getElem? (i := 142) (by decide +kernel), List.mem_of_getElem? (i := 143) (by decide +kernel)⟩
theorem lw_p2 : lw_okq (⟨"Twotimes", "knownOn", "(III)I"⟩, 4) := ⟨⟨by decide +kernel, by decide +kernel⟩, List.mem_of_getElem? (i := 11) (by decide +kernel), List.mem_of_getElem? (i := 146) (by decide +kernel), List.mem_of_getElem? (i := 147) (by decide +kernel)⟩
theorem lw_p3 : lw_okq (⟨"Twotimes", "recordDraft", "(II)I"⟩, 4) := ⟨⟨by decide +kernel, by decide +kernel⟩, List.mem_of_getElem? (i := 11) (by decide +kernel), List.mem_of_getElem? (i := 153) (by decide +kernel), List.mem_of_getElem? (i := 154) (by decide +kernel)⟩
theorem lw_p4 : lw_okq (⟨"Twotimes", "draftKeepsReferences", "(II)Z"⟩, 4) := ⟨⟨by decide +kernel, by decide +kernel⟩, List.mem_of_getElem? (i := 11) (by decide +kernel), List.mem_of_getElem? (i := 157) (by decide +kernel), List.mem_of_getElem? (i := 158) (by decide +kernel)⟩
theorem lw_p5 : lw_okq (⟨"Twotimes", "isReferredTo", "(II)Z"⟩, 4) := ⟨⟨by decide +kernel, by decide +kernel⟩, List.mem_of_getElem? (i := 11) (by decide +kernel), List.mem_of_getElem? (i := 161) (by decide +kernel), List.mem_of_getElem? (i := 162) (by decide +kernel)⟩
theorem lw_p6 : lw_okq (⟨"Twotimes", "recordToday", "(III)V"⟩, 4) := ⟨⟨by decide +kernel, by decide +kernel⟩, List.mem_of_getElem? (i := 11) (by decide +kernel), List.mem_of_getElem? (i := 181) (by decide +kernel), List.mem_of_getElem? (i := 182) (by decide +kernel)⟩
theorem lw_p7 : lw_okq (⟨"Twotimes", "loseWithReferences", "(II)I"⟩, 4) := ⟨⟨by decide +kernel, by decide +kernel⟩, List.mem_of_getElem? (i := 11) (by decide +kernel), List.mem_of_getElem? (i := 193) (by decide +kernel), List.mem_of_getElem? (i := 194) (by decide +kernel)⟩
theorem lw_p8 : lw_okq (⟨"Twotimes", "lose", "(II)I"⟩, 4) := ⟨⟨by decide +kernel, by decide +kernel⟩, List.mem_of_getElem? (i := 11) (by decide +kernel), List.mem_of_getElem? (i := 197) (by decide +kernel), List.mem_of_getElem? (i := 198) (by decide +kernel)⟩
theorem lw_p9 : lw_okq (⟨"Twotimes", "needRecord", "(I)V"⟩, 4) := ⟨⟨by decide +kernel, by decide +kernel⟩, List.mem_of_getElem? (i := 11) (by decide +kernel), List.mem_of_getElem? (i := 205) (by decide +kernel), List.mem_of_getElem? (i := 206) (by decide +kernel)⟩
theorem lw_p10 : lw_okq (⟨"Twotimes", "draftRecord", "(II)V"⟩, 4) := ⟨⟨by decide +kernel, by decide +kernel⟩, List.mem_of_getElem? (i := 11) (by decide +kernel), List.mem_of_getElem? (i := 225) (by decide +kernel), List.mem_of_getElem? (i := 226) (by decide +kernel)⟩
theorem lw_p11 : lw_okq (⟨"Twotimes", "keepOn", "(II)V"⟩, 4) := ⟨⟨by decide +kernel, by decide +kernel⟩, List.mem_of_getElem? (i := 11) (by decide +kernel), List.mem_of_getElem? (i := 235) (by decide +kernel), List.mem_of_getElem? (i := 236) (by decide +kernel)⟩
theorem lw_p12 : lw_okq (⟨"Twotimes", "copyDay", "(II)V"⟩, 4) := ⟨⟨by decide +kernel, by decide +kernel⟩, List.mem_of_getElem? (i := 11) (by decide +kernel), List.mem_of_getElem? (i := 239) (by decide +kernel), List.mem_of_getElem? (i := 240) (by decide +kernel)⟩
theorem lw_p13 : lw_okq (⟨"Twotimes", "isKept", "(I)Z"⟩, 4) := ⟨⟨by decide +kernel, by decide +kernel⟩, List.mem_of_getElem? (i := 11) (by decide +kernel), List.mem_of_getElem? (i := 254) (by decide +kernel), List.mem_of_getElem? (i := 255) (by decide +kernel)⟩
theorem lw_p14 : lw_okq (⟨"Twotimes", "startsRow", "(III)Z"⟩, 4) := ⟨⟨by decide +kernel, by decide +kernel⟩, List.mem_of_getElem? (i := 11) (by decide +kernel), List.mem_of_getElem? (i := 258) (by decide +kernel), List.mem_of_getElem? (i := 259) (by decide +kernel)⟩
theorem lw_p15 : lw_okq (⟨"Twotimes", "startsRun", "(III)Z"⟩, 4) := ⟨⟨by decide +kernel, by decide +kernel⟩, List.mem_of_getElem? (i := 11) (by decide +kernel), List.mem_of_getElem? (i := 262) (by decide +kernel), List.mem_of_getElem? (i := 263) (by decide +kernel)⟩
def lw_privs_1 : List (MethodName × Nat) := [(⟨"java/lang/Throwable", "fillInStackTrace", "(I)Ljava/lang/Throwable;"⟩, 6), (⟨"Twotimes", "draftSpan", "(IIII)V"⟩, 4), (⟨"Twotimes", "knownOn", "(III)I"⟩, 4), (⟨"Twotimes", "recordDraft", "(II)I"⟩, 4), (⟨"Twotimes", "draftKeepsReferences", "(II)Z"⟩, 4), (⟨"Twotimes", "isReferredTo", "(II)Z"⟩, 4), (⟨"Twotimes", "recordToday", "(III)V"⟩, 4), (⟨"Twotimes", "loseWithReferences", "(II)I"⟩, 4), (⟨"Twotimes", "lose", "(II)I"⟩, 4), (⟨"Twotimes", "needRecord", "(I)V"⟩, 4), (⟨"Twotimes", "draftRecord", "(II)V"⟩, 4), (⟨"Twotimes", "keepOn", "(II)V"⟩, 4), (⟨"Twotimes", "copyDay", "(II)V"⟩, 4), (⟨"Twotimes", "isKept", "(I)Z"⟩, 4), (⟨"Twotimes", "startsRow", "(III)Z"⟩, 4), (⟨"Twotimes", "startsRun", "(III)Z"⟩, 4)]
theorem lw_r1 : ∀ q ∈ lw_privs_1, lw_okq q := List.forall_mem_cons.mpr ⟨lw_p0, List.forall_mem_cons.mpr ⟨lw_p1, List.forall_mem_cons.mpr ⟨lw_p2, List.forall_mem_cons.mpr ⟨lw_p3, List.forall_mem_cons.mpr ⟨lw_p4, List.forall_mem_cons.mpr ⟨lw_p5, List.forall_mem_cons.mpr ⟨lw_p6, List.forall_mem_cons.mpr ⟨lw_p7, List.forall_mem_cons.mpr ⟨lw_p8, List.forall_mem_cons.mpr ⟨lw_p9, List.forall_mem_cons.mpr ⟨lw_p10, List.forall_mem_cons.mpr ⟨lw_p11, List.forall_mem_cons.mpr ⟨lw_p12, List.forall_mem_cons.mpr ⟨lw_p13, List.forall_mem_cons.mpr ⟨lw_p14, List.forall_mem_cons.mpr ⟨lw_p15, fun _ h => absurd h List.not_mem_nil⟩⟩⟩⟩⟩⟩⟩⟩⟩⟩⟩⟩⟩⟩⟩⟩
theorem lw_p16 : lw_okq (⟨"Twotimes", "sameRun", "(IIII)Z"⟩, 4) := ⟨⟨by decide +kernel, by decide +kernel⟩, List.mem_of_getElem? (i := 11) (by decide +kernel), List.mem_of_getElem? (i := 266) (by decide +kernel), List.mem_of_getElem? (i := 267) (by decide +kernel)⟩
theorem lw_p17 : lw_okq (⟨"Twotimes", "endOfRun", "(III)I"⟩, 4) := ⟨⟨by decide +kernel, by decide +kernel⟩, List.mem_of_getElem? (i := 11) (by decide +kernel), List.mem_of_getElem? (i := 270) (by decide +kernel), List.mem_of_getElem? (i := 271) (by decide +kernel)⟩
theorem lw_p18 : lw_okq (⟨"Twotimes", "joinedOn", "(III)I"⟩, 4) := ⟨⟨by decide +kernel, by decide +kernel⟩, List.mem_of_getElem? (i := 11) (by decide +kernel), List.mem_of_getElem? (i := 300) (by decide +kernel), List.mem_of_getElem? (i := 301) (by decide +kernel)⟩
theorem lw_p19 : lw_okq (⟨"Twotimes", "firstDayOfRun", "(III)I"⟩, 4) := ⟨⟨by decide +kernel, by decide +kernel⟩, List.mem_of_getElem? (i := 11) (by decide +kernel), List.mem_of_getElem? (i := 311) (by decide +kernel), List.mem_of_getElem? (i := 312) (by decide +kernel)⟩
theorem lw_p20 : lw_okq (⟨"Twotimes", "runNumber", "(III)I"⟩, 4) := ⟨⟨by decide +kernel, by decide +kernel⟩, List.mem_of_getElem? (i := 11) (by decide +kernel), List.mem_of_getElem? (i := 316) (by decide +kernel), List.mem_of_getElem? (i := 317) (by decide +kernel)⟩
theorem lw_p21 : lw_okq (⟨"Twotimes", "startsJoinedRun", "(III)Z"⟩, 4) := ⟨⟨by decide +kernel, by decide +kernel⟩, List.mem_of_getElem? (i := 11) (by decide +kernel), List.mem_of_getElem? (i := 324) (by decide +kernel), List.mem_of_getElem? (i := 325) (by decide +kernel)⟩
theorem lw_p22 : lw_okq (⟨"Twotimes", "startOfRow", "(II)I"⟩, 4) := ⟨⟨by decide +kernel, by decide +kernel⟩, List.mem_of_getElem? (i := 11) (by decide +kernel), List.mem_of_getElem? (i := 347) (by decide +kernel), List.mem_of_getElem? (i := 348) (by decide +kernel)⟩
def lw_privs_2 : List (MethodName × Nat) := [(⟨"Twotimes", "sameRun", "(IIII)Z"⟩, 4), (⟨"Twotimes", "endOfRun", "(III)I"⟩, 4), (⟨"Twotimes", "joinedOn", "(III)I"⟩, 4), (⟨"Twotimes", "firstDayOfRun", "(III)I"⟩, 4), (⟨"Twotimes", "runNumber", "(III)I"⟩, 4), (⟨"Twotimes", "startsJoinedRun", "(III)Z"⟩, 4), (⟨"Twotimes", "startOfRow", "(II)I"⟩, 4)]
theorem lw_r2 : ∀ q ∈ lw_privs_2, lw_okq q := List.forall_mem_cons.mpr ⟨lw_p16, List.forall_mem_cons.mpr ⟨lw_p17, List.forall_mem_cons.mpr ⟨lw_p18, List.forall_mem_cons.mpr ⟨lw_p19, List.forall_mem_cons.mpr ⟨lw_p20, List.forall_mem_cons.mpr ⟨lw_p21, List.forall_mem_cons.mpr ⟨lw_p22, fun _ h => absurd h List.not_mem_nil⟩⟩⟩⟩⟩⟩⟩
def lw_privs : List (MethodName × Nat) := lw_privs_1 ++ (lw_privs_2)
def lw_tbl : List Cond := k2_sels lw_privs ++ tables_1
theorem lw_privs_ok : ∀ q ∈ lw_privs, lw_okq q := by
  show ∀ q ∈ lw_privs_1 ++ (lw_privs_2), lw_okq q
  exact List.forall_mem_append.mpr ⟨lw_r1, lw_r2⟩
/-- the streams that the claim lets the run draw from -/
abbrev lw_cs : List Choice := [Jvm.Choice.named "NaN.bits"]
theorem lw_bits : nanBits ∈ lw_cs := by first | decide | exact List.mem_cons_self | simp [lw_cs, nanBits]
end
section
/-! ===== BEGIN words of one list among another's, by their places ===== -/
theorem goodIn_r {big : List Cond} (ws : List Cond) (ps : List Nat) (hp : ws = ps.filterMap (fun i => big[i]?)) (h : ws.all goodWord = true) : GoodIn big ws := by
  intro w hw
  have h1 := List.all_eq_true.mp h w hw
  rw [hp] at hw
  obtain ⟨i, -, hi⟩ := List.mem_filterMap.mp hw
  have hm : w ∈ big := by first | exact List.mem_of_getElem? hi | exact List.getElem?_mem hi
  exact ⟨hm, good_of_word h1⟩
theorem goodIn_app {big a b : List Cond} (ha : GoodIn big a) (hb : GoodIn big b) : GoodIn big (a ++ b) := fun w h => (List.mem_append.mp h).elim (ha w) (hb w)
theorem goodIn_ca {big a b : List Cond} {c : Cond} (ha : GoodIn big (c :: a)) (hb : GoodIn big b) : GoodIn big (c :: (a ++ b)) := fun w h => (List.mem_cons.mp h).elim (fun e => ha w (List.mem_cons.mpr (Or.inl e))) (fun h => (List.mem_append.mp h).elim (fun h => ha w (List.mem_cons.mpr (Or.inr h))) (hb w))
theorem goodIn_sub {big ws : List Cond} (hm : ∀ w ∈ ws, w ∈ big) (h : ws.all goodWord = true) : GoodIn big ws := fun w hw => ⟨hm w hw, good_of_word (List.all_eq_true.mp h w hw)⟩
/-! ===== END ===== -/

/-! ===== BEGIN exceptions that leave a method, and their catching by the caller (launches without stack traces) ===== -/
section VXA
/-! The laws vx_back, vx_callV, vx_callS, vx_callSW, vx_throw0, vx_throwS follow proofs of the library, with one case more: JvmDerived/Free/Laws.lean (Back.of_free), Shelf42/LK1.lean (callV, callS), Shelf/KitTraced.lean (throwNew0V, throwNewS). -/
/-- where a method has thrown q: the class by its name, the cell, what was written, the world -/
def vx_T (XC : String → State → State → Prop) (st : State) (q : Addr) (t : State) (mc ms : Nat) (free : Addr → Prop) : Prop :=
  ∃ (E : String) (ce : Cell) (L : List Loc), XC E st t ∧ t.heap[q]? = some ce ∧ ce.vm = .none ∧ st.vm.findClass E = some ce.cls ∧ st.WarmedH t.vm ∧ st.sameButNew ({ t with vm := st.vm } : State) L mc ms ∧ ∀ z ∈ L, free z.base
def vx_Q (Qc : Array Value → State → Outcome → State → Prop) (XC : String → State → State → Prop) (mc ms : Nat) (free : Addr → Prop) : Array Value → State → Outcome → State → Prop := fun a st o t =>
  (Qc a st o t ∧ ∃ L, FrameEnd st o t L mc ms ∧ ∀ q ∈ L, free q.base) ∨ ∃ q, o = .threw q ∧ vx_T XC st q t mc ms free
/-- a callee that returns or throws -/
def vx_Met (l : Launch) (y : MethodName) (ws : List Cond) (rm : Room) (Pc : Array Value → State → Prop) (Qc : Array Value → State → Outcome → State → Prop) (XC : String → State → State → Prop) (mc ms : Nat) (free : Addr → Prop) : Prop :=
  MetFree l y (headSpec ws rm) Pc (fun _ _ _ _ _ => True) (vx_Q Qc XC mc ms free)
def vx_Post (XC : String → State → State → Prop) (mc ms : Nat) (free : Addr → Prop) : Pt → Array Value → Addr → Pt → Prop := fun A a q B =>
  ∃ (g : JFrame) (mk : MethodId) (t : State) (L : List Loc) (E : String) (ce : Cell), B.U.heap = t.heap ∧ B.U.vm = t.vm ∧ XC E (A.U.calling g mk a) t ∧ t.heap[q]? = some ce ∧ ce.vm = .none ∧ A.U.vm.findClass E = some ce.cls ∧ B.locs = A.locs ++ L ∧ (∀ z ∈ L, free z.base) ∧ B.cells = A.cells + mc ∧ B.slots = A.slots + ms
def vx_Back (l : Launch) (R : Room) (p : Program) (e : Env) (below : List Frame) (s : State) (sargs : Array Value) (y : MethodName) (len W9 : Nat)
    (Pre : Pt → Array Value → Prop) (Post : Pt → Array Value → Option Value → Pt → Prop) (PostX : Pt → Array Value → Addr → Pt → Prop) : Prop :=
  ∀ (m : MethodId) (meth : Method) (c : Code) (A : Pt) (g : JFrame) (ig : Instr) (mk : MethodId) (a : Array Value),
    Stand p l e R s m sargs below meth c A.U A.locs A.cells A.slots → g.method = m → g.locals.size = c.maxLocals → decode c.code g.pc = .ok (ig, len) →
    2 * g.monitorRoom + (g.stack.map fun v => v.category).sum ≤ W9 → A.U.methodNamed? y = some mk → Pre A a →
    (∃ (v : Option Value) (B : Pt), Stand p l e R s m sargs below meth c B.U B.locs B.cells B.slots ∧ Post A a v B ∧
      Steps p.tables e below (doInvoke e (A.U.setTop g) [] mk a).1 (B.U.setTop { g with pc := g.pc + len, stack := v.toList ++ g.stack })) ∨
    (∃ (q : Addr) (B : Pt), Stand p l e R s m sargs below meth c B.U B.locs B.cells B.slots ∧ PostX A a q B ∧
      Steps p.tables e below (doInvoke e (A.U.setTop g) [] mk a).1 ((B.U.setTop g).pushFrame (.throwing q)))
section Payer
variable {l : Launch} {R : Room} {p : Program} {e : Env} {below : List Frame} {s : State} {sargs : Array Value} {y : MethodName} {len W9 : Nat}
theorem vx_back {ws : List Cond} {rm : Room} {Pc : Array Value → State → Prop} {Qc : Array Value → State → Outcome → State → Prop} {XC : String → State → State → Prop} {mc ms : Nat} {free : Addr → Prop} {bytes : ByteArray} {maxL : Nat} {ret : Option FieldType}
    (hM : vx_Met l y ws rm Pc Qc XC mc ms free) (hblind : FrameBlind Pc) (hrc : rm.cells = mc) (hrs : rm.slots = ms)
    (hframes : rm.frames + 1 ≤ R.frames) (hlocals : W9 + (maxL + 11) + rm.locals ≤ R.locals)
    (hws : ∀ w ∈ ws, ∀ a' U, s.WarmedH U.vm → w.before a' U = true) (hcode : Cond.code y bytes maxL ret ∈ ws) (hinit : ∀ a' U, s.WarmedH U.vm → (Cond.initialized y.cls).before a' U = true) :
    vx_Back l R p e below s sargs y len W9 (PreOf R mc ms Pc) (PostOf Qc mc ms free) (vx_Post XC mc ms free) := by
  intro m meth c A g ig mk a X hg hsize hdg hW hn hp
  have h1 : (headSpec ws rm).pre.before a A.U = true := atoms_intro fun w hw => hws w hw _ _ X.warmed
  have h2 : (Cond.code y bytes maxL ret).before a A.U = true := hws _ hcode _ _ X.warmed
  have h3 : (Cond.initialized y.cls).before a A.U = true := hinit _ _ X.warmed
  have h4 : A.cells + (headSpec ws rm).room.cells ≤ R.cells := by rw [show (headSpec ws rm).room.cells = mc from hrc]; exact hp.1
  have h5 : A.slots + (headSpec ws rm).room.slots ≤ R.slots := by rw [show (headSpec ws rm).room.slots = ms from hrs]; exact hp.2.1
  have hPc : Pc a (A.U.calling g mk a) := hblind _ _ _ _ hp.2.2
  obtain ⟨U, Ls, c0, s0⟩ := A
  dsimp only [Pt.U, Pt.locs, Pt.cells, Pt.slots] at h1 h2 h3 h4 h5 X hn hPc ⊢
  obtain ⟨methY, cY, hmY, hcY, -, hlY, -, -, -, -⟩ := Cond.code_spec hn h2
  obtain ⟨kY, hkY, -⟩ := className_of_methodNamed hn
  have hinitY : kY.init = .initialized := Cond.initialized_spec (findClass_of_methodNamed hn) hkY h3
  have h : At U g.method c below := by rw [hg]; exact X.here
  have hlocals9 : W9 + (maxL + 11) + (headSpec ws rm).room.locals ≤ R.locals := hlocals
  have happ : (headSpec ws rm).appliesLoose y e.platform (U.calling g mk a) = true :=
    Spec.appliesLoose_calling (g := g) h hdg hn hkY hinitY
      (X.room_calling (g := g) (R' := (headSpec ws rm).room) hsize hmY hcY hframes (by rw [hlY]; omega) h4 h5) h1
  obtain ⟨mid, hmid⟩ := h.above
  have hfr : (U.setTop g).frames = (.java g :: mid) ++ below := by rw [State.frames_setTop' g h.top, hmid]; rfl
  obtain ⟨o, s₂, hsteps, -, hend, hq⟩ := Steps.callFree hM p X.admits X.cas X.clock (acts := []) hfr happ hPc trivial
  have hq' : vx_Q Qc XC mc ms free a (U.calling g mk a) o s₂ := hq
  rw [State.frames_setTop' g h.top] at hend
  obtain ⟨g₀, hg0⟩ := Option.isSome_iff_exists.mp h.top
  obtain ⟨r, hr⟩ := State.topJava?_eq_some.mp hg0
  have hr' : (({ U with heap := s₂.heap, slotsUsed := s₂.slotsUsed } : State).setVm s₂.vm).frames = .java g₀ :: r := hr
  rcases hq' with ⟨hqc, L, hfe, hL⟩ | ⟨q, rfl, E, ce, L, hx, hce, hcv, hcl, hW₂, hsm, hL⟩
  · obtain ⟨⟨v, rfl⟩, hW₂, e2, q2, q3, q4, q5, q6⟩ := id hfe
    have e3 : s₂ = ({ (U.calling g mk a).setFrames s₂.frames with heap := s₂.heap, slotsUsed := s₂.slotsUsed } : State).setVm s₂.vm := by
      have : s₂ = ({ s₂ with vm := (U.calling g mk a).vm } : State).setVm s₂.vm := rfl
      rw [e2] at this
      exact this
    obtain ⟨c₂, i₂, len₂, hc₂, hd₂, hf₂⟩ := hend
    have hW' : U.WarmedH s₂.vm := hW₂
    have hcc : c₂ = c := by
      have h1 : s₂.code? g.method = U.code? g.method := by
        rw [State.code?_eq, State.code?_eq, hW'.alike.method?]
      exact Option.some.inj (hc₂.symm.trans (h1.trans h.code))
    subst hcc
    have hlen : len₂ = len := by rw [hdg] at hd₂; cases hd₂; rfl
    subst hlen
    have hs₂ : s₂ = (({ U with heap := s₂.heap, slotsUsed := s₂.slotsUsed } : State).setVm s₂.vm).setTop { g with pc := g.pc + len₂, stack := v.toList ++ g.stack } := by
      refine e3.trans ?_
      rw [hf₂, State.calling_eq h.top, State.setFrames_setFrames, State.setTop_of_frames _ hr', hr]
      rfl
    have hsame : U.sameButNew ({ U with heap := s₂.heap, slotsUsed := s₂.slotsUsed } : State) L mc ms := by
      refine ⟨?_, q2, q3, q4, q5, q6⟩
      obtain ⟨t, ht, -⟩ := State.frames_cons hr
      show ({ U with heap := s₂.heap, slotsUsed := s₂.slotsUsed } : State) = { U.setFrames U.frames with heap := s₂.heap, slotsUsed := s₂.slotsUsed }
      rw [State.setFrames_self ht]
    subst hg
    refine Or.inl ⟨v, ⟨(({ U with heap := s₂.heap, slotsUsed := s₂.slotsUsed } : State).setVm s₂.vm), Ls ++ L, c0 + mc, s0 + ms⟩,
      ⟨X.admits, X.cas, X.clock, X.frames, X.room, X.hears, X.method, X.code, (X.here.setHeapUsed s₂.heap s₂.slotsUsed).setVm hW'.alike, X.tail, State.WarmedH.trans X.warmed hW', X.limits, X.bytes, X.same.trans (hsame.setVm s.vm)⟩,
      ⟨g, mk, s₂, L, rfl, rfl, hqc, rfl, hL, rfl, rfl⟩, ?_⟩
    show Steps p.tables e below _ ((({ U with heap := s₂.heap, slotsUsed := s₂.slotsUsed } : State).setVm s₂.vm).setTop { g with pc := g.pc + len₂, stack := v.toList ++ g.stack })
    rw [← hs₂]
    exact hsteps
  · obtain ⟨e2, q2, q3, q4, q5, q6⟩ := id hsm
    have e3 : s₂ = ({ (U.calling g mk a).setFrames s₂.frames with heap := s₂.heap, slotsUsed := s₂.slotsUsed } : State).setVm s₂.vm := by
      have : s₂ = ({ s₂ with vm := (U.calling g mk a).vm } : State).setVm s₂.vm := rfl
      rw [e2] at this
      exact this
    have hf₂ : s₂.frames = .throwing q :: .java g :: U.frames.tail := hend
    have hW' : U.WarmedH s₂.vm := hW₂
    have hs₂ : s₂ = ((({ U with heap := s₂.heap, slotsUsed := s₂.slotsUsed } : State).setVm s₂.vm).setTop g).pushFrame (.throwing q) := by
      refine e3.trans ?_
      rw [hf₂, State.calling_eq h.top, State.setFrames_setFrames, State.pushFrame, State.frames_setTop _ hr', State.setTop_of_frames _ hr', State.setFrames_setFrames, hr]
      rfl
    have hsame : U.sameButNew ({ U with heap := s₂.heap, slotsUsed := s₂.slotsUsed } : State) L mc ms := by
      refine ⟨?_, q2, q3, q4, q5, q6⟩
      obtain ⟨t, ht, -⟩ := State.frames_cons hr
      show ({ U with heap := s₂.heap, slotsUsed := s₂.slotsUsed } : State) = { U.setFrames U.frames with heap := s₂.heap, slotsUsed := s₂.slotsUsed }
      rw [State.setFrames_self ht]
    subst hg
    refine Or.inr ⟨q, ⟨(({ U with heap := s₂.heap, slotsUsed := s₂.slotsUsed } : State).setVm s₂.vm), Ls ++ L, c0 + mc, s0 + ms⟩,
      ⟨X.admits, X.cas, X.clock, X.frames, X.room, X.hears, X.method, X.code, (X.here.setHeapUsed s₂.heap s₂.slotsUsed).setVm hW'.alike, X.tail, State.WarmedH.trans X.warmed hW', X.limits, X.bytes, X.same.trans (hsame.setVm s.vm)⟩,
      ⟨g, mk, s₂, L, E, ce, rfl, rfl, hx, hce, hcv, hcl, rfl, hL, rfl, rfl⟩, ?_⟩
    show Steps p.tables e below _ (((({ U with heap := s₂.heap, slotsUsed := s₂.slotsUsed } : State).setVm s₂.vm).setTop g).pushFrame (.throwing q))
    rw [← hs₂]
    exact hsteps
end Payer
section Calls
variable {p : Program} {l : Launch} {e : Env} {R : Room} {s : State} {m : MethodId} {args : Array Value} {below : List Frame} {meth : Method} {c : Code} {T : State} {locs : List Loc} {cells slots : Nat}
theorem vx_callV (X : Stand p l e R s m args below meth c T locs cells slots) (hexec : p.tables.exec = Jvm.exec) {own C : String} {index : Nat} {y : MethodName} {bytes : ByteArray} {maxL : Nat} {ret : Option FieldType}
    (hown : s.vm.findClass own = some m.cls) (hlink : (Cond.methodLink own index y).before args s = true) (hinst : (Cond.instanceMethod y).before args s = true) (hsel : (Cond.selects C y y).before args s = true)
    (hcode : (Cond.code y bytes maxL ret).before args s = true) (hy : y.cls ≠ "java/lang/invoke/MethodHandle" ∧ y.cls ≠ "java/lang/invoke/VarHandle")
    {W9 : Nat} {Pre : Pt → Array Value → Prop} {Post : Pt → Array Value → Option Value → Pt → Prop} {PostX : Pt → Array Value → Addr → Pt → Prop} (hK : vx_Back l R p e below s args y 3 W9 Pre Post PostX)
    {b : Addr} {cellB : Cell} (hcell : T.heap[b]? = some cellB) (hobj : cellB.vm.isStatics = false) (hcls : s.vm.findClass C = some cellB.cls)
    {g : JFrame} (hg : g.method = m) (hsize : g.locals.size = c.maxLocals) {argsL rest : List Value} (hlen : ∀ sig, parseMethodDescriptor y.desc = some sig → argsL.length = sig.parameters.length)
    (hstack : g.stack = argsL.reverse ++ .ref b :: rest) (hW : 2 * g.monitorRoom + (rest.map fun v => v.category).sum ≤ W9) (hdg : decode c.code g.pc = .ok (.invokevirtual index, 3))
    (hpre : ∀ vm₁, s.WarmedH vm₁ → Pre ⟨T.setVm vm₁, locs, cells, slots⟩ (Value.ref b :: argsL).toArray) :
    (∃ (v : Option Value) (vm₁ : Vm) (B : Pt), s.WarmedH vm₁ ∧ Stand p l e R s m args below meth c B.U B.locs B.cells B.slots ∧ Post ⟨T.setVm vm₁, locs, cells, slots⟩ (Value.ref b :: argsL).toArray v B ∧
      ∀ target, Steps p.tables e below (B.U.setTop { g with pc := g.pc + 3, stack := v.toList ++ rest }) target → Steps p.tables e below (T.setTop g) target) ∨
    (∃ (q : Addr) (vm₁ : Vm) (B : Pt), s.WarmedH vm₁ ∧ Stand p l e R s m args below meth c B.U B.locs B.cells B.slots ∧ PostX ⟨T.setVm vm₁, locs, cells, slots⟩ (Value.ref b :: argsL).toArray q B ∧
      Steps p.tables e below (T.setTop g) ((B.U.setTop { g with stack := rest }).pushFrame (.throwing q))) := by
  obtain ⟨mk, methM, hnamed, hmethM, hstM, habM⟩ := Cond.instanceMethod_spec hinst
  obtain ⟨methM', cM, hmethM', -, -, -, -, -, -, hsigM⟩ := Cond.code_spec hnamed hcode
  cases hmethM.symm.trans hmethM'
  obtain ⟨c2, r2, m2, q1, q2, q3, q4, kP, hkP, hkPi⟩ := Cond.selects_spec hsel
  cases hcls.symm.trans q1
  cases (State.methodFound?_of_named hnamed hy).symm.trans q2
  cases hnamed.symm.trans q3
  have hselP : selectMethod e.platform s.vm cellB.cls mk = .method mk := by rw [Launch.admits_selectMethod X.admits]; exact q4
  obtain ⟨vm₁, X₁, hstep₁⟩ := X.invokevirtual hexec hown hlink hnamed hmethM hstM hkP hkPi hy (a := b) (cell := cellB) hcell
    (fun z h => by rw [h] at hobj; cases hobj) hselP hmethM habM hkP hkPi (g := g) hg (argsL := argsL) (rest := rest) (hlen _ hsigM) hstack hdg
  rcases hK m meth c ⟨T.setVm vm₁, locs, cells, slots⟩ { g with stack := rest } (.invokevirtual index) mk (Value.ref b :: argsL).toArray X₁ hg hsize hdg hW (X₁.named hnamed) (hpre vm₁ X₁.warmed) with ⟨v, B, X', hpost, hsteps⟩ | ⟨q, B, X', hpost, hsteps⟩
  · exact Or.inl ⟨v, vm₁, B, X₁.warmed, X', hpost, fun target h => hstep₁ _ fun acts => by rw [doInvoke_state]; exact hsteps.trans h⟩
  · exact Or.inr ⟨q, vm₁, B, X₁.warmed, X', hpost, hstep₁ _ fun acts => by rw [doInvoke_state]; exact hsteps⟩
theorem vx_callS (X : Stand p l e R s m args below meth c T locs cells slots) (hexec : p.tables.exec = Jvm.exec) {own : String} {index : Nat} {y : MethodName} {bytes : ByteArray} {maxL : Nat} {ret : Option FieldType}
    (hown : s.vm.findClass own = some m.cls) (hlink : (Cond.methodLink own index y).before args s = true) (hstat : (Cond.static y).before args s = true) (hinit : (Cond.initialized y.cls).before args s = true)
    (hcode : (Cond.code y bytes maxL ret).before args s = true) (hy : y.cls ≠ "java/lang/invoke/MethodHandle" ∧ y.cls ≠ "java/lang/invoke/VarHandle")
    {W9 : Nat} {Pre : Pt → Array Value → Prop} {Post : Pt → Array Value → Option Value → Pt → Prop} {PostX : Pt → Array Value → Addr → Pt → Prop} (hK : vx_Back l R p e below s args y 3 W9 Pre Post PostX)
    {g : JFrame} (hg : g.method = m) (hsize : g.locals.size = c.maxLocals) {argsL rest : List Value} (hlen : ∀ sig, parseMethodDescriptor y.desc = some sig → argsL.length = sig.parameters.length)
    (hstack : g.stack = argsL.reverse ++ rest) (hW : 2 * g.monitorRoom + (rest.map fun v => v.category).sum ≤ W9) (hdg : decode c.code g.pc = .ok (.invokestatic index, 3))
    (hpre : ∀ vm₁, s.WarmedH vm₁ → Pre ⟨T.setVm vm₁, locs, cells, slots⟩ argsL.toArray) :
    (∃ (v : Option Value) (vm₁ : Vm) (B : Pt), s.WarmedH vm₁ ∧ Stand p l e R s m args below meth c B.U B.locs B.cells B.slots ∧ Post ⟨T.setVm vm₁, locs, cells, slots⟩ argsL.toArray v B ∧
      ∀ target, Steps p.tables e below (B.U.setTop { g with pc := g.pc + 3, stack := v.toList ++ rest }) target → Steps p.tables e below (T.setTop g) target) ∨
    (∃ (q : Addr) (vm₁ : Vm) (B : Pt), s.WarmedH vm₁ ∧ Stand p l e R s m args below meth c B.U B.locs B.cells B.slots ∧ PostX ⟨T.setVm vm₁, locs, cells, slots⟩ argsL.toArray q B ∧
      Steps p.tables e below (T.setTop g) ((B.U.setTop { g with stack := rest }).pushFrame (.throwing q))) := by
  obtain ⟨mk, hnamed⟩ := Cond.code_named hcode
  obtain ⟨methM, cM, hmethM, -, -, -, -, -, -, hsigM⟩ := Cond.code_spec hnamed hcode
  have hstatic : methM.isStatic = true := Cond.static_spec hnamed hmethM hstat
  obtain ⟨kP, hkP, -⟩ := className_of_methodNamed hnamed
  have hinitP : kP.init = .initialized := Cond.initialized_spec (findClass_of_methodNamed hnamed) hkP hinit
  obtain ⟨vm₁, X₁, hstep₁⟩ := X.invokestatic hexec hown hlink hnamed hmethM hstatic hkP hinitP hy (g := g) hg (argsL := argsL) (rest := rest) (hlen _ hsigM) hstack hdg
  rcases hK m meth c ⟨T.setVm vm₁, locs, cells, slots⟩ { g with stack := rest } (.invokestatic index) mk argsL.toArray X₁ hg hsize hdg hW (X₁.named hnamed) (hpre vm₁ X₁.warmed) with ⟨v, B, X', hpost, hsteps⟩ | ⟨q, B, X', hpost, hsteps⟩
  · exact Or.inl ⟨v, vm₁, B, X₁.warmed, X', hpost, fun target h => hstep₁ _ fun acts => by rw [doInvoke_state]; exact hsteps.trans h⟩
  · exact Or.inr ⟨q, vm₁, B, X₁.warmed, X', hpost, hstep₁ _ fun acts => by rw [doInvoke_state]; exact hsteps⟩
end Calls
theorem vx_cls {s : State} {T : State} {vm₁ : Vm} {E : String} {k : ClassId} (hW : s.WarmedH vm₁) (h : (T.setVm vm₁).vm.findClass E = some k) : s.vm.findClass E = some k := by
  have h1 : vm₁.findClass E = some k := h
  rw [hW.alike.findClass] at h1
  exact h1
/-- the method's frame g, with q thrown over it -/
def vx_W (p : Program) (l : Launch) (e : Env) (R : Room) (s : State) (m : MethodId) (args : Array Value) (below : List Frame) (meth : Method) (c : Code) (H : Heap) (locs : List Loc) (cells slots : Nat) (Q : State → Prop) (g : JFrame) (q : Addr) : Prop :=
  ∀ T : State, T.heap = H → Stand p l e R s m args below meth c T locs cells slots → ∃ t, Steps p.tables e below ((T.setTop g).pushFrame (.throwing q)) t ∧ Q t
def vx_Run (p : Program) (l : Launch) (e : Env) (R : Room) (s : State) (m : MethodId) (args : Array Value) (below : List Frame) (meth : Method) (c : Code) (H : Heap) (locs : List Loc) (cells slots mc ms : Nat) (g : JFrame) (rest : List Value) (Qa : State → Outcome → State → Prop) (XC : String → State → State → Prop) (free : Addr → Prop) : Prop :=
  ∀ T : State, T.heap = H → Stand p l e R s m args below meth c T locs cells slots →
    (∃ (v : Option Value) (st₀ t T' : State) (L : List Loc), st₀.heap = H ∧ Stand p l e R s m args below meth c T' (locs ++ L) (cells + mc) (slots + ms) ∧ (∀ q ∈ L, free q.base) ∧ T'.heap = t.heap ∧ T'.vm = t.vm ∧ Qa st₀ (.returned v) t ∧
      Goes p e below T g T' { g with pc := g.pc + 3, stack := v.toList ++ rest }) ∨
    (∃ (q : Addr) (st₀ t T' : State) (L : List Loc) (E : String) (ce : Cell), st₀.heap = H ∧ Stand p l e R s m args below meth c T' (locs ++ L) (cells + mc) (slots + ms) ∧ (∀ z ∈ L, free z.base) ∧ T'.heap = t.heap ∧ T'.vm = t.vm ∧ XC E st₀ t ∧ t.heap[q]? = some ce ∧ ce.vm = .none ∧ s.vm.findClass E = some ce.cls ∧
      Steps p.tables e below (T.setTop g) ((T'.setTop { g with stack := rest }).pushFrame (.throwing q)))
def vx_X {S : Type} (px : S → Prop) (B : String → S → State → Prop) (A : Nat → Prop) : String → State → State → Prop := fun E st t => ∃ u : S, px u ∧ B E u t ∧ va_F A st t
section Runs
variable {p : Program} {l : Launch} {e : Env} {R : Room} {s : State} {m : MethodId} {args : Array Value} {below : List Frame} {meth : Method} {c : Code} {H : Heap} {locs : List Loc} {cells slots : Nat}
variable {y : MethodName} {bytes cc : ByteArray} {maxL nL mc ms n index : Nat} {ret : Option FieldType} {ws : List Cond} {rm : Room} {Pc : Array Value → State → Prop} {Qc : Array Value → State → Outcome → State → Prop} {XC : String → State → State → Prop} {free : Addr → Prop} {Ts : List Cond} {own C : String} {b : Addr} {As rest : List Value} {g : JFrame}
theorem vx_callBack (cb : CallB R s args own index y bytes maxL ret ws rm mc ms n) (hM : vx_Met l y ws rm Pc Qc XC mc ms free) (hbl : FrameBlind Pc) : vx_Back l R p e below s args y 3 8 (PreOf R mc ms Pc) (PostOf Qc mc ms free) (vx_Post XC mc ms free) := by
  obtain ⟨hrc, hrs, hfr, hlo, hws, hcw, -, hini, -⟩ := cb
  exact vx_back (bytes := bytes) (maxL := maxL) (ret := ret) hM hbl hrc hrs hfr hlo hws hcw (fun a' U hW => word_at hW (Or.inl (by first | rfl | simp [Cond.onTables, Cond.keeps, Cond.steady])) hini)
theorem vx_runV (S : CallFix p m c cc nL s args Ts own) (hM : vx_Met l y ws rm Pc Qc XC mc ms free) (cw : CallW R s args own C index y bytes maxL ret ws rm mc ms n) (hp : PreV s H C b Pc As)
    (hg : g.method = m) (hn : As.length = n) (hsize : g.locals.size = nL) (hstack : g.stack = As.reverse ++ .ref b :: rest) (hW : 2 * g.monitorRoom + (rest.map fun v => v.category).sum ≤ 8) (hdg : decode cc g.pc = .ok (.invokevirtual index, 3)) (hf : cells + mc ≤ R.cells ∧ slots + ms ≤ R.slots) :
    vx_Run p l e R s m args below meth c H locs cells slots mc ms g rest (Qc (Value.ref b :: As).toArray) XC free := by
  have hK : vx_Back l R p e below s args y 3 8 (PreOf R mc ms Pc) (PostOf Qc mc ms free) (vx_Post XC mc ms free) := vx_callBack cw.1 hM hp.1
  obtain ⟨⟨-, -, -, -, -, -, hcode, -, hy, hlen, hl⟩, hin, hse⟩ := cw
  obtain ⟨hx, hb, hml, ho, -⟩ := S
  obtain ⟨-, ⟨cellB, hcB, hoB, hclB⟩, hPc⟩ := hp
  intro T hT X
  rcases vx_callV X hx (C := C) (bytes := bytes) (maxL := maxL) (ret := ret) ho hl hin hse hcode hy hK (by rw [hT]; exact hcB) hoB hclB hg (hsize.trans hml.symm) (argsL := As) (rest := rest) (fun sig h => hn.trans (hlen sig h)) hstack hW (by rw [hb]; exact hdg)
    (fun vm₁ hW₁ => ⟨hf.1, hf.2, hPc (T.setVm vm₁) hT hW₁⟩) with ⟨v, vm₁, ⟨U', l2, c2, s2⟩, hW₁, X', ⟨g', mk, t, L, e1, e2, hq, h1, hL, h2, h3⟩, st⟩ | ⟨q, vm₁, ⟨U', l2, c2, s2⟩, hW₁, X', ⟨g', mk, t, L, E, ce, e1, e2, hq, hce, hcv, hcl, h1, hL, h2, h3⟩, st⟩
  · dsimp only [Pt.U, Pt.locs, Pt.cells, Pt.slots] at X' e1 e2 h1 h2 h3 st
    subst h1; subst h2; subst h3
    exact Or.inl ⟨v, (T.setVm vm₁).calling g' mk (Value.ref b :: As).toArray, t, U', L, hT, X', hL, e1, e2, hq, st⟩
  · dsimp only [Pt.U, Pt.locs, Pt.cells, Pt.slots] at X' e1 e2 h1 h2 h3 st hcl
    subst h1; subst h2; subst h3
    exact Or.inr ⟨q, (T.setVm vm₁).calling g' mk (Value.ref b :: As).toArray, t, U', L, E, ce, hT, X', hL, e1, e2, hq, hce, hcv, vx_cls hW₁ hcl, st⟩
theorem vx_runS (S : CallFix p m c cc nL s args Ts own) (hM : vx_Met l y ws rm Pc Qc XC mc ms free) (cw : CallB R s args own index y bytes maxL ret ws rm mc ms n ∧ (Cond.static y).before args s = true) (hp : PreS s H Pc As)
    (hg : g.method = m) (hn : As.length = n) (hsize : g.locals.size = nL) (hstack : g.stack = As.reverse ++ rest) (hW : 2 * g.monitorRoom + (rest.map fun v => v.category).sum ≤ 8) (hdg : decode cc g.pc = .ok (.invokestatic index, 3)) (hf : cells + mc ≤ R.cells ∧ slots + ms ≤ R.slots) :
    vx_Run p l e R s m args below meth c H locs cells slots mc ms g rest (Qc As.toArray) XC free := by
  have hK : vx_Back l R p e below s args y 3 8 (PreOf R mc ms Pc) (PostOf Qc mc ms free) (vx_Post XC mc ms free) := vx_callBack cw.1 hM hp.1
  obtain ⟨⟨-, -, -, -, -, -, hcode, hini, hy, hlen, hl⟩, hstt⟩ := cw
  obtain ⟨hx, hb, hml, ho, -⟩ := S
  intro T hT X
  rcases vx_callS X hx (bytes := bytes) (maxL := maxL) (ret := ret) ho hl hstt hini hcode hy hK hg (hsize.trans hml.symm) (argsL := As) (rest := rest) (fun sig h => hn.trans (hlen sig h)) hstack hW (by rw [hb]; exact hdg)
    (fun vm₁ hW₁ => ⟨hf.1, hf.2, hp.2 (T.setVm vm₁) hT hW₁⟩) with ⟨v, vm₁, ⟨U', l2, c2, s2⟩, hW₁, X', ⟨g', mk, t, L, e1, e2, hq, h1, hL, h2, h3⟩, st⟩ | ⟨q, vm₁, ⟨U', l2, c2, s2⟩, hW₁, X', ⟨g', mk, t, L, E, ce, e1, e2, hq, hce, hcv, hcl, h1, hL, h2, h3⟩, st⟩
  · dsimp only [Pt.U, Pt.locs, Pt.cells, Pt.slots] at X' e1 e2 h1 h2 h3 st
    subst h1; subst h2; subst h3
    exact Or.inl ⟨v, (T.setVm vm₁).calling g' mk As.toArray, t, U', L, hT, X', hL, e1, e2, hq, st⟩
  · dsimp only [Pt.U, Pt.locs, Pt.cells, Pt.slots] at X' e1 e2 h1 h2 h3 st hcl
    subst h1; subst h2; subst h3
    exact Or.inr ⟨q, (T.setVm vm₁).calling g' mk As.toArray, t, U', L, E, ce, hT, X', hL, e1, e2, hq, hce, hcv, vx_cls hW₁ hcl, st⟩
end Runs
section Rows
variable {p : Program} {l : Launch} {e : Env} {R : Room} {s : State} {m : MethodId} {args : Array Value} {below : List Frame} {meth : Method} {c : Code} {H : Heap} {locs : List Loc} {cells slots : Nat} {Q : State → Prop}
variable {mc ms : Nat} {free : Addr → Prop} {A0 A1 : Nat → Prop} {H0 : Heap} {a : Array Value} {pc : Nat} {ls : Array Slot} {st0 rest : List Value}
theorem vx_keep {st₀ t T' : State} {L : List Loc} (h0 : st₀.heap = H) (e1 : T'.heap = t.heap) (hS : va_S A0 H0 H locs) (hA : ∀ q, q < H.size → A1 q → A0 q) (hf : ∀ q, free q → A0 q) (hL : ∀ q ∈ L, free q.base) (hF : va_F A1 st₀ t) :
    H.size ≤ T'.heap.size ∧ (∀ q : Nat, q < H.size → ¬ A1 q → T'.heap[q]? = H[q]?) ∧ va_S A0 H0 T'.heap (locs ++ L) := by
  obtain ⟨hz, hk⟩ := hF
  rw [h0] at hz hk
  exact ⟨by rw [e1]; exact hz, fun q h1 h2 => by rw [e1]; exact hk q h1 h2,
    ⟨Nat.le_trans hS.1 (by rw [e1]; exact hz), fun q h1 h2 => by rw [e1, hk q (Nat.lt_of_lt_of_le h1 hS.1) (fun z => h2 (hA q (Nat.lt_of_lt_of_le h1 hS.1) z))]; exact hS.2.1 q h1 h2, fun q hq => by
      rcases List.mem_append.mp hq with h | h
      · exact hS.2.2 q h
      · exact hf _ (hL q h)⟩⟩
theorem vx_calli {S SX : Type} {post : Int32 → S → Prop} {px : SX → Prop} {B : S → State → Prop} {BX : String → SX → State → Prop} {AX : Nat → Prop} (hr : vx_Run p l e R s m args below meth c H locs cells slots mc ms (F0 m pc ls st0) rest (va_Qi post B A1 a) (vx_X px BX AX) free) (hS : va_S A0 H0 H locs) (hA : ∀ q, q < H.size → A1 q → A0 q) (hf : ∀ q, free q → A0 q) (hAX : ∀ q, q < H.size → AX q → A0 q)
    (kx : ∀ (E : String) (ce : Cell) (q9 : Addr) (u : SX) (t : State) (H1 : Heap) (locs1 : List Loc), t.heap = H1 → s.vm.Alike t.vm → px u → BX E u t → H.size ≤ H1.size → (∀ q : Nat, q < H.size → ¬ AX q → H1[q]? = H[q]?) → va_S A0 H0 H1 locs1 → H1[q9]? = some ce → ce.vm = .none → s.vm.findClass E = some ce.cls → vx_W p l e R s m args below meth c H1 locs1 (cells + mc) (slots + ms) Q (F0 m pc ls rest) q9)
    (kk : ∀ (r : Int32) (u : S) (t : State) (H1 : Heap) (locs1 : List Loc), t.heap = H1 → s.vm.Alike t.vm → post r u → B u t → H.size ≤ H1.size → (∀ q : Nat, q < H.size → ¬ A1 q → H1[q]? = H[q]?) → va_S A0 H0 H1 locs1 → W p l e R s m args below meth c H1 locs1 (cells + mc) (slots + ms) Q (F0 m (pc + 3) ls (.int r :: rest))) : W p l e R s m args below meth c H locs cells slots Q (F0 m pc ls st0) := by
  intro T hT X
  rcases hr T hT X with ⟨v, st₀, t, T', L, h0, X', hL, e1, e2, ⟨⟨r, u, hv, hp, hb⟩, hF⟩, st⟩ | ⟨q, st₀, t, T', L, E, ce, h0, X', hL, e1, e2, ⟨u, hp, hb, hF⟩, hce, hcv, hcl, st⟩
  · cases hv
    obtain ⟨k1, k2, k3⟩ := vx_keep h0 e1 hS hA hf hL hF
    obtain ⟨t2, a1, b1⟩ := kk r u t T'.heap (locs ++ L) e1.symm (by rw [← e2]; exact X'.warmed.alike) hp hb k1 k2 k3 T' rfl X'
    exact ⟨t2, st t2 a1, b1⟩
  · obtain ⟨k1, k2, k3⟩ := vx_keep h0 e1 hS hAX hf hL hF
    obtain ⟨t2, a1, b1⟩ := kx E ce q u t T'.heap (locs ++ L) e1.symm (by rw [← e2]; exact X'.warmed.alike) hp hb k1 k2 k3 (by rw [e1]; exact hce) hcv hcl T' rfl X'
    exact ⟨t2, st.trans a1, b1⟩
theorem vx_calll {S SX : Type} {post : Int64 → S → Prop} {px : SX → Prop} {B : S → State → Prop} {BX : String → SX → State → Prop} {AX : Nat → Prop} (hr : vx_Run p l e R s m args below meth c H locs cells slots mc ms (F0 m pc ls st0) rest (va_Ql post B A1 a) (vx_X px BX AX) free) (hS : va_S A0 H0 H locs) (hA : ∀ q, q < H.size → A1 q → A0 q) (hf : ∀ q, free q → A0 q) (hAX : ∀ q, q < H.size → AX q → A0 q)
    (kx : ∀ (E : String) (ce : Cell) (q9 : Addr) (u : SX) (t : State) (H1 : Heap) (locs1 : List Loc), t.heap = H1 → s.vm.Alike t.vm → px u → BX E u t → H.size ≤ H1.size → (∀ q : Nat, q < H.size → ¬ AX q → H1[q]? = H[q]?) → va_S A0 H0 H1 locs1 → H1[q9]? = some ce → ce.vm = .none → s.vm.findClass E = some ce.cls → vx_W p l e R s m args below meth c H1 locs1 (cells + mc) (slots + ms) Q (F0 m pc ls rest) q9)
    (kk : ∀ (r : Int64) (u : S) (t : State) (H1 : Heap) (locs1 : List Loc), t.heap = H1 → s.vm.Alike t.vm → post r u → B u t → H.size ≤ H1.size → (∀ q : Nat, q < H.size → ¬ A1 q → H1[q]? = H[q]?) → va_S A0 H0 H1 locs1 → W p l e R s m args below meth c H1 locs1 (cells + mc) (slots + ms) Q (F0 m (pc + 3) ls (.long r :: rest))) : W p l e R s m args below meth c H locs cells slots Q (F0 m pc ls st0) := by
  intro T hT X
  rcases hr T hT X with ⟨v, st₀, t, T', L, h0, X', hL, e1, e2, ⟨⟨r, u, hv, hp, hb⟩, hF⟩, st⟩ | ⟨q, st₀, t, T', L, E, ce, h0, X', hL, e1, e2, ⟨u, hp, hb, hF⟩, hce, hcv, hcl, st⟩
  · cases hv
    obtain ⟨k1, k2, k3⟩ := vx_keep h0 e1 hS hA hf hL hF
    obtain ⟨t2, a1, b1⟩ := kk r u t T'.heap (locs ++ L) e1.symm (by rw [← e2]; exact X'.warmed.alike) hp hb k1 k2 k3 T' rfl X'
    exact ⟨t2, st t2 a1, b1⟩
  · obtain ⟨k1, k2, k3⟩ := vx_keep h0 e1 hS hAX hf hL hF
    obtain ⟨t2, a1, b1⟩ := kx E ce q u t T'.heap (locs ++ L) e1.symm (by rw [← e2]; exact X'.warmed.alike) hp hb k1 k2 k3 (by rw [e1]; exact hce) hcv hcl T' rfl X'
    exact ⟨t2, st.trans a1, b1⟩
theorem vx_callf {S SX : Type} {post : UInt32 → S → Prop} {px : SX → Prop} {B : S → State → Prop} {BX : String → SX → State → Prop} {AX : Nat → Prop} (hr : vx_Run p l e R s m args below meth c H locs cells slots mc ms (F0 m pc ls st0) rest (va_Qf post B A1 a) (vx_X px BX AX) free) (hS : va_S A0 H0 H locs) (hA : ∀ q, q < H.size → A1 q → A0 q) (hf : ∀ q, free q → A0 q) (hAX : ∀ q, q < H.size → AX q → A0 q)
    (kx : ∀ (E : String) (ce : Cell) (q9 : Addr) (u : SX) (t : State) (H1 : Heap) (locs1 : List Loc), t.heap = H1 → s.vm.Alike t.vm → px u → BX E u t → H.size ≤ H1.size → (∀ q : Nat, q < H.size → ¬ AX q → H1[q]? = H[q]?) → va_S A0 H0 H1 locs1 → H1[q9]? = some ce → ce.vm = .none → s.vm.findClass E = some ce.cls → vx_W p l e R s m args below meth c H1 locs1 (cells + mc) (slots + ms) Q (F0 m pc ls rest) q9)
    (kk : ∀ (r : UInt32) (u : S) (t : State) (H1 : Heap) (locs1 : List Loc), t.heap = H1 → s.vm.Alike t.vm → post r u → B u t → H.size ≤ H1.size → (∀ q : Nat, q < H.size → ¬ A1 q → H1[q]? = H[q]?) → va_S A0 H0 H1 locs1 → W p l e R s m args below meth c H1 locs1 (cells + mc) (slots + ms) Q (F0 m (pc + 3) ls (.float r :: rest))) : W p l e R s m args below meth c H locs cells slots Q (F0 m pc ls st0) := by
  intro T hT X
  rcases hr T hT X with ⟨v, st₀, t, T', L, h0, X', hL, e1, e2, ⟨⟨r, u, hv, hp, hb⟩, hF⟩, st⟩ | ⟨q, st₀, t, T', L, E, ce, h0, X', hL, e1, e2, ⟨u, hp, hb, hF⟩, hce, hcv, hcl, st⟩
  · cases hv
    obtain ⟨k1, k2, k3⟩ := vx_keep h0 e1 hS hA hf hL hF
    obtain ⟨t2, a1, b1⟩ := kk r u t T'.heap (locs ++ L) e1.symm (by rw [← e2]; exact X'.warmed.alike) hp hb k1 k2 k3 T' rfl X'
    exact ⟨t2, st t2 a1, b1⟩
  · obtain ⟨k1, k2, k3⟩ := vx_keep h0 e1 hS hAX hf hL hF
    obtain ⟨t2, a1, b1⟩ := kx E ce q u t T'.heap (locs ++ L) e1.symm (by rw [← e2]; exact X'.warmed.alike) hp hb k1 k2 k3 (by rw [e1]; exact hce) hcv hcl T' rfl X'
    exact ⟨t2, st.trans a1, b1⟩
theorem vx_calld {S SX : Type} {post : UInt64 → S → Prop} {px : SX → Prop} {B : S → State → Prop} {BX : String → SX → State → Prop} {AX : Nat → Prop} (hr : vx_Run p l e R s m args below meth c H locs cells slots mc ms (F0 m pc ls st0) rest (va_Qd post B A1 a) (vx_X px BX AX) free) (hS : va_S A0 H0 H locs) (hA : ∀ q, q < H.size → A1 q → A0 q) (hf : ∀ q, free q → A0 q) (hAX : ∀ q, q < H.size → AX q → A0 q)
    (kx : ∀ (E : String) (ce : Cell) (q9 : Addr) (u : SX) (t : State) (H1 : Heap) (locs1 : List Loc), t.heap = H1 → s.vm.Alike t.vm → px u → BX E u t → H.size ≤ H1.size → (∀ q : Nat, q < H.size → ¬ AX q → H1[q]? = H[q]?) → va_S A0 H0 H1 locs1 → H1[q9]? = some ce → ce.vm = .none → s.vm.findClass E = some ce.cls → vx_W p l e R s m args below meth c H1 locs1 (cells + mc) (slots + ms) Q (F0 m pc ls rest) q9)
    (kk : ∀ (r : UInt64) (u : S) (t : State) (H1 : Heap) (locs1 : List Loc), t.heap = H1 → s.vm.Alike t.vm → post r u → B u t → H.size ≤ H1.size → (∀ q : Nat, q < H.size → ¬ A1 q → H1[q]? = H[q]?) → va_S A0 H0 H1 locs1 → W p l e R s m args below meth c H1 locs1 (cells + mc) (slots + ms) Q (F0 m (pc + 3) ls (.double r :: rest))) : W p l e R s m args below meth c H locs cells slots Q (F0 m pc ls st0) := by
  intro T hT X
  rcases hr T hT X with ⟨v, st₀, t, T', L, h0, X', hL, e1, e2, ⟨⟨r, u, hv, hp, hb⟩, hF⟩, st⟩ | ⟨q, st₀, t, T', L, E, ce, h0, X', hL, e1, e2, ⟨u, hp, hb, hF⟩, hce, hcv, hcl, st⟩
  · cases hv
    obtain ⟨k1, k2, k3⟩ := vx_keep h0 e1 hS hA hf hL hF
    obtain ⟨t2, a1, b1⟩ := kk r u t T'.heap (locs ++ L) e1.symm (by rw [← e2]; exact X'.warmed.alike) hp hb k1 k2 k3 T' rfl X'
    exact ⟨t2, st t2 a1, b1⟩
  · obtain ⟨k1, k2, k3⟩ := vx_keep h0 e1 hS hAX hf hL hF
    obtain ⟨t2, a1, b1⟩ := kx E ce q u t T'.heap (locs ++ L) e1.symm (by rw [← e2]; exact X'.warmed.alike) hp hb k1 k2 k3 (by rw [e1]; exact hce) hcv hcl T' rfl X'
    exact ⟨t2, st.trans a1, b1⟩
theorem vx_callv {S SX : Type} {post : S → Prop} {px : SX → Prop} {B : S → State → Prop} {BX : String → SX → State → Prop} {AX : Nat → Prop} (hr : vx_Run p l e R s m args below meth c H locs cells slots mc ms (F0 m pc ls st0) rest (va_Qv post B A1 a) (vx_X px BX AX) free) (hS : va_S A0 H0 H locs) (hA : ∀ q, q < H.size → A1 q → A0 q) (hf : ∀ q, free q → A0 q) (hAX : ∀ q, q < H.size → AX q → A0 q)
    (kx : ∀ (E : String) (ce : Cell) (q9 : Addr) (u : SX) (t : State) (H1 : Heap) (locs1 : List Loc), t.heap = H1 → s.vm.Alike t.vm → px u → BX E u t → H.size ≤ H1.size → (∀ q : Nat, q < H.size → ¬ AX q → H1[q]? = H[q]?) → va_S A0 H0 H1 locs1 → H1[q9]? = some ce → ce.vm = .none → s.vm.findClass E = some ce.cls → vx_W p l e R s m args below meth c H1 locs1 (cells + mc) (slots + ms) Q (F0 m pc ls rest) q9)
    (kk : ∀ (u : S) (t : State) (H1 : Heap) (locs1 : List Loc), t.heap = H1 → s.vm.Alike t.vm → post u → B u t → H.size ≤ H1.size → (∀ q : Nat, q < H.size → ¬ A1 q → H1[q]? = H[q]?) → va_S A0 H0 H1 locs1 → W p l e R s m args below meth c H1 locs1 (cells + mc) (slots + ms) Q (F0 m (pc + 3) ls (rest))) : W p l e R s m args below meth c H locs cells slots Q (F0 m pc ls st0) := by
  intro T hT X
  rcases hr T hT X with ⟨v, st₀, t, T', L, h0, X', hL, e1, e2, ⟨⟨u, hv, hp, hb⟩, hF⟩, st⟩ | ⟨q, st₀, t, T', L, E, ce, h0, X', hL, e1, e2, ⟨u, hp, hb, hF⟩, hce, hcv, hcl, st⟩
  · cases hv
    obtain ⟨k1, k2, k3⟩ := vx_keep h0 e1 hS hA hf hL hF
    obtain ⟨t2, a1, b1⟩ := kk u t T'.heap (locs ++ L) e1.symm (by rw [← e2]; exact X'.warmed.alike) hp hb k1 k2 k3 T' rfl X'
    exact ⟨t2, st t2 a1, b1⟩
  · obtain ⟨k1, k2, k3⟩ := vx_keep h0 e1 hS hAX hf hL hF
    obtain ⟨t2, a1, b1⟩ := kx E ce q u t T'.heap (locs ++ L) e1.symm (by rw [← e2]; exact X'.warmed.alike) hp hb k1 k2 k3 (by rw [e1]; exact hce) hcv hcl T' rfl X'
    exact ⟨t2, st.trans a1, b1⟩
/-- caught by the row x of this method's table; the rows ahead don't take it -/
theorem vx_catch {own name : String} {E : String} {ce : Cell} {q : Addr} (hown : s.vm.findClass own = some m.cls) (pre : List ExceptionTableEntry) (x : ExceptionTableEntry) (suf : List ExceptionTableEntry) (hsplit : c.exceptionTable.toList = pre ++ x :: suf)
    (hpass : ∀ z ∈ pre, covers z pc = false ∨ (z.catchType ≠ 0 ∧ ∃ nm : String, (Cond.classLink own z.catchType nm).before args s = true ∧ va_Nc E nm s)) (hx : covers x pc = true) (h0 : x.catchType ≠ 0)
    (hlink : (Cond.classLink own x.catchType name).before args s = true) (hcast : (Cond.castable E name).before args s = true) (hcell : H[q]? = some ce) (hv : ce.vm = .none) (hcl : s.vm.findClass E = some ce.cls)
    (kk : W p l e R s m args below meth c H locs cells slots Q (F0 m x.handlerPc ls [.ref q])) : vx_W p l e R s m args below meth c H locs cells slots Q (F0 m pc ls rest) q := by
  intro T hT X
  have hpl : e.platform.magicAccessors = ({} : Platform).magicAccessors := by rw [X.admits.platform]
  obtain ⟨c3, c4, hc3, hc4, hasg⟩ := Cond.castable_spec hcast
  cases Option.some.inj (hc3.symm.trans hcl)
  obtain ⟨c5, hc5, hcl5⟩ := Cond.classLink_spec hown hlink e.platform hpl
  cases Option.some.inj (hc4.symm.trans hc5)
  obtain ⟨vm', X', st⟩ := X.thenCaughtThrough q (g := F0 m pc ls rest) rfl (Steps.refl _) (by rw [hT]; exact hcell) (by rw [hv]; rfl) (by obtain ⟨k9, h9, -⟩ := Vm.findClass_spec hcl; exact ⟨k9, h9⟩) pre x suf hsplit
    (fun z hz => by
      rcases hpass z hz with h | ⟨hz0, nm, hl1, hn1⟩
      · exact Or.inl h
      · obtain ⟨c6, hc6, hcl6⟩ := Cond.classLink_spec hown hl1 e.platform hpl
        obtain ⟨a8, b8, h1, h2, h3⟩ := hn1
        cases Option.some.inj (h1.symm.trans hcl)
        cases Option.some.inj (h2.symm.trans hc6)
        exact Or.inr ⟨hz0, _, hcl6, h3⟩) hx (Or.inr ⟨h0, c4, hcl5, hasg⟩)
  obtain ⟨t, a1, b1⟩ := kk (T.setVm vm') hT X'
  exact ⟨t, st.trans a1, b1⟩
end Rows
section Ends
variable {p : Program} {l : Launch} {e : Env} {R : Room} {s : State} {m : MethodId} {args : Array Value} {below : List Frame} {meth : Method} {c : Code} {H : Heap} {locs : List Loc} {cells slots : Nat} {Q : State → Prop}
variable {mc ms : Nat} {free : Addr → Prop} {A0 A1 : Nat → Prop} {H0 : Heap} {a : Array Value} {ls : Array Slot} {st0 rest : List Value}
variable {Qc : Array Value → State → Outcome → State → Prop} {XC : String → State → State → Prop}
/-- what a body that may throw owes at its end -/
def vx_MQ (below : List Frame) (Qc : Array Value → State → Outcome → State → Prop) (XC : String → State → State → Prop) (a : Array Value) (s : State) (mc ms : Nat) (free : Addr → Prop) : State → Prop := fun t =>
  ∃ o, t.status = .running ∧ Ended t below o ∧ vx_Q Qc XC mc ms free a s o t
theorem vx_ret {g : JFrame} {mc ms : Nat} (k : W p l e R s m args below meth c H locs cells slots (MQ below Qc args s mc ms free) g) : W p l e R s m args below meth c H locs cells slots (vx_MQ below Qc XC args s mc ms free) g := by
  intro T hT X
  obtain ⟨t, a1, o, b1, b2, b3, b4⟩ := k T hT X
  exact ⟨t, a1, o, b1, b2, Or.inl ⟨b3, b4⟩⟩
/-- not caught here: it goes on to the caller -/
theorem vx_widen {g : JFrame} {q : Addr} {k n : Nat} (h1 : cells ≤ k) (h2 : slots ≤ n) (kk : vx_W p l e R s m args below meth c H locs k n Q g q) : vx_W p l e R s m args below meth c H locs cells slots Q g q := fun T hT X => kk T hT (stand_widen X h1 h2)
theorem vx_out {pc : Nat} {E : String} {ce : Cell} {q : Addr} {mc ms : Nat} (hout : ∀ x ∈ c.exceptionTable.toList, covers x pc = false) (hlocks : meth.locks = false) (hcell : H[q]? = some ce) (hv : ce.vm = .none) (hcl : s.vm.findClass E = some ce.cls)
    (hx : ∀ t : State, t.heap = H → s.vm.Alike t.vm → XC E s t) (hf : ∀ z ∈ locs, free z.base) (hc : cells ≤ mc) (hs : slots ≤ ms) :
    vx_W p l e R s m args below meth c H locs cells slots (vx_MQ below Qc XC args s mc ms free) (F0 m pc ls rest) q := by
  intro T hT X
  obtain ⟨st1, hrun, hend, hW, hsm⟩ := X.leaveThrown q (g := F0 m pc ls rest) rfl rfl rfl hout hlocks
  have hcell9 : (T.setFrames (.throwing q :: below)).heap[q]? = some ce := by
    show T.heap[q]? = some ce
    rw [hT]; exact hcell
  exact ⟨_, st1, .threw q, hrun, hend, Or.inr ⟨q, rfl, E, ce, locs, hx _ hT hW.alike, hcell9, hv, hcl, hW, hsm.mono hc hs, hf⟩⟩
theorem vx_frame {U : State} {k n : Nat} (h : s.sameButNew ({ U with vm := s.vm } : State) locs k n) : s.heap.size ≤ U.heap.size ∧ ∀ q : Nat, q < s.heap.size → (∀ z ∈ locs, z.base ≠ q) → U.heap[q]? = s.heap[q]? := by
  obtain ⟨-, h2, -, -, -, h6⟩ := h
  refine ⟨h2, fun q hq hz => ?_⟩
  obtain ⟨c9, e1, e2, e3, e4⟩ := h6 q _ (Array.getElem?_eq_getElem hq)
  have hs : c9.slots = (s.heap[q]).slots := Array.ext_getElem? fun i => e4 i fun hm => hz _ hm rfl
  have h9 : c9 = s.heap[q] := by
    rw [hs] at e2
    exact e2
  have e5 : U.heap[q]? = some c9 := e1
  rw [e5, h9, Array.getElem?_eq_getElem hq]
/-- the words of a throw but the four that speak of the heap -/
def vx_no (w : Cond) : Bool := decide (w ≠ .isRef (.static Bundle.tN "UNASSIGNED_STACK" Bundle.steD)) && decide (w ≠ .isRef (.static Bundle.tN "SUPPRESSED_SENTINEL" Bundle.listD)) && decide (w ≠ .laysStatic Bundle.tN "UNASSIGNED_STACK" Bundle.steD) && decide (w ≠ .laysStatic Bundle.tN "SUPPRESSED_SENTINEL" Bundle.listD)
def vx_at0 (own : String) (ic : Nat) (X : String) (names : List String) : List Cond := (Bundle.ownAtoms0 own ic X names).filter vx_no
def vx_atS (own : String) (ic : Nat) (X : String) (names : List String) : List Cond := (Bundle.ownAtoms own ic X names).filter vx_no
/-- a word that the tables alone decide, or a good one -/
def vx_ot (w : Cond) : Bool := w.onTables || goodWord w
theorem vx_ot_at {args a' : Array Value} {s U : State} {w : Cond} (hW : s.WarmedH U.vm) (hvm : s.vm = U.vm) (hg : vx_ot w = true) (h : w.before args s = true) : w.before a' U = true := by
  simp only [vx_ot, Bool.or_eq_true] at hg
  rcases hg with hg | hg
  · exact va_tabs hg hvm h
  · exact word_at hW (good_of_word hg) h
/-- a list's words: the good ones out of the method's own list, the others by premises of their own -/
theorem vx_hat {args : Array Value} {s : State} {L B : List Cond} (h1 : ∀ w ∈ L.filter goodWord, w.before args s = true) (h2 : ∀ w ∈ L.filter (fun w => !goodWord w), w ∈ B) (h3 : ∀ w ∈ B, w.before args s = true) : ∀ w ∈ L, w.before args s = true := by
  intro w hw
  by_cases g : goodWord w = true
  · exact h1 w (List.mem_filter.mpr ⟨hw, g⟩)
  · refine h3 w (h2 w (List.mem_filter.mpr ⟨hw, ?_⟩))
    show (!goodWord w) = true
    cases hgw : goodWord w
    · rfl
    · exact absurd hgw g
theorem vx_c {args : Array Value} {s : State} {w : Cond} {B : List Cond} (h : w.before args s = true) (t : ∀ w ∈ B, w.before args s = true) : ∀ w' ∈ w :: B, w'.before args s = true := fun w' h' => (List.mem_cons.mp h').elim (fun e => by rw [e]; exact h) (t w')
theorem vx_n {args : Array Value} {s : State} : ∀ w ∈ ([] : List Cond), w.before args s = true := fun _ h => nomatch h
theorem vx_own {args : Array Value} {s : State} {L : List Cond} (h1 : ∀ w ∈ L.filter vx_no, w.before args s = true)
    (hU : (Cond.isRef (.static Bundle.tN "UNASSIGNED_STACK" Bundle.steD)).before args s = true) (hN : (Cond.isRef (.static Bundle.tN "SUPPRESSED_SENTINEL" Bundle.listD)).before args s = true)
    (lU : (Cond.laysStatic Bundle.tN "UNASSIGNED_STACK" Bundle.steD).before args s = true) (lN : (Cond.laysStatic Bundle.tN "SUPPRESSED_SENTINEL" Bundle.listD).before args s = true) : ∀ w ∈ L, w.before args s = true := by
  intro w hw
  by_cases e1 : w = .isRef (.static Bundle.tN "UNASSIGNED_STACK" Bundle.steD)
  · rw [e1]; exact hU
  · by_cases e2 : w = .isRef (.static Bundle.tN "SUPPRESSED_SENTINEL" Bundle.listD)
    · rw [e2]; exact hN
    · by_cases e3 : w = .laysStatic Bundle.tN "UNASSIGNED_STACK" Bundle.steD
      · rw [e3]; exact lU
      · by_cases e4 : w = .laysStatic Bundle.tN "SUPPRESSED_SENTINEL" Bundle.listD
        · rw [e4]; exact lN
        · exact h1 w (List.mem_filter.mpr ⟨hw, by unfold vx_no; rw [decide_eq_true e1, decide_eq_true e2, decide_eq_true e3, decide_eq_true e4]; rfl⟩)
/-- where a static field lies, its class's statics cell in H -/
def vx_L (C n d : String) (A : Nat → Prop) (U : State) (H : Heap) : Prop := ∃ (c : ClassId) (k : Class) (i : Nat) (f : Field) (a : Nat) (cell : Cell), U.vm.findClass C = some c ∧ U.fieldFound? C n d = some (c, k, i, f) ∧ f.isStatic = true ∧ k.statics = some a ∧ H[a]? = some cell ∧ cell.vm.isStatics = true ∧ cell.cls = c ∧ f.slot < cell.slots.size ∧ k.staticTypes[f.slot]? = some f.type ∧ ¬ A a
theorem vx_L.moved {C n d : String} {A : Nat → Prop} {u U : State} {H : Heap} (hvm : u.vm.Alike U.vm) (h : vx_L C n d A u H) : vx_L C n d A U H := by
  obtain ⟨c, k, i, f, a, cell, h1, h2, h3, h4, h5, h6, h7, h8, h9, h10⟩ := h
  obtain ⟨k', hi', he⟩ := State.fieldFound?_setVm hvm h2
  exact ⟨c, k', i, f, a, cell, by rw [hvm.findClass]; exact h1, hi', h3, by rw [he]; exact h4, h5, h6, h7, h8, by rw [he]; exact h9, h10⟩
theorem vx_L.kept {C n d : String} {A : Nat → Prop} {U : State} {H H1 : Heap} (h : vx_L C n d A U H) (hq : ∀ a : Nat, a < H.size → ¬ A a → H1[a]? = H[a]?) : vx_L C n d A U H1 := by
  obtain ⟨c, k, i, f, a, cell, h1, h2, h3, h4, h5, h6, h7, h8, h9, h10⟩ := h
  exact ⟨c, k, i, f, a, cell, h1, h2, h3, h4, by rw [hq a (Array.getElem?_eq_some_iff.mp h5).1 h10]; exact h5, h6, h7, h8, h9, h10⟩
theorem vx_L.narrow {C n d : String} {A B : Nat → Prop} {U : State} {H : Heap} (h : vx_L C n d A U H) (hAB : ∀ q, B q → A q) : vx_L C n d B U H := by
  obtain ⟨c, k, i, f, a, cell, h1, h2, h3, h4, h5, h6, h7, h8, h9, h10⟩ := h
  exact ⟨c, k, i, f, a, cell, h1, h2, h3, h4, h5, h6, h7, h8, h9, fun z => h10 (hAB _ z)⟩
theorem vx_L.word {C n d : String} {A : Nat → Prop} {s : State} {args : Array Value} (h : vx_L C n d A s s.heap) : (Cond.laysStatic C n d).before args s = true := by
  obtain ⟨c, k, i, f, a, cell, h1, h2, h3, h4, h5, h6, h7, h8, h9, -⟩ := h
  show (Cond.laysStatic C n d).holds args s none s [] = true
  exact Cond.laysStatic_of h1 h2 h3 h4 h5 h6 h7 h8 h9
/-- .. and what it holds: null or some reference -/
def vx_Zq (C n d : String) (A : Nat → Prop) (U : State) (H : Heap) : Prop := va_Zq C n d A U H ∧ vx_L C n d A U H
theorem vx_Zq.moved {C n d : String} {A : Nat → Prop} {u U : State} {H : Heap} (hvm : u.vm.Alike U.vm) (h : vx_Zq C n d A u H) : vx_Zq C n d A U H := ⟨va_Zq.moved hvm h.1, vx_L.moved hvm h.2⟩
theorem vx_Zq.kept {C n d : String} {A : Nat → Prop} {U : State} {H H1 : Heap} (h : vx_Zq C n d A U H) (hq : ∀ a : Nat, a < H.size → ¬ A a → H1[a]? = H[a]?) : vx_Zq C n d A U H1 := ⟨va_Zq.kept h.1 hq, vx_L.kept h.2 hq⟩
theorem vx_Zq.narrow {C n d : String} {A B : Nat → Prop} {U : State} {H : Heap} (h : vx_Zq C n d A U H) (hAB : ∀ q, B q → A q) : vx_Zq C n d B U H := ⟨va_Zq.narrow h.1 hAB, vx_L.narrow h.2 hAB⟩
theorem vx_Zqof {args : Array Value} {s : State} {C n d : String} {A : Nat → Prop} (hl : (Cond.laysStatic C n d).before args s = true) (hini : (Cond.initialized C).before args s = true) (h : (Cond.isRef (.static C n d)).before args s = true) (hA : ∀ a : Nat, a < s.heap.size → ¬ A a) : vx_Zq C n d A s s.heap := by
  refine ⟨va_Zqof hl hini h hA, ?_⟩
  obtain ⟨c, k, i, f, a, cell, h1, h2, h3, h4, h5, h6, h7, h8, h9⟩ := Cond.laysStatic_spec hl
  exact ⟨c, k, i, f, a, cell, h1, h2, h3, h4, h5, h6, h7, h8, h9, hA a (Array.getElem?_eq_some_iff.mp h5).1⟩
theorem vx_isRef {C n d : String} {v : Value} {A : Nat → Prop} {s : State} {args : Array Value} (h : va_Z C n d v A s s.heap) (hv : v.isRef = true) : (Cond.isRef (.static C n d)).before args s = true := by
  obtain ⟨cf, kf, fi, f, a, cell, h1, h2, h3, h4, h5, h6, h7, -⟩ := h
  have he : (Term.static C n d).eval args s none [] s = some v := by
    simp [Term.eval, State.fieldNamed?, h1, h2, h4, h5, h6, h7]
  simp only [Cond.before, Cond.holds, Cond.value, he]
  cases v <;> simp_all [Value.isRef]
theorem vx_isRefq {C n d : String} {A : Nat → Prop} {s : State} {args : Array Value} (h : va_Zq C n d A s s.heap) : (Cond.isRef (.static C n d)).before args s = true := by
  rcases h with h | ⟨t, h⟩
  · exact vx_isRef h rfl
  · exact vx_isRef h rfl
/-- the same frame, seen from here: as if the method were called anew in this heap -/
theorem vx_rebase {T : State} (X : Stand p l e R s m args below meth c T locs cells slots) {R' : Room} (hf : R'.frames ≤ R.frames) (hl : R'.locals ≤ R.locals) (hc : cells + R'.cells ≤ R.cells) (hs : slots + R'.slots ≤ R.slots) :
    Stand p l e R' ((T.setVm s.vm).setFrames (.invoking m args :: below)) m args below meth c T [] 0 0 := by
  have htop : (T.setVm s.vm).topJava?.isSome := X.here.top
  have hF : ((T.setVm s.vm).setFrames (.invoking m args :: below)).frames = .invoking m args :: below := State.frames_setFrames _ (State.cur_lt_of_top htop)
  obtain ⟨g₀, hg0⟩ := Option.isSome_iff_exists.mp htop
  obtain ⟨r, hr⟩ := State.topJava?_eq_some.mp hg0
  have hl9 : e.platform.stackLimits (T.setVm s.vm).me = e.platform.stackLimits s.me := X.limits
  have hb9 : (T.setVm s.vm).me.stackBytes = s.me.stackBytes := X.bytes
  refine ⟨X.admits, X.cas, X.clock, hF, ?_, X.hears, X.method, X.code, X.here, X.tail, X.warmed, ?_, ?_, ?_⟩
  · have h := X.room
    have hU : ((T.setVm s.vm).setFrames (.invoking m args :: below)).localsInUse = s.localsInUse := by
      rw [State.localsInUse_invoking hF (meth := meth) (c := c) X.method X.code, State.localsInUse_invoking X.frames X.method X.code]
    simp only [State.hasRoom, Bool.and_eq_true, decide_eq_true_eq] at h ⊢
    obtain ⟨⟨⟨⟨h1, h2, h3, h4, h5, h6⟩, h7⟩, h8⟩, h9⟩ := h
    rw [X.frames, List.length_cons] at h2 h3
    have q1 := X.heapSize
    have q2 := X.used
    simp only [hF, hU, List.length_cons, State.stackLimits_setFrames, State.stackBytes_setFrames, hl9, hb9]
    refine ⟨⟨⟨⟨by omega, by omega, by omega, by omega, by omega, h6⟩, ?_⟩, ?_⟩, X.book⟩
    · show T.heap.size + R'.cells ≤ e.platform.maxCells
      omega
    · show T.slotsUsed + R'.slots ≤ e.platform.maxSlots
      omega
  · rw [State.stackLimits_setFrames]; rfl
  · rw [State.stackBytes_setFrames]; rfl
  · refine ⟨?_, Nat.le_refl _, Nat.le_refl _, ?_, ?_, fun a c9 h9 => ⟨c9, h9, rfl, rfl, fun _ _ => rfl⟩⟩
    · obtain ⟨t, ht, -⟩ := State.frames_cons hr
      show T.setVm s.vm = { ((T.setVm s.vm).setFrames (.invoking m args :: below)).setFrames (T.setVm s.vm).frames with heap := T.heap, slotsUsed := T.slotsUsed }
      rw [State.setFrames_setFrames, State.setFrames_self ht]
      rfl
    · show T.slotsUsed = T.slotsUsed + ((T.heap.toList.drop T.heap.size).map (·.slots.size)).sum
      rw [List.drop_eq_nil_of_le (Nat.le_of_eq Array.length_toList)]
      rfl
    · show ((T.heap.toList.drop T.heap.size).map (·.slots.size)).sum ≤ 0
      rw [List.drop_eq_nil_of_le (Nat.le_of_eq Array.length_toList)]
      exact Nat.le_refl _
/-- 'throw new E()': new; dup; invokespecial; athrow -/
theorem vx_throw0 {cc : ByteArray} {pc : Nat} (hexec : p.tables.exec = Jvm.exec) (hb : c.code = cc) (hl : l.stackTraces = false) {own cls : String} {names : List String} {ik ic mc ms : Nat} {A : Nat → Prop}
    (hown : s.vm.findClass own = some m.cls) (hcls : Bundle.fit cls = true) (hnames : ∀ n ∈ names, Bundle.fit n = true)
    (hk : (Cond.classLink own ik cls).before args s = true) (hini : (Cond.initialized cls).before args s = true) (hat : ∀ w ∈ vx_at0 own ic cls names, w.before args s = true)
    (hgood : ∀ w ∈ Cond.classLink own ik cls :: Cond.initialized cls :: vx_at0 own ic cls names, vx_ot w = true)
    (hU : vx_Zq Bundle.tN "UNASSIGNED_STACK" Bundle.steD A s s.heap) (hN : vx_Zq Bundle.tN "SUPPRESSED_SENTINEL" Bundle.listD A s s.heap) (hS : va_S A s.heap H locs) (hsize : ls.size = c.maxLocals)
    (d0 : decode cc pc = .ok (.new ik, 3)) (d3 : decode cc (pc + 3) = .ok (.dup, 1)) (d4 : decode cc (pc + 4) = .ok (.invokespecial ic, 3)) (d7 : decode cc (pc + 7) = .ok (.athrow, 1))
    (hout : ∀ x ∈ c.exceptionTable.toList, covers x (pc + 7) = false)
    (hRframes : names.length + 3 < R.frames) (hRlocals : (rest.map fun v => v.category).sum + (13 * (names.length + 1) + 42) ≤ R.locals) (hRcells : cells + 1 ≤ R.cells) (hRslots : slots + 6 ≤ R.slots) (hlocks : meth.locks = false)
    (hx : ∀ t : State, s.vm.Alike t.vm → H.size ≤ t.heap.size → (∀ q : Nat, q < H.size → t.heap[q]? = H[q]?) → XC cls s t)
    (hf : ∀ z ∈ locs, free z.base) (hc : cells + 1 ≤ mc) (hs : slots + 6 ≤ ms) :
    W p l e R s m args below meth c H locs cells slots (vx_MQ below Qc XC args s mc ms free) (F0 m pc ls rest) := by
  intro T hT X
  have htr : e.platform.stackTraces = false := (show e.platform.stackTraces = l.stackTraces by rw [X.admits.platform]).trans hl
  have Y := vx_rebase X (R' := { frames := R.frames, locals := R.locals, cells := 1, slots := 6 }) (Nat.le_refl _) (Nat.le_refl _) hRcells hRslots
  obtain ⟨s', hA⟩ : ∃ z, z = (T.setVm s.vm).setFrames (.invoking m args :: below) := ⟨_, rfl⟩
  rw [← hA] at Y
  have hvm : s'.vm = s.vm := by rw [hA]; rfl
  have hhp : s'.heap = H := by rw [hA]; exact hT
  have hW0 : s.WarmedH s'.vm := by rw [hvm]; exact State.WarmedH.refl s
  have hat' : ∀ w ∈ vx_at0 own ic cls names, w.before args s' = true := fun w hw => vx_ot_at hW0 hvm.symm (hgood w (List.mem_cons_of_mem _ (List.mem_cons_of_mem _ hw))) (hat w hw)
  have hk' : (Cond.classLink own ik cls).before args s' = true := vx_ot_at hW0 hvm.symm (hgood _ List.mem_cons_self) hk
  have hini' : (Cond.initialized cls).before args s' = true := vx_ot_at hW0 hvm.symm (hgood _ (List.mem_cons_of_mem _ List.mem_cons_self)) hini
  have hU' : vx_Zq Bundle.tN "UNASSIGNED_STACK" Bundle.steD A s' s'.heap := by rw [hhp]; exact vx_Zq.moved hW0.alike (hU.kept hS.2.1)
  have hN' : vx_Zq Bundle.tN "SUPPRESSED_SENTINEL" Bundle.listD A s' s'.heap := by rw [hhp]; exact vx_Zq.moved hW0.alike (hN.kept hS.2.1)
  have h : ∀ w ∈ Bundle.ownAtoms0 own ic cls names, w.before args s' = true := vx_own hat' (vx_isRefq hU'.1) (vx_isRefq hN'.1) hU'.2.word hN'.2.word
  have hown' : s'.vm.findClass own = some m.cls := by rw [hvm]; exact hown
  have hins : (Cond.instantiable cls 6).before args s' = true := h _ (by simp [Bundle.ownAtoms0])
  obtain ⟨vm₁, cX, kX, hfX, hkX, -, -, X₁, st1⟩ := Y.newCold hexec (own := own) (C := cls) (index := ik) (n := 6) hown' hk' hins hini'
    (g := F0 m pc ls rest) rfl (by rw [hb]; exact d0) (Nat.le_refl _) (Nat.le_refl _)
  generalize hT1 : (T.setVm vm₁).pushCell { cls := cX, slots := kX.instanceTypes.map defaultValue, vm := .none } = T1 at X₁ st1
  have hcat : (Value.ref T.heap.size).category = 1 := rfl
  have hcellA : T1.heap[T.heap.size]? = some (freshCell cX kX) := by rw [← hT1]; exact State.heap_pushCell_size _ _
  have d3' : decode c.code (pc + 3) = .ok (.dup, 1) := by rw [hb]; exact d3
  obtain ⟨U, hsteps, hrun, hend, hW, hsame, ce, hce, hO⟩ := X₁.ctorThrow0 hexec htr (own := own) (cls := cls) (names := names) (ic := ic) hown' hcls hnames h (fun x hx => nomatch hx) hfX hkX hcellA (by rw [hhp, hT]; exact Nat.le_refl _)
    (g := { method := m, pc := pc + 4, locals := ls, stack := .ref T.heap.size :: .ref T.heap.size :: rest, locked := none }) rfl hsize rfl rfl (rest := rest) rfl
    (by rw [hb]; exact d4) (by rw [hb]; exact d7) hout hRframes (by simp only [List.map_cons, List.sum_cons, hcat]; omega) hlocks
  obtain ⟨f1, f2⟩ := vx_frame hsame
  rw [hhp] at f1 f2
  have hWs : s.WarmedH U.vm := State.WarmedH.trans hW0 hW
  have hcl : s.vm.findClass cls = some ce.cls := by
    have h9 := hO.cls
    rw [hvm] at h9
    exact h9
  have hall : s.sameButNew ({ U with vm := s.vm } : State) locs mc ms := by
    subst hA
    obtain ⟨e1, e2⟩ := hsame
    rw [State.setFrames_setFrames] at e1
    have h2 : (T.setVm s.vm).sameButNew ({ U with vm := s.vm } : State) [] (0 + 1) (0 + 6) := ⟨e1, e2⟩
    have h3 := X.same.trans h2
    rw [List.append_nil] at h3
    exact h3.mono hc hs
  refine ⟨U, ?_, .threw T.heap.size, hrun, hend, Or.inr ⟨T.heap.size, rfl, cls, ce, locs, hx U hWs.alike f1 (fun q hq => f2 q hq (fun z hz => nomatch hz)), hce, hO.vm, hcl, hWs, hall, hf⟩⟩
  refine st1 _ ?_
  show Steps p.tables e below (T1.setTop { method := m, pc := pc + 3, locals := ls, stack := .ref T.heap.size :: rest, locked := none }) _
  jvm_step X₁.here [X₁.here.top, hexec, d3', Value.category]
  exact hsteps
/-- 'throw new E("text")': new; dup; ldc; invokespecial; athrow -/
theorem vx_throwS {cc : ByteArray} {pc : Nat} (hexec : p.tables.exec = Jvm.exec) (hb : c.code = cc) (hl : l.stackTraces = false) {own cls text : String} {names : List String} {ik is ic mc ms sa : Nat} {A : Nat → Prop}
    (hown : s.vm.findClass own = some m.cls) (hcls : Bundle.fit cls = true) (hnames : ∀ n ∈ names, Bundle.fit n = true)
    (hk : (Cond.classLink own ik cls).before args s = true) (hini : (Cond.initialized cls).before args s = true) (hstr : vk_R own is text sa s) (hat : ∀ w ∈ vx_atS own ic cls names, w.before args s = true)
    (hgood : ∀ w ∈ Cond.classLink own ik cls :: Cond.initialized cls :: vx_atS own ic cls names, vx_ot w = true)
    (hU : vx_Zq Bundle.tN "UNASSIGNED_STACK" Bundle.steD A s s.heap) (hN : vx_Zq Bundle.tN "SUPPRESSED_SENTINEL" Bundle.listD A s s.heap) (hS : va_S A s.heap H locs) (hsize : ls.size = c.maxLocals)
    (d0 : decode cc pc = .ok (.new ik, 3)) (d3 : decode cc (pc + 3) = .ok (.dup, 1)) (d4 : decode cc (pc + 4) = .ok (.ldc is, 2)) (d6 : decode cc (pc + 6) = .ok (.invokespecial ic, 3)) (d9 : decode cc (pc + 9) = .ok (.athrow, 1))
    (hout : ∀ x ∈ c.exceptionTable.toList, covers x (pc + 9) = false)
    (hRframes : names.length + 3 < R.frames) (hRlocals : (rest.map fun v => v.category).sum + (13 * (names.length + 1) + 43) ≤ R.locals) (hRcells : cells + 1 ≤ R.cells) (hRslots : slots + 6 ≤ R.slots) (hlocks : meth.locks = false)
    (hx : ∀ t : State, s.vm.Alike t.vm → H.size ≤ t.heap.size → (∀ q : Nat, q < H.size → t.heap[q]? = H[q]?) → XC cls s t)
    (hf : ∀ z ∈ locs, free z.base) (hc : cells + 1 ≤ mc) (hs : slots + 6 ≤ ms) :
    W p l e R s m args below meth c H locs cells slots (vx_MQ below Qc XC args s mc ms free) (F0 m pc ls rest) := by
  intro T hT X
  have htr : e.platform.stackTraces = false := (show e.platform.stackTraces = l.stackTraces by rw [X.admits.platform]).trans hl
  have Y := vx_rebase X (R' := { frames := R.frames, locals := R.locals, cells := 1, slots := 6 }) (Nat.le_refl _) (Nat.le_refl _) hRcells hRslots
  obtain ⟨s', hA⟩ : ∃ z, z = (T.setVm s.vm).setFrames (.invoking m args :: below) := ⟨_, rfl⟩
  rw [← hA] at Y
  have hvm : s'.vm = s.vm := by rw [hA]; rfl
  have hhp : s'.heap = H := by rw [hA]; exact hT
  have hW0 : s.WarmedH s'.vm := by rw [hvm]; exact State.WarmedH.refl s
  have hat' : ∀ w ∈ vx_atS own ic cls names, w.before args s' = true := fun w hw => vx_ot_at hW0 hvm.symm (hgood w (List.mem_cons_of_mem _ (List.mem_cons_of_mem _ hw))) (hat w hw)
  have hk' : (Cond.classLink own ik cls).before args s' = true := vx_ot_at hW0 hvm.symm (hgood _ List.mem_cons_self) hk
  have hini' : (Cond.initialized cls).before args s' = true := vx_ot_at hW0 hvm.symm (hgood _ (List.mem_cons_of_mem _ List.mem_cons_self)) hini
  have hU' : vx_Zq Bundle.tN "UNASSIGNED_STACK" Bundle.steD A s' s'.heap := by rw [hhp]; exact vx_Zq.moved hW0.alike (hU.kept hS.2.1)
  have hN' : vx_Zq Bundle.tN "SUPPRESSED_SENTINEL" Bundle.listD A s' s'.heap := by rw [hhp]; exact vx_Zq.moved hW0.alike (hN.kept hS.2.1)
  have h : ∀ w ∈ Bundle.ownAtoms own ic cls names, w.before args s' = true := vx_own hat' (vx_isRefq hU'.1) (vx_isRefq hN'.1) hU'.2.word hN'.2.word
  have hown' : s'.vm.findClass own = some m.cls := by rw [hvm]; exact hown
  have hins : (Cond.instantiable cls 6).before args s' = true := h _ (by simp [Bundle.ownAtoms])
  obtain ⟨vm₁, cX, kX, hfX, hkX, -, -, X₁, st1⟩ := Y.newCold hexec (own := own) (C := cls) (index := ik) (n := 6) hown' hk' hins hini'
    (g := F0 m pc ls rest) rfl (by rw [hb]; exact d0) (Nat.le_refl _) (Nat.le_refl _)
  generalize hT1 : (T.setVm vm₁).pushCell { cls := cX, slots := kX.instanceTypes.map defaultValue, vm := .none } = T1 at X₁ st1
  have hcat : (Value.ref T.heap.size).category = 1 := rfl
  have hcellA : T1.heap[T.heap.size]? = some (freshCell cX kX) := by rw [← hT1]; exact State.heap_pushCell_size _ _
  have d3' : decode c.code (pc + 3) = .ok (.dup, 1) := by rw [hb]; exact d3
  have d4' : decode c.code (pc + 4) = .ok (.ldc is, 2) := by rw [hb]; exact d4
  have hstr' : vk_R own is text sa s' := vk_R.warm hW0 hstr
  obtain ⟨U, hsteps, hrun, hend, hW, hsame, ce, hce, hO⟩ := X₁.ctorThrowS hexec htr (own := own) (cls := cls) (names := names) (ic := ic) hown' hcls hnames h (fun x hx => nomatch hx) hfX hkX hcellA (by rw [hhp, hT]; exact Nat.le_refl _) (msg := .ref sa) rfl
    (g := { method := m, pc := pc + 6, locals := ls, stack := .ref sa :: .ref T.heap.size :: .ref T.heap.size :: rest, locked := none }) rfl hsize rfl rfl (rest := rest) rfl
    (by rw [hb]; exact d6) (by rw [hb]; exact d9) hout hRframes (by simp only [List.map_cons, List.sum_cons, hcat]; omega) hlocks
  obtain ⟨f1, f2⟩ := vx_frame hsame
  rw [hhp] at f1 f2
  have hWs : s.WarmedH U.vm := State.WarmedH.trans hW0 hW
  have hcl : s.vm.findClass cls = some ce.cls := by
    have h9 := hO.cls
    rw [hvm] at h9
    exact h9
  have hall : s.sameButNew ({ U with vm := s.vm } : State) locs mc ms := by
    subst hA
    obtain ⟨e1, e2⟩ := hsame
    rw [State.setFrames_setFrames] at e1
    have h2 : (T.setVm s.vm).sameButNew ({ U with vm := s.vm } : State) [] (0 + 1) (0 + 6) := ⟨e1, e2⟩
    have h3 := X.same.trans h2
    rw [List.append_nil] at h3
    exact h3.mono hc hs
  refine ⟨U, ?_, .threw T.heap.size, hrun, hend, Or.inr ⟨T.heap.size, rfl, cls, ce, locs, hx U hWs.alike f1 (fun q hq => f2 q hq (fun z hz => nomatch hz)), hce, hO.vm, hcl, hWs, hall, hf⟩⟩
  refine st1 _ ?_
  show Steps p.tables e below (T1.setTop { method := m, pc := pc + 3, locals := ls, stack := .ref T.heap.size :: rest, locked := none }) _
  jvm_step X₁.here [X₁.here.top, hexec, d3', Value.category]
  exact X₁.ldcString hexec (own := own) (text := text) (index := is) (a := sa) hown' hstr'.1 hstr'.2
    (g := { method := m, pc := pc + 4, locals := ls, stack := .ref T.heap.size :: .ref T.heap.size :: rest, locked := none }) rfl d4' _ hsteps
/-- 'throw new E("text")', the text by a wide index -/
theorem vx_throwSW {cc : ByteArray} {pc : Nat} (hexec : p.tables.exec = Jvm.exec) (hb : c.code = cc) (hl : l.stackTraces = false) {own cls text : String} {names : List String} {ik is ic mc ms sa : Nat} {A : Nat → Prop}
    (hown : s.vm.findClass own = some m.cls) (hcls : Bundle.fit cls = true) (hnames : ∀ n ∈ names, Bundle.fit n = true)
    (hk : (Cond.classLink own ik cls).before args s = true) (hini : (Cond.initialized cls).before args s = true) (hstr : vk_R own is text sa s) (hat : ∀ w ∈ vx_atS own ic cls names, w.before args s = true)
    (hgood : ∀ w ∈ Cond.classLink own ik cls :: Cond.initialized cls :: vx_atS own ic cls names, vx_ot w = true)
    (hU : vx_Zq Bundle.tN "UNASSIGNED_STACK" Bundle.steD A s s.heap) (hN : vx_Zq Bundle.tN "SUPPRESSED_SENTINEL" Bundle.listD A s s.heap) (hS : va_S A s.heap H locs) (hsize : ls.size = c.maxLocals)
    (d0 : decode cc pc = .ok (.new ik, 3)) (d3 : decode cc (pc + 3) = .ok (.dup, 1)) (d4 : decode cc (pc + 4) = .ok (.ldc_w is, 3)) (d7 : decode cc (pc + 7) = .ok (.invokespecial ic, 3)) (d10 : decode cc (pc + 10) = .ok (.athrow, 1))
    (hout : ∀ x ∈ c.exceptionTable.toList, covers x (pc + 10) = false)
    (hRframes : names.length + 3 < R.frames) (hRlocals : (rest.map fun v => v.category).sum + (13 * (names.length + 1) + 43) ≤ R.locals) (hRcells : cells + 1 ≤ R.cells) (hRslots : slots + 6 ≤ R.slots) (hlocks : meth.locks = false)
    (hx : ∀ t : State, s.vm.Alike t.vm → H.size ≤ t.heap.size → (∀ q : Nat, q < H.size → t.heap[q]? = H[q]?) → XC cls s t)
    (hf : ∀ z ∈ locs, free z.base) (hc : cells + 1 ≤ mc) (hs : slots + 6 ≤ ms) :
    W p l e R s m args below meth c H locs cells slots (vx_MQ below Qc XC args s mc ms free) (F0 m pc ls rest) := by
  intro T hT X
  have htr : e.platform.stackTraces = false := (show e.platform.stackTraces = l.stackTraces by rw [X.admits.platform]).trans hl
  have Y := vx_rebase X (R' := { frames := R.frames, locals := R.locals, cells := 1, slots := 6 }) (Nat.le_refl _) (Nat.le_refl _) hRcells hRslots
  obtain ⟨s', hA⟩ : ∃ z, z = (T.setVm s.vm).setFrames (.invoking m args :: below) := ⟨_, rfl⟩
  rw [← hA] at Y
  have hvm : s'.vm = s.vm := by rw [hA]; rfl
  have hhp : s'.heap = H := by rw [hA]; exact hT
  have hW0 : s.WarmedH s'.vm := by rw [hvm]; exact State.WarmedH.refl s
  have hat' : ∀ w ∈ vx_atS own ic cls names, w.before args s' = true := fun w hw => vx_ot_at hW0 hvm.symm (hgood w (List.mem_cons_of_mem _ (List.mem_cons_of_mem _ hw))) (hat w hw)
  have hk' : (Cond.classLink own ik cls).before args s' = true := vx_ot_at hW0 hvm.symm (hgood _ List.mem_cons_self) hk
  have hini' : (Cond.initialized cls).before args s' = true := vx_ot_at hW0 hvm.symm (hgood _ (List.mem_cons_of_mem _ List.mem_cons_self)) hini
  have hU' : vx_Zq Bundle.tN "UNASSIGNED_STACK" Bundle.steD A s' s'.heap := by rw [hhp]; exact vx_Zq.moved hW0.alike (hU.kept hS.2.1)
  have hN' : vx_Zq Bundle.tN "SUPPRESSED_SENTINEL" Bundle.listD A s' s'.heap := by rw [hhp]; exact vx_Zq.moved hW0.alike (hN.kept hS.2.1)
  have h : ∀ w ∈ Bundle.ownAtoms own ic cls names, w.before args s' = true := vx_own hat' (vx_isRefq hU'.1) (vx_isRefq hN'.1) hU'.2.word hN'.2.word
  have hown' : s'.vm.findClass own = some m.cls := by rw [hvm]; exact hown
  have hins : (Cond.instantiable cls 6).before args s' = true := h _ (by simp [Bundle.ownAtoms])
  obtain ⟨vm₁, cX, kX, hfX, hkX, -, -, X₁, st1⟩ := Y.newCold hexec (own := own) (C := cls) (index := ik) (n := 6) hown' hk' hins hini'
    (g := F0 m pc ls rest) rfl (by rw [hb]; exact d0) (Nat.le_refl _) (Nat.le_refl _)
  generalize hT1 : (T.setVm vm₁).pushCell { cls := cX, slots := kX.instanceTypes.map defaultValue, vm := .none } = T1 at X₁ st1
  have hcat : (Value.ref T.heap.size).category = 1 := rfl
  have hcellA : T1.heap[T.heap.size]? = some (freshCell cX kX) := by rw [← hT1]; exact State.heap_pushCell_size _ _
  have d3' : decode c.code (pc + 3) = .ok (.dup, 1) := by rw [hb]; exact d3
  have d4' : decode c.code (pc + 4) = .ok (.ldc_w is, 3) := by rw [hb]; exact d4
  have hstr' : vk_R own is text sa s' := vk_R.warm hW0 hstr
  obtain ⟨U, hsteps, hrun, hend, hW, hsame, ce, hce, hO⟩ := X₁.ctorThrowS hexec htr (own := own) (cls := cls) (names := names) (ic := ic) hown' hcls hnames h (fun x hx => nomatch hx) hfX hkX hcellA (by rw [hhp, hT]; exact Nat.le_refl _) (msg := .ref sa) rfl
    (g := { method := m, pc := pc + 7, locals := ls, stack := .ref sa :: .ref T.heap.size :: .ref T.heap.size :: rest, locked := none }) rfl hsize rfl rfl (rest := rest) rfl
    (by rw [hb]; exact d7) (by rw [hb]; exact d10) hout hRframes (by simp only [List.map_cons, List.sum_cons, hcat]; omega) hlocks
  obtain ⟨f1, f2⟩ := vx_frame hsame
  rw [hhp] at f1 f2
  have hWs : s.WarmedH U.vm := State.WarmedH.trans hW0 hW
  have hcl : s.vm.findClass cls = some ce.cls := by
    have h9 := hO.cls
    rw [hvm] at h9
    exact h9
  have hall : s.sameButNew ({ U with vm := s.vm } : State) locs mc ms := by
    subst hA
    obtain ⟨e1, e2⟩ := hsame
    rw [State.setFrames_setFrames] at e1
    have h2 : (T.setVm s.vm).sameButNew ({ U with vm := s.vm } : State) [] (0 + 1) (0 + 6) := ⟨e1, e2⟩
    have h3 := X.same.trans h2
    rw [List.append_nil] at h3
    exact h3.mono hc hs
  refine ⟨U, ?_, .threw T.heap.size, hrun, hend, Or.inr ⟨T.heap.size, rfl, cls, ce, locs, hx U hWs.alike f1 (fun q hq => f2 q hq (fun z hz => nomatch hz)), hce, hO.vm, hcl, hWs, hall, hf⟩⟩
  refine st1 _ ?_
  show Steps p.tables e below (T1.setTop { method := m, pc := pc + 3, locals := ls, stack := .ref T.heap.size :: rest, locked := none }) _
  jvm_step X₁.here [X₁.here.top, hexec, d3', Value.category]
  exact X₁.ldcStringW hexec (own := own) (text := text) (index := is) (a := sa) hown' hstr'.1 hstr'.2
    (g := { method := m, pc := pc + 4, locals := ls, stack := .ref T.heap.size :: .ref T.heap.size :: rest, locked := none }) rfl d4' _ hsteps
end Ends
section Bodies
variable {l : Launch}
theorem vx_ofW {y : MethodName} {ws ws' : List Cond} {rm : Room} {Pc : Array Value → State → Prop} {Qc : Array Value → State → Outcome → State → Prop} {XC : String → State → State → Prop} {mc ms : Nat} {free : Addr → Prop} {cc : ByteArray} {maxL : Nat} {ret : Option FieldType}
    (hy : plainName y.cls = true) (hw : ws = Cond.code y cc maxL ret :: ws')
    (body : ∀ p e s m args below meth c s₁, BodyLoose p l y (headSpec ws rm) cc maxL ret e s m args below meth c s₁ → c.maxLocals = maxL → (∀ x ∈ c.exceptionTable.toList, False) → Pc args s →
      W p l e (headSpec ws rm).room s m args below meth c s.heap [] 0 0 (vx_MQ below Qc XC args s mc ms free) (entryFrame m args maxL)) : vx_Met l y ws rm Pc Qc XC mc ms free := by
  refine MetFree.of_bodyS (code := cc) (maxLocals := maxL) (ret := ret) hy ?_ ?_
  · intro args s m h hn
    obtain ⟨meth, c, h1, h2, h3, h4, h5, h6, -, -⟩ := Cond.code_spec hn (atoms_spec (ws := ws) h _ (by rw [hw]; exact List.mem_cons_self))
    exact ⟨meth, c, h1, h2, h3, h4, h5, h6⟩
  · intro p e s m args below meth c s₁ B hml hP _
    have hh0 : s₁.heap = s.heap := by rw [B.state]; rfl
    have ht : ∀ x ∈ c.exceptionTable.toList, False := by
      obtain ⟨meth9, c9, h1, h2, -, -, -, -, h7, -⟩ := Cond.code_spec B.named (atoms_spec (ws := ws) B.pre _ (by rw [hw]; exact List.mem_cons_self))
      cases Option.some.inj (h1.symm.trans B.method)
      cases Option.some.inj (h2.symm.trans (Stand.of_body B).code)
      intro x hx
      rw [Array.isEmpty_iff.mp h7] at hx
      cases hx
    obtain ⟨t, a1, o, b1, b2, b3⟩ := body p e s m args below meth c s₁ B hml ht hP s₁ hh0 (Stand.of_body B)
    exact ⟨t, o, a1, b1, b2, b3⟩
/-- the table of a body with handlers -/
theorem vx_table {p : Program} {x y : MethodName} {S : Spec} {cc bytes : ByteArray} {maxL maxL' : Nat} {ret ret' : Option FieldType} {e : Env} {s s₁ : State} {m : MethodId} {args : Array Value} {below : List Frame} {meth : Method} {c : Code} {hh : List (Nat × Nat × Nat × Nat)}
    (B : BodyLoose p l y S cc maxL ret e s m args below meth c s₁) (h : (Cond.codeWith y bytes maxL' ret' hh).before args s = true) : c.exceptionTable.toList = tableOf hh := by
  obtain ⟨m9, meth9, c9, hn9, h1, h2, -, -, h6, -⟩ := Cond.codeWith_spec h
  cases Option.some.inj (hn9.symm.trans B.named)
  cases Option.some.inj (h1.symm.trans B.method)
  cases Option.some.inj (h2.symm.trans (Stand.of_body B).code)
  rw [← h6, table_eq]
end Bodies
end VXA
/-! ===== END ===== -/
/-! ===== BEGIN a static call of a method with an exception table ===== -/
section VXS
variable {p : Program} {l : Launch} {e : Env} {R : Room} {s : State} {m : MethodId} {args : Array Value} {below : List Frame} {meth : Method} {c : Code} {T : State} {H : Heap} {locs : List Loc} {cells slots : Nat}
abbrev vx_CSW (R : Room) (s : State) (args : Array Value) (own : String) (index : Nat) (y : MethodName) (bytes : ByteArray) (maxL : Nat) (ret : Option FieldType) (hh : List (Nat × Nat × Nat × Nat)) (ws : List Cond) (rm : Room) (mc ms n : Nat) : Prop :=
  (rm.cells = mc ∧ rm.slots = ms ∧ rm.frames + 1 ≤ R.frames ∧ 8 + (maxL + 11) + rm.locals ≤ R.locals ∧ (∀ w ∈ ws, ∀ (a' : Array Value) (U : State), s.WarmedH U.vm → w.before a' U = true) ∧ Cond.codeWith y bytes maxL ret hh ∈ ws) ∧
  (Cond.codeWith y bytes maxL ret hh).before args s = true ∧ (Cond.initialized y.cls).before args s = true ∧ (y.cls ≠ "java/lang/invoke/MethodHandle" ∧ y.cls ≠ "java/lang/invoke/VarHandle") ∧
  (∀ sig, parseMethodDescriptor y.desc = some sig → n = sig.parameters.length) ∧ (Cond.methodLink own index y).before args s = true ∧ (Cond.static y).before args s = true
theorem vx_cwSW {own : String} {index maxL mc ms : Nat} {y : MethodName} {bytes : ByteArray} {ret : Option FieldType} {hh : List (Nat × Nat × Nat × Nat)} {Ts ws ws' : List Cond} {rm : Room} (n : Nat) (ht : ∀ w ∈ Ts, w.before args s = true) (hT : GoodIn Ts (va_wsS own index y ws)) (hw : ws = Cond.codeWith y bytes maxL ret hh :: ws') (hrc : rm.cells = mc) (hrs : rm.slots = ms)
    (hd : y.cls ≠ "java/lang/invoke/MethodHandle" ∧ y.cls ≠ "java/lang/invoke/VarHandle" ∧ (parseMethodDescriptor y.desc).map (fun d => d.parameters.length) = some n) (hR : rm.frames + 1 ≤ R.frames ∧ 8 + (maxL + 11) + rm.locals ≤ R.locals) :
    vx_CSW R s args own index y bytes maxL ret hh ws rm mc ms n := by
  have ok : ∀ w ∈ va_wsS own index y ws, w.before args s = true := fun w h => ht w (hT w h).1
  have hG : GoodIn Ts ws := fun w h => hT w (by unfold va_wsS; exact List.mem_append_right _ h)
  have hc : Cond.codeWith y bytes maxL ret hh ∈ ws := by rw [hw]; exact List.mem_cons_self
  refine ⟨⟨hrc, hrs, hR.1, hR.2, pay_in ht hG, hc⟩, ht _ (hG _ hc).1, ok _ (by simp [va_wsS]), ⟨hd.1, hd.2.1⟩, fun sig h => ?_, ok _ (by simp [va_wsS]), ok _ (by simp [va_wsS])⟩
  have h2 := hd.2.2
  rw [h] at h2
  exact (Option.some.inj h2).symm
theorem vx_callSW (X : Stand p l e R s m args below meth c T locs cells slots) (hexec : p.tables.exec = Jvm.exec) {own : String} {index : Nat} {y : MethodName} {bytes : ByteArray} {maxL : Nat} {ret : Option FieldType} {hh : List (Nat × Nat × Nat × Nat)}
    (hown : s.vm.findClass own = some m.cls) (hlink : (Cond.methodLink own index y).before args s = true) (hstat : (Cond.static y).before args s = true) (hinit : (Cond.initialized y.cls).before args s = true)
    (hcode : (Cond.codeWith y bytes maxL ret hh).before args s = true) (hy : y.cls ≠ "java/lang/invoke/MethodHandle" ∧ y.cls ≠ "java/lang/invoke/VarHandle")
    {W9 : Nat} {Pre : Pt → Array Value → Prop} {Post : Pt → Array Value → Option Value → Pt → Prop} (hK : Back l R p e below s args y 3 W9 Pre Post)
    {g : JFrame} (hg : g.method = m) (hsize : g.locals.size = c.maxLocals) {argsL rest : List Value} (hlen : ∀ sig, parseMethodDescriptor y.desc = some sig → argsL.length = sig.parameters.length)
    (hstack : g.stack = argsL.reverse ++ rest) (hW : 2 * g.monitorRoom + (rest.map fun v => v.category).sum ≤ W9) (hdg : decode c.code g.pc = .ok (.invokestatic index, 3))
    (hpre : ∀ vm₁, s.WarmedH vm₁ → Pre ⟨T.setVm vm₁, locs, cells, slots⟩ argsL.toArray) :
    ∃ (v : Option Value) (vm₁ : Vm) (B : Pt), s.WarmedH vm₁ ∧ Stand p l e R s m args below meth c B.U B.locs B.cells B.slots ∧ Post ⟨T.setVm vm₁, locs, cells, slots⟩ argsL.toArray v B ∧
      ∀ target, Steps p.tables e below (B.U.setTop { g with pc := g.pc + 3, stack := v.toList ++ rest }) target → Steps p.tables e below (T.setTop g) target := by
  obtain ⟨mk, methM, cM, hnamed, hmethM, -, -, -, -, -, -, hsigM⟩ := Cond.codeWith_spec hcode
  have hstatic : methM.isStatic = true := Cond.static_spec hnamed hmethM hstat
  obtain ⟨kP, hkP, -⟩ := className_of_methodNamed hnamed
  have hinitP : kP.init = .initialized := Cond.initialized_spec (findClass_of_methodNamed hnamed) hkP hinit
  obtain ⟨vm₁, X₁, hstep₁⟩ := X.invokestatic hexec hown hlink hnamed hmethM hstatic hkP hinitP hy (g := g) hg (argsL := argsL) (rest := rest) (hlen _ hsigM) hstack hdg
  obtain ⟨v, B, X', hpost, hsteps⟩ := hK m meth c ⟨T.setVm vm₁, locs, cells, slots⟩ { g with stack := rest } (.invokestatic index) mk argsL.toArray X₁ hg hsize hdg hW (X₁.named hnamed) (hpre vm₁ X₁.warmed)
  exact ⟨v, vm₁, B, X₁.warmed, X', hpost, fun target h => hstep₁ _ fun acts => by rw [doInvoke_state]; exact hsteps.trans h⟩
theorem vx_runSW {y : MethodName} {bytes cc : ByteArray} {maxL nL mc ms n index : Nat} {ret : Option FieldType} {hh : List (Nat × Nat × Nat × Nat)} {ws : List Cond} {rm : Room} {Pc : Array Value → State → Prop} {Qc : Array Value → State → Outcome → State → Prop} {free : Addr → Prop} {Ts : List Cond} {own : String} {As rest : List Value} {g : JFrame}
    (S : CallFix p m c cc nL s args Ts own) (hM : Met l y ws rm Pc Qc mc ms free) (cw : vx_CSW R s args own index y bytes maxL ret hh ws rm mc ms n) (hp : PreS s H Pc As)
    (hg : g.method = m) (hn : As.length = n) (hsize : g.locals.size = nL) (hstack : g.stack = As.reverse ++ rest) (hW : 2 * g.monitorRoom + (rest.map fun v => v.category).sum ≤ 8) (hdg : decode cc g.pc = .ok (.invokestatic index, 3)) (hf : cells + mc ≤ R.cells ∧ slots + ms ≤ R.slots) :
    va_Run p l e R s m args below meth c H locs cells slots mc ms g rest (Qc As.toArray) (free) := by
  obtain ⟨⟨hrc, hrs, hfr, hlo, hws, hcw⟩, hcode, hini, hy, hlen, hl, hstt⟩ := cw
  have hK : Back l R p e below s args y 3 8 (PreOf R mc ms Pc) (PostOf Qc mc ms free) := va_backW (hh := hh) (bytes := bytes) (maxL := maxL) (ret := ret) hM hp.1 hrc hrs hfr hlo hws hcw (fun a' U hW => word_at hW (Or.inl (by first | rfl | simp [Cond.onTables, Cond.keeps, Cond.steady])) hini)
  obtain ⟨hx, hb, hml, ho, -⟩ := S
  intro T hT X
  obtain ⟨v, vm₁, ⟨U', l2, c2, s2⟩, hW₁, X', ⟨g', mk, t, L, e1, e2, hq, h1, hL, h2, h3⟩, st⟩ := vx_callSW X hx (hh := hh) (bytes := bytes) (maxL := maxL) (ret := ret) ho hl hstt hini hcode hy hK hg (hsize.trans hml.symm) (argsL := As) (rest := rest) (fun sig h => hn.trans (hlen sig h)) hstack hW (by rw [hb]; exact hdg)
    (fun vm₁ hW₁ => ⟨hf.1, hf.2, hp.2 (T.setVm vm₁) hT hW₁⟩)
  dsimp only [Pt.U, Pt.locs, Pt.cells, Pt.slots] at X' e1 e2 h1 h2 h3 st
  subst h1; subst h2; subst h3
  exact ⟨v, (T.setVm vm₁).calling g' mk As.toArray, t, U', L, hT, X', hL, e1, e2, hq, st⟩
/-- not caught here, past rows that name other classes: it goes on to the caller -/
theorem vx_outP {p : Program} {l : Launch} {e : Env} {R : Room} {s : State} {m : MethodId} {args : Array Value} {below : List Frame} {meth : Method} {c : Code} {H : Heap} {locs : List Loc} {cells slots : Nat} {free : Addr → Prop} {ls : Array Slot} {rest : List Value} {Qc : Array Value → State → Outcome → State → Prop} {XC : String → State → State → Prop}
    {pc : Nat} {own E : String} {ce : Cell} {q : Addr} {mc ms : Nat} (hown : s.vm.findClass own = some m.cls) (hlocks : meth.locks = false)
    (hpass : ∀ z ∈ c.exceptionTable.toList, covers z pc = false ∨ (z.catchType ≠ 0 ∧ ∃ nm : String, (Cond.classLink own z.catchType nm).before args s = true ∧ va_Nc E nm s)) (hcell : H[q]? = some ce) (hv : ce.vm = .none) (hcl : s.vm.findClass E = some ce.cls)
    (hx : ∀ t : State, t.heap = H → s.vm.Alike t.vm → XC E s t) (hf : ∀ z ∈ locs, free z.base) (hc : cells ≤ mc) (hs : slots ≤ ms) :
    vx_W p l e R s m args below meth c H locs cells slots (vx_MQ below Qc XC args s mc ms free) (F0 m pc ls rest) q := by
  intro T hT X
  have hpl : e.platform.magicAccessors = ({} : Platform).magicAccessors := by rw [X.admits.platform]
  obtain ⟨vm', hW', X', st⟩ := X.outThrough hlocks q (g := F0 m pc ls rest) rfl rfl rfl (cell := ce) (by rw [hT]; exact hcell) (by rw [hv]; rfl)
    (by obtain ⟨k9, h9, -⟩ := Vm.findClass_spec hcl; exact ⟨k9, h9⟩) (fun z hz => by
      rcases hpass z hz with h | ⟨hz0, nm, hl1, hn1⟩
      · exact Or.inl h
      · obtain ⟨c6, hc6, hcl6⟩ := Cond.classLink_spec hown hl1 e.platform hpl
        obtain ⟨a8, b8, h1, h2, h3⟩ := hn1
        cases Option.some.inj (h1.symm.trans hcl)
        cases Option.some.inj (h2.symm.trans hc6)
        exact Or.inr ⟨hz0, _, hcl6, h3⟩)
  obtain ⟨g₀, hfr⟩ := X'.frames_eq
  have hcell9 : ((T.setVm vm').setFrames (.throwing q :: below)).heap[q]? = some ce := by
    show T.heap[q]? = some ce
    rw [hT]; exact hcell
  have hend : Ended ((T.setVm vm').setFrames (.throwing q :: below)) below (.threw q) := State.frames_setFrames _ (State.cur_lt_of_frames hfr)
  refine ⟨(T.setVm vm').setFrames (.throwing q :: below), ?_, .threw q, X'.here.running, hend, Or.inr ⟨q, rfl, E, ce, locs, hx _ hT (X'.ends _).1.alike, hcell9, hv, hcl, (X'.ends _).1, (X'.ends _).2.mono hc hs, hf⟩⟩
  rw [X.pushThrowing_eq]
  exact st
/-- a thing of a world lies in the heap -/
theorem vx_lt {D : va_G} {cl : List vw_C} {ws : va_W} {H1 : Heap} (h : va_P D cl ws H1) {k : Nat} {q : Nat × va_E} (hk : ws[k]? = some q) : q.1 < H1.size := (h k q hk).lt
end VXS
/-! ===== END ===== -/
/-! ===== BEGIN methods with a table of their own: called by a name, returning or throwing ===== -/
section VXH
/-! vx_backW, vx_callVX, vx_callSX, vx_callVW, vx_runVW, vx_runVX, vx_runSX, vx_ofWH follow the same proofs as their sisters above (Free/Laws.lean, Shelf42/LK1.lean); vx_outP calls Shelf42/NT130.lean (outThrough). -/
section
variable {l : Launch} {R : Room} {p : Program} {e : Env} {below : List Frame} {s : State} {sargs : Array Value} {y : MethodName} {len W9 : Nat}
theorem vx_backW {ws : List Cond} {rm : Room} {Pc : Array Value → State → Prop} {Qc : Array Value → State → Outcome → State → Prop} {XC : String → State → State → Prop} {mc ms : Nat} {free : Addr → Prop} {bytes : ByteArray} {maxL : Nat} {ret : Option FieldType} {hh : List (Nat × Nat × Nat × Nat)}
    (hM : vx_Met l y ws rm Pc Qc XC mc ms free) (hblind : FrameBlind Pc) (hrc : rm.cells = mc) (hrs : rm.slots = ms)
    (hframes : rm.frames + 1 ≤ R.frames) (hlocals : W9 + (maxL + 11) + rm.locals ≤ R.locals)
    (hws : ∀ w ∈ ws, ∀ a' U, s.WarmedH U.vm → w.before a' U = true) (hcode : Cond.codeWith y bytes maxL ret hh ∈ ws) (hinit : ∀ a' U, s.WarmedH U.vm → (Cond.initialized y.cls).before a' U = true) :
    vx_Back l R p e below s sargs y len W9 (PreOf R mc ms Pc) (PostOf Qc mc ms free) (vx_Post XC mc ms free) := by
  intro m meth c A g ig mk a X hg hsize hdg hW hn hp
  have h1 : (headSpec ws rm).pre.before a A.U = true := atoms_intro fun w hw => hws w hw _ _ X.warmed
  have h2 : (Cond.codeWith y bytes maxL ret hh).before a A.U = true := hws _ hcode _ _ X.warmed
  have h3 : (Cond.initialized y.cls).before a A.U = true := hinit _ _ X.warmed
  have h4 : A.cells + (headSpec ws rm).room.cells ≤ R.cells := by rw [show (headSpec ws rm).room.cells = mc from hrc]; exact hp.1
  have h5 : A.slots + (headSpec ws rm).room.slots ≤ R.slots := by rw [show (headSpec ws rm).room.slots = ms from hrs]; exact hp.2.1
  have hPc : Pc a (A.U.calling g mk a) := hblind _ _ _ _ hp.2.2
  obtain ⟨U, Ls, c0, s0⟩ := A
  dsimp only [Pt.U, Pt.locs, Pt.cells, Pt.slots] at h1 h2 h3 h4 h5 X hn hPc ⊢
  obtain ⟨m9, methY, cY, hn9, hmY, hcY, -, hlY, -⟩ := Cond.codeWith_spec h2
  cases Option.some.inj (hn9.symm.trans hn)
  obtain ⟨kY, hkY, -⟩ := className_of_methodNamed hn
  have hinitY : kY.init = .initialized := Cond.initialized_spec (findClass_of_methodNamed hn) hkY h3
  have h : At U g.method c below := by rw [hg]; exact X.here
  have hlocals9 : W9 + (maxL + 11) + (headSpec ws rm).room.locals ≤ R.locals := hlocals
  have happ : (headSpec ws rm).appliesLoose y e.platform (U.calling g mk a) = true :=
    Spec.appliesLoose_calling (g := g) h hdg hn hkY hinitY
      (X.room_calling (g := g) (R' := (headSpec ws rm).room) hsize hmY hcY hframes (by rw [hlY]; omega) h4 h5) h1
  obtain ⟨mid, hmid⟩ := h.above
  have hfr : (U.setTop g).frames = (.java g :: mid) ++ below := by rw [State.frames_setTop' g h.top, hmid]; rfl
  obtain ⟨o, s₂, hsteps, -, hend, hq⟩ := Steps.callFree hM p X.admits X.cas X.clock (acts := []) hfr happ hPc trivial
  have hq' : vx_Q Qc XC mc ms free a (U.calling g mk a) o s₂ := hq
  rw [State.frames_setTop' g h.top] at hend
  obtain ⟨g₀, hg0⟩ := Option.isSome_iff_exists.mp h.top
  obtain ⟨r, hr⟩ := State.topJava?_eq_some.mp hg0
  have hr' : (({ U with heap := s₂.heap, slotsUsed := s₂.slotsUsed } : State).setVm s₂.vm).frames = .java g₀ :: r := hr
  rcases hq' with ⟨hqc, L, hfe, hL⟩ | ⟨q, rfl, E, ce, L, hx, hce, hcv, hcl, hW₂, hsm, hL⟩
  · obtain ⟨⟨v, rfl⟩, hW₂, e2, q2, q3, q4, q5, q6⟩ := id hfe
    have e3 : s₂ = ({ (U.calling g mk a).setFrames s₂.frames with heap := s₂.heap, slotsUsed := s₂.slotsUsed } : State).setVm s₂.vm := by
      have : s₂ = ({ s₂ with vm := (U.calling g mk a).vm } : State).setVm s₂.vm := rfl
      rw [e2] at this
      exact this
    obtain ⟨c₂, i₂, len₂, hc₂, hd₂, hf₂⟩ := hend
    have hW' : U.WarmedH s₂.vm := hW₂
    have hcc : c₂ = c := by
      have h1 : s₂.code? g.method = U.code? g.method := by
        rw [State.code?_eq, State.code?_eq, hW'.alike.method?]
      exact Option.some.inj (hc₂.symm.trans (h1.trans h.code))
    subst hcc
    have hlen : len₂ = len := by rw [hdg] at hd₂; cases hd₂; rfl
    subst hlen
    have hs₂ : s₂ = (({ U with heap := s₂.heap, slotsUsed := s₂.slotsUsed } : State).setVm s₂.vm).setTop { g with pc := g.pc + len₂, stack := v.toList ++ g.stack } := by
      refine e3.trans ?_
      rw [hf₂, State.calling_eq h.top, State.setFrames_setFrames, State.setTop_of_frames _ hr', hr]
      rfl
    have hsame : U.sameButNew ({ U with heap := s₂.heap, slotsUsed := s₂.slotsUsed } : State) L mc ms := by
      refine ⟨?_, q2, q3, q4, q5, q6⟩
      obtain ⟨t, ht, -⟩ := State.frames_cons hr
      show ({ U with heap := s₂.heap, slotsUsed := s₂.slotsUsed } : State) = { U.setFrames U.frames with heap := s₂.heap, slotsUsed := s₂.slotsUsed }
      rw [State.setFrames_self ht]
    subst hg
    refine Or.inl ⟨v, ⟨(({ U with heap := s₂.heap, slotsUsed := s₂.slotsUsed } : State).setVm s₂.vm), Ls ++ L, c0 + mc, s0 + ms⟩,
      ⟨X.admits, X.cas, X.clock, X.frames, X.room, X.hears, X.method, X.code, (X.here.setHeapUsed s₂.heap s₂.slotsUsed).setVm hW'.alike, X.tail, State.WarmedH.trans X.warmed hW', X.limits, X.bytes, X.same.trans (hsame.setVm s.vm)⟩,
      ⟨g, mk, s₂, L, rfl, rfl, hqc, rfl, hL, rfl, rfl⟩, ?_⟩
    show Steps p.tables e below _ ((({ U with heap := s₂.heap, slotsUsed := s₂.slotsUsed } : State).setVm s₂.vm).setTop { g with pc := g.pc + len₂, stack := v.toList ++ g.stack })
    rw [← hs₂]
    exact hsteps
  · obtain ⟨e2, q2, q3, q4, q5, q6⟩ := id hsm
    have e3 : s₂ = ({ (U.calling g mk a).setFrames s₂.frames with heap := s₂.heap, slotsUsed := s₂.slotsUsed } : State).setVm s₂.vm := by
      have : s₂ = ({ s₂ with vm := (U.calling g mk a).vm } : State).setVm s₂.vm := rfl
      rw [e2] at this
      exact this
    have hf₂ : s₂.frames = .throwing q :: .java g :: U.frames.tail := hend
    have hW' : U.WarmedH s₂.vm := hW₂
    have hs₂ : s₂ = ((({ U with heap := s₂.heap, slotsUsed := s₂.slotsUsed } : State).setVm s₂.vm).setTop g).pushFrame (.throwing q) := by
      refine e3.trans ?_
      rw [hf₂, State.calling_eq h.top, State.setFrames_setFrames, State.pushFrame, State.frames_setTop _ hr', State.setTop_of_frames _ hr', State.setFrames_setFrames, hr]
      rfl
    have hsame : U.sameButNew ({ U with heap := s₂.heap, slotsUsed := s₂.slotsUsed } : State) L mc ms := by
      refine ⟨?_, q2, q3, q4, q5, q6⟩
      obtain ⟨t, ht, -⟩ := State.frames_cons hr
      show ({ U with heap := s₂.heap, slotsUsed := s₂.slotsUsed } : State) = { U.setFrames U.frames with heap := s₂.heap, slotsUsed := s₂.slotsUsed }
      rw [State.setFrames_self ht]
    subst hg
    refine Or.inr ⟨q, ⟨(({ U with heap := s₂.heap, slotsUsed := s₂.slotsUsed } : State).setVm s₂.vm), Ls ++ L, c0 + mc, s0 + ms⟩,
      ⟨X.admits, X.cas, X.clock, X.frames, X.room, X.hears, X.method, X.code, (X.here.setHeapUsed s₂.heap s₂.slotsUsed).setVm hW'.alike, X.tail, State.WarmedH.trans X.warmed hW', X.limits, X.bytes, X.same.trans (hsame.setVm s.vm)⟩,
      ⟨g, mk, s₂, L, E, ce, rfl, rfl, hx, hce, hcv, hcl, rfl, hL, rfl, rfl⟩, ?_⟩
    show Steps p.tables e below _ (((({ U with heap := s₂.heap, slotsUsed := s₂.slotsUsed } : State).setVm s₂.vm).setTop g).pushFrame (.throwing q))
    rw [← hs₂]
    exact hsteps
end
variable {p : Program} {l : Launch} {e : Env} {R : Room} {s : State} {m : MethodId} {args : Array Value} {below : List Frame} {meth : Method} {c : Code} {T : State} {H : Heap} {locs : List Loc} {cells slots : Nat}
theorem vx_callVX (X : Stand p l e R s m args below meth c T locs cells slots) (hexec : p.tables.exec = Jvm.exec) {own C : String} {index : Nat} {y : MethodName} {bytes : ByteArray} {maxL : Nat} {ret : Option FieldType} {hh : List (Nat × Nat × Nat × Nat)}
    (hown : s.vm.findClass own = some m.cls) (hlink : (Cond.methodLink own index y).before args s = true) (hinst : (Cond.instanceMethod y).before args s = true) (hsel : (Cond.selects C y y).before args s = true)
    (hcode : (Cond.codeWith y bytes maxL ret hh).before args s = true) (hy : y.cls ≠ "java/lang/invoke/MethodHandle" ∧ y.cls ≠ "java/lang/invoke/VarHandle")
    {W9 : Nat} {Pre : Pt → Array Value → Prop} {Post : Pt → Array Value → Option Value → Pt → Prop} {PostX : Pt → Array Value → Addr → Pt → Prop} (hK : vx_Back l R p e below s args y 3 W9 Pre Post PostX)
    {b : Addr} {cellB : Cell} (hcell : T.heap[b]? = some cellB) (hobj : cellB.vm.isStatics = false) (hcls : s.vm.findClass C = some cellB.cls)
    {g : JFrame} (hg : g.method = m) (hsize : g.locals.size = c.maxLocals) {argsL rest : List Value} (hlen : ∀ sig, parseMethodDescriptor y.desc = some sig → argsL.length = sig.parameters.length)
    (hstack : g.stack = argsL.reverse ++ .ref b :: rest) (hW : 2 * g.monitorRoom + (rest.map fun v => v.category).sum ≤ W9) (hdg : decode c.code g.pc = .ok (.invokevirtual index, 3))
    (hpre : ∀ vm₁, s.WarmedH vm₁ → Pre ⟨T.setVm vm₁, locs, cells, slots⟩ (Value.ref b :: argsL).toArray) :
    (∃ (v : Option Value) (vm₁ : Vm) (B : Pt), s.WarmedH vm₁ ∧ Stand p l e R s m args below meth c B.U B.locs B.cells B.slots ∧ Post ⟨T.setVm vm₁, locs, cells, slots⟩ (Value.ref b :: argsL).toArray v B ∧
      ∀ target, Steps p.tables e below (B.U.setTop { g with pc := g.pc + 3, stack := v.toList ++ rest }) target → Steps p.tables e below (T.setTop g) target) ∨
    (∃ (q : Addr) (vm₁ : Vm) (B : Pt), s.WarmedH vm₁ ∧ Stand p l e R s m args below meth c B.U B.locs B.cells B.slots ∧ PostX ⟨T.setVm vm₁, locs, cells, slots⟩ (Value.ref b :: argsL).toArray q B ∧
      Steps p.tables e below (T.setTop g) ((B.U.setTop { g with stack := rest }).pushFrame (.throwing q))) := by
  obtain ⟨mk, methM, hnamed, hmethM, hstM, habM⟩ := Cond.instanceMethod_spec hinst
  obtain ⟨m8, methM', cM, hn8, hmethM', -, -, -, -, -, -, hsigM⟩ := Cond.codeWith_spec hcode
  cases Option.some.inj (hn8.symm.trans hnamed)
  cases hmethM.symm.trans hmethM'
  obtain ⟨c2, r2, m2, q1, q2, q3, q4, kP, hkP, hkPi⟩ := Cond.selects_spec hsel
  cases hcls.symm.trans q1
  cases (State.methodFound?_of_named hnamed hy).symm.trans q2
  cases hnamed.symm.trans q3
  have hselP : selectMethod e.platform s.vm cellB.cls mk = .method mk := by rw [Launch.admits_selectMethod X.admits]; exact q4
  obtain ⟨vm₁, X₁, hstep₁⟩ := X.invokevirtual hexec hown hlink hnamed hmethM hstM hkP hkPi hy (a := b) (cell := cellB) hcell
    (fun z h => by rw [h] at hobj; cases hobj) hselP hmethM habM hkP hkPi (g := g) hg (argsL := argsL) (rest := rest) (hlen _ hsigM) hstack hdg
  rcases hK m meth c ⟨T.setVm vm₁, locs, cells, slots⟩ { g with stack := rest } (.invokevirtual index) mk (Value.ref b :: argsL).toArray X₁ hg hsize hdg hW (X₁.named hnamed) (hpre vm₁ X₁.warmed) with ⟨v, B, X', hpost, hsteps⟩ | ⟨q, B, X', hpost, hsteps⟩
  · exact Or.inl ⟨v, vm₁, B, X₁.warmed, X', hpost, fun target h => hstep₁ _ fun acts => by rw [doInvoke_state]; exact hsteps.trans h⟩
  · exact Or.inr ⟨q, vm₁, B, X₁.warmed, X', hpost, hstep₁ _ fun acts => by rw [doInvoke_state]; exact hsteps⟩
theorem vx_callSX (X : Stand p l e R s m args below meth c T locs cells slots) (hexec : p.tables.exec = Jvm.exec) {own : String} {index : Nat} {y : MethodName} {bytes : ByteArray} {maxL : Nat} {ret : Option FieldType} {hh : List (Nat × Nat × Nat × Nat)}
    (hown : s.vm.findClass own = some m.cls) (hlink : (Cond.methodLink own index y).before args s = true) (hstat : (Cond.static y).before args s = true) (hinit : (Cond.initialized y.cls).before args s = true)
    (hcode : (Cond.codeWith y bytes maxL ret hh).before args s = true) (hy : y.cls ≠ "java/lang/invoke/MethodHandle" ∧ y.cls ≠ "java/lang/invoke/VarHandle")
    {W9 : Nat} {Pre : Pt → Array Value → Prop} {Post : Pt → Array Value → Option Value → Pt → Prop} {PostX : Pt → Array Value → Addr → Pt → Prop} (hK : vx_Back l R p e below s args y 3 W9 Pre Post PostX)
    {g : JFrame} (hg : g.method = m) (hsize : g.locals.size = c.maxLocals) {argsL rest : List Value} (hlen : ∀ sig, parseMethodDescriptor y.desc = some sig → argsL.length = sig.parameters.length)
    (hstack : g.stack = argsL.reverse ++ rest) (hW : 2 * g.monitorRoom + (rest.map fun v => v.category).sum ≤ W9) (hdg : decode c.code g.pc = .ok (.invokestatic index, 3))
    (hpre : ∀ vm₁, s.WarmedH vm₁ → Pre ⟨T.setVm vm₁, locs, cells, slots⟩ argsL.toArray) :
    (∃ (v : Option Value) (vm₁ : Vm) (B : Pt), s.WarmedH vm₁ ∧ Stand p l e R s m args below meth c B.U B.locs B.cells B.slots ∧ Post ⟨T.setVm vm₁, locs, cells, slots⟩ argsL.toArray v B ∧
      ∀ target, Steps p.tables e below (B.U.setTop { g with pc := g.pc + 3, stack := v.toList ++ rest }) target → Steps p.tables e below (T.setTop g) target) ∨
    (∃ (q : Addr) (vm₁ : Vm) (B : Pt), s.WarmedH vm₁ ∧ Stand p l e R s m args below meth c B.U B.locs B.cells B.slots ∧ PostX ⟨T.setVm vm₁, locs, cells, slots⟩ argsL.toArray q B ∧
      Steps p.tables e below (T.setTop g) ((B.U.setTop { g with stack := rest }).pushFrame (.throwing q))) := by
  obtain ⟨mk, methM, cM, hnamed, hmethM, -, -, -, -, -, -, hsigM⟩ := Cond.codeWith_spec hcode
  have hstatic : methM.isStatic = true := Cond.static_spec hnamed hmethM hstat
  obtain ⟨kP, hkP, -⟩ := className_of_methodNamed hnamed
  have hinitP : kP.init = .initialized := Cond.initialized_spec (findClass_of_methodNamed hnamed) hkP hinit
  obtain ⟨vm₁, X₁, hstep₁⟩ := X.invokestatic hexec hown hlink hnamed hmethM hstatic hkP hinitP hy (g := g) hg (argsL := argsL) (rest := rest) (hlen _ hsigM) hstack hdg
  rcases hK m meth c ⟨T.setVm vm₁, locs, cells, slots⟩ { g with stack := rest } (.invokestatic index) mk argsL.toArray X₁ hg hsize hdg hW (X₁.named hnamed) (hpre vm₁ X₁.warmed) with ⟨v, B, X', hpost, hsteps⟩ | ⟨q, B, X', hpost, hsteps⟩
  · exact Or.inl ⟨v, vm₁, B, X₁.warmed, X', hpost, fun target h => hstep₁ _ fun acts => by rw [doInvoke_state]; exact hsteps.trans h⟩
  · exact Or.inr ⟨q, vm₁, B, X₁.warmed, X', hpost, hstep₁ _ fun acts => by rw [doInvoke_state]; exact hsteps⟩
theorem vx_callVW (X : Stand p l e R s m args below meth c T locs cells slots) (hexec : p.tables.exec = Jvm.exec) {own C : String} {index : Nat} {y : MethodName} {bytes : ByteArray} {maxL : Nat} {ret : Option FieldType} {hh : List (Nat × Nat × Nat × Nat)}
    (hown : s.vm.findClass own = some m.cls) (hlink : (Cond.methodLink own index y).before args s = true) (hinst : (Cond.instanceMethod y).before args s = true) (hsel : (Cond.selects C y y).before args s = true)
    (hcode : (Cond.codeWith y bytes maxL ret hh).before args s = true) (hy : y.cls ≠ "java/lang/invoke/MethodHandle" ∧ y.cls ≠ "java/lang/invoke/VarHandle")
    {W9 : Nat} {Pre : Pt → Array Value → Prop} {Post : Pt → Array Value → Option Value → Pt → Prop} (hK : Back l R p e below s args y 3 W9 Pre Post)
    {b : Addr} {cellB : Cell} (hcell : T.heap[b]? = some cellB) (hobj : cellB.vm.isStatics = false) (hcls : s.vm.findClass C = some cellB.cls)
    {g : JFrame} (hg : g.method = m) (hsize : g.locals.size = c.maxLocals) {argsL rest : List Value} (hlen : ∀ sig, parseMethodDescriptor y.desc = some sig → argsL.length = sig.parameters.length)
    (hstack : g.stack = argsL.reverse ++ .ref b :: rest) (hW : 2 * g.monitorRoom + (rest.map fun v => v.category).sum ≤ W9) (hdg : decode c.code g.pc = .ok (.invokevirtual index, 3))
    (hpre : ∀ vm₁, s.WarmedH vm₁ → Pre ⟨T.setVm vm₁, locs, cells, slots⟩ (Value.ref b :: argsL).toArray) :
    ∃ (v : Option Value) (vm₁ : Vm) (B : Pt), s.WarmedH vm₁ ∧ Stand p l e R s m args below meth c B.U B.locs B.cells B.slots ∧ Post ⟨T.setVm vm₁, locs, cells, slots⟩ (Value.ref b :: argsL).toArray v B ∧
      ∀ target, Steps p.tables e below (B.U.setTop { g with pc := g.pc + 3, stack := v.toList ++ rest }) target → Steps p.tables e below (T.setTop g) target := by
  obtain ⟨mk, methM, hnamed, hmethM, hstM, habM⟩ := Cond.instanceMethod_spec hinst
  obtain ⟨m8, methM', cM, hn8, hmethM', -, -, -, -, -, -, hsigM⟩ := Cond.codeWith_spec hcode
  cases Option.some.inj (hn8.symm.trans hnamed)
  cases hmethM.symm.trans hmethM'
  obtain ⟨c2, r2, m2, q1, q2, q3, q4, kP, hkP, hkPi⟩ := Cond.selects_spec hsel
  cases hcls.symm.trans q1
  cases (State.methodFound?_of_named hnamed hy).symm.trans q2
  cases hnamed.symm.trans q3
  have hselP : selectMethod e.platform s.vm cellB.cls mk = .method mk := by rw [Launch.admits_selectMethod X.admits]; exact q4
  obtain ⟨vm₁, X₁, hstep₁⟩ := X.invokevirtual hexec hown hlink hnamed hmethM hstM hkP hkPi hy (a := b) (cell := cellB) hcell
    (fun z h => by rw [h] at hobj; cases hobj) hselP hmethM habM hkP hkPi (g := g) hg (argsL := argsL) (rest := rest) (hlen _ hsigM) hstack hdg
  obtain ⟨v, B, X', hpost, hsteps⟩ := hK m meth c ⟨T.setVm vm₁, locs, cells, slots⟩ { g with stack := rest } (.invokevirtual index) mk (Value.ref b :: argsL).toArray X₁ hg hsize hdg hW (X₁.named hnamed) (hpre vm₁ X₁.warmed)
  exact ⟨v, vm₁, B, X₁.warmed, X', hpost, fun target h => hstep₁ _ fun acts => by rw [doInvoke_state]; exact hsteps.trans h⟩
abbrev vx_CVW (R : Room) (s : State) (args : Array Value) (own C : String) (index : Nat) (y : MethodName) (bytes : ByteArray) (maxL : Nat) (ret : Option FieldType) (hh : List (Nat × Nat × Nat × Nat)) (ws : List Cond) (rm : Room) (mc ms n : Nat) : Prop :=
  (rm.cells = mc ∧ rm.slots = ms ∧ rm.frames + 1 ≤ R.frames ∧ 8 + (maxL + 11) + rm.locals ≤ R.locals ∧ (∀ w ∈ ws, ∀ (a' : Array Value) (U : State), s.WarmedH U.vm → w.before a' U = true) ∧ Cond.codeWith y bytes maxL ret hh ∈ ws) ∧
  (Cond.codeWith y bytes maxL ret hh).before args s = true ∧ (Cond.initialized y.cls).before args s = true ∧ (y.cls ≠ "java/lang/invoke/MethodHandle" ∧ y.cls ≠ "java/lang/invoke/VarHandle") ∧
  (∀ sig, parseMethodDescriptor y.desc = some sig → n = sig.parameters.length) ∧ (Cond.methodLink own index y).before args s = true ∧ (Cond.instanceMethod y).before args s = true ∧ (Cond.selects C y y).before args s = true
theorem vx_cwVW {own C : String} {index maxL mc ms : Nat} {y : MethodName} {bytes : ByteArray} {ret : Option FieldType} {hh : List (Nat × Nat × Nat × Nat)} {Ts ws ws' : List Cond} {rm : Room} (n : Nat) (ht : ∀ w ∈ Ts, w.before args s = true) (hT : GoodIn Ts (wsV own index C y ws)) (hw : ws = Cond.codeWith y bytes maxL ret hh :: ws') (hrc : rm.cells = mc) (hrs : rm.slots = ms)
    (hd : y.cls = C ∧ y.cls ≠ "java/lang/invoke/MethodHandle" ∧ y.cls ≠ "java/lang/invoke/VarHandle" ∧ (parseMethodDescriptor y.desc).map (fun d => d.parameters.length) = some n) (hR : rm.frames + 1 ≤ R.frames ∧ 8 + (maxL + 11) + rm.locals ≤ R.locals) :
    vx_CVW R s args own C index y bytes maxL ret hh ws rm mc ms n := by
  obtain ⟨hC, hd⟩ := hd
  subst hC
  have ok : ∀ w ∈ wsV own index y.cls y ws, w.before args s = true := fun w h => ht w (hT w h).1
  have hG : GoodIn Ts ws := fun w h => hT w (by unfold wsV; exact List.mem_append_right _ h)
  have hc : Cond.codeWith y bytes maxL ret hh ∈ ws := by rw [hw]; exact List.mem_cons_self
  refine ⟨⟨hrc, hrs, hR.1, hR.2, pay_in ht hG, hc⟩, ht _ (hG _ hc).1, ok _ (by simp [wsV]), ⟨hd.1, hd.2.1⟩, fun sig h => ?_, ok _ (by simp [wsV]), ok _ (by simp [wsV]), ok _ (by simp [wsV])⟩
  have h2 := hd.2.2
  rw [h] at h2
  exact (Option.some.inj h2).symm
theorem vx_runVW {y : MethodName} {bytes cc : ByteArray} {maxL nL mc ms n index : Nat} {ret : Option FieldType} {hh : List (Nat × Nat × Nat × Nat)} {ws : List Cond} {rm : Room} {Pc : Array Value → State → Prop} {Qc : Array Value → State → Outcome → State → Prop} {free : Addr → Prop} {Ts : List Cond} {own C : String} {b : Addr} {As rest : List Value} {g : JFrame}
    (S : CallFix p m c cc nL s args Ts own) (hM : Met l y ws rm Pc Qc mc ms free) (cw : vx_CVW R s args own C index y bytes maxL ret hh ws rm mc ms n) (hp : PreV s H C b Pc As)
    (hg : g.method = m) (hn : As.length = n) (hsize : g.locals.size = nL) (hstack : g.stack = As.reverse ++ .ref b :: rest) (hW : 2 * g.monitorRoom + (rest.map fun v => v.category).sum ≤ 8) (hdg : decode cc g.pc = .ok (.invokevirtual index, 3)) (hf : cells + mc ≤ R.cells ∧ slots + ms ≤ R.slots) :
    va_Run p l e R s m args below meth c H locs cells slots mc ms g rest (Qc (Value.ref b :: As).toArray) free := by
  obtain ⟨⟨hrc, hrs, hfr, hlo, hws, hcw⟩, hcode, hini, hy, hlen, hl, hin, hse⟩ := cw
  have hK : Back l R p e below s args y 3 8 (PreOf R mc ms Pc) (PostOf Qc mc ms free) := va_backW (hh := hh) (bytes := bytes) (maxL := maxL) (ret := ret) hM hp.1 hrc hrs hfr hlo hws hcw (fun a' U hW => word_at hW (Or.inl (by first | rfl | simp [Cond.onTables, Cond.keeps, Cond.steady])) hini)
  obtain ⟨hx, hb, hml, ho, -⟩ := S
  obtain ⟨-, ⟨cellB, hcB, hoB, hclB⟩, hPc⟩ := hp
  intro T hT X
  obtain ⟨v, vm₁, ⟨U', l2, c2, s2⟩, hW₁, X', ⟨g', mk, t, L, e1, e2, hq, h1, hL, h2, h3⟩, st⟩ := vx_callVW X hx (C := C) (hh := hh) (bytes := bytes) (maxL := maxL) (ret := ret) ho hl hin hse hcode hy hK (by rw [hT]; exact hcB) hoB hclB hg (hsize.trans hml.symm) (argsL := As) (rest := rest) (fun sig h => hn.trans (hlen sig h)) hstack hW (by rw [hb]; exact hdg)
    (fun vm₁ hW₁ => ⟨hf.1, hf.2, hPc (T.setVm vm₁) hT hW₁⟩)
  dsimp only [Pt.U, Pt.locs, Pt.cells, Pt.slots] at X' e1 e2 h1 h2 h3 st
  subst h1; subst h2; subst h3
  exact ⟨v, (T.setVm vm₁).calling g' mk (Value.ref b :: As).toArray, t, U', L, hT, X', hL, e1, e2, hq, st⟩
section
variable {y : MethodName} {bytes cc : ByteArray} {maxL nL mc ms n index : Nat} {ret : Option FieldType} {ws : List Cond} {rm : Room} {Pc : Array Value → State → Prop} {Qc : Array Value → State → Outcome → State → Prop} {XC : String → State → State → Prop} {free : Addr → Prop} {Ts : List Cond} {own C : String} {b : Addr} {As rest : List Value} {g : JFrame}
theorem vx_runVX {hh : List (Nat × Nat × Nat × Nat)} (S : CallFix p m c cc nL s args Ts own) (hM : vx_Met l y ws rm Pc Qc XC mc ms free) (cw : vx_CVW R s args own C index y bytes maxL ret hh ws rm mc ms n) (hp : PreV s H C b Pc As)
    (hg : g.method = m) (hn : As.length = n) (hsize : g.locals.size = nL) (hstack : g.stack = As.reverse ++ .ref b :: rest) (hW : 2 * g.monitorRoom + (rest.map fun v => v.category).sum ≤ 8) (hdg : decode cc g.pc = .ok (.invokevirtual index, 3)) (hf : cells + mc ≤ R.cells ∧ slots + ms ≤ R.slots) :
    vx_Run p l e R s m args below meth c H locs cells slots mc ms g rest (Qc (Value.ref b :: As).toArray) XC free := by
  obtain ⟨⟨hrc, hrs, hfr, hlo, hws, hcw⟩, hcode, hini, hy, hlen, hl, hin, hse⟩ := cw
  have hK : vx_Back l R p e below s args y 3 8 (PreOf R mc ms Pc) (PostOf Qc mc ms free) (vx_Post XC mc ms free) := vx_backW (hh := hh) (bytes := bytes) (maxL := maxL) (ret := ret) hM hp.1 hrc hrs hfr hlo hws hcw (fun a' U hW => word_at hW (Or.inl (by first | rfl | simp [Cond.onTables, Cond.keeps, Cond.steady])) hini)
  obtain ⟨hx, hb, hml, ho, -⟩ := S
  obtain ⟨-, ⟨cellB, hcB, hoB, hclB⟩, hPc⟩ := hp
  intro T hT X
  rcases vx_callVX X hx (C := C) (hh := hh) (bytes := bytes) (maxL := maxL) (ret := ret) ho hl hin hse hcode hy hK (by rw [hT]; exact hcB) hoB hclB hg (hsize.trans hml.symm) (argsL := As) (rest := rest) (fun sig h => hn.trans (hlen sig h)) hstack hW (by rw [hb]; exact hdg)
    (fun vm₁ hW₁ => ⟨hf.1, hf.2, hPc (T.setVm vm₁) hT hW₁⟩) with ⟨v, vm₁, ⟨U', l2, c2, s2⟩, hW₁, X', ⟨g', mk, t, L, e1, e2, hq, h1, hL, h2, h3⟩, st⟩ | ⟨q, vm₁, ⟨U', l2, c2, s2⟩, hW₁, X', ⟨g', mk, t, L, E, ce, e1, e2, hq, hce, hcv, hcl, h1, hL, h2, h3⟩, st⟩
  · dsimp only [Pt.U, Pt.locs, Pt.cells, Pt.slots] at X' e1 e2 h1 h2 h3 st
    subst h1; subst h2; subst h3
    exact Or.inl ⟨v, (T.setVm vm₁).calling g' mk (Value.ref b :: As).toArray, t, U', L, hT, X', hL, e1, e2, hq, st⟩
  · dsimp only [Pt.U, Pt.locs, Pt.cells, Pt.slots] at X' e1 e2 h1 h2 h3 st hcl
    subst h1; subst h2; subst h3
    exact Or.inr ⟨q, (T.setVm vm₁).calling g' mk (Value.ref b :: As).toArray, t, U', L, E, ce, hT, X', hL, e1, e2, hq, hce, hcv, vx_cls hW₁ hcl, st⟩
theorem vx_runSX {hh : List (Nat × Nat × Nat × Nat)} (S : CallFix p m c cc nL s args Ts own) (hM : vx_Met l y ws rm Pc Qc XC mc ms free) (cw : vx_CSW R s args own index y bytes maxL ret hh ws rm mc ms n) (hp : PreS s H Pc As)
    (hg : g.method = m) (hn : As.length = n) (hsize : g.locals.size = nL) (hstack : g.stack = As.reverse ++ rest) (hW : 2 * g.monitorRoom + (rest.map fun v => v.category).sum ≤ 8) (hdg : decode cc g.pc = .ok (.invokestatic index, 3)) (hf : cells + mc ≤ R.cells ∧ slots + ms ≤ R.slots) :
    vx_Run p l e R s m args below meth c H locs cells slots mc ms g rest (Qc As.toArray) XC free := by
  obtain ⟨⟨hrc, hrs, hfr, hlo, hws, hcw⟩, hcode, hini, hy, hlen, hl, hstt⟩ := cw
  have hK : vx_Back l R p e below s args y 3 8 (PreOf R mc ms Pc) (PostOf Qc mc ms free) (vx_Post XC mc ms free) := vx_backW (hh := hh) (bytes := bytes) (maxL := maxL) (ret := ret) hM hp.1 hrc hrs hfr hlo hws hcw (fun a' U hW => word_at hW (Or.inl (by first | rfl | simp [Cond.onTables, Cond.keeps, Cond.steady])) hini)
  obtain ⟨hx, hb, hml, ho, -⟩ := S
  intro T hT X
  rcases vx_callSX X hx (hh := hh) (bytes := bytes) (maxL := maxL) (ret := ret) ho hl hstt hini hcode hy hK hg (hsize.trans hml.symm) (argsL := As) (rest := rest) (fun sig h => hn.trans (hlen sig h)) hstack hW (by rw [hb]; exact hdg)
    (fun vm₁ hW₁ => ⟨hf.1, hf.2, hp.2 (T.setVm vm₁) hT hW₁⟩) with ⟨v, vm₁, ⟨U', l2, c2, s2⟩, hW₁, X', ⟨g', mk, t, L, e1, e2, hq, h1, hL, h2, h3⟩, st⟩ | ⟨q, vm₁, ⟨U', l2, c2, s2⟩, hW₁, X', ⟨g', mk, t, L, E, ce, e1, e2, hq, hce, hcv, hcl, h1, hL, h2, h3⟩, st⟩
  · dsimp only [Pt.U, Pt.locs, Pt.cells, Pt.slots] at X' e1 e2 h1 h2 h3 st
    subst h1; subst h2; subst h3
    exact Or.inl ⟨v, (T.setVm vm₁).calling g' mk As.toArray, t, U', L, hT, X', hL, e1, e2, hq, st⟩
  · dsimp only [Pt.U, Pt.locs, Pt.cells, Pt.slots] at X' e1 e2 h1 h2 h3 st hcl
    subst h1; subst h2; subst h3
    exact Or.inr ⟨q, (T.setVm vm₁).calling g' mk As.toArray, t, U', L, E, ce, hT, X', hL, e1, e2, hq, hce, hcv, vx_cls hW₁ hcl, st⟩
end
end VXH
theorem vx_ofWH {l : Launch} {y : MethodName} {ws ws' : List Cond} {rm : Room} {Pc : Array Value → State → Prop} {Qc : Array Value → State → Outcome → State → Prop} {XC : String → State → State → Prop} {mc ms : Nat} {free : Addr → Prop} {cc : ByteArray} {maxL : Nat} {ret : Option FieldType} {hh : List (Nat × Nat × Nat × Nat)}
    (hy : plainName y.cls = true) (hw : ws = Cond.codeWith y cc maxL ret hh :: ws')
    (body : ∀ p e s m args below meth c s₁, BodyLoose p l y (headSpec ws rm) cc maxL ret e s m args below meth c s₁ → c.maxLocals = maxL → Pc args s →
      W p l e (headSpec ws rm).room s m args below meth c s.heap [] 0 0 (vx_MQ below Qc XC args s mc ms free) (entryFrame m args maxL)) : vx_Met l y ws rm Pc Qc XC mc ms free := by
  refine MetFree.of_bodyS (code := cc) (maxLocals := maxL) (ret := ret) hy ?_ ?_
  · intro args s m h hn
    obtain ⟨m9, meth, c, hn9, h1, h2, h3, h4, -, h5, h6, -⟩ := Cond.codeWith_spec (atoms_spec (ws := ws) h _ (by rw [hw]; exact List.mem_cons_self))
    cases hn.symm.trans hn9
    exact ⟨meth, c, h1, h2, h3, h4, h5, h6⟩
  · intro p e s m args below meth c s₁ B hml hP _
    have hh0 : s₁.heap = s.heap := by rw [B.state]; rfl
    obtain ⟨t, a1, o, b1, b2, b3⟩ := body p e s m args below meth c s₁ B hml hP s₁ hh0 (Stand.of_body B)
    exact ⟨t, o, a1, b1, b2, b3⟩
/-! ===== END ===== -/

def RX0 : String := "Twotimes"
def TX0 : u_T := fun k => match k with
  | 0 => ("Twotimes", "known", "[I", true)
  | 1 => ("Twotimes", "keptOn", "[I", true)
  | 2 => ("Twotimes", "draft", "[I", true)
  | _ => ("Twotimes", "today", "I", false)
def tyX0 : Nat → FieldType := fun k => match k with
  | 0 => .array .int
  | 1 => .array .int
  | 2 => .array .int
  | _ => .int
abbrev wsX00 : List Cond := u_ws RX0 TX0 4
theorem nmX0 : ∀ a, a < 4 → ∀ b, b < 4 → a ≠ b → (TX0 a).2.1 ≠ (TX0 b).2.1 := by decide +kernel
theorem tyX0_ok : ∀ k, k < 4 → parseFieldDescriptor (TX0 k).2.2.1 = some (tyX0 k) := by decide +kernel
abbrev cX0_init : ByteArray := prog_1_method_1_code
def yX0_init : MethodName := ⟨RX0, "<init>", "()V"⟩
abbrev cX0_put : ByteArray := prog_1_method_2_code
def yX0_put : MethodName := ⟨RX0, "put", "(IIIII)I"⟩
abbrev cX0_erase : ByteArray := prog_1_method_3_code
def yX0_erase : MethodName := ⟨RX0, "erase", "(IIII)I"⟩
abbrev cX0_eraseAll : ByteArray := prog_1_method_4_code
def yX0_eraseAll : MethodName := ⟨RX0, "eraseAll", "(III)I"⟩
abbrev cX0_restore : ByteArray := prog_1_method_5_code
def yX0_restore : MethodName := ⟨RX0, "restore", "(III)I"⟩
abbrev cX0_pass : ByteArray := prog_1_method_6_code
def yX0_pass : MethodName := ⟨RX0, "pass", "(I)I"⟩
abbrev cX0_today : ByteArray := prog_1_method_7_code
def yX0_today : MethodName := ⟨RX0, "today", "()I"⟩
abbrev cX0_value : ByteArray := prog_1_method_8_code
def yX0_value : MethodName := ⟨RX0, "value", "(IIII)I"⟩
abbrev cX0_keys : ByteArray := prog_1_method_9_code
def yX0_keys : MethodName := ⟨RX0, "keys", "(III)I"⟩
abbrev cX0_joined : ByteArray := prog_1_method_10_code
def yX0_joined : MethodName := ⟨RX0, "joined", "(III)I"⟩
abbrev cX0_runs : ByteArray := prog_1_method_11_code
def yX0_runs : MethodName := ⟨RX0, "runs", "(III)I"⟩
abbrev cX0_run : ByteArray := prog_1_method_12_code
def yX0_run : MethodName := ⟨RX0, "run", "(IIII)I"⟩
abbrev cX0_joinedRuns : ByteArray := prog_1_method_13_code
def yX0_joinedRuns : MethodName := ⟨RX0, "joinedRuns", "(II)I"⟩
abbrev cX0_rows : ByteArray := prog_1_method_14_code
def yX0_rows : MethodName := ⟨RX0, "rows", "(II)I"⟩
abbrev cX0_rowRun : ByteArray := prog_1_method_15_code
def yX0_rowRun : MethodName := ⟨RX0, "rowRun", "(III)I"⟩
abbrev cX0_rowFrom : ByteArray := prog_1_method_16_code
def yX0_rowFrom : MethodName := ⟨RX0, "rowFrom", "(III)I"⟩
abbrev cX0_rowTo : ByteArray := prog_1_method_17_code
def yX0_rowTo : MethodName := ⟨RX0, "rowTo", "(III)I"⟩
abbrev cX0_longest : ByteArray := prog_1_method_19_code
def yX0_longest : MethodName := ⟨RX0, "longest", "(III)I"⟩
abbrev cX0_average : ByteArray := prog_1_method_20_code
def yX0_average : MethodName := ⟨RX0, "average", "(II)F"⟩
abbrev cX0_needRange : ByteArray := prog_1_method_21_code
def yX0_needRange : MethodName := ⟨RX0, "needRange", "(II)V"⟩
abbrev cX0_needTableAndKey : ByteArray := prog_1_method_22_code
def yX0_needTableAndKey : MethodName := ⟨RX0, "needTableAndKey", "(II)V"⟩
abbrev cX0_needSpan : ByteArray := prog_1_method_23_code
def yX0_needSpan : MethodName := ⟨RX0, "needSpan", "(II)V"⟩
abbrev cX0_needRecord : ByteArray := prog_1_method_24_code
def yX0_needRecord : MethodName := ⟨RX0, "needRecord", "(I)V"⟩
abbrev cX0_valuesOf : ByteArray := prog_1_method_25_code
def yX0_valuesOf : MethodName := ⟨RX0, "valuesOf", "(I)I"⟩
abbrev cX0_line : ByteArray := prog_1_method_26_code
def yX0_line : MethodName := ⟨RX0, "line", "(II)I"⟩
abbrev cX0_knownOn : ByteArray := prog_1_method_27_code
def yX0_knownOn : MethodName := ⟨RX0, "knownOn", "(III)I"⟩
abbrev cX0_recordToday : ByteArray := prog_1_method_28_code
def yX0_recordToday : MethodName := ⟨RX0, "recordToday", "(III)V"⟩
abbrev cX0_index : ByteArray := prog_1_method_29_code
def yX0_index : MethodName := ⟨RX0, "index", "(III)I"⟩
abbrev cX0_keepOn : ByteArray := prog_1_method_30_code
def yX0_keepOn : MethodName := ⟨RX0, "keepOn", "(II)V"⟩
abbrev cX0_copyDay : ByteArray := prog_1_method_31_code
def yX0_copyDay : MethodName := ⟨RX0, "copyDay", "(II)V"⟩
abbrev cX0_draftSpan : ByteArray := prog_1_method_32_code
def yX0_draftSpan : MethodName := ⟨RX0, "draftSpan", "(IIII)V"⟩
abbrev cX0_draftRecord : ByteArray := prog_1_method_33_code
def yX0_draftRecord : MethodName := ⟨RX0, "draftRecord", "(II)V"⟩
abbrev cX0_recordDraft : ByteArray := prog_1_method_34_code
def yX0_recordDraft : MethodName := ⟨RX0, "recordDraft", "(II)I"⟩
abbrev cX0_draftKeepsReferences : ByteArray := prog_1_method_35_code
def yX0_draftKeepsReferences : MethodName := ⟨RX0, "draftKeepsReferences", "(II)Z"⟩
abbrev cX0_isReferredTo : ByteArray := prog_1_method_36_code
def yX0_isReferredTo : MethodName := ⟨RX0, "isReferredTo", "(II)Z"⟩
abbrev cX0_loseWithReferences : ByteArray := prog_1_method_37_code
def yX0_loseWithReferences : MethodName := ⟨RX0, "loseWithReferences", "(II)I"⟩
abbrev cX0_lose : ByteArray := prog_1_method_38_code
def yX0_lose : MethodName := ⟨RX0, "lose", "(II)I"⟩
abbrev cX0_startsRun : ByteArray := prog_1_method_39_code
def yX0_startsRun : MethodName := ⟨RX0, "startsRun", "(III)Z"⟩
abbrev cX0_endOfRun : ByteArray := prog_1_method_40_code
def yX0_endOfRun : MethodName := ⟨RX0, "endOfRun", "(III)I"⟩
abbrev cX0_firstDayOfRun : ByteArray := prog_1_method_41_code
def yX0_firstDayOfRun : MethodName := ⟨RX0, "firstDayOfRun", "(III)I"⟩
abbrev cX0_runNumber : ByteArray := prog_1_method_42_code
def yX0_runNumber : MethodName := ⟨RX0, "runNumber", "(III)I"⟩
abbrev cX0_joinedOn : ByteArray := prog_1_method_43_code
def yX0_joinedOn : MethodName := ⟨RX0, "joinedOn", "(III)I"⟩
abbrev cX0_startsJoinedRun : ByteArray := prog_1_method_44_code
def yX0_startsJoinedRun : MethodName := ⟨RX0, "startsJoinedRun", "(III)Z"⟩
abbrev cX0_recordOfStart : ByteArray := prog_1_method_45_code
def yX0_recordOfStart : MethodName := ⟨RX0, "recordOfStart", "(I)I"⟩
abbrev cX0_validOfStart : ByteArray := prog_1_method_46_code
def yX0_validOfStart : MethodName := ⟨RX0, "validOfStart", "(I)I"⟩
abbrev cX0_startOfRow : ByteArray := prog_1_method_47_code
def yX0_startOfRow : MethodName := ⟨RX0, "startOfRow", "(II)I"⟩
abbrev cX0_isKept : ByteArray := prog_1_method_48_code
def yX0_isKept : MethodName := ⟨RX0, "isKept", "(I)Z"⟩
abbrev cX0_startsRow : ByteArray := prog_1_method_49_code
def yX0_startsRow : MethodName := ⟨RX0, "startsRow", "(III)Z"⟩
abbrev cX0_sameRun : ByteArray := prog_1_method_50_code
def yX0_sameRun : MethodName := ⟨RX0, "sameRun", "(IIII)Z"⟩
def RX1 : String := "TwotimesModel"
def TX1 : u_T := fun k => match k with
  | _ => ("", "", "", false)
def tyX1 : Nat → FieldType := fun k => match k with
  | _ => .int
abbrev wsX10 : List Cond := u_ws RX1 TX1 0
theorem nmX1 : ∀ a, a < 0 → ∀ b, b < 0 → a ≠ b → (TX1 a).2.1 ≠ (TX1 b).2.1 := by decide +kernel
theorem tyX1_ok : ∀ k, k < 0 → parseFieldDescriptor (TX1 k).2.2.1 = some (tyX1 k) := by decide +kernel
def RJ9 : String := "java/lang/Math"
def TJ9 : u_T := fun k => match k with
  | _ => ("", "", "", false)
def tyJ9 : Nat → FieldType := fun k => match k with
  | _ => .int
abbrev wsJ90 : List Cond := u_ws RJ9 TJ9 0
theorem nmJ9 : ∀ a, a < 0 → ∀ b, b < 0 → a ≠ b → (TJ9 a).2.1 ≠ (TJ9 b).2.1 := by decide +kernel
theorem tyJ9_ok : ∀ k, k < 0 → parseFieldDescriptor (TJ9 k).2.2.1 = some (tyJ9 k) := by decide +kernel
abbrev cJ9_max_7cf53 : ByteArray := prog_8_method_65_code
def yJ9_max_7cf53 : MethodName := ⟨RJ9, "max", "(II)I"⟩
def RJ0 : String := "java/lang/String"
def TJ0 : u_T := fun k => match k with
  | _ => ("", "", "", false)
def tyJ0 : Nat → FieldType := fun k => match k with
  | _ => .int
abbrev wsJ00 : List Cond := u_ws RJ0 TJ0 0
theorem nmJ0 : ∀ a, a < 0 → ∀ b, b < 0 → a ≠ b → (TJ0 a).2.1 ≠ (TJ0 b).2.1 := by decide +kernel
theorem tyJ0_ok : ∀ k, k < 0 → parseFieldDescriptor (TJ0 k).2.2.1 = some (tyJ0 k) := by decide +kernel
def RJ10 : String := "java/lang/System"
def TJ10 : u_T := fun k => match k with
  | _ => ("", "", "", false)
def tyJ10 : Nat → FieldType := fun k => match k with
  | _ => .int
abbrev wsJ100 : List Cond := u_ws RJ10 TJ10 0
theorem nmJ10 : ∀ a, a < 0 → ∀ b, b < 0 → a ≠ b → (TJ10 a).2.1 ≠ (TJ10 b).2.1 := by decide +kernel
theorem tyJ10_ok : ∀ k, k < 0 → parseFieldDescriptor (TJ10 k).2.2.1 = some (tyJ10 k) := by decide +kernel
def RL : String := "TwotimesLaw"
abbrev cL_cell : ByteArray := method_2_code
def yL_cell : MethodName := ⟨RL, "cell", "([II)I"⟩
abbrev cL_low : ByteArray := method_3_code
def yL_low : MethodName := ⟨RL, "low", "(II)I"⟩
abbrev cL_does : ByteArray := method_4_code
def yL_does : MethodName := ⟨RL, "does", "(LTwotimes;IIIIII)I"⟩
abbrev cL_rowRun : ByteArray := method_5_code
def yL_rowRun : MethodName := ⟨RL, "rowRun", "(LTwotimes;III)I"⟩
abbrev cL_average : ByteArray := method_6_code
def yL_average : MethodName := ⟨RL, "average", "(LTwotimes;II)F"⟩
abbrev cL_act : ByteArray := method_7_code
def yL_act : MethodName := ⟨RL, "act", "(LTwotimes;I)I"⟩
abbrev cL_areAlike : ByteArray := method_8_code
def yL_areAlike : MethodName := ⟨RL, "areAlike", "(LTwotimes;LTwotimes;)Z"⟩
abbrev cL_areValuesSo : ByteArray := method_9_code
def yL_areValuesSo : MethodName := ⟨RL, "areValuesSo", "(LTwotimes;I)Z"⟩
abbrev cL_areRunsSo : ByteArray := method_10_code
def yL_areRunsSo : MethodName := ⟨RL, "areRunsSo", "(LTwotimes;III)Z"⟩
abbrev cL_areRowsSo : ByteArray := method_11_code
def yL_areRowsSo : MethodName := ⟨RL, "areRowsSo", "(LTwotimes;II)Z"⟩
abbrev cL_hasRun : ByteArray := method_12_code
def yL_hasRun : MethodName := ⟨RL, "hasRun", "(LTwotimes;IIIIII)Z"⟩
abbrev cL_isRestoredSo : ByteArray := method_13_code
def yL_isRestoredSo : MethodName := ⟨RL, "isRestoredSo", "(LTwotimes;LTwotimes;III)Z"⟩
abbrev cL_law : ByteArray := code
def yL_law : MethodName := ⟨RL, "law", "([I)Z"⟩
theorem wsL_law_x0 : ∀ w ∈ (vx_atS RX0 59 "java/lang/IllegalArgumentException" ["java/lang/RuntimeException", "java/lang/Exception"]).filter goodWord, w ∈ lw_tbl := by decide +kernel
theorem wsL_law_x1 : ∀ w ∈ (vx_atS RX0 70 "java/lang/IllegalStateException" ["java/lang/RuntimeException", "java/lang/Exception"]).filter goodWord, w ∈ lw_tbl := by decide +kernel
theorem wsL_law_x2 : ∀ w ∈ (vx_atS RX0 95 "java/lang/IndexOutOfBoundsException" ["java/lang/RuntimeException", "java/lang/Exception"]).filter goodWord, w ∈ lw_tbl := by decide +kernel
theorem inJ9 : ∀ w ∈ wsJ90, w ∈ lw_tbl := by decide +kernel
theorem inJ0 : ∀ w ∈ wsJ00, w ∈ lw_tbl := by decide +kernel
theorem inJ10 : ∀ w ∈ wsJ100, w ∈ lw_tbl := by decide +kernel
abbrev vwCl : List vw_C := [(RX0, TX0, 4)]
end
section
theorem dX0_init_0 : decode cX0_init 0 = .ok (.aload_n 0, 1) := by decide +kernel
theorem dX0_init_1 : decode cX0_init 1 = .ok (.invokespecial 3, 3) := by decide +kernel
theorem dX0_init_4 : decode cX0_init 4 = .ok (.aload_n 0, 1) := by decide +kernel
theorem dX0_init_5 : decode cX0_init 5 = .ok (.ldc 9, 2) := by decide +kernel
theorem dX0_init_7 : decode cX0_init 7 = .ok (.newarray .int, 2) := by decide +kernel
theorem dX0_init_9 : decode cX0_init 9 = .ok (.putfield 10, 3) := by decide +kernel
theorem dX0_init_12 : decode cX0_init 12 = .ok (.aload_n 0, 1) := by decide +kernel
theorem dX0_init_13 : decode cX0_init 13 = .ok (.bipush 60, 2) := by decide +kernel
theorem dX0_init_15 : decode cX0_init 15 = .ok (.newarray .int, 2) := by decide +kernel
theorem dX0_init_17 : decode cX0_init 17 = .ok (.putfield 14, 3) := by decide +kernel
theorem dX0_init_20 : decode cX0_init 20 = .ok (.aload_n 0, 1) := by decide +kernel
theorem dX0_init_21 : decode cX0_init 21 = .ok (.bipush 60, 2) := by decide +kernel
theorem dX0_init_23 : decode cX0_init 23 = .ok (.newarray .int, 2) := by decide +kernel
theorem dX0_init_25 : decode cX0_init 25 = .ok (.putfield 17, 3) := by decide +kernel
theorem dX0_init_28 : decode cX0_init 28 = .ok (.iconst 0, 1) := by decide +kernel
theorem dX0_init_29 : decode cX0_init 29 = .ok (.istore_n 1, 1) := by decide +kernel
theorem dX0_init_30 : decode cX0_init 30 = .ok (.iload_n 1, 1) := by decide +kernel
theorem dX0_init_31 : decode cX0_init 31 = .ok (.sipush 960, 3) := by decide +kernel
theorem dX0_init_34 : decode cX0_init 34 = .ok (.if_icmp .ge 16, 3) := by decide +kernel
theorem dX0_init_37 : decode cX0_init 37 = .ok (.aload_n 0, 1) := by decide +kernel
theorem dX0_init_38 : decode cX0_init 38 = .ok (.getfield 10, 3) := by decide +kernel
theorem dX0_init_41 : decode cX0_init 41 = .ok (.iload_n 1, 1) := by decide +kernel
theorem dX0_init_42 : decode cX0_init 42 = .ok (.iconst (-1), 1) := by decide +kernel
theorem dX0_init_43 : decode cX0_init 43 = .ok (.iastore, 1) := by decide +kernel
theorem dX0_init_44 : decode cX0_init 44 = .ok (.iinc 1 1, 3) := by decide +kernel
theorem dX0_init_47 : decode cX0_init 47 = .ok (.goto (-17), 3) := by decide +kernel
theorem dX0_init_50 : decode cX0_init 50 = .ok (.return_, 1) := by decide +kernel
theorem dX0_put_0 : decode cX0_put 0 = .ok (.iload_n 1, 1) := by decide +kernel
theorem dX0_put_1 : decode cX0_put 1 = .ok (.iload_n 2, 1) := by decide +kernel
theorem dX0_put_2 : decode cX0_put 2 = .ok (.invokestatic 20, 3) := by decide +kernel
theorem dX0_put_5 : decode cX0_put 5 = .ok (.iload_n 3, 1) := by decide +kernel
theorem dX0_put_6 : decode cX0_put 6 = .ok (.iload_n 1, 1) := by decide +kernel
theorem dX0_put_7 : decode cX0_put 7 = .ok (.invokestatic 24, 3) := by decide +kernel
theorem dX0_put_10 : decode cX0_put 10 = .ok (.invokestatic 28, 3) := by decide +kernel
theorem dX0_put_13 : decode cX0_put 13 = .ok (.iload 4, 2) := by decide +kernel
theorem dX0_put_15 : decode cX0_put 15 = .ok (.iload 5, 2) := by decide +kernel
theorem dX0_put_17 : decode cX0_put 17 = .ok (.invokestatic 31, 3) := by decide +kernel
theorem dX0_put_20 : decode cX0_put 20 = .ok (.aload_n 0, 1) := by decide +kernel
theorem dX0_put_21 : decode cX0_put 21 = .ok (.iload_n 1, 1) := by decide +kernel
theorem dX0_put_22 : decode cX0_put 22 = .ok (.iload_n 2, 1) := by decide +kernel
theorem dX0_put_23 : decode cX0_put 23 = .ok (.invokestatic 34, 3) := by decide +kernel
theorem dX0_put_26 : decode cX0_put 26 = .ok (.iload 4, 2) := by decide +kernel
theorem dX0_put_28 : decode cX0_put 28 = .ok (.iload 5, 2) := by decide +kernel
theorem dX0_put_30 : decode cX0_put 30 = .ok (.iload_n 3, 1) := by decide +kernel
theorem dX0_put_31 : decode cX0_put 31 = .ok (.invokevirtual 38, 3) := by decide +kernel
theorem dX0_put_34 : decode cX0_put 34 = .ok (.aload_n 0, 1) := by decide +kernel
theorem dX0_put_35 : decode cX0_put 35 = .ok (.iload_n 1, 1) := by decide +kernel
theorem dX0_put_36 : decode cX0_put 36 = .ok (.iload_n 2, 1) := by decide +kernel
theorem dX0_put_37 : decode cX0_put 37 = .ok (.invokevirtual 42, 3) := by decide +kernel
theorem dX0_put_40 : decode cX0_put 40 = .ok (.ireturn, 1) := by decide +kernel
theorem dX0_erase_0 : decode cX0_erase 0 = .ok (.iload_n 1, 1) := by decide +kernel
theorem dX0_erase_1 : decode cX0_erase 1 = .ok (.iload_n 2, 1) := by decide +kernel
theorem dX0_erase_2 : decode cX0_erase 2 = .ok (.invokestatic 20, 3) := by decide +kernel
theorem dX0_erase_5 : decode cX0_erase 5 = .ok (.iload_n 3, 1) := by decide +kernel
theorem dX0_erase_6 : decode cX0_erase 6 = .ok (.iload 4, 2) := by decide +kernel
theorem dX0_erase_8 : decode cX0_erase 8 = .ok (.invokestatic 31, 3) := by decide +kernel
theorem dX0_erase_11 : decode cX0_erase 11 = .ok (.aload_n 0, 1) := by decide +kernel
theorem dX0_erase_12 : decode cX0_erase 12 = .ok (.iload_n 1, 1) := by decide +kernel
theorem dX0_erase_13 : decode cX0_erase 13 = .ok (.iload_n 2, 1) := by decide +kernel
theorem dX0_erase_14 : decode cX0_erase 14 = .ok (.invokestatic 34, 3) := by decide +kernel
theorem dX0_erase_17 : decode cX0_erase 17 = .ok (.iload_n 3, 1) := by decide +kernel
theorem dX0_erase_18 : decode cX0_erase 18 = .ok (.iload 4, 2) := by decide +kernel
theorem dX0_erase_20 : decode cX0_erase 20 = .ok (.iconst (-1), 1) := by decide +kernel
theorem dX0_erase_21 : decode cX0_erase 21 = .ok (.invokevirtual 38, 3) := by decide +kernel
theorem dX0_erase_24 : decode cX0_erase 24 = .ok (.aload_n 0, 1) := by decide +kernel
theorem dX0_erase_25 : decode cX0_erase 25 = .ok (.iload_n 1, 1) := by decide +kernel
theorem dX0_erase_26 : decode cX0_erase 26 = .ok (.iload_n 2, 1) := by decide +kernel
theorem dX0_erase_27 : decode cX0_erase 27 = .ok (.invokevirtual 42, 3) := by decide +kernel
theorem dX0_erase_30 : decode cX0_erase 30 = .ok (.ireturn, 1) := by decide +kernel
theorem dX0_eraseAll_0 : decode cX0_eraseAll 0 = .ok (.iload_n 1, 1) := by decide +kernel
theorem dX0_eraseAll_1 : decode cX0_eraseAll 1 = .ok (.bipush 8, 2) := by decide +kernel
theorem dX0_eraseAll_3 : decode cX0_eraseAll 3 = .ok (.invokestatic 28, 3) := by decide +kernel
theorem dX0_eraseAll_6 : decode cX0_eraseAll 6 = .ok (.iload_n 2, 1) := by decide +kernel
theorem dX0_eraseAll_7 : decode cX0_eraseAll 7 = .ok (.iload_n 3, 1) := by decide +kernel
theorem dX0_eraseAll_8 : decode cX0_eraseAll 8 = .ok (.invokestatic 31, 3) := by decide +kernel
theorem dX0_eraseAll_11 : decode cX0_eraseAll 11 = .ok (.iconst 0, 1) := by decide +kernel
theorem dX0_eraseAll_12 : decode cX0_eraseAll 12 = .ok (.istore 4, 2) := by decide +kernel
theorem dX0_eraseAll_14 : decode cX0_eraseAll 14 = .ok (.iload_n 2, 1) := by decide +kernel
theorem dX0_eraseAll_15 : decode cX0_eraseAll 15 = .ok (.istore 5, 2) := by decide +kernel
theorem dX0_eraseAll_17 : decode cX0_eraseAll 17 = .ok (.iload 5, 2) := by decide +kernel
theorem dX0_eraseAll_19 : decode cX0_eraseAll 19 = .ok (.iload_n 3, 1) := by decide +kernel
theorem dX0_eraseAll_20 : decode cX0_eraseAll 20 = .ok (.if_icmp .ge 21, 3) := by decide +kernel
theorem dX0_eraseAll_23 : decode cX0_eraseAll 23 = .ok (.iload 4, 2) := by decide +kernel
theorem dX0_eraseAll_25 : decode cX0_eraseAll 25 = .ok (.aload_n 0, 1) := by decide +kernel
theorem dX0_eraseAll_26 : decode cX0_eraseAll 26 = .ok (.iload_n 1, 1) := by decide +kernel
theorem dX0_eraseAll_27 : decode cX0_eraseAll 27 = .ok (.iload 5, 2) := by decide +kernel
theorem dX0_eraseAll_29 : decode cX0_eraseAll 29 = .ok (.invokevirtual 45, 3) := by decide +kernel
theorem dX0_eraseAll_32 : decode cX0_eraseAll 32 = .ok (.iadd, 1) := by decide +kernel
theorem dX0_eraseAll_33 : decode cX0_eraseAll 33 = .ok (.istore 4, 2) := by decide +kernel
theorem dX0_eraseAll_35 : decode cX0_eraseAll 35 = .ok (.iinc 5 1, 3) := by decide +kernel
theorem dX0_eraseAll_38 : decode cX0_eraseAll 38 = .ok (.goto (-21), 3) := by decide +kernel
theorem dX0_eraseAll_41 : decode cX0_eraseAll 41 = .ok (.iload 4, 2) := by decide +kernel
theorem dX0_eraseAll_43 : decode cX0_eraseAll 43 = .ok (.ireturn, 1) := by decide +kernel
theorem dX0_restore_0 : decode cX0_restore 0 = .ok (.iload_n 1, 1) := by decide +kernel
theorem dX0_restore_1 : decode cX0_restore 1 = .ok (.iload_n 2, 1) := by decide +kernel
theorem dX0_restore_2 : decode cX0_restore 2 = .ok (.invokestatic 20, 3) := by decide +kernel
theorem dX0_restore_5 : decode cX0_restore 5 = .ok (.aload_n 0, 1) := by decide +kernel
theorem dX0_restore_6 : decode cX0_restore 6 = .ok (.iload_n 3, 1) := by decide +kernel
theorem dX0_restore_7 : decode cX0_restore 7 = .ok (.invokevirtual 48, 3) := by decide +kernel
theorem dX0_restore_10 : decode cX0_restore 10 = .ok (.aload_n 0, 1) := by decide +kernel
theorem dX0_restore_11 : decode cX0_restore 11 = .ok (.iload_n 1, 1) := by decide +kernel
theorem dX0_restore_12 : decode cX0_restore 12 = .ok (.iload_n 2, 1) := by decide +kernel
theorem dX0_restore_13 : decode cX0_restore 13 = .ok (.invokestatic 34, 3) := by decide +kernel
theorem dX0_restore_16 : decode cX0_restore 16 = .ok (.iload_n 3, 1) := by decide +kernel
theorem dX0_restore_17 : decode cX0_restore 17 = .ok (.invokevirtual 52, 3) := by decide +kernel
theorem dX0_restore_20 : decode cX0_restore 20 = .ok (.aload_n 0, 1) := by decide +kernel
theorem dX0_restore_21 : decode cX0_restore 21 = .ok (.iload_n 1, 1) := by decide +kernel
theorem dX0_restore_22 : decode cX0_restore 22 = .ok (.iload_n 2, 1) := by decide +kernel
theorem dX0_restore_23 : decode cX0_restore 23 = .ok (.invokevirtual 42, 3) := by decide +kernel
theorem dX0_restore_26 : decode cX0_restore 26 = .ok (.ireturn, 1) := by decide +kernel
theorem dX0_pass_0 : decode cX0_pass 0 = .ok (.iload_n 1, 1) := by decide +kernel
theorem dX0_pass_1 : decode cX0_pass 1 = .ok (.iconst 1, 1) := by decide +kernel
theorem dX0_pass_2 : decode cX0_pass 2 = .ok (.if_icmp .lt 9, 3) := by decide +kernel
theorem dX0_pass_5 : decode cX0_pass 5 = .ok (.iload_n 1, 1) := by decide +kernel
theorem dX0_pass_6 : decode cX0_pass 6 = .ok (.bipush 60, 2) := by decide +kernel
theorem dX0_pass_8 : decode cX0_pass 8 = .ok (.if_icmp .lt 13, 3) := by decide +kernel
theorem dX0_pass_11 : decode cX0_pass 11 = .ok (.new 55, 3) := by decide +kernel
theorem dX0_pass_14 : decode cX0_pass 14 = .ok (.dup, 1) := by decide +kernel
theorem dX0_pass_15 : decode cX0_pass 15 = .ok (.ldc 57, 2) := by decide +kernel
theorem dX0_pass_17 : decode cX0_pass 17 = .ok (.invokespecial 59, 3) := by decide +kernel
theorem dX0_pass_20 : decode cX0_pass 20 = .ok (.athrow, 1) := by decide +kernel
theorem dX0_pass_21 : decode cX0_pass 21 = .ok (.aload_n 0, 1) := by decide +kernel
theorem dX0_pass_22 : decode cX0_pass 22 = .ok (.getfield 62, 3) := by decide +kernel
theorem dX0_pass_25 : decode cX0_pass 25 = .ok (.iload_n 1, 1) := by decide +kernel
theorem dX0_pass_26 : decode cX0_pass 26 = .ok (.iadd, 1) := by decide +kernel
theorem dX0_pass_27 : decode cX0_pass 27 = .ok (.bipush 60, 2) := by decide +kernel
theorem dX0_pass_29 : decode cX0_pass 29 = .ok (.if_icmp .lt 13, 3) := by decide +kernel
theorem dX0_pass_32 : decode cX0_pass 32 = .ok (.new 66, 3) := by decide +kernel
theorem dX0_pass_35 : decode cX0_pass 35 = .ok (.dup, 1) := by decide +kernel
theorem dX0_pass_36 : decode cX0_pass 36 = .ok (.ldc 68, 2) := by decide +kernel
theorem dX0_pass_38 : decode cX0_pass 38 = .ok (.invokespecial 70, 3) := by decide +kernel
theorem dX0_pass_41 : decode cX0_pass 41 = .ok (.athrow, 1) := by decide +kernel
theorem dX0_pass_42 : decode cX0_pass 42 = .ok (.aload_n 0, 1) := by decide +kernel
theorem dX0_pass_43 : decode cX0_pass 43 = .ok (.getfield 62, 3) := by decide +kernel
theorem dX0_pass_46 : decode cX0_pass 46 = .ok (.iload_n 1, 1) := by decide +kernel
theorem dX0_pass_47 : decode cX0_pass 47 = .ok (.iadd, 1) := by decide +kernel
theorem dX0_pass_48 : decode cX0_pass 48 = .ok (.istore_n 2, 1) := by decide +kernel
theorem dX0_pass_49 : decode cX0_pass 49 = .ok (.aload_n 0, 1) := by decide +kernel
theorem dX0_pass_50 : decode cX0_pass 50 = .ok (.getfield 62, 3) := by decide +kernel
theorem dX0_pass_53 : decode cX0_pass 53 = .ok (.iconst 1, 1) := by decide +kernel
theorem dX0_pass_54 : decode cX0_pass 54 = .ok (.iadd, 1) := by decide +kernel
theorem dX0_pass_55 : decode cX0_pass 55 = .ok (.istore_n 3, 1) := by decide +kernel
theorem dX0_pass_56 : decode cX0_pass 56 = .ok (.iload_n 3, 1) := by decide +kernel
theorem dX0_pass_57 : decode cX0_pass 57 = .ok (.iload_n 2, 1) := by decide +kernel
theorem dX0_pass_58 : decode cX0_pass 58 = .ok (.if_icmp .ge 18, 3) := by decide +kernel
theorem dX0_pass_61 : decode cX0_pass 61 = .ok (.aload_n 0, 1) := by decide +kernel
theorem dX0_pass_62 : decode cX0_pass 62 = .ok (.iload_n 3, 1) := by decide +kernel
theorem dX0_pass_63 : decode cX0_pass 63 = .ok (.aload_n 0, 1) := by decide +kernel
theorem dX0_pass_64 : decode cX0_pass 64 = .ok (.getfield 62, 3) := by decide +kernel
theorem dX0_pass_67 : decode cX0_pass 67 = .ok (.invokevirtual 71, 3) := by decide +kernel
theorem dX0_pass_70 : decode cX0_pass 70 = .ok (.iinc 3 1, 3) := by decide +kernel
theorem dX0_pass_73 : decode cX0_pass 73 = .ok (.goto (-17), 3) := by decide +kernel
theorem dX0_pass_76 : decode cX0_pass 76 = .ok (.aload_n 0, 1) := by decide +kernel
theorem dX0_pass_77 : decode cX0_pass 77 = .ok (.iload_n 2, 1) := by decide +kernel
theorem dX0_pass_78 : decode cX0_pass 78 = .ok (.iload_n 2, 1) := by decide +kernel
theorem dX0_pass_79 : decode cX0_pass 79 = .ok (.invokevirtual 71, 3) := by decide +kernel
theorem dX0_pass_82 : decode cX0_pass 82 = .ok (.aload_n 0, 1) := by decide +kernel
theorem dX0_pass_83 : decode cX0_pass 83 = .ok (.aload_n 0, 1) := by decide +kernel
theorem dX0_pass_84 : decode cX0_pass 84 = .ok (.getfield 62, 3) := by decide +kernel
theorem dX0_pass_87 : decode cX0_pass 87 = .ok (.iload_n 2, 1) := by decide +kernel
theorem dX0_pass_88 : decode cX0_pass 88 = .ok (.invokevirtual 74, 3) := by decide +kernel
theorem dX0_pass_91 : decode cX0_pass 91 = .ok (.aload_n 0, 1) := by decide +kernel
theorem dX0_pass_92 : decode cX0_pass 92 = .ok (.iload_n 2, 1) := by decide +kernel
theorem dX0_pass_93 : decode cX0_pass 93 = .ok (.putfield 62, 3) := by decide +kernel
theorem dX0_pass_96 : decode cX0_pass 96 = .ok (.aload_n 0, 1) := by decide +kernel
theorem dX0_pass_97 : decode cX0_pass 97 = .ok (.getfield 62, 3) := by decide +kernel
theorem dX0_pass_100 : decode cX0_pass 100 = .ok (.ireturn, 1) := by decide +kernel
theorem dX0_today_0 : decode cX0_today 0 = .ok (.aload_n 0, 1) := by decide +kernel
theorem dX0_today_1 : decode cX0_today 1 = .ok (.getfield 62, 3) := by decide +kernel
theorem dX0_today_4 : decode cX0_today 4 = .ok (.ireturn, 1) := by decide +kernel
theorem dX0_value_0 : decode cX0_value 0 = .ok (.iload_n 1, 1) := by decide +kernel
theorem dX0_value_1 : decode cX0_value 1 = .ok (.iload_n 2, 1) := by decide +kernel
theorem dX0_value_2 : decode cX0_value 2 = .ok (.invokestatic 20, 3) := by decide +kernel
theorem dX0_value_5 : decode cX0_value 5 = .ok (.iload_n 3, 1) := by decide +kernel
theorem dX0_value_6 : decode cX0_value 6 = .ok (.bipush 60, 2) := by decide +kernel
theorem dX0_value_8 : decode cX0_value 8 = .ok (.invokestatic 28, 3) := by decide +kernel
theorem dX0_value_11 : decode cX0_value 11 = .ok (.aload_n 0, 1) := by decide +kernel
theorem dX0_value_12 : decode cX0_value 12 = .ok (.iload 4, 2) := by decide +kernel
theorem dX0_value_14 : decode cX0_value 14 = .ok (.invokevirtual 48, 3) := by decide +kernel
theorem dX0_value_17 : decode cX0_value 17 = .ok (.aload_n 0, 1) := by decide +kernel
theorem dX0_value_18 : decode cX0_value 18 = .ok (.iload 4, 2) := by decide +kernel
theorem dX0_value_20 : decode cX0_value 20 = .ok (.iload_n 1, 1) := by decide +kernel
theorem dX0_value_21 : decode cX0_value 21 = .ok (.iload_n 2, 1) := by decide +kernel
theorem dX0_value_22 : decode cX0_value 22 = .ok (.invokestatic 34, 3) := by decide +kernel
theorem dX0_value_25 : decode cX0_value 25 = .ok (.iload_n 3, 1) := by decide +kernel
theorem dX0_value_26 : decode cX0_value 26 = .ok (.invokevirtual 77, 3) := by decide +kernel
theorem dX0_value_29 : decode cX0_value 29 = .ok (.ireturn, 1) := by decide +kernel
theorem dX0_keys_0 : decode cX0_keys 0 = .ok (.iload_n 1, 1) := by decide +kernel
theorem dX0_keys_1 : decode cX0_keys 1 = .ok (.iconst 2, 1) := by decide +kernel
theorem dX0_keys_2 : decode cX0_keys 2 = .ok (.invokestatic 28, 3) := by decide +kernel
theorem dX0_keys_5 : decode cX0_keys 5 = .ok (.iload_n 2, 1) := by decide +kernel
theorem dX0_keys_6 : decode cX0_keys 6 = .ok (.bipush 60, 2) := by decide +kernel
theorem dX0_keys_8 : decode cX0_keys 8 = .ok (.invokestatic 28, 3) := by decide +kernel
theorem dX0_keys_11 : decode cX0_keys 11 = .ok (.aload_n 0, 1) := by decide +kernel
theorem dX0_keys_12 : decode cX0_keys 12 = .ok (.iload_n 3, 1) := by decide +kernel
theorem dX0_keys_13 : decode cX0_keys 13 = .ok (.invokevirtual 48, 3) := by decide +kernel
theorem dX0_keys_16 : decode cX0_keys 16 = .ok (.iconst 0, 1) := by decide +kernel
theorem dX0_keys_17 : decode cX0_keys 17 = .ok (.istore 4, 2) := by decide +kernel
theorem dX0_keys_19 : decode cX0_keys 19 = .ok (.iconst 0, 1) := by decide +kernel
theorem dX0_keys_20 : decode cX0_keys 20 = .ok (.istore 5, 2) := by decide +kernel
theorem dX0_keys_22 : decode cX0_keys 22 = .ok (.iload 5, 2) := by decide +kernel
theorem dX0_keys_24 : decode cX0_keys 24 = .ok (.bipush 8, 2) := by decide +kernel
theorem dX0_keys_26 : decode cX0_keys 26 = .ok (.if_icmp .ge 34, 3) := by decide +kernel
theorem dX0_keys_29 : decode cX0_keys 29 = .ok (.aload_n 0, 1) := by decide +kernel
theorem dX0_keys_30 : decode cX0_keys 30 = .ok (.iload_n 3, 1) := by decide +kernel
theorem dX0_keys_31 : decode cX0_keys 31 = .ok (.iload_n 1, 1) := by decide +kernel
theorem dX0_keys_32 : decode cX0_keys 32 = .ok (.iload 5, 2) := by decide +kernel
theorem dX0_keys_34 : decode cX0_keys 34 = .ok (.invokestatic 34, 3) := by decide +kernel
theorem dX0_keys_37 : decode cX0_keys 37 = .ok (.iload_n 2, 1) := by decide +kernel
theorem dX0_keys_38 : decode cX0_keys 38 = .ok (.invokevirtual 77, 3) := by decide +kernel
theorem dX0_keys_41 : decode cX0_keys 41 = .ok (.iconst (-1), 1) := by decide +kernel
theorem dX0_keys_42 : decode cX0_keys 42 = .ok (.if_icmp .eq 12, 3) := by decide +kernel
theorem dX0_keys_45 : decode cX0_keys 45 = .ok (.iload 4, 2) := by decide +kernel
theorem dX0_keys_47 : decode cX0_keys 47 = .ok (.iconst 1, 1) := by decide +kernel
theorem dX0_keys_48 : decode cX0_keys 48 = .ok (.iload 5, 2) := by decide +kernel
theorem dX0_keys_50 : decode cX0_keys 50 = .ok (.ishl, 1) := by decide +kernel
theorem dX0_keys_51 : decode cX0_keys 51 = .ok (.ior, 1) := by decide +kernel
theorem dX0_keys_52 : decode cX0_keys 52 = .ok (.istore 4, 2) := by decide +kernel
theorem dX0_keys_54 : decode cX0_keys 54 = .ok (.iinc 5 1, 3) := by decide +kernel
theorem dX0_keys_57 : decode cX0_keys 57 = .ok (.goto (-35), 3) := by decide +kernel
theorem dX0_keys_60 : decode cX0_keys 60 = .ok (.iload 4, 2) := by decide +kernel
theorem dX0_keys_62 : decode cX0_keys 62 = .ok (.ireturn, 1) := by decide +kernel
theorem dX0_joined_0 : decode cX0_joined 0 = .ok (.iload_n 1, 1) := by decide +kernel
theorem dX0_joined_1 : decode cX0_joined 1 = .ok (.bipush 8, 2) := by decide +kernel
theorem dX0_joined_3 : decode cX0_joined 3 = .ok (.invokestatic 28, 3) := by decide +kernel
theorem dX0_joined_6 : decode cX0_joined 6 = .ok (.iload_n 2, 1) := by decide +kernel
theorem dX0_joined_7 : decode cX0_joined 7 = .ok (.bipush 60, 2) := by decide +kernel
theorem dX0_joined_9 : decode cX0_joined 9 = .ok (.invokestatic 28, 3) := by decide +kernel
theorem dX0_joined_12 : decode cX0_joined 12 = .ok (.aload_n 0, 1) := by decide +kernel
theorem dX0_joined_13 : decode cX0_joined 13 = .ok (.iload_n 3, 1) := by decide +kernel
theorem dX0_joined_14 : decode cX0_joined 14 = .ok (.invokevirtual 48, 3) := by decide +kernel
theorem dX0_joined_17 : decode cX0_joined 17 = .ok (.aload_n 0, 1) := by decide +kernel
theorem dX0_joined_18 : decode cX0_joined 18 = .ok (.iload_n 3, 1) := by decide +kernel
theorem dX0_joined_19 : decode cX0_joined 19 = .ok (.iload_n 1, 1) := by decide +kernel
theorem dX0_joined_20 : decode cX0_joined 20 = .ok (.iload_n 2, 1) := by decide +kernel
theorem dX0_joined_21 : decode cX0_joined 21 = .ok (.invokevirtual 81, 3) := by decide +kernel
theorem dX0_joined_24 : decode cX0_joined 24 = .ok (.ireturn, 1) := by decide +kernel
theorem dX0_runs_0 : decode cX0_runs 0 = .ok (.iload_n 1, 1) := by decide +kernel
theorem dX0_runs_1 : decode cX0_runs 1 = .ok (.iload_n 2, 1) := by decide +kernel
theorem dX0_runs_2 : decode cX0_runs 2 = .ok (.invokestatic 20, 3) := by decide +kernel
theorem dX0_runs_5 : decode cX0_runs 5 = .ok (.aload_n 0, 1) := by decide +kernel
theorem dX0_runs_6 : decode cX0_runs 6 = .ok (.iload_n 3, 1) := by decide +kernel
theorem dX0_runs_7 : decode cX0_runs 7 = .ok (.invokevirtual 48, 3) := by decide +kernel
theorem dX0_runs_10 : decode cX0_runs 10 = .ok (.iload_n 1, 1) := by decide +kernel
theorem dX0_runs_11 : decode cX0_runs 11 = .ok (.iload_n 2, 1) := by decide +kernel
theorem dX0_runs_12 : decode cX0_runs 12 = .ok (.invokestatic 34, 3) := by decide +kernel
theorem dX0_runs_15 : decode cX0_runs 15 = .ok (.istore 4, 2) := by decide +kernel
theorem dX0_runs_17 : decode cX0_runs 17 = .ok (.iconst 0, 1) := by decide +kernel
theorem dX0_runs_18 : decode cX0_runs 18 = .ok (.istore 5, 2) := by decide +kernel
theorem dX0_runs_20 : decode cX0_runs 20 = .ok (.iconst 0, 1) := by decide +kernel
theorem dX0_runs_21 : decode cX0_runs 21 = .ok (.istore 6, 2) := by decide +kernel
theorem dX0_runs_23 : decode cX0_runs 23 = .ok (.iload 6, 2) := by decide +kernel
theorem dX0_runs_25 : decode cX0_runs 25 = .ok (.bipush 60, 2) := by decide +kernel
theorem dX0_runs_27 : decode cX0_runs 27 = .ok (.if_icmp .ge 24, 3) := by decide +kernel
theorem dX0_runs_30 : decode cX0_runs 30 = .ok (.aload_n 0, 1) := by decide +kernel
theorem dX0_runs_31 : decode cX0_runs 31 = .ok (.iload_n 3, 1) := by decide +kernel
theorem dX0_runs_32 : decode cX0_runs 32 = .ok (.iload 4, 2) := by decide +kernel
theorem dX0_runs_34 : decode cX0_runs 34 = .ok (.iload 6, 2) := by decide +kernel
theorem dX0_runs_36 : decode cX0_runs 36 = .ok (.invokevirtual 84, 3) := by decide +kernel
theorem dX0_runs_39 : decode cX0_runs 39 = .ok (.ifCond .eq 6, 3) := by decide +kernel
theorem dX0_runs_42 : decode cX0_runs 42 = .ok (.iinc 5 1, 3) := by decide +kernel
theorem dX0_runs_45 : decode cX0_runs 45 = .ok (.iinc 6 1, 3) := by decide +kernel
theorem dX0_runs_48 : decode cX0_runs 48 = .ok (.goto (-25), 3) := by decide +kernel
theorem dX0_runs_51 : decode cX0_runs 51 = .ok (.iload 5, 2) := by decide +kernel
theorem dX0_runs_53 : decode cX0_runs 53 = .ok (.ireturn, 1) := by decide +kernel
theorem dX0_run_0 : decode cX0_run 0 = .ok (.iload_n 1, 1) := by decide +kernel
theorem dX0_run_1 : decode cX0_run 1 = .ok (.iload_n 2, 1) := by decide +kernel
theorem dX0_run_2 : decode cX0_run 2 = .ok (.invokestatic 20, 3) := by decide +kernel
theorem dX0_run_5 : decode cX0_run 5 = .ok (.aload_n 0, 1) := by decide +kernel
theorem dX0_run_6 : decode cX0_run 6 = .ok (.iload_n 3, 1) := by decide +kernel
theorem dX0_run_7 : decode cX0_run 7 = .ok (.invokevirtual 48, 3) := by decide +kernel
theorem dX0_run_10 : decode cX0_run 10 = .ok (.iload_n 1, 1) := by decide +kernel
theorem dX0_run_11 : decode cX0_run 11 = .ok (.iload_n 2, 1) := by decide +kernel
theorem dX0_run_12 : decode cX0_run 12 = .ok (.invokestatic 34, 3) := by decide +kernel
theorem dX0_run_15 : decode cX0_run 15 = .ok (.istore 5, 2) := by decide +kernel
theorem dX0_run_17 : decode cX0_run 17 = .ok (.aload_n 0, 1) := by decide +kernel
theorem dX0_run_18 : decode cX0_run 18 = .ok (.iload_n 3, 1) := by decide +kernel
theorem dX0_run_19 : decode cX0_run 19 = .ok (.iload 5, 2) := by decide +kernel
theorem dX0_run_21 : decode cX0_run 21 = .ok (.iload 4, 2) := by decide +kernel
theorem dX0_run_23 : decode cX0_run 23 = .ok (.invokevirtual 88, 3) := by decide +kernel
theorem dX0_run_26 : decode cX0_run 26 = .ok (.istore 6, 2) := by decide +kernel
theorem dX0_run_28 : decode cX0_run 28 = .ok (.iload 6, 2) := by decide +kernel
theorem dX0_run_30 : decode cX0_run 30 = .ok (.iconst (-1), 1) := by decide +kernel
theorem dX0_run_31 : decode cX0_run 31 = .ok (.if_icmp .ne 13, 3) := by decide +kernel
theorem dX0_run_34 : decode cX0_run 34 = .ok (.new 91, 3) := by decide +kernel
theorem dX0_run_37 : decode cX0_run 37 = .ok (.dup, 1) := by decide +kernel
theorem dX0_run_38 : decode cX0_run 38 = .ok (.ldc 93, 2) := by decide +kernel
theorem dX0_run_40 : decode cX0_run 40 = .ok (.invokespecial 95, 3) := by decide +kernel
theorem dX0_run_43 : decode cX0_run 43 = .ok (.athrow, 1) := by decide +kernel
theorem dX0_run_44 : decode cX0_run 44 = .ok (.aload_n 0, 1) := by decide +kernel
theorem dX0_run_45 : decode cX0_run 45 = .ok (.iload_n 3, 1) := by decide +kernel
theorem dX0_run_46 : decode cX0_run 46 = .ok (.iload 5, 2) := by decide +kernel
theorem dX0_run_48 : decode cX0_run 48 = .ok (.iload 6, 2) := by decide +kernel
theorem dX0_run_50 : decode cX0_run 50 = .ok (.invokevirtual 96, 3) := by decide +kernel
theorem dX0_run_53 : decode cX0_run 53 = .ok (.ireturn, 1) := by decide +kernel
theorem dX0_joinedRuns_0 : decode cX0_joinedRuns 0 = .ok (.iload_n 1, 1) := by decide +kernel
theorem dX0_joinedRuns_1 : decode cX0_joinedRuns 1 = .ok (.bipush 8, 2) := by decide +kernel
theorem dX0_joinedRuns_3 : decode cX0_joinedRuns 3 = .ok (.invokestatic 28, 3) := by decide +kernel
theorem dX0_joinedRuns_6 : decode cX0_joinedRuns 6 = .ok (.aload_n 0, 1) := by decide +kernel
theorem dX0_joinedRuns_7 : decode cX0_joinedRuns 7 = .ok (.iload_n 2, 1) := by decide +kernel
theorem dX0_joinedRuns_8 : decode cX0_joinedRuns 8 = .ok (.invokevirtual 48, 3) := by decide +kernel
theorem dX0_joinedRuns_11 : decode cX0_joinedRuns 11 = .ok (.iconst 0, 1) := by decide +kernel
theorem dX0_joinedRuns_12 : decode cX0_joinedRuns 12 = .ok (.istore_n 3, 1) := by decide +kernel
theorem dX0_joinedRuns_13 : decode cX0_joinedRuns 13 = .ok (.iconst 0, 1) := by decide +kernel
theorem dX0_joinedRuns_14 : decode cX0_joinedRuns 14 = .ok (.istore 4, 2) := by decide +kernel
theorem dX0_joinedRuns_16 : decode cX0_joinedRuns 16 = .ok (.iload 4, 2) := by decide +kernel
theorem dX0_joinedRuns_18 : decode cX0_joinedRuns 18 = .ok (.bipush 60, 2) := by decide +kernel
theorem dX0_joinedRuns_20 : decode cX0_joinedRuns 20 = .ok (.if_icmp .ge 23, 3) := by decide +kernel
theorem dX0_joinedRuns_23 : decode cX0_joinedRuns 23 = .ok (.aload_n 0, 1) := by decide +kernel
theorem dX0_joinedRuns_24 : decode cX0_joinedRuns 24 = .ok (.iload_n 2, 1) := by decide +kernel
theorem dX0_joinedRuns_25 : decode cX0_joinedRuns 25 = .ok (.iload_n 1, 1) := by decide +kernel
theorem dX0_joinedRuns_26 : decode cX0_joinedRuns 26 = .ok (.iload 4, 2) := by decide +kernel
theorem dX0_joinedRuns_28 : decode cX0_joinedRuns 28 = .ok (.invokevirtual 99, 3) := by decide +kernel
theorem dX0_joinedRuns_31 : decode cX0_joinedRuns 31 = .ok (.ifCond .eq 6, 3) := by decide +kernel
theorem dX0_joinedRuns_34 : decode cX0_joinedRuns 34 = .ok (.iinc 3 1, 3) := by decide +kernel
theorem dX0_joinedRuns_37 : decode cX0_joinedRuns 37 = .ok (.iinc 4 1, 3) := by decide +kernel
theorem dX0_joinedRuns_40 : decode cX0_joinedRuns 40 = .ok (.goto (-24), 3) := by decide +kernel
theorem dX0_joinedRuns_43 : decode cX0_joinedRuns 43 = .ok (.iload_n 3, 1) := by decide +kernel
theorem dX0_joinedRuns_44 : decode cX0_joinedRuns 44 = .ok (.ireturn, 1) := by decide +kernel
theorem dX0_rows_0 : decode cX0_rows 0 = .ok (.iload_n 1, 1) := by decide +kernel
theorem dX0_rows_1 : decode cX0_rows 1 = .ok (.iload_n 2, 1) := by decide +kernel
theorem dX0_rows_2 : decode cX0_rows 2 = .ok (.invokestatic 20, 3) := by decide +kernel
theorem dX0_rows_5 : decode cX0_rows 5 = .ok (.iload_n 1, 1) := by decide +kernel
theorem dX0_rows_6 : decode cX0_rows 6 = .ok (.iload_n 2, 1) := by decide +kernel
theorem dX0_rows_7 : decode cX0_rows 7 = .ok (.invokestatic 34, 3) := by decide +kernel
theorem dX0_rows_10 : decode cX0_rows 10 = .ok (.istore_n 3, 1) := by decide +kernel
theorem dX0_rows_11 : decode cX0_rows 11 = .ok (.iconst 0, 1) := by decide +kernel
theorem dX0_rows_12 : decode cX0_rows 12 = .ok (.istore 4, 2) := by decide +kernel
theorem dX0_rows_14 : decode cX0_rows 14 = .ok (.iconst 0, 1) := by decide +kernel
theorem dX0_rows_15 : decode cX0_rows 15 = .ok (.istore 5, 2) := by decide +kernel
theorem dX0_rows_17 : decode cX0_rows 17 = .ok (.iload 5, 2) := by decide +kernel
theorem dX0_rows_19 : decode cX0_rows 19 = .ok (.aload_n 0, 1) := by decide +kernel
theorem dX0_rows_20 : decode cX0_rows 20 = .ok (.getfield 62, 3) := by decide +kernel
theorem dX0_rows_23 : decode cX0_rows 23 = .ok (.if_icmp .gt 49, 3) := by decide +kernel
theorem dX0_rows_26 : decode cX0_rows 26 = .ok (.iconst 0, 1) := by decide +kernel
theorem dX0_rows_27 : decode cX0_rows 27 = .ok (.istore 6, 2) := by decide +kernel
theorem dX0_rows_29 : decode cX0_rows 29 = .ok (.iload 6, 2) := by decide +kernel
theorem dX0_rows_31 : decode cX0_rows 31 = .ok (.bipush 60, 2) := by decide +kernel
theorem dX0_rows_33 : decode cX0_rows 33 = .ok (.if_icmp .ge 33, 3) := by decide +kernel
theorem dX0_rows_36 : decode cX0_rows 36 = .ok (.aload_n 0, 1) := by decide +kernel
theorem dX0_rows_37 : decode cX0_rows 37 = .ok (.iload 5, 2) := by decide +kernel
theorem dX0_rows_39 : decode cX0_rows 39 = .ok (.invokevirtual 102, 3) := by decide +kernel
theorem dX0_rows_42 : decode cX0_rows 42 = .ok (.ifCond .eq 24, 3) := by decide +kernel
theorem dX0_rows_45 : decode cX0_rows 45 = .ok (.aload_n 0, 1) := by decide +kernel
theorem dX0_rows_46 : decode cX0_rows 46 = .ok (.iload 5, 2) := by decide +kernel
theorem dX0_rows_48 : decode cX0_rows 48 = .ok (.iload_n 3, 1) := by decide +kernel
theorem dX0_rows_49 : decode cX0_rows 49 = .ok (.iload 6, 2) := by decide +kernel
theorem dX0_rows_51 : decode cX0_rows 51 = .ok (.invokevirtual 106, 3) := by decide +kernel
theorem dX0_rows_54 : decode cX0_rows 54 = .ok (.ifCond .eq 6, 3) := by decide +kernel
theorem dX0_rows_57 : decode cX0_rows 57 = .ok (.iinc 4 1, 3) := by decide +kernel
theorem dX0_rows_60 : decode cX0_rows 60 = .ok (.iinc 6 1, 3) := by decide +kernel
theorem dX0_rows_63 : decode cX0_rows 63 = .ok (.goto (-34), 3) := by decide +kernel
theorem dX0_rows_66 : decode cX0_rows 66 = .ok (.iinc 5 1, 3) := by decide +kernel
theorem dX0_rows_69 : decode cX0_rows 69 = .ok (.goto (-52), 3) := by decide +kernel
theorem dX0_rows_72 : decode cX0_rows 72 = .ok (.iload 4, 2) := by decide +kernel
theorem dX0_rows_74 : decode cX0_rows 74 = .ok (.ireturn, 1) := by decide +kernel
theorem dX0_rowRun_0 : decode cX0_rowRun 0 = .ok (.iload_n 1, 1) := by decide +kernel
theorem dX0_rowRun_1 : decode cX0_rowRun 1 = .ok (.iload_n 2, 1) := by decide +kernel
theorem dX0_rowRun_2 : decode cX0_rowRun 2 = .ok (.invokestatic 20, 3) := by decide +kernel
theorem dX0_rowRun_5 : decode cX0_rowRun 5 = .ok (.iload_n 1, 1) := by decide +kernel
theorem dX0_rowRun_6 : decode cX0_rowRun 6 = .ok (.iload_n 2, 1) := by decide +kernel
theorem dX0_rowRun_7 : decode cX0_rowRun 7 = .ok (.invokestatic 34, 3) := by decide +kernel
theorem dX0_rowRun_10 : decode cX0_rowRun 10 = .ok (.istore 4, 2) := by decide +kernel
theorem dX0_rowRun_12 : decode cX0_rowRun 12 = .ok (.aload_n 0, 1) := by decide +kernel
theorem dX0_rowRun_13 : decode cX0_rowRun 13 = .ok (.iload 4, 2) := by decide +kernel
theorem dX0_rowRun_15 : decode cX0_rowRun 15 = .ok (.iload_n 3, 1) := by decide +kernel
theorem dX0_rowRun_16 : decode cX0_rowRun 16 = .ok (.invokevirtual 109, 3) := by decide +kernel
theorem dX0_rowRun_19 : decode cX0_rowRun 19 = .ok (.istore 5, 2) := by decide +kernel
theorem dX0_rowRun_21 : decode cX0_rowRun 21 = .ok (.aload_n 0, 1) := by decide +kernel
theorem dX0_rowRun_22 : decode cX0_rowRun 22 = .ok (.iload 5, 2) := by decide +kernel
theorem dX0_rowRun_24 : decode cX0_rowRun 24 = .ok (.invokestatic 112, 3) := by decide +kernel
theorem dX0_rowRun_27 : decode cX0_rowRun 27 = .ok (.iload 4, 2) := by decide +kernel
theorem dX0_rowRun_29 : decode cX0_rowRun 29 = .ok (.iload 5, 2) := by decide +kernel
theorem dX0_rowRun_31 : decode cX0_rowRun 31 = .ok (.invokestatic 115, 3) := by decide +kernel
theorem dX0_rowRun_34 : decode cX0_rowRun 34 = .ok (.invokevirtual 96, 3) := by decide +kernel
theorem dX0_rowRun_37 : decode cX0_rowRun 37 = .ok (.ireturn, 1) := by decide +kernel
theorem dX0_rowFrom_0 : decode cX0_rowFrom 0 = .ok (.iload_n 1, 1) := by decide +kernel
theorem dX0_rowFrom_1 : decode cX0_rowFrom 1 = .ok (.iload_n 2, 1) := by decide +kernel
theorem dX0_rowFrom_2 : decode cX0_rowFrom 2 = .ok (.invokestatic 20, 3) := by decide +kernel
theorem dX0_rowFrom_5 : decode cX0_rowFrom 5 = .ok (.aload_n 0, 1) := by decide +kernel
theorem dX0_rowFrom_6 : decode cX0_rowFrom 6 = .ok (.iload_n 1, 1) := by decide +kernel
theorem dX0_rowFrom_7 : decode cX0_rowFrom 7 = .ok (.iload_n 2, 1) := by decide +kernel
theorem dX0_rowFrom_8 : decode cX0_rowFrom 8 = .ok (.invokestatic 34, 3) := by decide +kernel
theorem dX0_rowFrom_11 : decode cX0_rowFrom 11 = .ok (.iload_n 3, 1) := by decide +kernel
theorem dX0_rowFrom_12 : decode cX0_rowFrom 12 = .ok (.invokevirtual 109, 3) := by decide +kernel
theorem dX0_rowFrom_15 : decode cX0_rowFrom 15 = .ok (.invokestatic 112, 3) := by decide +kernel
theorem dX0_rowFrom_18 : decode cX0_rowFrom 18 = .ok (.ireturn, 1) := by decide +kernel
theorem dX0_rowTo_0 : decode cX0_rowTo 0 = .ok (.iload_n 1, 1) := by decide +kernel
theorem dX0_rowTo_1 : decode cX0_rowTo 1 = .ok (.iload_n 2, 1) := by decide +kernel
theorem dX0_rowTo_2 : decode cX0_rowTo 2 = .ok (.invokestatic 20, 3) := by decide +kernel
theorem dX0_rowTo_5 : decode cX0_rowTo 5 = .ok (.iload_n 1, 1) := by decide +kernel
theorem dX0_rowTo_6 : decode cX0_rowTo 6 = .ok (.iload_n 2, 1) := by decide +kernel
theorem dX0_rowTo_7 : decode cX0_rowTo 7 = .ok (.invokestatic 34, 3) := by decide +kernel
theorem dX0_rowTo_10 : decode cX0_rowTo 10 = .ok (.istore 4, 2) := by decide +kernel
theorem dX0_rowTo_12 : decode cX0_rowTo 12 = .ok (.aload_n 0, 1) := by decide +kernel
theorem dX0_rowTo_13 : decode cX0_rowTo 13 = .ok (.iload 4, 2) := by decide +kernel
theorem dX0_rowTo_15 : decode cX0_rowTo 15 = .ok (.iload_n 3, 1) := by decide +kernel
theorem dX0_rowTo_16 : decode cX0_rowTo 16 = .ok (.invokevirtual 109, 3) := by decide +kernel
theorem dX0_rowTo_19 : decode cX0_rowTo 19 = .ok (.istore 5, 2) := by decide +kernel
theorem dX0_rowTo_21 : decode cX0_rowTo 21 = .ok (.iload 5, 2) := by decide +kernel
theorem dX0_rowTo_23 : decode cX0_rowTo 23 = .ok (.invokestatic 112, 3) := by decide +kernel
theorem dX0_rowTo_26 : decode cX0_rowTo 26 = .ok (.istore 6, 2) := by decide +kernel
theorem dX0_rowTo_28 : decode cX0_rowTo 28 = .ok (.iload 5, 2) := by decide +kernel
theorem dX0_rowTo_30 : decode cX0_rowTo 30 = .ok (.invokestatic 115, 3) := by decide +kernel
theorem dX0_rowTo_33 : decode cX0_rowTo 33 = .ok (.istore 7, 2) := by decide +kernel
theorem dX0_rowTo_35 : decode cX0_rowTo 35 = .ok (.iload 6, 2) := by decide +kernel
theorem dX0_rowTo_37 : decode cX0_rowTo 37 = .ok (.iconst 1, 1) := by decide +kernel
theorem dX0_rowTo_38 : decode cX0_rowTo 38 = .ok (.iadd, 1) := by decide +kernel
theorem dX0_rowTo_39 : decode cX0_rowTo 39 = .ok (.istore 8, 2) := by decide +kernel
theorem dX0_rowTo_41 : decode cX0_rowTo 41 = .ok (.iload 8, 2) := by decide +kernel
theorem dX0_rowTo_43 : decode cX0_rowTo 43 = .ok (.aload_n 0, 1) := by decide +kernel
theorem dX0_rowTo_44 : decode cX0_rowTo 44 = .ok (.getfield 62, 3) := by decide +kernel
theorem dX0_rowTo_47 : decode cX0_rowTo 47 = .ok (.if_icmp .gt 27, 3) := by decide +kernel
theorem dX0_rowTo_50 : decode cX0_rowTo 50 = .ok (.aload_n 0, 1) := by decide +kernel
theorem dX0_rowTo_51 : decode cX0_rowTo 51 = .ok (.iload 6, 2) := by decide +kernel
theorem dX0_rowTo_53 : decode cX0_rowTo 53 = .ok (.iload 8, 2) := by decide +kernel
theorem dX0_rowTo_55 : decode cX0_rowTo 55 = .ok (.iload 4, 2) := by decide +kernel
theorem dX0_rowTo_57 : decode cX0_rowTo 57 = .ok (.iload 7, 2) := by decide +kernel
theorem dX0_rowTo_59 : decode cX0_rowTo 59 = .ok (.invokevirtual 118, 3) := by decide +kernel
theorem dX0_rowTo_62 : decode cX0_rowTo 62 = .ok (.ifCond .ne 6, 3) := by decide +kernel
theorem dX0_rowTo_65 : decode cX0_rowTo 65 = .ok (.iload 8, 2) := by decide +kernel
theorem dX0_rowTo_67 : decode cX0_rowTo 67 = .ok (.ireturn, 1) := by decide +kernel
theorem dX0_rowTo_68 : decode cX0_rowTo 68 = .ok (.iinc 8 1, 3) := by decide +kernel
theorem dX0_rowTo_71 : decode cX0_rowTo 71 = .ok (.goto (-30), 3) := by decide +kernel
theorem dX0_rowTo_74 : decode cX0_rowTo 74 = .ok (.iconst (-1), 1) := by decide +kernel
theorem dX0_rowTo_75 : decode cX0_rowTo 75 = .ok (.ireturn, 1) := by decide +kernel
theorem dX0_longest_0 : decode cX0_longest 0 = .ok (.iload_n 1, 1) := by decide +kernel
theorem dX0_longest_1 : decode cX0_longest 1 = .ok (.iload_n 2, 1) := by decide +kernel
theorem dX0_longest_2 : decode cX0_longest 2 = .ok (.invokestatic 20, 3) := by decide +kernel
theorem dX0_longest_5 : decode cX0_longest 5 = .ok (.aload_n 0, 1) := by decide +kernel
theorem dX0_longest_6 : decode cX0_longest 6 = .ok (.iload_n 3, 1) := by decide +kernel
theorem dX0_longest_7 : decode cX0_longest 7 = .ok (.invokevirtual 48, 3) := by decide +kernel
theorem dX0_longest_10 : decode cX0_longest 10 = .ok (.iload_n 1, 1) := by decide +kernel
theorem dX0_longest_11 : decode cX0_longest 11 = .ok (.iload_n 2, 1) := by decide +kernel
theorem dX0_longest_12 : decode cX0_longest 12 = .ok (.invokestatic 34, 3) := by decide +kernel
theorem dX0_longest_15 : decode cX0_longest 15 = .ok (.istore 4, 2) := by decide +kernel
theorem dX0_longest_17 : decode cX0_longest 17 = .ok (.iconst 0, 1) := by decide +kernel
theorem dX0_longest_18 : decode cX0_longest 18 = .ok (.istore 5, 2) := by decide +kernel
theorem dX0_longest_20 : decode cX0_longest 20 = .ok (.iconst 0, 1) := by decide +kernel
theorem dX0_longest_21 : decode cX0_longest 21 = .ok (.istore 6, 2) := by decide +kernel
theorem dX0_longest_23 : decode cX0_longest 23 = .ok (.iload 6, 2) := by decide +kernel
theorem dX0_longest_25 : decode cX0_longest 25 = .ok (.bipush 60, 2) := by decide +kernel
theorem dX0_longest_27 : decode cX0_longest 27 = .ok (.if_icmp .ge 40, 3) := by decide +kernel
theorem dX0_longest_30 : decode cX0_longest 30 = .ok (.aload_n 0, 1) := by decide +kernel
theorem dX0_longest_31 : decode cX0_longest 31 = .ok (.iload_n 3, 1) := by decide +kernel
theorem dX0_longest_32 : decode cX0_longest 32 = .ok (.iload 4, 2) := by decide +kernel
theorem dX0_longest_34 : decode cX0_longest 34 = .ok (.iload 6, 2) := by decide +kernel
theorem dX0_longest_36 : decode cX0_longest 36 = .ok (.invokevirtual 84, 3) := by decide +kernel
theorem dX0_longest_39 : decode cX0_longest 39 = .ok (.ifCond .eq 22, 3) := by decide +kernel
theorem dX0_longest_42 : decode cX0_longest 42 = .ok (.iload 5, 2) := by decide +kernel
theorem dX0_longest_44 : decode cX0_longest 44 = .ok (.aload_n 0, 1) := by decide +kernel
theorem dX0_longest_45 : decode cX0_longest 45 = .ok (.iload_n 3, 1) := by decide +kernel
theorem dX0_longest_46 : decode cX0_longest 46 = .ok (.iload 4, 2) := by decide +kernel
theorem dX0_longest_48 : decode cX0_longest 48 = .ok (.iload 6, 2) := by decide +kernel
theorem dX0_longest_50 : decode cX0_longest 50 = .ok (.invokevirtual 124, 3) := by decide +kernel
theorem dX0_longest_53 : decode cX0_longest 53 = .ok (.iload 6, 2) := by decide +kernel
theorem dX0_longest_55 : decode cX0_longest 55 = .ok (.isub, 1) := by decide +kernel
theorem dX0_longest_56 : decode cX0_longest 56 = .ok (.invokestatic 127, 3) := by decide +kernel
theorem dX0_longest_59 : decode cX0_longest 59 = .ok (.istore 5, 2) := by decide +kernel
theorem dX0_longest_61 : decode cX0_longest 61 = .ok (.iinc 6 1, 3) := by decide +kernel
theorem dX0_longest_64 : decode cX0_longest 64 = .ok (.goto (-41), 3) := by decide +kernel
theorem dX0_longest_67 : decode cX0_longest 67 = .ok (.iload 5, 2) := by decide +kernel
theorem dX0_longest_69 : decode cX0_longest 69 = .ok (.ireturn, 1) := by decide +kernel
theorem dX0_average_0 : decode cX0_average 0 = .ok (.iload_n 1, 1) := by decide +kernel
theorem dX0_average_1 : decode cX0_average 1 = .ok (.bipush 8, 2) := by decide +kernel
theorem dX0_average_3 : decode cX0_average 3 = .ok (.invokestatic 28, 3) := by decide +kernel
theorem dX0_average_6 : decode cX0_average 6 = .ok (.aload_n 0, 1) := by decide +kernel
theorem dX0_average_7 : decode cX0_average 7 = .ok (.iload_n 2, 1) := by decide +kernel
theorem dX0_average_8 : decode cX0_average 8 = .ok (.invokevirtual 48, 3) := by decide +kernel
theorem dX0_average_11 : decode cX0_average 11 = .ok (.iconst 0, 1) := by decide +kernel
theorem dX0_average_12 : decode cX0_average 12 = .ok (.istore_n 3, 1) := by decide +kernel
theorem dX0_average_13 : decode cX0_average 13 = .ok (.iconst 0, 1) := by decide +kernel
theorem dX0_average_14 : decode cX0_average 14 = .ok (.istore 4, 2) := by decide +kernel
theorem dX0_average_16 : decode cX0_average 16 = .ok (.iconst 0, 1) := by decide +kernel
theorem dX0_average_17 : decode cX0_average 17 = .ok (.istore 5, 2) := by decide +kernel
theorem dX0_average_19 : decode cX0_average 19 = .ok (.iload 5, 2) := by decide +kernel
theorem dX0_average_21 : decode cX0_average 21 = .ok (.bipush 60, 2) := by decide +kernel
theorem dX0_average_23 : decode cX0_average 23 = .ok (.if_icmp .ge 37, 3) := by decide +kernel
theorem dX0_average_26 : decode cX0_average 26 = .ok (.aload_n 0, 1) := by decide +kernel
theorem dX0_average_27 : decode cX0_average 27 = .ok (.iload_n 2, 1) := by decide +kernel
theorem dX0_average_28 : decode cX0_average 28 = .ok (.iconst 0, 1) := by decide +kernel
theorem dX0_average_29 : decode cX0_average 29 = .ok (.iload_n 1, 1) := by decide +kernel
theorem dX0_average_30 : decode cX0_average 30 = .ok (.invokestatic 34, 3) := by decide +kernel
theorem dX0_average_33 : decode cX0_average 33 = .ok (.iload 5, 2) := by decide +kernel
theorem dX0_average_35 : decode cX0_average 35 = .ok (.invokevirtual 77, 3) := by decide +kernel
theorem dX0_average_38 : decode cX0_average 38 = .ok (.istore 6, 2) := by decide +kernel
theorem dX0_average_40 : decode cX0_average 40 = .ok (.iload 6, 2) := by decide +kernel
theorem dX0_average_42 : decode cX0_average 42 = .ok (.iconst (-1), 1) := by decide +kernel
theorem dX0_average_43 : decode cX0_average 43 = .ok (.if_icmp .eq 11, 3) := by decide +kernel
theorem dX0_average_46 : decode cX0_average 46 = .ok (.iload_n 3, 1) := by decide +kernel
theorem dX0_average_47 : decode cX0_average 47 = .ok (.iload 6, 2) := by decide +kernel
theorem dX0_average_49 : decode cX0_average 49 = .ok (.iadd, 1) := by decide +kernel
theorem dX0_average_50 : decode cX0_average 50 = .ok (.istore_n 3, 1) := by decide +kernel
theorem dX0_average_51 : decode cX0_average 51 = .ok (.iinc 4 1, 3) := by decide +kernel
theorem dX0_average_54 : decode cX0_average 54 = .ok (.iinc 5 1, 3) := by decide +kernel
theorem dX0_average_57 : decode cX0_average 57 = .ok (.goto (-38), 3) := by decide +kernel
theorem dX0_average_60 : decode cX0_average 60 = .ok (.iload 4, 2) := by decide +kernel
theorem dX0_average_62 : decode cX0_average 62 = .ok (.ifCond .ne 13, 3) := by decide +kernel
theorem dX0_average_65 : decode cX0_average 65 = .ok (.new 66, 3) := by decide +kernel
theorem dX0_average_68 : decode cX0_average 68 = .ok (.dup, 1) := by decide +kernel
theorem dX0_average_69 : decode cX0_average 69 = .ok (.ldc 132, 2) := by decide +kernel
theorem dX0_average_71 : decode cX0_average 71 = .ok (.invokespecial 70, 3) := by decide +kernel
theorem dX0_average_74 : decode cX0_average 74 = .ok (.athrow, 1) := by decide +kernel
theorem dX0_average_75 : decode cX0_average 75 = .ok (.iload_n 3, 1) := by decide +kernel
theorem dX0_average_76 : decode cX0_average 76 = .ok (.i2f, 1) := by decide +kernel
theorem dX0_average_77 : decode cX0_average 77 = .ok (.iload 4, 2) := by decide +kernel
theorem dX0_average_79 : decode cX0_average 79 = .ok (.i2f, 1) := by decide +kernel
theorem dX0_average_80 : decode cX0_average 80 = .ok (.fdiv, 1) := by decide +kernel
theorem dX0_average_81 : decode cX0_average 81 = .ok (.freturn, 1) := by decide +kernel
theorem dX0_needRange_0 : decode cX0_needRange 0 = .ok (.iload_n 0, 1) := by decide +kernel
theorem dX0_needRange_1 : decode cX0_needRange 1 = .ok (.ifCond .lt 8, 3) := by decide +kernel
theorem dX0_needRange_4 : decode cX0_needRange 4 = .ok (.iload_n 0, 1) := by decide +kernel
theorem dX0_needRange_5 : decode cX0_needRange 5 = .ok (.iload_n 1, 1) := by decide +kernel
theorem dX0_needRange_6 : decode cX0_needRange 6 = .ok (.if_icmp .lt 13, 3) := by decide +kernel
theorem dX0_needRange_9 : decode cX0_needRange 9 = .ok (.new 55, 3) := by decide +kernel
theorem dX0_needRange_12 : decode cX0_needRange 12 = .ok (.dup, 1) := by decide +kernel
theorem dX0_needRange_13 : decode cX0_needRange 13 = .ok (.ldc 134, 2) := by decide +kernel
theorem dX0_needRange_15 : decode cX0_needRange 15 = .ok (.invokespecial 59, 3) := by decide +kernel
theorem dX0_needRange_18 : decode cX0_needRange 18 = .ok (.athrow, 1) := by decide +kernel
theorem dX0_needRange_19 : decode cX0_needRange 19 = .ok (.return_, 1) := by decide +kernel
theorem dX0_needTableAndKey_0 : decode cX0_needTableAndKey 0 = .ok (.iload_n 0, 1) := by decide +kernel
theorem dX0_needTableAndKey_1 : decode cX0_needTableAndKey 1 = .ok (.iconst 2, 1) := by decide +kernel
theorem dX0_needTableAndKey_2 : decode cX0_needTableAndKey 2 = .ok (.invokestatic 28, 3) := by decide +kernel
theorem dX0_needTableAndKey_5 : decode cX0_needTableAndKey 5 = .ok (.iload_n 1, 1) := by decide +kernel
theorem dX0_needTableAndKey_6 : decode cX0_needTableAndKey 6 = .ok (.bipush 8, 2) := by decide +kernel
theorem dX0_needTableAndKey_8 : decode cX0_needTableAndKey 8 = .ok (.invokestatic 28, 3) := by decide +kernel
theorem dX0_needTableAndKey_11 : decode cX0_needTableAndKey 11 = .ok (.return_, 1) := by decide +kernel
theorem dX0_needSpan_0 : decode cX0_needSpan 0 = .ok (.iload_n 0, 1) := by decide +kernel
theorem dX0_needSpan_1 : decode cX0_needSpan 1 = .ok (.bipush 60, 2) := by decide +kernel
theorem dX0_needSpan_3 : decode cX0_needSpan 3 = .ok (.invokestatic 28, 3) := by decide +kernel
theorem dX0_needSpan_6 : decode cX0_needSpan 6 = .ok (.iload_n 1, 1) := by decide +kernel
theorem dX0_needSpan_7 : decode cX0_needSpan 7 = .ok (.iload_n 0, 1) := by decide +kernel
theorem dX0_needSpan_8 : decode cX0_needSpan 8 = .ok (.if_icmp .le 9, 3) := by decide +kernel
theorem dX0_needSpan_11 : decode cX0_needSpan 11 = .ok (.iload_n 1, 1) := by decide +kernel
theorem dX0_needSpan_12 : decode cX0_needSpan 12 = .ok (.bipush 60, 2) := by decide +kernel
theorem dX0_needSpan_14 : decode cX0_needSpan 14 = .ok (.if_icmp .le 13, 3) := by decide +kernel
theorem dX0_needSpan_17 : decode cX0_needSpan 17 = .ok (.new 55, 3) := by decide +kernel
theorem dX0_needSpan_20 : decode cX0_needSpan 20 = .ok (.dup, 1) := by decide +kernel
theorem dX0_needSpan_21 : decode cX0_needSpan 21 = .ok (.ldc 136, 2) := by decide +kernel
theorem dX0_needSpan_23 : decode cX0_needSpan 23 = .ok (.invokespecial 59, 3) := by decide +kernel
theorem dX0_needSpan_26 : decode cX0_needSpan 26 = .ok (.athrow, 1) := by decide +kernel
theorem dX0_needSpan_27 : decode cX0_needSpan 27 = .ok (.return_, 1) := by decide +kernel
theorem dX0_needRecord_0 : decode cX0_needRecord 0 = .ok (.iload_n 1, 1) := by decide +kernel
theorem dX0_needRecord_1 : decode cX0_needRecord 1 = .ok (.bipush 60, 2) := by decide +kernel
theorem dX0_needRecord_3 : decode cX0_needRecord 3 = .ok (.invokestatic 28, 3) := by decide +kernel
theorem dX0_needRecord_6 : decode cX0_needRecord 6 = .ok (.iload_n 1, 1) := by decide +kernel
theorem dX0_needRecord_7 : decode cX0_needRecord 7 = .ok (.aload_n 0, 1) := by decide +kernel
theorem dX0_needRecord_8 : decode cX0_needRecord 8 = .ok (.getfield 62, 3) := by decide +kernel
theorem dX0_needRecord_11 : decode cX0_needRecord 11 = .ok (.if_icmp .le 13, 3) := by decide +kernel
theorem dX0_needRecord_14 : decode cX0_needRecord 14 = .ok (.new 91, 3) := by decide +kernel
theorem dX0_needRecord_17 : decode cX0_needRecord 17 = .ok (.dup, 1) := by decide +kernel
theorem dX0_needRecord_18 : decode cX0_needRecord 18 = .ok (.ldc 138, 2) := by decide +kernel
theorem dX0_needRecord_20 : decode cX0_needRecord 20 = .ok (.invokespecial 95, 3) := by decide +kernel
theorem dX0_needRecord_23 : decode cX0_needRecord 23 = .ok (.athrow, 1) := by decide +kernel
theorem dX0_needRecord_24 : decode cX0_needRecord 24 = .ok (.return_, 1) := by decide +kernel
theorem dX0_valuesOf_0 : decode cX0_valuesOf 0 = .ok (.iload_n 0, 1) := by decide +kernel
theorem dX0_valuesOf_1 : decode cX0_valuesOf 1 = .ok (.ifCond .ne 8, 3) := by decide +kernel
theorem dX0_valuesOf_4 : decode cX0_valuesOf 4 = .ok (.bipush 100, 2) := by decide +kernel
theorem dX0_valuesOf_6 : decode cX0_valuesOf 6 = .ok (.goto 5, 3) := by decide +kernel
theorem dX0_valuesOf_9 : decode cX0_valuesOf 9 = .ok (.bipush 8, 2) := by decide +kernel
theorem dX0_valuesOf_11 : decode cX0_valuesOf 11 = .ok (.ireturn, 1) := by decide +kernel
theorem dX0_line_0 : decode cX0_line 0 = .ok (.iload_n 0, 1) := by decide +kernel
theorem dX0_line_1 : decode cX0_line 1 = .ok (.bipush 8, 2) := by decide +kernel
theorem dX0_line_3 : decode cX0_line 3 = .ok (.imul, 1) := by decide +kernel
theorem dX0_line_4 : decode cX0_line 4 = .ok (.iload_n 1, 1) := by decide +kernel
theorem dX0_line_5 : decode cX0_line 5 = .ok (.iadd, 1) := by decide +kernel
theorem dX0_line_6 : decode cX0_line 6 = .ok (.ireturn, 1) := by decide +kernel
theorem dX0_knownOn_0 : decode cX0_knownOn 0 = .ok (.iload_n 1, 1) := by decide +kernel
theorem dX0_knownOn_1 : decode cX0_knownOn 1 = .ok (.ifCond .lt 9, 3) := by decide +kernel
theorem dX0_knownOn_4 : decode cX0_knownOn 4 = .ok (.iload_n 1, 1) := by decide +kernel
theorem dX0_knownOn_5 : decode cX0_knownOn 5 = .ok (.bipush 60, 2) := by decide +kernel
theorem dX0_knownOn_7 : decode cX0_knownOn 7 = .ok (.if_icmp .lt 5, 3) := by decide +kernel
theorem dX0_knownOn_10 : decode cX0_knownOn 10 = .ok (.iconst (-1), 1) := by decide +kernel
theorem dX0_knownOn_11 : decode cX0_knownOn 11 = .ok (.ireturn, 1) := by decide +kernel
theorem dX0_knownOn_12 : decode cX0_knownOn 12 = .ok (.aload_n 0, 1) := by decide +kernel
theorem dX0_knownOn_13 : decode cX0_knownOn 13 = .ok (.getfield 14, 3) := by decide +kernel
theorem dX0_knownOn_16 : decode cX0_knownOn 16 = .ok (.iload_n 1, 1) := by decide +kernel
theorem dX0_knownOn_17 : decode cX0_knownOn 17 = .ok (.iaload, 1) := by decide +kernel
theorem dX0_knownOn_18 : decode cX0_knownOn 18 = .ok (.iload_n 2, 1) := by decide +kernel
theorem dX0_knownOn_19 : decode cX0_knownOn 19 = .ok (.iload_n 3, 1) := by decide +kernel
theorem dX0_knownOn_20 : decode cX0_knownOn 20 = .ok (.invokestatic 140, 3) := by decide +kernel
theorem dX0_knownOn_23 : decode cX0_knownOn 23 = .ok (.istore 4, 2) := by decide +kernel
theorem dX0_knownOn_25 : decode cX0_knownOn 25 = .ok (.iload 4, 2) := by decide +kernel
theorem dX0_knownOn_27 : decode cX0_knownOn 27 = .ok (.ifCond .lt 13, 3) := by decide +kernel
theorem dX0_knownOn_30 : decode cX0_knownOn 30 = .ok (.iload 4, 2) := by decide +kernel
theorem dX0_knownOn_32 : decode cX0_knownOn 32 = .ok (.aload_n 0, 1) := by decide +kernel
theorem dX0_knownOn_33 : decode cX0_knownOn 33 = .ok (.getfield 10, 3) := by decide +kernel
theorem dX0_knownOn_36 : decode cX0_knownOn 36 = .ok (.arraylength, 1) := by decide +kernel
theorem dX0_knownOn_37 : decode cX0_knownOn 37 = .ok (.if_icmp .lt 7, 3) := by decide +kernel
theorem dX0_knownOn_40 : decode cX0_knownOn 40 = .ok (.iconst (-1), 1) := by decide +kernel
theorem dX0_knownOn_41 : decode cX0_knownOn 41 = .ok (.goto 10, 3) := by decide +kernel
theorem dX0_knownOn_44 : decode cX0_knownOn 44 = .ok (.aload_n 0, 1) := by decide +kernel
theorem dX0_knownOn_45 : decode cX0_knownOn 45 = .ok (.getfield 10, 3) := by decide +kernel
theorem dX0_knownOn_48 : decode cX0_knownOn 48 = .ok (.iload 4, 2) := by decide +kernel
theorem dX0_knownOn_50 : decode cX0_knownOn 50 = .ok (.iaload, 1) := by decide +kernel
theorem dX0_knownOn_51 : decode cX0_knownOn 51 = .ok (.ireturn, 1) := by decide +kernel
theorem dX0_recordToday_0 : decode cX0_recordToday 0 = .ok (.aload_n 0, 1) := by decide +kernel
theorem dX0_recordToday_1 : decode cX0_recordToday 1 = .ok (.getfield 62, 3) := by decide +kernel
theorem dX0_recordToday_4 : decode cX0_recordToday 4 = .ok (.iload_n 1, 1) := by decide +kernel
theorem dX0_recordToday_5 : decode cX0_recordToday 5 = .ok (.iload_n 2, 1) := by decide +kernel
theorem dX0_recordToday_6 : decode cX0_recordToday 6 = .ok (.invokestatic 140, 3) := by decide +kernel
theorem dX0_recordToday_9 : decode cX0_recordToday 9 = .ok (.istore 4, 2) := by decide +kernel
theorem dX0_recordToday_11 : decode cX0_recordToday 11 = .ok (.iload 4, 2) := by decide +kernel
theorem dX0_recordToday_13 : decode cX0_recordToday 13 = .ok (.ifCond .lt 21, 3) := by decide +kernel
theorem dX0_recordToday_16 : decode cX0_recordToday 16 = .ok (.iload 4, 2) := by decide +kernel
theorem dX0_recordToday_18 : decode cX0_recordToday 18 = .ok (.aload_n 0, 1) := by decide +kernel
theorem dX0_recordToday_19 : decode cX0_recordToday 19 = .ok (.getfield 10, 3) := by decide +kernel
theorem dX0_recordToday_22 : decode cX0_recordToday 22 = .ok (.arraylength, 1) := by decide +kernel
theorem dX0_recordToday_23 : decode cX0_recordToday 23 = .ok (.if_icmp .ge 11, 3) := by decide +kernel
theorem dX0_recordToday_26 : decode cX0_recordToday 26 = .ok (.aload_n 0, 1) := by decide +kernel
theorem dX0_recordToday_27 : decode cX0_recordToday 27 = .ok (.getfield 10, 3) := by decide +kernel
theorem dX0_recordToday_30 : decode cX0_recordToday 30 = .ok (.iload 4, 2) := by decide +kernel
theorem dX0_recordToday_32 : decode cX0_recordToday 32 = .ok (.iload_n 3, 1) := by decide +kernel
theorem dX0_recordToday_33 : decode cX0_recordToday 33 = .ok (.iastore, 1) := by decide +kernel
theorem dX0_recordToday_34 : decode cX0_recordToday 34 = .ok (.return_, 1) := by decide +kernel
theorem dX0_index_0 : decode cX0_index 0 = .ok (.iload_n 0, 1) := by decide +kernel
theorem dX0_index_1 : decode cX0_index 1 = .ok (.bipush 16, 2) := by decide +kernel
theorem dX0_index_3 : decode cX0_index 3 = .ok (.imul, 1) := by decide +kernel
theorem dX0_index_4 : decode cX0_index 4 = .ok (.iload_n 1, 1) := by decide +kernel
theorem dX0_index_5 : decode cX0_index 5 = .ok (.iadd, 1) := by decide +kernel
theorem dX0_index_6 : decode cX0_index 6 = .ok (.bipush 60, 2) := by decide +kernel
theorem dX0_index_8 : decode cX0_index 8 = .ok (.imul, 1) := by decide +kernel
theorem dX0_index_9 : decode cX0_index 9 = .ok (.iload_n 2, 1) := by decide +kernel
theorem dX0_index_10 : decode cX0_index 10 = .ok (.iadd, 1) := by decide +kernel
theorem dX0_index_11 : decode cX0_index 11 = .ok (.ireturn, 1) := by decide +kernel
theorem dX0_keepOn_0 : decode cX0_keepOn 0 = .ok (.iload_n 1, 1) := by decide +kernel
theorem dX0_keepOn_1 : decode cX0_keepOn 1 = .ok (.ifCond .lt 16, 3) := by decide +kernel
theorem dX0_keepOn_4 : decode cX0_keepOn 4 = .ok (.iload_n 1, 1) := by decide +kernel
theorem dX0_keepOn_5 : decode cX0_keepOn 5 = .ok (.bipush 60, 2) := by decide +kernel
theorem dX0_keepOn_7 : decode cX0_keepOn 7 = .ok (.if_icmp .ge 10, 3) := by decide +kernel
theorem dX0_keepOn_10 : decode cX0_keepOn 10 = .ok (.aload_n 0, 1) := by decide +kernel
theorem dX0_keepOn_11 : decode cX0_keepOn 11 = .ok (.getfield 14, 3) := by decide +kernel
theorem dX0_keepOn_14 : decode cX0_keepOn 14 = .ok (.iload_n 1, 1) := by decide +kernel
theorem dX0_keepOn_15 : decode cX0_keepOn 15 = .ok (.iload_n 2, 1) := by decide +kernel
theorem dX0_keepOn_16 : decode cX0_keepOn 16 = .ok (.iastore, 1) := by decide +kernel
theorem dX0_keepOn_17 : decode cX0_keepOn 17 = .ok (.return_, 1) := by decide +kernel
theorem dX0_copyDay_0 : decode cX0_copyDay 0 = .ok (.iload_n 1, 1) := by decide +kernel
theorem dX0_copyDay_1 : decode cX0_copyDay 1 = .ok (.ifCond .lt 45, 3) := by decide +kernel
theorem dX0_copyDay_4 : decode cX0_copyDay 4 = .ok (.iload_n 1, 1) := by decide +kernel
theorem dX0_copyDay_5 : decode cX0_copyDay 5 = .ok (.bipush 60, 2) := by decide +kernel
theorem dX0_copyDay_7 : decode cX0_copyDay 7 = .ok (.if_icmp .ge 39, 3) := by decide +kernel
theorem dX0_copyDay_10 : decode cX0_copyDay 10 = .ok (.iload_n 2, 1) := by decide +kernel
theorem dX0_copyDay_11 : decode cX0_copyDay 11 = .ok (.ifCond .lt 35, 3) := by decide +kernel
theorem dX0_copyDay_14 : decode cX0_copyDay 14 = .ok (.iload_n 2, 1) := by decide +kernel
theorem dX0_copyDay_15 : decode cX0_copyDay 15 = .ok (.bipush 60, 2) := by decide +kernel
theorem dX0_copyDay_17 : decode cX0_copyDay 17 = .ok (.if_icmp .ge 29, 3) := by decide +kernel
theorem dX0_copyDay_20 : decode cX0_copyDay 20 = .ok (.aload_n 0, 1) := by decide +kernel
theorem dX0_copyDay_21 : decode cX0_copyDay 21 = .ok (.getfield 10, 3) := by decide +kernel
theorem dX0_copyDay_24 : decode cX0_copyDay 24 = .ok (.iload_n 1, 1) := by decide +kernel
theorem dX0_copyDay_25 : decode cX0_copyDay 25 = .ok (.iconst 0, 1) := by decide +kernel
theorem dX0_copyDay_26 : decode cX0_copyDay 26 = .ok (.iconst 0, 1) := by decide +kernel
theorem dX0_copyDay_27 : decode cX0_copyDay 27 = .ok (.invokestatic 140, 3) := by decide +kernel
theorem dX0_copyDay_30 : decode cX0_copyDay 30 = .ok (.aload_n 0, 1) := by decide +kernel
theorem dX0_copyDay_31 : decode cX0_copyDay 31 = .ok (.getfield 10, 3) := by decide +kernel
theorem dX0_copyDay_34 : decode cX0_copyDay 34 = .ok (.iload_n 2, 1) := by decide +kernel
theorem dX0_copyDay_35 : decode cX0_copyDay 35 = .ok (.iconst 0, 1) := by decide +kernel
theorem dX0_copyDay_36 : decode cX0_copyDay 36 = .ok (.iconst 0, 1) := by decide +kernel
theorem dX0_copyDay_37 : decode cX0_copyDay 37 = .ok (.invokestatic 140, 3) := by decide +kernel
theorem dX0_copyDay_40 : decode cX0_copyDay 40 = .ok (.sipush 960, 3) := by decide +kernel
theorem dX0_copyDay_43 : decode cX0_copyDay 43 = .ok (.invokestatic 143, 3) := by decide +kernel
theorem dX0_copyDay_46 : decode cX0_copyDay 46 = .ok (.return_, 1) := by decide +kernel
theorem dX0_draftSpan_0 : decode cX0_draftSpan 0 = .ok (.iconst 0, 1) := by decide +kernel
theorem dX0_draftSpan_1 : decode cX0_draftSpan 1 = .ok (.istore 5, 2) := by decide +kernel
theorem dX0_draftSpan_3 : decode cX0_draftSpan 3 = .ok (.iload 5, 2) := by decide +kernel
theorem dX0_draftSpan_5 : decode cX0_draftSpan 5 = .ok (.bipush 60, 2) := by decide +kernel
theorem dX0_draftSpan_7 : decode cX0_draftSpan 7 = .ok (.if_icmp .ge 44, 3) := by decide +kernel
theorem dX0_draftSpan_10 : decode cX0_draftSpan 10 = .ok (.aload_n 0, 1) := by decide +kernel
theorem dX0_draftSpan_11 : decode cX0_draftSpan 11 = .ok (.getfield 17, 3) := by decide +kernel
theorem dX0_draftSpan_14 : decode cX0_draftSpan 14 = .ok (.iload 5, 2) := by decide +kernel
theorem dX0_draftSpan_16 : decode cX0_draftSpan 16 = .ok (.iload 5, 2) := by decide +kernel
theorem dX0_draftSpan_18 : decode cX0_draftSpan 18 = .ok (.iload_n 2, 1) := by decide +kernel
theorem dX0_draftSpan_19 : decode cX0_draftSpan 19 = .ok (.if_icmp .lt 14, 3) := by decide +kernel
theorem dX0_draftSpan_22 : decode cX0_draftSpan 22 = .ok (.iload 5, 2) := by decide +kernel
theorem dX0_draftSpan_24 : decode cX0_draftSpan 24 = .ok (.iload_n 3, 1) := by decide +kernel
theorem dX0_draftSpan_25 : decode cX0_draftSpan 25 = .ok (.if_icmp .ge 8, 3) := by decide +kernel
theorem dX0_draftSpan_28 : decode cX0_draftSpan 28 = .ok (.iload 4, 2) := by decide +kernel
theorem dX0_draftSpan_30 : decode cX0_draftSpan 30 = .ok (.goto 14, 3) := by decide +kernel
theorem dX0_draftSpan_33 : decode cX0_draftSpan 33 = .ok (.aload_n 0, 1) := by decide +kernel
theorem dX0_draftSpan_34 : decode cX0_draftSpan 34 = .ok (.aload_n 0, 1) := by decide +kernel
theorem dX0_draftSpan_35 : decode cX0_draftSpan 35 = .ok (.getfield 62, 3) := by decide +kernel
theorem dX0_draftSpan_38 : decode cX0_draftSpan 38 = .ok (.iload_n 1, 1) := by decide +kernel
theorem dX0_draftSpan_39 : decode cX0_draftSpan 39 = .ok (.iload 5, 2) := by decide +kernel
theorem dX0_draftSpan_41 : decode cX0_draftSpan 41 = .ok (.invokevirtual 77, 3) := by decide +kernel
theorem dX0_draftSpan_44 : decode cX0_draftSpan 44 = .ok (.iastore, 1) := by decide +kernel
theorem dX0_draftSpan_45 : decode cX0_draftSpan 45 = .ok (.iinc 5 1, 3) := by decide +kernel
theorem dX0_draftSpan_48 : decode cX0_draftSpan 48 = .ok (.goto (-45), 3) := by decide +kernel
theorem dX0_draftSpan_51 : decode cX0_draftSpan 51 = .ok (.return_, 1) := by decide +kernel
theorem dX0_draftRecord_0 : decode cX0_draftRecord 0 = .ok (.iconst 0, 1) := by decide +kernel
theorem dX0_draftRecord_1 : decode cX0_draftRecord 1 = .ok (.istore_n 3, 1) := by decide +kernel
theorem dX0_draftRecord_2 : decode cX0_draftRecord 2 = .ok (.iload_n 3, 1) := by decide +kernel
theorem dX0_draftRecord_3 : decode cX0_draftRecord 3 = .ok (.bipush 60, 2) := by decide +kernel
theorem dX0_draftRecord_5 : decode cX0_draftRecord 5 = .ok (.if_icmp .ge 22, 3) := by decide +kernel
theorem dX0_draftRecord_8 : decode cX0_draftRecord 8 = .ok (.aload_n 0, 1) := by decide +kernel
theorem dX0_draftRecord_9 : decode cX0_draftRecord 9 = .ok (.getfield 17, 3) := by decide +kernel
theorem dX0_draftRecord_12 : decode cX0_draftRecord 12 = .ok (.iload_n 3, 1) := by decide +kernel
theorem dX0_draftRecord_13 : decode cX0_draftRecord 13 = .ok (.aload_n 0, 1) := by decide +kernel
theorem dX0_draftRecord_14 : decode cX0_draftRecord 14 = .ok (.iload_n 2, 1) := by decide +kernel
theorem dX0_draftRecord_15 : decode cX0_draftRecord 15 = .ok (.iload_n 1, 1) := by decide +kernel
theorem dX0_draftRecord_16 : decode cX0_draftRecord 16 = .ok (.iload_n 3, 1) := by decide +kernel
theorem dX0_draftRecord_17 : decode cX0_draftRecord 17 = .ok (.invokevirtual 77, 3) := by decide +kernel
theorem dX0_draftRecord_20 : decode cX0_draftRecord 20 = .ok (.iastore, 1) := by decide +kernel
theorem dX0_draftRecord_21 : decode cX0_draftRecord 21 = .ok (.iinc 3 1, 3) := by decide +kernel
theorem dX0_draftRecord_24 : decode cX0_draftRecord 24 = .ok (.goto (-22), 3) := by decide +kernel
theorem dX0_draftRecord_27 : decode cX0_draftRecord 27 = .ok (.return_, 1) := by decide +kernel
theorem dX0_recordDraft_0 : decode cX0_recordDraft 0 = .ok (.aload_n 0, 1) := by decide +kernel
theorem dX0_recordDraft_1 : decode cX0_recordDraft 1 = .ok (.iload_n 1, 1) := by decide +kernel
theorem dX0_recordDraft_2 : decode cX0_recordDraft 2 = .ok (.iload_n 2, 1) := by decide +kernel
theorem dX0_recordDraft_3 : decode cX0_recordDraft 3 = .ok (.invokevirtual 149, 3) := by decide +kernel
theorem dX0_recordDraft_6 : decode cX0_recordDraft 6 = .ok (.ifCond .ne 13, 3) := by decide +kernel
theorem dX0_recordDraft_9 : decode cX0_recordDraft 9 = .ok (.new 66, 3) := by decide +kernel
theorem dX0_recordDraft_12 : decode cX0_recordDraft 12 = .ok (.dup, 1) := by decide +kernel
theorem dX0_recordDraft_13 : decode cX0_recordDraft 13 = .ok (.ldc 153, 2) := by decide +kernel
theorem dX0_recordDraft_15 : decode cX0_recordDraft 15 = .ok (.invokespecial 70, 3) := by decide +kernel
theorem dX0_recordDraft_18 : decode cX0_recordDraft 18 = .ok (.athrow, 1) := by decide +kernel
theorem dX0_recordDraft_19 : decode cX0_recordDraft 19 = .ok (.iload_n 1, 1) := by decide +kernel
theorem dX0_recordDraft_20 : decode cX0_recordDraft 20 = .ok (.iload_n 2, 1) := by decide +kernel
theorem dX0_recordDraft_21 : decode cX0_recordDraft 21 = .ok (.invokestatic 34, 3) := by decide +kernel
theorem dX0_recordDraft_24 : decode cX0_recordDraft 24 = .ok (.istore_n 3, 1) := by decide +kernel
theorem dX0_recordDraft_25 : decode cX0_recordDraft 25 = .ok (.iconst 0, 1) := by decide +kernel
theorem dX0_recordDraft_26 : decode cX0_recordDraft 26 = .ok (.istore 4, 2) := by decide +kernel
theorem dX0_recordDraft_28 : decode cX0_recordDraft 28 = .ok (.iconst 0, 1) := by decide +kernel
theorem dX0_recordDraft_29 : decode cX0_recordDraft 29 = .ok (.istore 5, 2) := by decide +kernel
theorem dX0_recordDraft_31 : decode cX0_recordDraft 31 = .ok (.iload 5, 2) := by decide +kernel
theorem dX0_recordDraft_33 : decode cX0_recordDraft 33 = .ok (.bipush 60, 2) := by decide +kernel
theorem dX0_recordDraft_35 : decode cX0_recordDraft 35 = .ok (.if_icmp .ge 47, 3) := by decide +kernel
theorem dX0_recordDraft_38 : decode cX0_recordDraft 38 = .ok (.aload_n 0, 1) := by decide +kernel
theorem dX0_recordDraft_39 : decode cX0_recordDraft 39 = .ok (.aload_n 0, 1) := by decide +kernel
theorem dX0_recordDraft_40 : decode cX0_recordDraft 40 = .ok (.getfield 62, 3) := by decide +kernel
theorem dX0_recordDraft_43 : decode cX0_recordDraft 43 = .ok (.iload_n 3, 1) := by decide +kernel
theorem dX0_recordDraft_44 : decode cX0_recordDraft 44 = .ok (.iload 5, 2) := by decide +kernel
theorem dX0_recordDraft_46 : decode cX0_recordDraft 46 = .ok (.invokevirtual 77, 3) := by decide +kernel
theorem dX0_recordDraft_49 : decode cX0_recordDraft 49 = .ok (.aload_n 0, 1) := by decide +kernel
theorem dX0_recordDraft_50 : decode cX0_recordDraft 50 = .ok (.getfield 17, 3) := by decide +kernel
theorem dX0_recordDraft_53 : decode cX0_recordDraft 53 = .ok (.iload 5, 2) := by decide +kernel
theorem dX0_recordDraft_55 : decode cX0_recordDraft 55 = .ok (.iaload, 1) := by decide +kernel
theorem dX0_recordDraft_56 : decode cX0_recordDraft 56 = .ok (.if_icmp .eq 20, 3) := by decide +kernel
theorem dX0_recordDraft_59 : decode cX0_recordDraft 59 = .ok (.aload_n 0, 1) := by decide +kernel
theorem dX0_recordDraft_60 : decode cX0_recordDraft 60 = .ok (.iload_n 3, 1) := by decide +kernel
theorem dX0_recordDraft_61 : decode cX0_recordDraft 61 = .ok (.iload 5, 2) := by decide +kernel
theorem dX0_recordDraft_63 : decode cX0_recordDraft 63 = .ok (.aload_n 0, 1) := by decide +kernel
theorem dX0_recordDraft_64 : decode cX0_recordDraft 64 = .ok (.getfield 17, 3) := by decide +kernel
theorem dX0_recordDraft_67 : decode cX0_recordDraft 67 = .ok (.iload 5, 2) := by decide +kernel
theorem dX0_recordDraft_69 : decode cX0_recordDraft 69 = .ok (.iaload, 1) := by decide +kernel
theorem dX0_recordDraft_70 : decode cX0_recordDraft 70 = .ok (.invokevirtual 155, 3) := by decide +kernel
theorem dX0_recordDraft_73 : decode cX0_recordDraft 73 = .ok (.iinc 4 1, 3) := by decide +kernel
theorem dX0_recordDraft_76 : decode cX0_recordDraft 76 = .ok (.iinc 5 1, 3) := by decide +kernel
theorem dX0_recordDraft_79 : decode cX0_recordDraft 79 = .ok (.goto (-48), 3) := by decide +kernel
theorem dX0_recordDraft_82 : decode cX0_recordDraft 82 = .ok (.iload 4, 2) := by decide +kernel
theorem dX0_recordDraft_84 : decode cX0_recordDraft 84 = .ok (.ireturn, 1) := by decide +kernel
theorem dX0_draftKeepsReferences_0 : decode cX0_draftKeepsReferences 0 = .ok (.iconst 0, 1) := by decide +kernel
theorem dX0_draftKeepsReferences_1 : decode cX0_draftKeepsReferences 1 = .ok (.istore_n 3, 1) := by decide +kernel
theorem dX0_draftKeepsReferences_2 : decode cX0_draftKeepsReferences 2 = .ok (.iload_n 3, 1) := by decide +kernel
theorem dX0_draftKeepsReferences_3 : decode cX0_draftKeepsReferences 3 = .ok (.bipush 60, 2) := by decide +kernel
theorem dX0_draftKeepsReferences_5 : decode cX0_draftKeepsReferences 5 = .ok (.if_icmp .ge 70, 3) := by decide +kernel
theorem dX0_draftKeepsReferences_8 : decode cX0_draftKeepsReferences 8 = .ok (.aload_n 0, 1) := by decide +kernel
theorem dX0_draftKeepsReferences_9 : decode cX0_draftKeepsReferences 9 = .ok (.getfield 17, 3) := by decide +kernel
theorem dX0_draftKeepsReferences_12 : decode cX0_draftKeepsReferences 12 = .ok (.iload_n 3, 1) := by decide +kernel
theorem dX0_draftKeepsReferences_13 : decode cX0_draftKeepsReferences 13 = .ok (.iaload, 1) := by decide +kernel
theorem dX0_draftKeepsReferences_14 : decode cX0_draftKeepsReferences 14 = .ok (.istore 4, 2) := by decide +kernel
theorem dX0_draftKeepsReferences_16 : decode cX0_draftKeepsReferences 16 = .ok (.iload_n 1, 1) := by decide +kernel
theorem dX0_draftKeepsReferences_17 : decode cX0_draftKeepsReferences 17 = .ok (.ifCond .ne 20, 3) := by decide +kernel
theorem dX0_draftKeepsReferences_20 : decode cX0_draftKeepsReferences 20 = .ok (.iload 4, 2) := by decide +kernel
theorem dX0_draftKeepsReferences_22 : decode cX0_draftKeepsReferences 22 = .ok (.iconst (-1), 1) := by decide +kernel
theorem dX0_draftKeepsReferences_23 : decode cX0_draftKeepsReferences 23 = .ok (.if_icmp .ne 14, 3) := by decide +kernel
theorem dX0_draftKeepsReferences_26 : decode cX0_draftKeepsReferences 26 = .ok (.aload_n 0, 1) := by decide +kernel
theorem dX0_draftKeepsReferences_27 : decode cX0_draftKeepsReferences 27 = .ok (.iload_n 2, 1) := by decide +kernel
theorem dX0_draftKeepsReferences_28 : decode cX0_draftKeepsReferences 28 = .ok (.iload_n 3, 1) := by decide +kernel
theorem dX0_draftKeepsReferences_29 : decode cX0_draftKeepsReferences 29 = .ok (.invokevirtual 159, 3) := by decide +kernel
theorem dX0_draftKeepsReferences_32 : decode cX0_draftKeepsReferences 32 = .ok (.ifCond .eq 5, 3) := by decide +kernel
theorem dX0_draftKeepsReferences_35 : decode cX0_draftKeepsReferences 35 = .ok (.iconst 0, 1) := by decide +kernel
theorem dX0_draftKeepsReferences_36 : decode cX0_draftKeepsReferences 36 = .ok (.ireturn, 1) := by decide +kernel
theorem dX0_draftKeepsReferences_37 : decode cX0_draftKeepsReferences 37 = .ok (.iload_n 1, 1) := by decide +kernel
theorem dX0_draftKeepsReferences_38 : decode cX0_draftKeepsReferences 38 = .ok (.iconst 1, 1) := by decide +kernel
theorem dX0_draftKeepsReferences_39 : decode cX0_draftKeepsReferences 39 = .ok (.if_icmp .ne 30, 3) := by decide +kernel
theorem dX0_draftKeepsReferences_42 : decode cX0_draftKeepsReferences 42 = .ok (.iload 4, 2) := by decide +kernel
theorem dX0_draftKeepsReferences_44 : decode cX0_draftKeepsReferences 44 = .ok (.iconst (-1), 1) := by decide +kernel
theorem dX0_draftKeepsReferences_45 : decode cX0_draftKeepsReferences 45 = .ok (.if_icmp .eq 24, 3) := by decide +kernel
theorem dX0_draftKeepsReferences_48 : decode cX0_draftKeepsReferences 48 = .ok (.aload_n 0, 1) := by decide +kernel
theorem dX0_draftKeepsReferences_49 : decode cX0_draftKeepsReferences 49 = .ok (.aload_n 0, 1) := by decide +kernel
theorem dX0_draftKeepsReferences_50 : decode cX0_draftKeepsReferences 50 = .ok (.getfield 62, 3) := by decide +kernel
theorem dX0_draftKeepsReferences_53 : decode cX0_draftKeepsReferences 53 = .ok (.iconst 0, 1) := by decide +kernel
theorem dX0_draftKeepsReferences_54 : decode cX0_draftKeepsReferences 54 = .ok (.iload 4, 2) := by decide +kernel
theorem dX0_draftKeepsReferences_56 : decode cX0_draftKeepsReferences 56 = .ok (.invokestatic 34, 3) := by decide +kernel
theorem dX0_draftKeepsReferences_59 : decode cX0_draftKeepsReferences 59 = .ok (.iload_n 3, 1) := by decide +kernel
theorem dX0_draftKeepsReferences_60 : decode cX0_draftKeepsReferences 60 = .ok (.invokevirtual 77, 3) := by decide +kernel
theorem dX0_draftKeepsReferences_63 : decode cX0_draftKeepsReferences 63 = .ok (.iconst (-1), 1) := by decide +kernel
theorem dX0_draftKeepsReferences_64 : decode cX0_draftKeepsReferences 64 = .ok (.if_icmp .ne 5, 3) := by decide +kernel
theorem dX0_draftKeepsReferences_67 : decode cX0_draftKeepsReferences 67 = .ok (.iconst 0, 1) := by decide +kernel
theorem dX0_draftKeepsReferences_68 : decode cX0_draftKeepsReferences 68 = .ok (.ireturn, 1) := by decide +kernel
theorem dX0_draftKeepsReferences_69 : decode cX0_draftKeepsReferences 69 = .ok (.iinc 3 1, 3) := by decide +kernel
theorem dX0_draftKeepsReferences_72 : decode cX0_draftKeepsReferences 72 = .ok (.goto (-70), 3) := by decide +kernel
theorem dX0_draftKeepsReferences_75 : decode cX0_draftKeepsReferences 75 = .ok (.iconst 1, 1) := by decide +kernel
theorem dX0_draftKeepsReferences_76 : decode cX0_draftKeepsReferences 76 = .ok (.ireturn, 1) := by decide +kernel
theorem dX0_isReferredTo_0 : decode cX0_isReferredTo 0 = .ok (.iconst 0, 1) := by decide +kernel
theorem dX0_isReferredTo_1 : decode cX0_isReferredTo 1 = .ok (.istore_n 3, 1) := by decide +kernel
theorem dX0_isReferredTo_2 : decode cX0_isReferredTo 2 = .ok (.iload_n 3, 1) := by decide +kernel
theorem dX0_isReferredTo_3 : decode cX0_isReferredTo 3 = .ok (.bipush 8, 2) := by decide +kernel
theorem dX0_isReferredTo_5 : decode cX0_isReferredTo 5 = .ok (.if_icmp .ge 29, 3) := by decide +kernel
theorem dX0_isReferredTo_8 : decode cX0_isReferredTo 8 = .ok (.aload_n 0, 1) := by decide +kernel
theorem dX0_isReferredTo_9 : decode cX0_isReferredTo 9 = .ok (.aload_n 0, 1) := by decide +kernel
theorem dX0_isReferredTo_10 : decode cX0_isReferredTo 10 = .ok (.getfield 62, 3) := by decide +kernel
theorem dX0_isReferredTo_13 : decode cX0_isReferredTo 13 = .ok (.iconst 1, 1) := by decide +kernel
theorem dX0_isReferredTo_14 : decode cX0_isReferredTo 14 = .ok (.iload_n 3, 1) := by decide +kernel
theorem dX0_isReferredTo_15 : decode cX0_isReferredTo 15 = .ok (.invokestatic 34, 3) := by decide +kernel
theorem dX0_isReferredTo_18 : decode cX0_isReferredTo 18 = .ok (.iload_n 2, 1) := by decide +kernel
theorem dX0_isReferredTo_19 : decode cX0_isReferredTo 19 = .ok (.invokevirtual 77, 3) := by decide +kernel
theorem dX0_isReferredTo_22 : decode cX0_isReferredTo 22 = .ok (.iload_n 1, 1) := by decide +kernel
theorem dX0_isReferredTo_23 : decode cX0_isReferredTo 23 = .ok (.if_icmp .ne 5, 3) := by decide +kernel
theorem dX0_isReferredTo_26 : decode cX0_isReferredTo 26 = .ok (.iconst 1, 1) := by decide +kernel
theorem dX0_isReferredTo_27 : decode cX0_isReferredTo 27 = .ok (.ireturn, 1) := by decide +kernel
theorem dX0_isReferredTo_28 : decode cX0_isReferredTo 28 = .ok (.iinc 3 1, 3) := by decide +kernel
theorem dX0_isReferredTo_31 : decode cX0_isReferredTo 31 = .ok (.goto (-29), 3) := by decide +kernel
theorem dX0_isReferredTo_34 : decode cX0_isReferredTo 34 = .ok (.iconst 0, 1) := by decide +kernel
theorem dX0_isReferredTo_35 : decode cX0_isReferredTo 35 = .ok (.ireturn, 1) := by decide +kernel
theorem dX0_loseWithReferences_0 : decode cX0_loseWithReferences 0 = .ok (.aload_n 0, 1) := by decide +kernel
theorem dX0_loseWithReferences_1 : decode cX0_loseWithReferences 1 = .ok (.iconst 0, 1) := by decide +kernel
theorem dX0_loseWithReferences_2 : decode cX0_loseWithReferences 2 = .ok (.iload_n 1, 1) := by decide +kernel
theorem dX0_loseWithReferences_3 : decode cX0_loseWithReferences 3 = .ok (.invokestatic 34, 3) := by decide +kernel
theorem dX0_loseWithReferences_6 : decode cX0_loseWithReferences 6 = .ok (.iload_n 2, 1) := by decide +kernel
theorem dX0_loseWithReferences_7 : decode cX0_loseWithReferences 7 = .ok (.invokevirtual 162, 3) := by decide +kernel
theorem dX0_loseWithReferences_10 : decode cX0_loseWithReferences 10 = .ok (.istore_n 3, 1) := by decide +kernel
theorem dX0_loseWithReferences_11 : decode cX0_loseWithReferences 11 = .ok (.iconst 0, 1) := by decide +kernel
theorem dX0_loseWithReferences_12 : decode cX0_loseWithReferences 12 = .ok (.istore 4, 2) := by decide +kernel
theorem dX0_loseWithReferences_14 : decode cX0_loseWithReferences 14 = .ok (.iload 4, 2) := by decide +kernel
theorem dX0_loseWithReferences_16 : decode cX0_loseWithReferences 16 = .ok (.bipush 8, 2) := by decide +kernel
theorem dX0_loseWithReferences_18 : decode cX0_loseWithReferences 18 = .ok (.if_icmp .ge 42, 3) := by decide +kernel
theorem dX0_loseWithReferences_21 : decode cX0_loseWithReferences 21 = .ok (.aload_n 0, 1) := by decide +kernel
theorem dX0_loseWithReferences_22 : decode cX0_loseWithReferences 22 = .ok (.aload_n 0, 1) := by decide +kernel
theorem dX0_loseWithReferences_23 : decode cX0_loseWithReferences 23 = .ok (.getfield 62, 3) := by decide +kernel
theorem dX0_loseWithReferences_26 : decode cX0_loseWithReferences 26 = .ok (.iconst 1, 1) := by decide +kernel
theorem dX0_loseWithReferences_27 : decode cX0_loseWithReferences 27 = .ok (.iload 4, 2) := by decide +kernel
theorem dX0_loseWithReferences_29 : decode cX0_loseWithReferences 29 = .ok (.invokestatic 34, 3) := by decide +kernel
theorem dX0_loseWithReferences_32 : decode cX0_loseWithReferences 32 = .ok (.iload_n 2, 1) := by decide +kernel
theorem dX0_loseWithReferences_33 : decode cX0_loseWithReferences 33 = .ok (.invokevirtual 77, 3) := by decide +kernel
theorem dX0_loseWithReferences_36 : decode cX0_loseWithReferences 36 = .ok (.iload_n 1, 1) := by decide +kernel
theorem dX0_loseWithReferences_37 : decode cX0_loseWithReferences 37 = .ok (.if_icmp .ne 17, 3) := by decide +kernel
theorem dX0_loseWithReferences_40 : decode cX0_loseWithReferences 40 = .ok (.iload_n 3, 1) := by decide +kernel
theorem dX0_loseWithReferences_41 : decode cX0_loseWithReferences 41 = .ok (.aload_n 0, 1) := by decide +kernel
theorem dX0_loseWithReferences_42 : decode cX0_loseWithReferences 42 = .ok (.iconst 1, 1) := by decide +kernel
theorem dX0_loseWithReferences_43 : decode cX0_loseWithReferences 43 = .ok (.iload 4, 2) := by decide +kernel
theorem dX0_loseWithReferences_45 : decode cX0_loseWithReferences 45 = .ok (.invokestatic 34, 3) := by decide +kernel
theorem dX0_loseWithReferences_48 : decode cX0_loseWithReferences 48 = .ok (.iload_n 2, 1) := by decide +kernel
theorem dX0_loseWithReferences_49 : decode cX0_loseWithReferences 49 = .ok (.invokevirtual 162, 3) := by decide +kernel
theorem dX0_loseWithReferences_52 : decode cX0_loseWithReferences 52 = .ok (.iadd, 1) := by decide +kernel
theorem dX0_loseWithReferences_53 : decode cX0_loseWithReferences 53 = .ok (.istore_n 3, 1) := by decide +kernel
theorem dX0_loseWithReferences_54 : decode cX0_loseWithReferences 54 = .ok (.iinc 4 1, 3) := by decide +kernel
theorem dX0_loseWithReferences_57 : decode cX0_loseWithReferences 57 = .ok (.goto (-43), 3) := by decide +kernel
theorem dX0_loseWithReferences_60 : decode cX0_loseWithReferences 60 = .ok (.iload_n 3, 1) := by decide +kernel
theorem dX0_loseWithReferences_61 : decode cX0_loseWithReferences 61 = .ok (.ireturn, 1) := by decide +kernel
theorem dX0_lose_0 : decode cX0_lose 0 = .ok (.aload_n 0, 1) := by decide +kernel
theorem dX0_lose_1 : decode cX0_lose 1 = .ok (.aload_n 0, 1) := by decide +kernel
theorem dX0_lose_2 : decode cX0_lose 2 = .ok (.getfield 62, 3) := by decide +kernel
theorem dX0_lose_5 : decode cX0_lose 5 = .ok (.iload_n 1, 1) := by decide +kernel
theorem dX0_lose_6 : decode cX0_lose 6 = .ok (.iload_n 2, 1) := by decide +kernel
theorem dX0_lose_7 : decode cX0_lose 7 = .ok (.invokevirtual 77, 3) := by decide +kernel
theorem dX0_lose_10 : decode cX0_lose 10 = .ok (.iconst (-1), 1) := by decide +kernel
theorem dX0_lose_11 : decode cX0_lose 11 = .ok (.if_icmp .ne 5, 3) := by decide +kernel
theorem dX0_lose_14 : decode cX0_lose 14 = .ok (.iconst 0, 1) := by decide +kernel
theorem dX0_lose_15 : decode cX0_lose 15 = .ok (.ireturn, 1) := by decide +kernel
theorem dX0_lose_16 : decode cX0_lose 16 = .ok (.aload_n 0, 1) := by decide +kernel
theorem dX0_lose_17 : decode cX0_lose 17 = .ok (.iload_n 1, 1) := by decide +kernel
theorem dX0_lose_18 : decode cX0_lose 18 = .ok (.iload_n 2, 1) := by decide +kernel
theorem dX0_lose_19 : decode cX0_lose 19 = .ok (.iconst (-1), 1) := by decide +kernel
theorem dX0_lose_20 : decode cX0_lose 20 = .ok (.invokevirtual 155, 3) := by decide +kernel
theorem dX0_lose_23 : decode cX0_lose 23 = .ok (.iconst 1, 1) := by decide +kernel
theorem dX0_lose_24 : decode cX0_lose 24 = .ok (.ireturn, 1) := by decide +kernel
theorem dX0_startsRun_0 : decode cX0_startsRun 0 = .ok (.aload_n 0, 1) := by decide +kernel
theorem dX0_startsRun_1 : decode cX0_startsRun 1 = .ok (.iload_n 1, 1) := by decide +kernel
theorem dX0_startsRun_2 : decode cX0_startsRun 2 = .ok (.iload_n 2, 1) := by decide +kernel
theorem dX0_startsRun_3 : decode cX0_startsRun 3 = .ok (.iload_n 3, 1) := by decide +kernel
theorem dX0_startsRun_4 : decode cX0_startsRun 4 = .ok (.invokevirtual 77, 3) := by decide +kernel
theorem dX0_startsRun_7 : decode cX0_startsRun 7 = .ok (.istore 4, 2) := by decide +kernel
theorem dX0_startsRun_9 : decode cX0_startsRun 9 = .ok (.iload 4, 2) := by decide +kernel
theorem dX0_startsRun_11 : decode cX0_startsRun 11 = .ok (.iconst (-1), 1) := by decide +kernel
theorem dX0_startsRun_12 : decode cX0_startsRun 12 = .ok (.if_icmp .eq 25, 3) := by decide +kernel
theorem dX0_startsRun_15 : decode cX0_startsRun 15 = .ok (.iload_n 3, 1) := by decide +kernel
theorem dX0_startsRun_16 : decode cX0_startsRun 16 = .ok (.ifCond .eq 17, 3) := by decide +kernel
theorem dX0_startsRun_19 : decode cX0_startsRun 19 = .ok (.aload_n 0, 1) := by decide +kernel
theorem dX0_startsRun_20 : decode cX0_startsRun 20 = .ok (.iload_n 1, 1) := by decide +kernel
theorem dX0_startsRun_21 : decode cX0_startsRun 21 = .ok (.iload_n 2, 1) := by decide +kernel
theorem dX0_startsRun_22 : decode cX0_startsRun 22 = .ok (.iload_n 3, 1) := by decide +kernel
theorem dX0_startsRun_23 : decode cX0_startsRun 23 = .ok (.iconst 1, 1) := by decide +kernel
theorem dX0_startsRun_24 : decode cX0_startsRun 24 = .ok (.isub, 1) := by decide +kernel
theorem dX0_startsRun_25 : decode cX0_startsRun 25 = .ok (.invokevirtual 77, 3) := by decide +kernel
theorem dX0_startsRun_28 : decode cX0_startsRun 28 = .ok (.iload 4, 2) := by decide +kernel
theorem dX0_startsRun_30 : decode cX0_startsRun 30 = .ok (.if_icmp .eq 7, 3) := by decide +kernel
theorem dX0_startsRun_33 : decode cX0_startsRun 33 = .ok (.iconst 1, 1) := by decide +kernel
theorem dX0_startsRun_34 : decode cX0_startsRun 34 = .ok (.goto 4, 3) := by decide +kernel
theorem dX0_startsRun_37 : decode cX0_startsRun 37 = .ok (.iconst 0, 1) := by decide +kernel
theorem dX0_startsRun_38 : decode cX0_startsRun 38 = .ok (.ireturn, 1) := by decide +kernel
theorem dX0_endOfRun_0 : decode cX0_endOfRun 0 = .ok (.aload_n 0, 1) := by decide +kernel
theorem dX0_endOfRun_1 : decode cX0_endOfRun 1 = .ok (.iload_n 1, 1) := by decide +kernel
theorem dX0_endOfRun_2 : decode cX0_endOfRun 2 = .ok (.iload_n 2, 1) := by decide +kernel
theorem dX0_endOfRun_3 : decode cX0_endOfRun 3 = .ok (.iload_n 3, 1) := by decide +kernel
theorem dX0_endOfRun_4 : decode cX0_endOfRun 4 = .ok (.invokevirtual 77, 3) := by decide +kernel
theorem dX0_endOfRun_7 : decode cX0_endOfRun 7 = .ok (.istore 4, 2) := by decide +kernel
theorem dX0_endOfRun_9 : decode cX0_endOfRun 9 = .ok (.iload_n 3, 1) := by decide +kernel
theorem dX0_endOfRun_10 : decode cX0_endOfRun 10 = .ok (.iconst 1, 1) := by decide +kernel
theorem dX0_endOfRun_11 : decode cX0_endOfRun 11 = .ok (.iadd, 1) := by decide +kernel
theorem dX0_endOfRun_12 : decode cX0_endOfRun 12 = .ok (.istore 5, 2) := by decide +kernel
theorem dX0_endOfRun_14 : decode cX0_endOfRun 14 = .ok (.iload 5, 2) := by decide +kernel
theorem dX0_endOfRun_16 : decode cX0_endOfRun 16 = .ok (.bipush 60, 2) := by decide +kernel
theorem dX0_endOfRun_18 : decode cX0_endOfRun 18 = .ok (.if_icmp .ge 22, 3) := by decide +kernel
theorem dX0_endOfRun_21 : decode cX0_endOfRun 21 = .ok (.aload_n 0, 1) := by decide +kernel
theorem dX0_endOfRun_22 : decode cX0_endOfRun 22 = .ok (.iload_n 1, 1) := by decide +kernel
theorem dX0_endOfRun_23 : decode cX0_endOfRun 23 = .ok (.iload_n 2, 1) := by decide +kernel
theorem dX0_endOfRun_24 : decode cX0_endOfRun 24 = .ok (.iload 5, 2) := by decide +kernel
theorem dX0_endOfRun_26 : decode cX0_endOfRun 26 = .ok (.invokevirtual 77, 3) := by decide +kernel
theorem dX0_endOfRun_29 : decode cX0_endOfRun 29 = .ok (.iload 4, 2) := by decide +kernel
theorem dX0_endOfRun_31 : decode cX0_endOfRun 31 = .ok (.if_icmp .ne 9, 3) := by decide +kernel
theorem dX0_endOfRun_34 : decode cX0_endOfRun 34 = .ok (.iinc 5 1, 3) := by decide +kernel
theorem dX0_endOfRun_37 : decode cX0_endOfRun 37 = .ok (.goto (-23), 3) := by decide +kernel
theorem dX0_endOfRun_40 : decode cX0_endOfRun 40 = .ok (.iload 5, 2) := by decide +kernel
theorem dX0_endOfRun_42 : decode cX0_endOfRun 42 = .ok (.ireturn, 1) := by decide +kernel
theorem dX0_firstDayOfRun_0 : decode cX0_firstDayOfRun 0 = .ok (.iconst 0, 1) := by decide +kernel
theorem dX0_firstDayOfRun_1 : decode cX0_firstDayOfRun 1 = .ok (.istore 4, 2) := by decide +kernel
theorem dX0_firstDayOfRun_3 : decode cX0_firstDayOfRun 3 = .ok (.iconst 0, 1) := by decide +kernel
theorem dX0_firstDayOfRun_4 : decode cX0_firstDayOfRun 4 = .ok (.istore 5, 2) := by decide +kernel
theorem dX0_firstDayOfRun_6 : decode cX0_firstDayOfRun 6 = .ok (.iload 5, 2) := by decide +kernel
theorem dX0_firstDayOfRun_8 : decode cX0_firstDayOfRun 8 = .ok (.bipush 60, 2) := by decide +kernel
theorem dX0_firstDayOfRun_10 : decode cX0_firstDayOfRun 10 = .ok (.if_icmp .ge 32, 3) := by decide +kernel
theorem dX0_firstDayOfRun_13 : decode cX0_firstDayOfRun 13 = .ok (.aload_n 0, 1) := by decide +kernel
theorem dX0_firstDayOfRun_14 : decode cX0_firstDayOfRun 14 = .ok (.iload_n 1, 1) := by decide +kernel
theorem dX0_firstDayOfRun_15 : decode cX0_firstDayOfRun 15 = .ok (.iload_n 2, 1) := by decide +kernel
theorem dX0_firstDayOfRun_16 : decode cX0_firstDayOfRun 16 = .ok (.iload 5, 2) := by decide +kernel
theorem dX0_firstDayOfRun_18 : decode cX0_firstDayOfRun 18 = .ok (.invokevirtual 84, 3) := by decide +kernel
theorem dX0_firstDayOfRun_21 : decode cX0_firstDayOfRun 21 = .ok (.ifCond .eq 15, 3) := by decide +kernel
theorem dX0_firstDayOfRun_24 : decode cX0_firstDayOfRun 24 = .ok (.iload 4, 2) := by decide +kernel
theorem dX0_firstDayOfRun_26 : decode cX0_firstDayOfRun 26 = .ok (.iload_n 3, 1) := by decide +kernel
theorem dX0_firstDayOfRun_27 : decode cX0_firstDayOfRun 27 = .ok (.if_icmp .ne 6, 3) := by decide +kernel
theorem dX0_firstDayOfRun_30 : decode cX0_firstDayOfRun 30 = .ok (.iload 5, 2) := by decide +kernel
theorem dX0_firstDayOfRun_32 : decode cX0_firstDayOfRun 32 = .ok (.ireturn, 1) := by decide +kernel
theorem dX0_firstDayOfRun_33 : decode cX0_firstDayOfRun 33 = .ok (.iinc 4 1, 3) := by decide +kernel
theorem dX0_firstDayOfRun_36 : decode cX0_firstDayOfRun 36 = .ok (.iinc 5 1, 3) := by decide +kernel
theorem dX0_firstDayOfRun_39 : decode cX0_firstDayOfRun 39 = .ok (.goto (-33), 3) := by decide +kernel
theorem dX0_firstDayOfRun_42 : decode cX0_firstDayOfRun 42 = .ok (.iconst (-1), 1) := by decide +kernel
theorem dX0_firstDayOfRun_43 : decode cX0_firstDayOfRun 43 = .ok (.ireturn, 1) := by decide +kernel
theorem dX0_runNumber_0 : decode cX0_runNumber 0 = .ok (.sipush 10000, 3) := by decide +kernel
theorem dX0_runNumber_3 : decode cX0_runNumber 3 = .ok (.iload_n 3, 1) := by decide +kernel
theorem dX0_runNumber_4 : decode cX0_runNumber 4 = .ok (.imul, 1) := by decide +kernel
theorem dX0_runNumber_5 : decode cX0_runNumber 5 = .ok (.bipush 100, 2) := by decide +kernel
theorem dX0_runNumber_7 : decode cX0_runNumber 7 = .ok (.aload_n 0, 1) := by decide +kernel
theorem dX0_runNumber_8 : decode cX0_runNumber 8 = .ok (.iload_n 1, 1) := by decide +kernel
theorem dX0_runNumber_9 : decode cX0_runNumber 9 = .ok (.iload_n 2, 1) := by decide +kernel
theorem dX0_runNumber_10 : decode cX0_runNumber 10 = .ok (.iload_n 3, 1) := by decide +kernel
theorem dX0_runNumber_11 : decode cX0_runNumber 11 = .ok (.invokevirtual 124, 3) := by decide +kernel
theorem dX0_runNumber_14 : decode cX0_runNumber 14 = .ok (.imul, 1) := by decide +kernel
theorem dX0_runNumber_15 : decode cX0_runNumber 15 = .ok (.iadd, 1) := by decide +kernel
theorem dX0_runNumber_16 : decode cX0_runNumber 16 = .ok (.aload_n 0, 1) := by decide +kernel
theorem dX0_runNumber_17 : decode cX0_runNumber 17 = .ok (.iload_n 1, 1) := by decide +kernel
theorem dX0_runNumber_18 : decode cX0_runNumber 18 = .ok (.iload_n 2, 1) := by decide +kernel
theorem dX0_runNumber_19 : decode cX0_runNumber 19 = .ok (.iload_n 3, 1) := by decide +kernel
theorem dX0_runNumber_20 : decode cX0_runNumber 20 = .ok (.invokevirtual 77, 3) := by decide +kernel
theorem dX0_runNumber_23 : decode cX0_runNumber 23 = .ok (.iadd, 1) := by decide +kernel
theorem dX0_runNumber_24 : decode cX0_runNumber 24 = .ok (.ireturn, 1) := by decide +kernel
theorem dX0_joinedOn_0 : decode cX0_joinedOn 0 = .ok (.aload_n 0, 1) := by decide +kernel
theorem dX0_joinedOn_1 : decode cX0_joinedOn 1 = .ok (.iload_n 1, 1) := by decide +kernel
theorem dX0_joinedOn_2 : decode cX0_joinedOn 2 = .ok (.iconst 1, 1) := by decide +kernel
theorem dX0_joinedOn_3 : decode cX0_joinedOn 3 = .ok (.iload_n 2, 1) := by decide +kernel
theorem dX0_joinedOn_4 : decode cX0_joinedOn 4 = .ok (.invokestatic 34, 3) := by decide +kernel
theorem dX0_joinedOn_7 : decode cX0_joinedOn 7 = .ok (.iload_n 3, 1) := by decide +kernel
theorem dX0_joinedOn_8 : decode cX0_joinedOn 8 = .ok (.invokevirtual 77, 3) := by decide +kernel
theorem dX0_joinedOn_11 : decode cX0_joinedOn 11 = .ok (.istore 4, 2) := by decide +kernel
theorem dX0_joinedOn_13 : decode cX0_joinedOn 13 = .ok (.iload 4, 2) := by decide +kernel
theorem dX0_joinedOn_15 : decode cX0_joinedOn 15 = .ok (.iconst (-1), 1) := by decide +kernel
theorem dX0_joinedOn_16 : decode cX0_joinedOn 16 = .ok (.if_icmp .ne 7, 3) := by decide +kernel
theorem dX0_joinedOn_19 : decode cX0_joinedOn 19 = .ok (.iconst (-1), 1) := by decide +kernel
theorem dX0_joinedOn_20 : decode cX0_joinedOn 20 = .ok (.goto 15, 3) := by decide +kernel
theorem dX0_joinedOn_23 : decode cX0_joinedOn 23 = .ok (.aload_n 0, 1) := by decide +kernel
theorem dX0_joinedOn_24 : decode cX0_joinedOn 24 = .ok (.iload_n 1, 1) := by decide +kernel
theorem dX0_joinedOn_25 : decode cX0_joinedOn 25 = .ok (.iconst 0, 1) := by decide +kernel
theorem dX0_joinedOn_26 : decode cX0_joinedOn 26 = .ok (.iload 4, 2) := by decide +kernel
theorem dX0_joinedOn_28 : decode cX0_joinedOn 28 = .ok (.invokestatic 34, 3) := by decide +kernel
theorem dX0_joinedOn_31 : decode cX0_joinedOn 31 = .ok (.iload_n 3, 1) := by decide +kernel
theorem dX0_joinedOn_32 : decode cX0_joinedOn 32 = .ok (.invokevirtual 77, 3) := by decide +kernel
theorem dX0_joinedOn_35 : decode cX0_joinedOn 35 = .ok (.ireturn, 1) := by decide +kernel
theorem dX0_startsJoinedRun_0 : decode cX0_startsJoinedRun 0 = .ok (.aload_n 0, 1) := by decide +kernel
theorem dX0_startsJoinedRun_1 : decode cX0_startsJoinedRun 1 = .ok (.iload_n 1, 1) := by decide +kernel
theorem dX0_startsJoinedRun_2 : decode cX0_startsJoinedRun 2 = .ok (.iconst 1, 1) := by decide +kernel
theorem dX0_startsJoinedRun_3 : decode cX0_startsJoinedRun 3 = .ok (.iload_n 2, 1) := by decide +kernel
theorem dX0_startsJoinedRun_4 : decode cX0_startsJoinedRun 4 = .ok (.invokestatic 34, 3) := by decide +kernel
theorem dX0_startsJoinedRun_7 : decode cX0_startsJoinedRun 7 = .ok (.iload_n 3, 1) := by decide +kernel
theorem dX0_startsJoinedRun_8 : decode cX0_startsJoinedRun 8 = .ok (.invokevirtual 77, 3) := by decide +kernel
theorem dX0_startsJoinedRun_11 : decode cX0_startsJoinedRun 11 = .ok (.iconst (-1), 1) := by decide +kernel
theorem dX0_startsJoinedRun_12 : decode cX0_startsJoinedRun 12 = .ok (.if_icmp .ne 5, 3) := by decide +kernel
theorem dX0_startsJoinedRun_15 : decode cX0_startsJoinedRun 15 = .ok (.iconst 0, 1) := by decide +kernel
theorem dX0_startsJoinedRun_16 : decode cX0_startsJoinedRun 16 = .ok (.ireturn, 1) := by decide +kernel
theorem dX0_startsJoinedRun_17 : decode cX0_startsJoinedRun 17 = .ok (.aload_n 0, 1) := by decide +kernel
theorem dX0_startsJoinedRun_18 : decode cX0_startsJoinedRun 18 = .ok (.iload_n 1, 1) := by decide +kernel
theorem dX0_startsJoinedRun_19 : decode cX0_startsJoinedRun 19 = .ok (.iconst 1, 1) := by decide +kernel
theorem dX0_startsJoinedRun_20 : decode cX0_startsJoinedRun 20 = .ok (.iload_n 2, 1) := by decide +kernel
theorem dX0_startsJoinedRun_21 : decode cX0_startsJoinedRun 21 = .ok (.invokestatic 34, 3) := by decide +kernel
theorem dX0_startsJoinedRun_24 : decode cX0_startsJoinedRun 24 = .ok (.iload_n 3, 1) := by decide +kernel
theorem dX0_startsJoinedRun_25 : decode cX0_startsJoinedRun 25 = .ok (.invokevirtual 84, 3) := by decide +kernel
theorem dX0_startsJoinedRun_28 : decode cX0_startsJoinedRun 28 = .ok (.ifCond .ne 22, 3) := by decide +kernel
theorem dX0_startsJoinedRun_31 : decode cX0_startsJoinedRun 31 = .ok (.aload_n 0, 1) := by decide +kernel
theorem dX0_startsJoinedRun_32 : decode cX0_startsJoinedRun 32 = .ok (.iload_n 1, 1) := by decide +kernel
theorem dX0_startsJoinedRun_33 : decode cX0_startsJoinedRun 33 = .ok (.iload_n 2, 1) := by decide +kernel
theorem dX0_startsJoinedRun_34 : decode cX0_startsJoinedRun 34 = .ok (.iload_n 3, 1) := by decide +kernel
theorem dX0_startsJoinedRun_35 : decode cX0_startsJoinedRun 35 = .ok (.invokevirtual 81, 3) := by decide +kernel
theorem dX0_startsJoinedRun_38 : decode cX0_startsJoinedRun 38 = .ok (.aload_n 0, 1) := by decide +kernel
theorem dX0_startsJoinedRun_39 : decode cX0_startsJoinedRun 39 = .ok (.iload_n 1, 1) := by decide +kernel
theorem dX0_startsJoinedRun_40 : decode cX0_startsJoinedRun 40 = .ok (.iload_n 2, 1) := by decide +kernel
theorem dX0_startsJoinedRun_41 : decode cX0_startsJoinedRun 41 = .ok (.iload_n 3, 1) := by decide +kernel
theorem dX0_startsJoinedRun_42 : decode cX0_startsJoinedRun 42 = .ok (.iconst 1, 1) := by decide +kernel
theorem dX0_startsJoinedRun_43 : decode cX0_startsJoinedRun 43 = .ok (.isub, 1) := by decide +kernel
theorem dX0_startsJoinedRun_44 : decode cX0_startsJoinedRun 44 = .ok (.invokevirtual 81, 3) := by decide +kernel
theorem dX0_startsJoinedRun_47 : decode cX0_startsJoinedRun 47 = .ok (.if_icmp .eq 7, 3) := by decide +kernel
theorem dX0_startsJoinedRun_50 : decode cX0_startsJoinedRun 50 = .ok (.iconst 1, 1) := by decide +kernel
theorem dX0_startsJoinedRun_51 : decode cX0_startsJoinedRun 51 = .ok (.goto 4, 3) := by decide +kernel
theorem dX0_startsJoinedRun_54 : decode cX0_startsJoinedRun 54 = .ok (.iconst 0, 1) := by decide +kernel
theorem dX0_startsJoinedRun_55 : decode cX0_startsJoinedRun 55 = .ok (.ireturn, 1) := by decide +kernel
theorem dX0_recordOfStart_0 : decode cX0_recordOfStart 0 = .ok (.iload_n 0, 1) := by decide +kernel
theorem dX0_recordOfStart_1 : decode cX0_recordOfStart 1 = .ok (.bipush 60, 2) := by decide +kernel
theorem dX0_recordOfStart_3 : decode cX0_recordOfStart 3 = .ok (.idiv, 1) := by decide +kernel
theorem dX0_recordOfStart_4 : decode cX0_recordOfStart 4 = .ok (.ireturn, 1) := by decide +kernel
theorem dX0_validOfStart_0 : decode cX0_validOfStart 0 = .ok (.iload_n 0, 1) := by decide +kernel
theorem dX0_validOfStart_1 : decode cX0_validOfStart 1 = .ok (.bipush 60, 2) := by decide +kernel
theorem dX0_validOfStart_3 : decode cX0_validOfStart 3 = .ok (.irem, 1) := by decide +kernel
theorem dX0_validOfStart_4 : decode cX0_validOfStart 4 = .ok (.ireturn, 1) := by decide +kernel
theorem dX0_startOfRow_0 : decode cX0_startOfRow 0 = .ok (.iconst 0, 1) := by decide +kernel
theorem dX0_startOfRow_1 : decode cX0_startOfRow 1 = .ok (.istore_n 3, 1) := by decide +kernel
theorem dX0_startOfRow_2 : decode cX0_startOfRow 2 = .ok (.iconst 0, 1) := by decide +kernel
theorem dX0_startOfRow_3 : decode cX0_startOfRow 3 = .ok (.istore 4, 2) := by decide +kernel
theorem dX0_startOfRow_5 : decode cX0_startOfRow 5 = .ok (.iload 4, 2) := by decide +kernel
theorem dX0_startOfRow_7 : decode cX0_startOfRow 7 = .ok (.aload_n 0, 1) := by decide +kernel
theorem dX0_startOfRow_8 : decode cX0_startOfRow 8 = .ok (.getfield 62, 3) := by decide +kernel
theorem dX0_startOfRow_11 : decode cX0_startOfRow 11 = .ok (.if_icmp .gt 63, 3) := by decide +kernel
theorem dX0_startOfRow_14 : decode cX0_startOfRow 14 = .ok (.iconst 0, 1) := by decide +kernel
theorem dX0_startOfRow_15 : decode cX0_startOfRow 15 = .ok (.istore 5, 2) := by decide +kernel
theorem dX0_startOfRow_17 : decode cX0_startOfRow 17 = .ok (.iload 5, 2) := by decide +kernel
theorem dX0_startOfRow_19 : decode cX0_startOfRow 19 = .ok (.bipush 60, 2) := by decide +kernel
theorem dX0_startOfRow_21 : decode cX0_startOfRow 21 = .ok (.if_icmp .ge 47, 3) := by decide +kernel
theorem dX0_startOfRow_24 : decode cX0_startOfRow 24 = .ok (.aload_n 0, 1) := by decide +kernel
theorem dX0_startOfRow_25 : decode cX0_startOfRow 25 = .ok (.iload 4, 2) := by decide +kernel
theorem dX0_startOfRow_27 : decode cX0_startOfRow 27 = .ok (.invokevirtual 102, 3) := by decide +kernel
theorem dX0_startOfRow_30 : decode cX0_startOfRow 30 = .ok (.ifCond .eq 38, 3) := by decide +kernel
theorem dX0_startOfRow_33 : decode cX0_startOfRow 33 = .ok (.aload_n 0, 1) := by decide +kernel
theorem dX0_startOfRow_34 : decode cX0_startOfRow 34 = .ok (.iload 4, 2) := by decide +kernel
theorem dX0_startOfRow_36 : decode cX0_startOfRow 36 = .ok (.iload_n 1, 1) := by decide +kernel
theorem dX0_startOfRow_37 : decode cX0_startOfRow 37 = .ok (.iload 5, 2) := by decide +kernel
theorem dX0_startOfRow_39 : decode cX0_startOfRow 39 = .ok (.invokevirtual 106, 3) := by decide +kernel
theorem dX0_startOfRow_42 : decode cX0_startOfRow 42 = .ok (.ifCond .eq 20, 3) := by decide +kernel
theorem dX0_startOfRow_45 : decode cX0_startOfRow 45 = .ok (.iload_n 3, 1) := by decide +kernel
theorem dX0_startOfRow_46 : decode cX0_startOfRow 46 = .ok (.iload_n 2, 1) := by decide +kernel
theorem dX0_startOfRow_47 : decode cX0_startOfRow 47 = .ok (.if_icmp .ne 12, 3) := by decide +kernel
theorem dX0_startOfRow_50 : decode cX0_startOfRow 50 = .ok (.iload 4, 2) := by decide +kernel
theorem dX0_startOfRow_52 : decode cX0_startOfRow 52 = .ok (.bipush 60, 2) := by decide +kernel
theorem dX0_startOfRow_54 : decode cX0_startOfRow 54 = .ok (.imul, 1) := by decide +kernel
theorem dX0_startOfRow_55 : decode cX0_startOfRow 55 = .ok (.iload 5, 2) := by decide +kernel
theorem dX0_startOfRow_57 : decode cX0_startOfRow 57 = .ok (.iadd, 1) := by decide +kernel
theorem dX0_startOfRow_58 : decode cX0_startOfRow 58 = .ok (.ireturn, 1) := by decide +kernel
theorem dX0_startOfRow_59 : decode cX0_startOfRow 59 = .ok (.iinc 3 1, 3) := by decide +kernel
theorem dX0_startOfRow_62 : decode cX0_startOfRow 62 = .ok (.iinc 5 1, 3) := by decide +kernel
theorem dX0_startOfRow_65 : decode cX0_startOfRow 65 = .ok (.goto (-48), 3) := by decide +kernel
theorem dX0_startOfRow_68 : decode cX0_startOfRow 68 = .ok (.iinc 4 1, 3) := by decide +kernel
theorem dX0_startOfRow_71 : decode cX0_startOfRow 71 = .ok (.goto (-66), 3) := by decide +kernel
theorem dX0_startOfRow_74 : decode cX0_startOfRow 74 = .ok (.new 91, 3) := by decide +kernel
theorem dX0_startOfRow_77 : decode cX0_startOfRow 77 = .ok (.dup, 1) := by decide +kernel
theorem dX0_startOfRow_78 : decode cX0_startOfRow 78 = .ok (.ldc 165, 2) := by decide +kernel
theorem dX0_startOfRow_80 : decode cX0_startOfRow 80 = .ok (.invokespecial 95, 3) := by decide +kernel
theorem dX0_startOfRow_83 : decode cX0_startOfRow 83 = .ok (.athrow, 1) := by decide +kernel
theorem dX0_isKept_0 : decode cX0_isKept 0 = .ok (.iload_n 1, 1) := by decide +kernel
theorem dX0_isKept_1 : decode cX0_isKept 1 = .ok (.ifCond .lt 23, 3) := by decide +kernel
theorem dX0_isKept_4 : decode cX0_isKept 4 = .ok (.iload_n 1, 1) := by decide +kernel
theorem dX0_isKept_5 : decode cX0_isKept 5 = .ok (.bipush 60, 2) := by decide +kernel
theorem dX0_isKept_7 : decode cX0_isKept 7 = .ok (.if_icmp .ge 17, 3) := by decide +kernel
theorem dX0_isKept_10 : decode cX0_isKept 10 = .ok (.aload_n 0, 1) := by decide +kernel
theorem dX0_isKept_11 : decode cX0_isKept 11 = .ok (.getfield 14, 3) := by decide +kernel
theorem dX0_isKept_14 : decode cX0_isKept 14 = .ok (.iload_n 1, 1) := by decide +kernel
theorem dX0_isKept_15 : decode cX0_isKept 15 = .ok (.iaload, 1) := by decide +kernel
theorem dX0_isKept_16 : decode cX0_isKept 16 = .ok (.iload_n 1, 1) := by decide +kernel
theorem dX0_isKept_17 : decode cX0_isKept 17 = .ok (.if_icmp .ne 7, 3) := by decide +kernel
theorem dX0_isKept_20 : decode cX0_isKept 20 = .ok (.iconst 1, 1) := by decide +kernel
theorem dX0_isKept_21 : decode cX0_isKept 21 = .ok (.goto 4, 3) := by decide +kernel
theorem dX0_isKept_24 : decode cX0_isKept 24 = .ok (.iconst 0, 1) := by decide +kernel
theorem dX0_isKept_25 : decode cX0_isKept 25 = .ok (.ireturn, 1) := by decide +kernel
theorem dX0_startsRow_0 : decode cX0_startsRow 0 = .ok (.aload_n 0, 1) := by decide +kernel
theorem dX0_startsRow_1 : decode cX0_startsRow 1 = .ok (.iload_n 1, 1) := by decide +kernel
theorem dX0_startsRow_2 : decode cX0_startsRow 2 = .ok (.iload_n 2, 1) := by decide +kernel
theorem dX0_startsRow_3 : decode cX0_startsRow 3 = .ok (.iload_n 3, 1) := by decide +kernel
theorem dX0_startsRow_4 : decode cX0_startsRow 4 = .ok (.invokevirtual 84, 3) := by decide +kernel
theorem dX0_startsRow_7 : decode cX0_startsRow 7 = .ok (.ifCond .eq 24, 3) := by decide +kernel
theorem dX0_startsRow_10 : decode cX0_startsRow 10 = .ok (.iload_n 1, 1) := by decide +kernel
theorem dX0_startsRow_11 : decode cX0_startsRow 11 = .ok (.ifCond .eq 16, 3) := by decide +kernel
theorem dX0_startsRow_14 : decode cX0_startsRow 14 = .ok (.aload_n 0, 1) := by decide +kernel
theorem dX0_startsRow_15 : decode cX0_startsRow 15 = .ok (.iload_n 1, 1) := by decide +kernel
theorem dX0_startsRow_16 : decode cX0_startsRow 16 = .ok (.iload_n 1, 1) := by decide +kernel
theorem dX0_startsRow_17 : decode cX0_startsRow 17 = .ok (.iconst 1, 1) := by decide +kernel
theorem dX0_startsRow_18 : decode cX0_startsRow 18 = .ok (.isub, 1) := by decide +kernel
theorem dX0_startsRow_19 : decode cX0_startsRow 19 = .ok (.iload_n 2, 1) := by decide +kernel
theorem dX0_startsRow_20 : decode cX0_startsRow 20 = .ok (.iload_n 3, 1) := by decide +kernel
theorem dX0_startsRow_21 : decode cX0_startsRow 21 = .ok (.invokevirtual 118, 3) := by decide +kernel
theorem dX0_startsRow_24 : decode cX0_startsRow 24 = .ok (.ifCond .ne 7, 3) := by decide +kernel
theorem dX0_startsRow_27 : decode cX0_startsRow 27 = .ok (.iconst 1, 1) := by decide +kernel
theorem dX0_startsRow_28 : decode cX0_startsRow 28 = .ok (.goto 4, 3) := by decide +kernel
theorem dX0_startsRow_31 : decode cX0_startsRow 31 = .ok (.iconst 0, 1) := by decide +kernel
theorem dX0_startsRow_32 : decode cX0_startsRow 32 = .ok (.ireturn, 1) := by decide +kernel
theorem dX0_sameRun_0 : decode cX0_sameRun 0 = .ok (.aload_n 0, 1) := by decide +kernel
theorem dX0_sameRun_1 : decode cX0_sameRun 1 = .ok (.iload_n 2, 1) := by decide +kernel
theorem dX0_sameRun_2 : decode cX0_sameRun 2 = .ok (.iload_n 3, 1) := by decide +kernel
theorem dX0_sameRun_3 : decode cX0_sameRun 3 = .ok (.iload 4, 2) := by decide +kernel
theorem dX0_sameRun_5 : decode cX0_sameRun 5 = .ok (.invokevirtual 84, 3) := by decide +kernel
theorem dX0_sameRun_8 : decode cX0_sameRun 8 = .ok (.ifCond .eq 45, 3) := by decide +kernel
theorem dX0_sameRun_11 : decode cX0_sameRun 11 = .ok (.aload_n 0, 1) := by decide +kernel
theorem dX0_sameRun_12 : decode cX0_sameRun 12 = .ok (.iload_n 2, 1) := by decide +kernel
theorem dX0_sameRun_13 : decode cX0_sameRun 13 = .ok (.iload_n 3, 1) := by decide +kernel
theorem dX0_sameRun_14 : decode cX0_sameRun 14 = .ok (.iload 4, 2) := by decide +kernel
theorem dX0_sameRun_16 : decode cX0_sameRun 16 = .ok (.invokevirtual 77, 3) := by decide +kernel
theorem dX0_sameRun_19 : decode cX0_sameRun 19 = .ok (.aload_n 0, 1) := by decide +kernel
theorem dX0_sameRun_20 : decode cX0_sameRun 20 = .ok (.iload_n 1, 1) := by decide +kernel
theorem dX0_sameRun_21 : decode cX0_sameRun 21 = .ok (.iload_n 3, 1) := by decide +kernel
theorem dX0_sameRun_22 : decode cX0_sameRun 22 = .ok (.iload 4, 2) := by decide +kernel
theorem dX0_sameRun_24 : decode cX0_sameRun 24 = .ok (.invokevirtual 77, 3) := by decide +kernel
theorem dX0_sameRun_27 : decode cX0_sameRun 27 = .ok (.if_icmp .ne 26, 3) := by decide +kernel
theorem dX0_sameRun_30 : decode cX0_sameRun 30 = .ok (.aload_n 0, 1) := by decide +kernel
theorem dX0_sameRun_31 : decode cX0_sameRun 31 = .ok (.iload_n 2, 1) := by decide +kernel
theorem dX0_sameRun_32 : decode cX0_sameRun 32 = .ok (.iload_n 3, 1) := by decide +kernel
theorem dX0_sameRun_33 : decode cX0_sameRun 33 = .ok (.iload 4, 2) := by decide +kernel
theorem dX0_sameRun_35 : decode cX0_sameRun 35 = .ok (.invokevirtual 124, 3) := by decide +kernel
theorem dX0_sameRun_38 : decode cX0_sameRun 38 = .ok (.aload_n 0, 1) := by decide +kernel
theorem dX0_sameRun_39 : decode cX0_sameRun 39 = .ok (.iload_n 1, 1) := by decide +kernel
theorem dX0_sameRun_40 : decode cX0_sameRun 40 = .ok (.iload_n 3, 1) := by decide +kernel
theorem dX0_sameRun_41 : decode cX0_sameRun 41 = .ok (.iload 4, 2) := by decide +kernel
theorem dX0_sameRun_43 : decode cX0_sameRun 43 = .ok (.invokevirtual 124, 3) := by decide +kernel
theorem dX0_sameRun_46 : decode cX0_sameRun 46 = .ok (.if_icmp .ne 7, 3) := by decide +kernel
theorem dX0_sameRun_49 : decode cX0_sameRun 49 = .ok (.iconst 1, 1) := by decide +kernel
theorem dX0_sameRun_50 : decode cX0_sameRun 50 = .ok (.goto 4, 3) := by decide +kernel
theorem dX0_sameRun_53 : decode cX0_sameRun 53 = .ok (.iconst 0, 1) := by decide +kernel
theorem dX0_sameRun_54 : decode cX0_sameRun 54 = .ok (.ireturn, 1) := by decide +kernel
theorem dJ9_max_7cf53_0 : decode cJ9_max_7cf53 0 = .ok (.iload_n 0, 1) := by decide +kernel
theorem dJ9_max_7cf53_1 : decode cJ9_max_7cf53 1 = .ok (.iload_n 1, 1) := by decide +kernel
theorem dJ9_max_7cf53_2 : decode cJ9_max_7cf53 2 = .ok (.if_icmp .lt 7, 3) := by decide +kernel
theorem dJ9_max_7cf53_5 : decode cJ9_max_7cf53 5 = .ok (.iload_n 0, 1) := by decide +kernel
theorem dJ9_max_7cf53_6 : decode cJ9_max_7cf53 6 = .ok (.goto 4, 3) := by decide +kernel
theorem dJ9_max_7cf53_9 : decode cJ9_max_7cf53 9 = .ok (.iload_n 1, 1) := by decide +kernel
theorem dJ9_max_7cf53_10 : decode cJ9_max_7cf53 10 = .ok (.ireturn, 1) := by decide +kernel
theorem dL_cell_0 : decode cL_cell 0 = .ok (.iload_n 1, 1) := by decide +kernel
theorem dL_cell_1 : decode cL_cell 1 = .ok (.aload_n 0, 1) := by decide +kernel
theorem dL_cell_2 : decode cL_cell 2 = .ok (.arraylength, 1) := by decide +kernel
theorem dL_cell_3 : decode cL_cell 3 = .ok (.if_icmp .ge 9, 3) := by decide +kernel
theorem dL_cell_6 : decode cL_cell 6 = .ok (.aload_n 0, 1) := by decide +kernel
theorem dL_cell_7 : decode cL_cell 7 = .ok (.iload_n 1, 1) := by decide +kernel
theorem dL_cell_8 : decode cL_cell 8 = .ok (.iaload, 1) := by decide +kernel
theorem dL_cell_9 : decode cL_cell 9 = .ok (.goto 18, 3) := by decide +kernel
theorem dL_cell_12 : decode cL_cell 12 = .ok (.sipush 7919, 3) := by decide +kernel
theorem dL_cell_15 : decode cL_cell 15 = .ok (.iload_n 1, 1) := by decide +kernel
theorem dL_cell_16 : decode cL_cell 16 = .ok (.sipush 359, 3) := by decide +kernel
theorem dL_cell_19 : decode cL_cell 19 = .ok (.iadd, 1) := by decide +kernel
theorem dL_cell_20 : decode cL_cell 20 = .ok (.imul, 1) := by decide +kernel
theorem dL_cell_21 : decode cL_cell 21 = .ok (.iload_n 1, 1) := by decide +kernel
theorem dL_cell_22 : decode cL_cell 22 = .ok (.sipush 2657, 3) := by decide +kernel
theorem dL_cell_25 : decode cL_cell 25 = .ok (.iadd, 1) := by decide +kernel
theorem dL_cell_26 : decode cL_cell 26 = .ok (.imul, 1) := by decide +kernel
theorem dL_cell_27 : decode cL_cell 27 = .ok (.ireturn, 1) := by decide +kernel
theorem dL_low_0 : decode cL_low 0 = .ok (.iload_n 0, 1) := by decide +kernel
theorem dL_low_1 : decode cL_low 1 = .ok (.ldc 7, 2) := by decide +kernel
theorem dL_low_3 : decode cL_low 3 = .ok (.iand, 1) := by decide +kernel
theorem dL_low_4 : decode cL_low 4 = .ok (.iload_n 1, 1) := by decide +kernel
theorem dL_low_5 : decode cL_low 5 = .ok (.irem, 1) := by decide +kernel
theorem dL_low_6 : decode cL_low 6 = .ok (.ireturn, 1) := by decide +kernel
theorem dL_does_0 : decode cL_does 0 = .ok (.iload_n 1, 1) := by decide +kernel
theorem dL_does_1 : decode cL_does 1 = .ok (.ifCond .ne 18, 3) := by decide +kernel
theorem dL_does_4 : decode cL_does 4 = .ok (.aload_n 0, 1) := by decide +kernel
theorem dL_does_5 : decode cL_does 5 = .ok (.iload_n 2, 1) := by decide +kernel
theorem dL_does_6 : decode cL_does 6 = .ok (.iload_n 3, 1) := by decide +kernel
theorem dL_does_7 : decode cL_does 7 = .ok (.iload 4, 2) := by decide +kernel
theorem dL_does_9 : decode cL_does 9 = .ok (.iload 5, 2) := by decide +kernel
theorem dL_does_11 : decode cL_does 11 = .ok (.iload 6, 2) := by decide +kernel
theorem dL_does_13 : decode cL_does 13 = .ok (.invokevirtual 8, 3) := by decide +kernel
theorem dL_does_16 : decode cL_does 16 = .ok (.goto 60, 3) := by decide +kernel
theorem dL_does_19 : decode cL_does 19 = .ok (.iload_n 1, 1) := by decide +kernel
theorem dL_does_20 : decode cL_does 20 = .ok (.iconst 1, 1) := by decide +kernel
theorem dL_does_21 : decode cL_does 21 = .ok (.if_icmp .ne 16, 3) := by decide +kernel
theorem dL_does_24 : decode cL_does 24 = .ok (.aload_n 0, 1) := by decide +kernel
theorem dL_does_25 : decode cL_does 25 = .ok (.iload_n 2, 1) := by decide +kernel
theorem dL_does_26 : decode cL_does 26 = .ok (.iload_n 3, 1) := by decide +kernel
theorem dL_does_27 : decode cL_does 27 = .ok (.iload 5, 2) := by decide +kernel
theorem dL_does_29 : decode cL_does 29 = .ok (.iload 6, 2) := by decide +kernel
theorem dL_does_31 : decode cL_does 31 = .ok (.invokevirtual 14, 3) := by decide +kernel
theorem dL_does_34 : decode cL_does 34 = .ok (.goto 42, 3) := by decide +kernel
theorem dL_does_37 : decode cL_does 37 = .ok (.iload_n 1, 1) := by decide +kernel
theorem dL_does_38 : decode cL_does 38 = .ok (.iconst 2, 1) := by decide +kernel
theorem dL_does_39 : decode cL_does 39 = .ok (.if_icmp .ne 15, 3) := by decide +kernel
theorem dL_does_42 : decode cL_does 42 = .ok (.aload_n 0, 1) := by decide +kernel
theorem dL_does_43 : decode cL_does 43 = .ok (.iload_n 3, 1) := by decide +kernel
theorem dL_does_44 : decode cL_does 44 = .ok (.iload 5, 2) := by decide +kernel
theorem dL_does_46 : decode cL_does 46 = .ok (.iload 6, 2) := by decide +kernel
theorem dL_does_48 : decode cL_does 48 = .ok (.invokevirtual 18, 3) := by decide +kernel
theorem dL_does_51 : decode cL_does 51 = .ok (.goto 25, 3) := by decide +kernel
theorem dL_does_54 : decode cL_does 54 = .ok (.iload_n 1, 1) := by decide +kernel
theorem dL_does_55 : decode cL_does 55 = .ok (.iconst 3, 1) := by decide +kernel
theorem dL_does_56 : decode cL_does 56 = .ok (.if_icmp .ne 14, 3) := by decide +kernel
theorem dL_does_59 : decode cL_does 59 = .ok (.aload_n 0, 1) := by decide +kernel
theorem dL_does_60 : decode cL_does 60 = .ok (.iload_n 2, 1) := by decide +kernel
theorem dL_does_61 : decode cL_does 61 = .ok (.iload_n 3, 1) := by decide +kernel
theorem dL_does_62 : decode cL_does 62 = .ok (.iload 5, 2) := by decide +kernel
theorem dL_does_64 : decode cL_does 64 = .ok (.invokevirtual 22, 3) := by decide +kernel
theorem dL_does_67 : decode cL_does 67 = .ok (.goto 9, 3) := by decide +kernel
theorem dL_does_70 : decode cL_does 70 = .ok (.aload_n 0, 1) := by decide +kernel
theorem dL_does_71 : decode cL_does 71 = .ok (.iload 4, 2) := by decide +kernel
theorem dL_does_73 : decode cL_does 73 = .ok (.invokevirtual 25, 3) := by decide +kernel
theorem dL_does_76 : decode cL_does 76 = .ok (.ireturn, 1) := by decide +kernel
theorem dL_does_77 : decode cL_does 77 = .ok (.astore 7, 2) := by decide +kernel
theorem dL_does_79 : decode cL_does 79 = .ok (.ldc 31, 2) := by decide +kernel
theorem dL_does_81 : decode cL_does 81 = .ok (.ireturn, 1) := by decide +kernel
theorem dL_does_82 : decode cL_does 82 = .ok (.astore 7, 2) := by decide +kernel
theorem dL_does_84 : decode cL_does 84 = .ok (.ldc 31, 2) := by decide +kernel
theorem dL_does_86 : decode cL_does 86 = .ok (.ireturn, 1) := by decide +kernel
theorem dL_does_87 : decode cL_does 87 = .ok (.astore 7, 2) := by decide +kernel
theorem dL_does_89 : decode cL_does 89 = .ok (.ldc 31, 2) := by decide +kernel
theorem dL_does_91 : decode cL_does 91 = .ok (.ireturn, 1) := by decide +kernel
theorem dL_rowRun_0 : decode cL_rowRun 0 = .ok (.aload_n 0, 1) := by decide +kernel
theorem dL_rowRun_1 : decode cL_rowRun 1 = .ok (.iload_n 1, 1) := by decide +kernel
theorem dL_rowRun_2 : decode cL_rowRun 2 = .ok (.iload_n 2, 1) := by decide +kernel
theorem dL_rowRun_3 : decode cL_rowRun 3 = .ok (.iload_n 3, 1) := by decide +kernel
theorem dL_rowRun_4 : decode cL_rowRun 4 = .ok (.invokevirtual 36, 3) := by decide +kernel
theorem dL_rowRun_7 : decode cL_rowRun 7 = .ok (.ireturn, 1) := by decide +kernel
theorem dL_rowRun_8 : decode cL_rowRun 8 = .ok (.astore 4, 2) := by decide +kernel
theorem dL_rowRun_10 : decode cL_rowRun 10 = .ok (.ldc 31, 2) := by decide +kernel
theorem dL_rowRun_12 : decode cL_rowRun 12 = .ok (.ireturn, 1) := by decide +kernel
theorem dL_average_0 : decode cL_average 0 = .ok (.aload_n 0, 1) := by decide +kernel
theorem dL_average_1 : decode cL_average 1 = .ok (.iload_n 1, 1) := by decide +kernel
theorem dL_average_2 : decode cL_average 2 = .ok (.iload_n 2, 1) := by decide +kernel
theorem dL_average_3 : decode cL_average 3 = .ok (.invokevirtual 39, 3) := by decide +kernel
theorem dL_average_6 : decode cL_average 6 = .ok (.freturn, 1) := by decide +kernel
theorem dL_average_7 : decode cL_average 7 = .ok (.astore_n 3, 1) := by decide +kernel
theorem dL_average_8 : decode cL_average 8 = .ok (.ldc 43, 2) := by decide +kernel
theorem dL_average_10 : decode cL_average 10 = .ok (.freturn, 1) := by decide +kernel
theorem dL_act_0 : decode cL_act 0 = .ok (.iload_n 1, 1) := by decide +kernel
theorem dL_act_1 : decode cL_act 1 = .ok (.bipush 24, 2) := by decide +kernel
theorem dL_act_3 : decode cL_act 3 = .ok (.ishr, 1) := by decide +kernel
theorem dL_act_4 : decode cL_act 4 = .ok (.bipush 8, 2) := by decide +kernel
theorem dL_act_6 : decode cL_act 6 = .ok (.invokestatic 44, 3) := by decide +kernel
theorem dL_act_9 : decode cL_act 9 = .ok (.ifCond .ne 7, 3) := by decide +kernel
theorem dL_act_12 : decode cL_act 12 = .ok (.iconst 1, 1) := by decide +kernel
theorem dL_act_13 : decode cL_act 13 = .ok (.goto 4, 3) := by decide +kernel
theorem dL_act_16 : decode cL_act 16 = .ok (.iconst 0, 1) := by decide +kernel
theorem dL_act_17 : decode cL_act 17 = .ok (.istore_n 2, 1) := by decide +kernel
theorem dL_act_18 : decode cL_act 18 = .ok (.iload_n 1, 1) := by decide +kernel
theorem dL_act_19 : decode cL_act 19 = .ok (.bipush 20, 2) := by decide +kernel
theorem dL_act_21 : decode cL_act 21 = .ok (.invokestatic 44, 3) := by decide +kernel
theorem dL_act_24 : decode cL_act 24 = .ok (.istore_n 3, 1) := by decide +kernel
theorem dL_act_25 : decode cL_act 25 = .ok (.iload_n 2, 1) := by decide +kernel
theorem dL_act_26 : decode cL_act 26 = .ok (.ifCond .eq 15, 3) := by decide +kernel
theorem dL_act_29 : decode cL_act 29 = .ok (.iload_n 1, 1) := by decide +kernel
theorem dL_act_30 : decode cL_act 30 = .ok (.iconst 4, 1) := by decide +kernel
theorem dL_act_31 : decode cL_act 31 = .ok (.ishr, 1) := by decide +kernel
theorem dL_act_32 : decode cL_act 32 = .ok (.iconst 4, 1) := by decide +kernel
theorem dL_act_33 : decode cL_act 33 = .ok (.invokestatic 44, 3) := by decide +kernel
theorem dL_act_36 : decode cL_act 36 = .ok (.iconst 1, 1) := by decide +kernel
theorem dL_act_37 : decode cL_act 37 = .ok (.isub, 1) := by decide +kernel
theorem dL_act_38 : decode cL_act 38 = .ok (.goto 8, 3) := by decide +kernel
theorem dL_act_41 : decode cL_act 41 = .ok (.iload_n 1, 1) := by decide +kernel
theorem dL_act_42 : decode cL_act 42 = .ok (.iconst 4, 1) := by decide +kernel
theorem dL_act_43 : decode cL_act 43 = .ok (.ishr, 1) := by decide +kernel
theorem dL_act_44 : decode cL_act 44 = .ok (.iconst 1, 1) := by decide +kernel
theorem dL_act_45 : decode cL_act 45 = .ok (.iand, 1) := by decide +kernel
theorem dL_act_46 : decode cL_act 46 = .ok (.istore 4, 2) := by decide +kernel
theorem dL_act_48 : decode cL_act 48 = .ok (.iload_n 1, 1) := by decide +kernel
theorem dL_act_49 : decode cL_act 49 = .ok (.iconst 5, 1) := by decide +kernel
theorem dL_act_50 : decode cL_act 50 = .ok (.ishr, 1) := by decide +kernel
theorem dL_act_51 : decode cL_act 51 = .ok (.iload_n 2, 1) := by decide +kernel
theorem dL_act_52 : decode cL_act 52 = .ok (.ifCond .eq 8, 3) := by decide +kernel
theorem dL_act_55 : decode cL_act 55 = .ok (.bipush 11, 2) := by decide +kernel
theorem dL_act_57 : decode cL_act 57 = .ok (.goto 4, 3) := by decide +kernel
theorem dL_act_60 : decode cL_act 60 = .ok (.iconst 4, 1) := by decide +kernel
theorem dL_act_61 : decode cL_act 61 = .ok (.invokestatic 44, 3) := by decide +kernel
theorem dL_act_64 : decode cL_act 64 = .ok (.istore 5, 2) := by decide +kernel
theorem dL_act_66 : decode cL_act 66 = .ok (.iload_n 2, 1) := by decide +kernel
theorem dL_act_67 : decode cL_act 67 = .ok (.ifCond .eq 16, 3) := by decide +kernel
theorem dL_act_70 : decode cL_act 70 = .ok (.iload_n 1, 1) := by decide +kernel
theorem dL_act_71 : decode cL_act 71 = .ok (.iconst 3, 1) := by decide +kernel
theorem dL_act_72 : decode cL_act 72 = .ok (.ishr, 1) := by decide +kernel
theorem dL_act_73 : decode cL_act 73 = .ok (.bipush 64, 2) := by decide +kernel
theorem dL_act_75 : decode cL_act 75 = .ok (.invokestatic 44, 3) := by decide +kernel
theorem dL_act_78 : decode cL_act 78 = .ok (.iconst 2, 1) := by decide +kernel
theorem dL_act_79 : decode cL_act 79 = .ok (.isub, 1) := by decide +kernel
theorem dL_act_80 : decode cL_act 80 = .ok (.goto 11, 3) := by decide +kernel
theorem dL_act_83 : decode cL_act 83 = .ok (.iload_n 1, 1) := by decide +kernel
theorem dL_act_84 : decode cL_act 84 = .ok (.iconst 3, 1) := by decide +kernel
theorem dL_act_85 : decode cL_act 85 = .ok (.ishr, 1) := by decide +kernel
theorem dL_act_86 : decode cL_act 86 = .ok (.bipush 60, 2) := by decide +kernel
theorem dL_act_88 : decode cL_act 88 = .ok (.invokestatic 44, 3) := by decide +kernel
theorem dL_act_91 : decode cL_act 91 = .ok (.istore 6, 2) := by decide +kernel
theorem dL_act_93 : decode cL_act 93 = .ok (.iload_n 2, 1) := by decide +kernel
theorem dL_act_94 : decode cL_act 94 = .ok (.ifCond .eq 15, 3) := by decide +kernel
theorem dL_act_97 : decode cL_act 97 = .ok (.iload_n 1, 1) := by decide +kernel
theorem dL_act_98 : decode cL_act 98 = .ok (.bipush 8, 2) := by decide +kernel
theorem dL_act_100 : decode cL_act 100 = .ok (.ishr, 1) := by decide +kernel
theorem dL_act_101 : decode cL_act 101 = .ok (.bipush 66, 2) := by decide +kernel
theorem dL_act_103 : decode cL_act 103 = .ok (.invokestatic 44, 3) := by decide +kernel
theorem dL_act_106 : decode cL_act 106 = .ok (.goto 52, 3) := by decide +kernel
theorem dL_act_109 : decode cL_act 109 = .ok (.iload 6, 2) := by decide +kernel
theorem dL_act_111 : decode cL_act 111 = .ok (.iconst 1, 1) := by decide +kernel
theorem dL_act_112 : decode cL_act 112 = .ok (.iadd, 1) := by decide +kernel
theorem dL_act_113 : decode cL_act 113 = .ok (.iload_n 1, 1) := by decide +kernel
theorem dL_act_114 : decode cL_act 114 = .ok (.bipush 8, 2) := by decide +kernel
theorem dL_act_116 : decode cL_act 116 = .ok (.ishr, 1) := by decide +kernel
theorem dL_act_117 : decode cL_act 117 = .ok (.iload_n 1, 1) := by decide +kernel
theorem dL_act_118 : decode cL_act 118 = .ok (.bipush 15, 2) := by decide +kernel
theorem dL_act_120 : decode cL_act 120 = .ok (.ishr, 1) := by decide +kernel
theorem dL_act_121 : decode cL_act 121 = .ok (.iconst 1, 1) := by decide +kernel
theorem dL_act_122 : decode cL_act 122 = .ok (.iand, 1) := by decide +kernel
theorem dL_act_123 : decode cL_act 123 = .ok (.ifCond .ne 11, 3) := by decide +kernel
theorem dL_act_126 : decode cL_act 126 = .ok (.bipush 60, 2) := by decide +kernel
theorem dL_act_128 : decode cL_act 128 = .ok (.iload 6, 2) := by decide +kernel
theorem dL_act_130 : decode cL_act 130 = .ok (.isub, 1) := by decide +kernel
theorem dL_act_131 : decode cL_act 131 = .ok (.goto 23, 3) := by decide +kernel
theorem dL_act_134 : decode cL_act 134 = .ok (.bipush 60, 2) := by decide +kernel
theorem dL_act_136 : decode cL_act 136 = .ok (.iload 6, 2) := by decide +kernel
theorem dL_act_138 : decode cL_act 138 = .ok (.isub, 1) := by decide +kernel
theorem dL_act_139 : decode cL_act 139 = .ok (.bipush 12, 2) := by decide +kernel
theorem dL_act_141 : decode cL_act 141 = .ok (.if_icmp .ge 11, 3) := by decide +kernel
theorem dL_act_144 : decode cL_act 144 = .ok (.bipush 60, 2) := by decide +kernel
theorem dL_act_146 : decode cL_act 146 = .ok (.iload 6, 2) := by decide +kernel
theorem dL_act_148 : decode cL_act 148 = .ok (.isub, 1) := by decide +kernel
theorem dL_act_149 : decode cL_act 149 = .ok (.goto 5, 3) := by decide +kernel
theorem dL_act_152 : decode cL_act 152 = .ok (.bipush 12, 2) := by decide +kernel
theorem dL_act_154 : decode cL_act 154 = .ok (.invokestatic 44, 3) := by decide +kernel
theorem dL_act_157 : decode cL_act 157 = .ok (.iadd, 1) := by decide +kernel
theorem dL_act_158 : decode cL_act 158 = .ok (.istore 7, 2) := by decide +kernel
theorem dL_act_160 : decode cL_act 160 = .ok (.iload_n 3, 1) := by decide +kernel
theorem dL_act_161 : decode cL_act 161 = .ok (.bipush 9, 2) := by decide +kernel
theorem dL_act_163 : decode cL_act 163 = .ok (.if_icmp .ge 44, 3) := by decide +kernel
theorem dL_act_166 : decode cL_act 166 = .ok (.aload_n 0, 1) := by decide +kernel
theorem dL_act_167 : decode cL_act 167 = .ok (.iconst 0, 1) := by decide +kernel
theorem dL_act_168 : decode cL_act 168 = .ok (.iload 4, 2) := by decide +kernel
theorem dL_act_170 : decode cL_act 170 = .ok (.iload 5, 2) := by decide +kernel
theorem dL_act_172 : decode cL_act 172 = .ok (.iload_n 1, 1) := by decide +kernel
theorem dL_act_173 : decode cL_act 173 = .ok (.bipush 10, 2) := by decide +kernel
theorem dL_act_175 : decode cL_act 175 = .ok (.ishr, 1) := by decide +kernel
theorem dL_act_176 : decode cL_act 176 = .ok (.iload_n 2, 1) := by decide +kernel
theorem dL_act_177 : decode cL_act 177 = .ok (.ifCond .eq 8, 3) := by decide +kernel
theorem dL_act_180 : decode cL_act 180 = .ok (.bipush 110, 2) := by decide +kernel
theorem dL_act_182 : decode cL_act 182 = .ok (.goto 14, 3) := by decide +kernel
theorem dL_act_185 : decode cL_act 185 = .ok (.iload 4, 2) := by decide +kernel
theorem dL_act_187 : decode cL_act 187 = .ok (.ifCond .ne 8, 3) := by decide +kernel
theorem dL_act_190 : decode cL_act 190 = .ok (.bipush 6, 2) := by decide +kernel
theorem dL_act_192 : decode cL_act 192 = .ok (.goto 4, 3) := by decide +kernel
theorem dL_act_195 : decode cL_act 195 = .ok (.iconst 4, 1) := by decide +kernel
theorem dL_act_196 : decode cL_act 196 = .ok (.invokestatic 44, 3) := by decide +kernel
theorem dL_act_199 : decode cL_act 199 = .ok (.iload 6, 2) := by decide +kernel
theorem dL_act_201 : decode cL_act 201 = .ok (.iload 7, 2) := by decide +kernel
theorem dL_act_203 : decode cL_act 203 = .ok (.invokestatic 50, 3) := by decide +kernel
theorem dL_act_206 : decode cL_act 206 = .ok (.ireturn, 1) := by decide +kernel
theorem dL_act_207 : decode cL_act 207 = .ok (.iload_n 3, 1) := by decide +kernel
theorem dL_act_208 : decode cL_act 208 = .ok (.bipush 13, 2) := by decide +kernel
theorem dL_act_210 : decode cL_act 210 = .ok (.if_icmp .ge 28, 3) := by decide +kernel
theorem dL_act_213 : decode cL_act 213 = .ok (.aload_n 0, 1) := by decide +kernel
theorem dL_act_214 : decode cL_act 214 = .ok (.iload_n 3, 1) := by decide +kernel
theorem dL_act_215 : decode cL_act 215 = .ok (.bipush 12, 2) := by decide +kernel
theorem dL_act_217 : decode cL_act 217 = .ok (.if_icmp .ge 7, 3) := by decide +kernel
theorem dL_act_220 : decode cL_act 220 = .ok (.iconst 1, 1) := by decide +kernel
theorem dL_act_221 : decode cL_act 221 = .ok (.goto 4, 3) := by decide +kernel
theorem dL_act_224 : decode cL_act 224 = .ok (.iconst 2, 1) := by decide +kernel
theorem dL_act_225 : decode cL_act 225 = .ok (.iload 4, 2) := by decide +kernel
theorem dL_act_227 : decode cL_act 227 = .ok (.iload 5, 2) := by decide +kernel
theorem dL_act_229 : decode cL_act 229 = .ok (.iconst 0, 1) := by decide +kernel
theorem dL_act_230 : decode cL_act 230 = .ok (.iload 6, 2) := by decide +kernel
theorem dL_act_232 : decode cL_act 232 = .ok (.iload 7, 2) := by decide +kernel
theorem dL_act_234 : decode cL_act 234 = .ok (.invokestatic 50, 3) := by decide +kernel
theorem dL_act_237 : decode cL_act 237 = .ok (.ireturn, 1) := by decide +kernel
theorem dL_act_238 : decode cL_act 238 = .ok (.iload_n 3, 1) := by decide +kernel
theorem dL_act_239 : decode cL_act 239 = .ok (.bipush 16, 2) := by decide +kernel
theorem dL_act_241 : decode cL_act 241 = .ok (.if_icmp .ge 39, 3) := by decide +kernel
theorem dL_act_244 : decode cL_act 244 = .ok (.aload_n 0, 1) := by decide +kernel
theorem dL_act_245 : decode cL_act 245 = .ok (.iconst 3, 1) := by decide +kernel
theorem dL_act_246 : decode cL_act 246 = .ok (.iload 4, 2) := by decide +kernel
theorem dL_act_248 : decode cL_act 248 = .ok (.iload 5, 2) := by decide +kernel
theorem dL_act_250 : decode cL_act 250 = .ok (.iconst 0, 1) := by decide +kernel
theorem dL_act_251 : decode cL_act 251 = .ok (.iload_n 2, 1) := by decide +kernel
theorem dL_act_252 : decode cL_act 252 = .ok (.ifCond .eq 8, 3) := by decide +kernel
theorem dL_act_255 : decode cL_act 255 = .ok (.iload 6, 2) := by decide +kernel
theorem dL_act_257 : decode cL_act 257 = .ok (.goto 16, 3) := by decide +kernel
theorem dL_act_260 : decode cL_act 260 = .ok (.iload_n 1, 1) := by decide +kernel
theorem dL_act_261 : decode cL_act 261 = .ok (.bipush 9, 2) := by decide +kernel
theorem dL_act_263 : decode cL_act 263 = .ok (.ishr, 1) := by decide +kernel
theorem dL_act_264 : decode cL_act 264 = .ok (.aload_n 0, 1) := by decide +kernel
theorem dL_act_265 : decode cL_act 265 = .ok (.invokevirtual 54, 3) := by decide +kernel
theorem dL_act_268 : decode cL_act 268 = .ok (.iconst 1, 1) := by decide +kernel
theorem dL_act_269 : decode cL_act 269 = .ok (.iadd, 1) := by decide +kernel
theorem dL_act_270 : decode cL_act 270 = .ok (.invokestatic 44, 3) := by decide +kernel
theorem dL_act_273 : decode cL_act 273 = .ok (.iconst 0, 1) := by decide +kernel
theorem dL_act_274 : decode cL_act 274 = .ok (.invokestatic 50, 3) := by decide +kernel
theorem dL_act_277 : decode cL_act 277 = .ok (.goto 38, 3) := by decide +kernel
theorem dL_act_280 : decode cL_act 280 = .ok (.aload_n 0, 1) := by decide +kernel
theorem dL_act_281 : decode cL_act 281 = .ok (.iconst 4, 1) := by decide +kernel
theorem dL_act_282 : decode cL_act 282 = .ok (.iconst 0, 1) := by decide +kernel
theorem dL_act_283 : decode cL_act 283 = .ok (.iconst 0, 1) := by decide +kernel
theorem dL_act_284 : decode cL_act 284 = .ok (.iload_n 2, 1) := by decide +kernel
theorem dL_act_285 : decode cL_act 285 = .ok (.ifCond .eq 15, 3) := by decide +kernel
theorem dL_act_288 : decode cL_act 288 = .ok (.iload_n 1, 1) := by decide +kernel
theorem dL_act_289 : decode cL_act 289 = .ok (.bipush 6, 2) := by decide +kernel
theorem dL_act_291 : decode cL_act 291 = .ok (.ishr, 1) := by decide +kernel
theorem dL_act_292 : decode cL_act 292 = .ok (.bipush 70, 2) := by decide +kernel
theorem dL_act_294 : decode cL_act 294 = .ok (.invokestatic 44, 3) := by decide +kernel
theorem dL_act_297 : decode cL_act 297 = .ok (.goto 13, 3) := by decide +kernel
theorem dL_act_300 : decode cL_act 300 = .ok (.iconst 1, 1) := by decide +kernel
theorem dL_act_301 : decode cL_act 301 = .ok (.iload_n 1, 1) := by decide +kernel
theorem dL_act_302 : decode cL_act 302 = .ok (.bipush 6, 2) := by decide +kernel
theorem dL_act_304 : decode cL_act 304 = .ok (.ishr, 1) := by decide +kernel
theorem dL_act_305 : decode cL_act 305 = .ok (.iconst 5, 1) := by decide +kernel
theorem dL_act_306 : decode cL_act 306 = .ok (.invokestatic 44, 3) := by decide +kernel
theorem dL_act_309 : decode cL_act 309 = .ok (.iadd, 1) := by decide +kernel
theorem dL_act_310 : decode cL_act 310 = .ok (.iconst 0, 1) := by decide +kernel
theorem dL_act_311 : decode cL_act 311 = .ok (.iconst 0, 1) := by decide +kernel
theorem dL_act_312 : decode cL_act 312 = .ok (.invokestatic 50, 3) := by decide +kernel
theorem dL_act_315 : decode cL_act 315 = .ok (.ireturn, 1) := by decide +kernel
theorem dL_areAlike_0 : decode cL_areAlike 0 = .ok (.aload_n 0, 1) := by decide +kernel
theorem dL_areAlike_1 : decode cL_areAlike 1 = .ok (.invokevirtual 54, 3) := by decide +kernel
theorem dL_areAlike_4 : decode cL_areAlike 4 = .ok (.aload_n 1, 1) := by decide +kernel
theorem dL_areAlike_5 : decode cL_areAlike 5 = .ok (.invokevirtual 54, 3) := by decide +kernel
theorem dL_areAlike_8 : decode cL_areAlike 8 = .ok (.if_icmp .ne 7, 3) := by decide +kernel
theorem dL_areAlike_11 : decode cL_areAlike 11 = .ok (.iconst 1, 1) := by decide +kernel
theorem dL_areAlike_12 : decode cL_areAlike 12 = .ok (.goto 4, 3) := by decide +kernel
theorem dL_areAlike_15 : decode cL_areAlike 15 = .ok (.iconst 0, 1) := by decide +kernel
theorem dL_areAlike_16 : decode cL_areAlike 16 = .ok (.istore_n 2, 1) := by decide +kernel
theorem dL_areAlike_17 : decode cL_areAlike 17 = .ok (.iconst 0, 1) := by decide +kernel
theorem dL_areAlike_18 : decode cL_areAlike 18 = .ok (.istore_n 3, 1) := by decide +kernel
theorem dL_areAlike_19 : decode cL_areAlike 19 = .ok (.iload_n 3, 1) := by decide +kernel
theorem dL_areAlike_20 : decode cL_areAlike 20 = .ok (.bipush 8, 2) := by decide +kernel
theorem dL_areAlike_22 : decode cL_areAlike 22 = .ok (.if_icmp .ge 179, 3) := by decide +kernel
theorem dL_areAlike_25 : decode cL_areAlike 25 = .ok (.iload_n 2, 1) := by decide +kernel
theorem dL_areAlike_26 : decode cL_areAlike 26 = .ok (.ifCond .eq 175, 3) := by decide +kernel
theorem dL_areAlike_29 : decode cL_areAlike 29 = .ok (.aload_n 0, 1) := by decide +kernel
theorem dL_areAlike_30 : decode cL_areAlike 30 = .ok (.iconst 0, 1) := by decide +kernel
theorem dL_areAlike_31 : decode cL_areAlike 31 = .ok (.iload_n 3, 1) := by decide +kernel
theorem dL_areAlike_32 : decode cL_areAlike 32 = .ok (.invokevirtual 58, 3) := by decide +kernel
theorem dL_areAlike_35 : decode cL_areAlike 35 = .ok (.aload_n 1, 1) := by decide +kernel
theorem dL_areAlike_36 : decode cL_areAlike 36 = .ok (.iconst 0, 1) := by decide +kernel
theorem dL_areAlike_37 : decode cL_areAlike 37 = .ok (.iload_n 3, 1) := by decide +kernel
theorem dL_areAlike_38 : decode cL_areAlike 38 = .ok (.invokevirtual 58, 3) := by decide +kernel
theorem dL_areAlike_41 : decode cL_areAlike 41 = .ok (.if_icmp .ne 68, 3) := by decide +kernel
theorem dL_areAlike_44 : decode cL_areAlike 44 = .ok (.aload_n 0, 1) := by decide +kernel
theorem dL_areAlike_45 : decode cL_areAlike 45 = .ok (.iconst 1, 1) := by decide +kernel
theorem dL_areAlike_46 : decode cL_areAlike 46 = .ok (.iload_n 3, 1) := by decide +kernel
theorem dL_areAlike_47 : decode cL_areAlike 47 = .ok (.invokevirtual 58, 3) := by decide +kernel
theorem dL_areAlike_50 : decode cL_areAlike 50 = .ok (.aload_n 1, 1) := by decide +kernel
theorem dL_areAlike_51 : decode cL_areAlike 51 = .ok (.iconst 1, 1) := by decide +kernel
theorem dL_areAlike_52 : decode cL_areAlike 52 = .ok (.iload_n 3, 1) := by decide +kernel
theorem dL_areAlike_53 : decode cL_areAlike 53 = .ok (.invokevirtual 58, 3) := by decide +kernel
theorem dL_areAlike_56 : decode cL_areAlike 56 = .ok (.if_icmp .ne 53, 3) := by decide +kernel
theorem dL_areAlike_59 : decode cL_areAlike 59 = .ok (.aload_n 0, 1) := by decide +kernel
theorem dL_areAlike_60 : decode cL_areAlike 60 = .ok (.iconst 0, 1) := by decide +kernel
theorem dL_areAlike_61 : decode cL_areAlike 61 = .ok (.iload_n 3, 1) := by decide +kernel
theorem dL_areAlike_62 : decode cL_areAlike 62 = .ok (.aload_n 0, 1) := by decide +kernel
theorem dL_areAlike_63 : decode cL_areAlike 63 = .ok (.invokevirtual 54, 3) := by decide +kernel
theorem dL_areAlike_66 : decode cL_areAlike 66 = .ok (.invokevirtual 61, 3) := by decide +kernel
theorem dL_areAlike_69 : decode cL_areAlike 69 = .ok (.aload_n 1, 1) := by decide +kernel
theorem dL_areAlike_70 : decode cL_areAlike 70 = .ok (.iconst 0, 1) := by decide +kernel
theorem dL_areAlike_71 : decode cL_areAlike 71 = .ok (.iload_n 3, 1) := by decide +kernel
theorem dL_areAlike_72 : decode cL_areAlike 72 = .ok (.aload_n 1, 1) := by decide +kernel
theorem dL_areAlike_73 : decode cL_areAlike 73 = .ok (.invokevirtual 54, 3) := by decide +kernel
theorem dL_areAlike_76 : decode cL_areAlike 76 = .ok (.invokevirtual 61, 3) := by decide +kernel
theorem dL_areAlike_79 : decode cL_areAlike 79 = .ok (.if_icmp .ne 30, 3) := by decide +kernel
theorem dL_areAlike_82 : decode cL_areAlike 82 = .ok (.aload_n 0, 1) := by decide +kernel
theorem dL_areAlike_83 : decode cL_areAlike 83 = .ok (.iconst 1, 1) := by decide +kernel
theorem dL_areAlike_84 : decode cL_areAlike 84 = .ok (.iload_n 3, 1) := by decide +kernel
theorem dL_areAlike_85 : decode cL_areAlike 85 = .ok (.aload_n 0, 1) := by decide +kernel
theorem dL_areAlike_86 : decode cL_areAlike 86 = .ok (.invokevirtual 54, 3) := by decide +kernel
theorem dL_areAlike_89 : decode cL_areAlike 89 = .ok (.invokevirtual 64, 3) := by decide +kernel
theorem dL_areAlike_92 : decode cL_areAlike 92 = .ok (.aload_n 1, 1) := by decide +kernel
theorem dL_areAlike_93 : decode cL_areAlike 93 = .ok (.iconst 1, 1) := by decide +kernel
theorem dL_areAlike_94 : decode cL_areAlike 94 = .ok (.iload_n 3, 1) := by decide +kernel
theorem dL_areAlike_95 : decode cL_areAlike 95 = .ok (.aload_n 1, 1) := by decide +kernel
theorem dL_areAlike_96 : decode cL_areAlike 96 = .ok (.invokevirtual 54, 3) := by decide +kernel
theorem dL_areAlike_99 : decode cL_areAlike 99 = .ok (.invokevirtual 64, 3) := by decide +kernel
theorem dL_areAlike_102 : decode cL_areAlike 102 = .ok (.if_icmp .ne 7, 3) := by decide +kernel
theorem dL_areAlike_105 : decode cL_areAlike 105 = .ok (.iconst 1, 1) := by decide +kernel
theorem dL_areAlike_106 : decode cL_areAlike 106 = .ok (.goto 4, 3) := by decide +kernel
theorem dL_areAlike_109 : decode cL_areAlike 109 = .ok (.iconst 0, 1) := by decide +kernel
theorem dL_areAlike_110 : decode cL_areAlike 110 = .ok (.istore_n 2, 1) := by decide +kernel
theorem dL_areAlike_111 : decode cL_areAlike 111 = .ok (.iconst 0, 1) := by decide +kernel
theorem dL_areAlike_112 : decode cL_areAlike 112 = .ok (.istore 4, 2) := by decide +kernel
theorem dL_areAlike_114 : decode cL_areAlike 114 = .ok (.iload 4, 2) := by decide +kernel
theorem dL_areAlike_116 : decode cL_areAlike 116 = .ok (.bipush 60, 2) := by decide +kernel
theorem dL_areAlike_118 : decode cL_areAlike 118 = .ok (.if_icmp .ge 77, 3) := by decide +kernel
theorem dL_areAlike_121 : decode cL_areAlike 121 = .ok (.iload_n 2, 1) := by decide +kernel
theorem dL_areAlike_122 : decode cL_areAlike 122 = .ok (.ifCond .eq 73, 3) := by decide +kernel
theorem dL_areAlike_125 : decode cL_areAlike 125 = .ok (.aload_n 0, 1) := by decide +kernel
theorem dL_areAlike_126 : decode cL_areAlike 126 = .ok (.iconst 0, 1) := by decide +kernel
theorem dL_areAlike_127 : decode cL_areAlike 127 = .ok (.iload_n 3, 1) := by decide +kernel
theorem dL_areAlike_128 : decode cL_areAlike 128 = .ok (.iload 4, 2) := by decide +kernel
theorem dL_areAlike_130 : decode cL_areAlike 130 = .ok (.aload_n 0, 1) := by decide +kernel
theorem dL_areAlike_131 : decode cL_areAlike 131 = .ok (.invokevirtual 54, 3) := by decide +kernel
theorem dL_areAlike_134 : decode cL_areAlike 134 = .ok (.invokevirtual 67, 3) := by decide +kernel
theorem dL_areAlike_137 : decode cL_areAlike 137 = .ok (.aload_n 1, 1) := by decide +kernel
theorem dL_areAlike_138 : decode cL_areAlike 138 = .ok (.iconst 0, 1) := by decide +kernel
theorem dL_areAlike_139 : decode cL_areAlike 139 = .ok (.iload_n 3, 1) := by decide +kernel
theorem dL_areAlike_140 : decode cL_areAlike 140 = .ok (.iload 4, 2) := by decide +kernel
theorem dL_areAlike_142 : decode cL_areAlike 142 = .ok (.aload_n 1, 1) := by decide +kernel
theorem dL_areAlike_143 : decode cL_areAlike 143 = .ok (.invokevirtual 54, 3) := by decide +kernel
theorem dL_areAlike_146 : decode cL_areAlike 146 = .ok (.invokevirtual 67, 3) := by decide +kernel
theorem dL_areAlike_149 : decode cL_areAlike 149 = .ok (.if_icmp .ne 38, 3) := by decide +kernel
theorem dL_areAlike_152 : decode cL_areAlike 152 = .ok (.aload_n 0, 1) := by decide +kernel
theorem dL_areAlike_153 : decode cL_areAlike 153 = .ok (.iconst 1, 1) := by decide +kernel
theorem dL_areAlike_154 : decode cL_areAlike 154 = .ok (.iload_n 3, 1) := by decide +kernel
theorem dL_areAlike_155 : decode cL_areAlike 155 = .ok (.iload 4, 2) := by decide +kernel
theorem dL_areAlike_157 : decode cL_areAlike 157 = .ok (.aload_n 0, 1) := by decide +kernel
theorem dL_areAlike_158 : decode cL_areAlike 158 = .ok (.invokevirtual 54, 3) := by decide +kernel
theorem dL_areAlike_161 : decode cL_areAlike 161 = .ok (.iconst 2, 1) := by decide +kernel
theorem dL_areAlike_162 : decode cL_areAlike 162 = .ok (.idiv, 1) := by decide +kernel
theorem dL_areAlike_163 : decode cL_areAlike 163 = .ok (.invokevirtual 67, 3) := by decide +kernel
theorem dL_areAlike_166 : decode cL_areAlike 166 = .ok (.aload_n 1, 1) := by decide +kernel
theorem dL_areAlike_167 : decode cL_areAlike 167 = .ok (.iconst 1, 1) := by decide +kernel
theorem dL_areAlike_168 : decode cL_areAlike 168 = .ok (.iload_n 3, 1) := by decide +kernel
theorem dL_areAlike_169 : decode cL_areAlike 169 = .ok (.iload 4, 2) := by decide +kernel
theorem dL_areAlike_171 : decode cL_areAlike 171 = .ok (.aload_n 1, 1) := by decide +kernel
theorem dL_areAlike_172 : decode cL_areAlike 172 = .ok (.invokevirtual 54, 3) := by decide +kernel
theorem dL_areAlike_175 : decode cL_areAlike 175 = .ok (.iconst 2, 1) := by decide +kernel
theorem dL_areAlike_176 : decode cL_areAlike 176 = .ok (.idiv, 1) := by decide +kernel
theorem dL_areAlike_177 : decode cL_areAlike 177 = .ok (.invokevirtual 67, 3) := by decide +kernel
theorem dL_areAlike_180 : decode cL_areAlike 180 = .ok (.if_icmp .ne 7, 3) := by decide +kernel
theorem dL_areAlike_183 : decode cL_areAlike 183 = .ok (.iconst 1, 1) := by decide +kernel
theorem dL_areAlike_184 : decode cL_areAlike 184 = .ok (.goto 4, 3) := by decide +kernel
theorem dL_areAlike_187 : decode cL_areAlike 187 = .ok (.iconst 0, 1) := by decide +kernel
theorem dL_areAlike_188 : decode cL_areAlike 188 = .ok (.istore_n 2, 1) := by decide +kernel
theorem dL_areAlike_189 : decode cL_areAlike 189 = .ok (.iinc 4 4, 3) := by decide +kernel
theorem dL_areAlike_192 : decode cL_areAlike 192 = .ok (.goto (-78), 3) := by decide +kernel
theorem dL_areAlike_195 : decode cL_areAlike 195 = .ok (.iinc 3 1, 3) := by decide +kernel
theorem dL_areAlike_198 : decode cL_areAlike 198 = .ok (.goto (-179), 3) := by decide +kernel
theorem dL_areAlike_201 : decode cL_areAlike 201 = .ok (.iload_n 2, 1) := by decide +kernel
theorem dL_areAlike_202 : decode cL_areAlike 202 = .ok (.ireturn, 1) := by decide +kernel
theorem dL_areValuesSo_0 : decode cL_areValuesSo 0 = .ok (.iconst 1, 1) := by decide +kernel
theorem dL_areValuesSo_1 : decode cL_areValuesSo 1 = .ok (.istore_n 2, 1) := by decide +kernel
theorem dL_areValuesSo_2 : decode cL_areValuesSo 2 = .ok (.iconst 0, 1) := by decide +kernel
theorem dL_areValuesSo_3 : decode cL_areValuesSo 3 = .ok (.istore_n 3, 1) := by decide +kernel
theorem dL_areValuesSo_4 : decode cL_areValuesSo 4 = .ok (.iload_n 3, 1) := by decide +kernel
theorem dL_areValuesSo_5 : decode cL_areValuesSo 5 = .ok (.bipush 60, 2) := by decide +kernel
theorem dL_areValuesSo_7 : decode cL_areValuesSo 7 = .ok (.if_icmp .ge 178, 3) := by decide +kernel
theorem dL_areValuesSo_10 : decode cL_areValuesSo 10 = .ok (.iload_n 2, 1) := by decide +kernel
theorem dL_areValuesSo_11 : decode cL_areValuesSo 11 = .ok (.ifCond .eq 174, 3) := by decide +kernel
theorem dL_areValuesSo_14 : decode cL_areValuesSo 14 = .ok (.aload_n 0, 1) := by decide +kernel
theorem dL_areValuesSo_15 : decode cL_areValuesSo 15 = .ok (.iconst 0, 1) := by decide +kernel
theorem dL_areValuesSo_16 : decode cL_areValuesSo 16 = .ok (.iload_n 3, 1) := by decide +kernel
theorem dL_areValuesSo_17 : decode cL_areValuesSo 17 = .ok (.iload_n 1, 1) := by decide +kernel
theorem dL_areValuesSo_18 : decode cL_areValuesSo 18 = .ok (.invokevirtual 70, 3) := by decide +kernel
theorem dL_areValuesSo_21 : decode cL_areValuesSo 21 = .ok (.istore 4, 2) := by decide +kernel
theorem dL_areValuesSo_23 : decode cL_areValuesSo 23 = .ok (.aload_n 0, 1) := by decide +kernel
theorem dL_areValuesSo_24 : decode cL_areValuesSo 24 = .ok (.iconst 1, 1) := by decide +kernel
theorem dL_areValuesSo_25 : decode cL_areValuesSo 25 = .ok (.iload_n 3, 1) := by decide +kernel
theorem dL_areValuesSo_26 : decode cL_areValuesSo 26 = .ok (.iload_n 1, 1) := by decide +kernel
theorem dL_areValuesSo_27 : decode cL_areValuesSo 27 = .ok (.invokevirtual 70, 3) := by decide +kernel
theorem dL_areValuesSo_30 : decode cL_areValuesSo 30 = .ok (.istore 5, 2) := by decide +kernel
theorem dL_areValuesSo_32 : decode cL_areValuesSo 32 = .ok (.iconst 0, 1) := by decide +kernel
theorem dL_areValuesSo_33 : decode cL_areValuesSo 33 = .ok (.istore 6, 2) := by decide +kernel
theorem dL_areValuesSo_35 : decode cL_areValuesSo 35 = .ok (.iload 6, 2) := by decide +kernel
theorem dL_areValuesSo_37 : decode cL_areValuesSo 37 = .ok (.bipush 8, 2) := by decide +kernel
theorem dL_areValuesSo_39 : decode cL_areValuesSo 39 = .ok (.if_icmp .ge 140, 3) := by decide +kernel
theorem dL_areValuesSo_42 : decode cL_areValuesSo 42 = .ok (.iload_n 2, 1) := by decide +kernel
theorem dL_areValuesSo_43 : decode cL_areValuesSo 43 = .ok (.ifCond .eq 136, 3) := by decide +kernel
theorem dL_areValuesSo_46 : decode cL_areValuesSo 46 = .ok (.aload_n 0, 1) := by decide +kernel
theorem dL_areValuesSo_47 : decode cL_areValuesSo 47 = .ok (.iconst 0, 1) := by decide +kernel
theorem dL_areValuesSo_48 : decode cL_areValuesSo 48 = .ok (.iload 6, 2) := by decide +kernel
theorem dL_areValuesSo_50 : decode cL_areValuesSo 50 = .ok (.iload_n 3, 1) := by decide +kernel
theorem dL_areValuesSo_51 : decode cL_areValuesSo 51 = .ok (.iload_n 1, 1) := by decide +kernel
theorem dL_areValuesSo_52 : decode cL_areValuesSo 52 = .ok (.invokevirtual 67, 3) := by decide +kernel
theorem dL_areValuesSo_55 : decode cL_areValuesSo 55 = .ok (.istore 7, 2) := by decide +kernel
theorem dL_areValuesSo_57 : decode cL_areValuesSo 57 = .ok (.aload_n 0, 1) := by decide +kernel
theorem dL_areValuesSo_58 : decode cL_areValuesSo 58 = .ok (.iconst 1, 1) := by decide +kernel
theorem dL_areValuesSo_59 : decode cL_areValuesSo 59 = .ok (.iload 6, 2) := by decide +kernel
theorem dL_areValuesSo_61 : decode cL_areValuesSo 61 = .ok (.iload_n 3, 1) := by decide +kernel
theorem dL_areValuesSo_62 : decode cL_areValuesSo 62 = .ok (.iload_n 1, 1) := by decide +kernel
theorem dL_areValuesSo_63 : decode cL_areValuesSo 63 = .ok (.invokevirtual 67, 3) := by decide +kernel
theorem dL_areValuesSo_66 : decode cL_areValuesSo 66 = .ok (.istore 8, 2) := by decide +kernel
theorem dL_areValuesSo_68 : decode cL_areValuesSo 68 = .ok (.iload 4, 2) := by decide +kernel
theorem dL_areValuesSo_70 : decode cL_areValuesSo 70 = .ok (.iload 6, 2) := by decide +kernel
theorem dL_areValuesSo_72 : decode cL_areValuesSo 72 = .ok (.ishr, 1) := by decide +kernel
theorem dL_areValuesSo_73 : decode cL_areValuesSo 73 = .ok (.iconst 1, 1) := by decide +kernel
theorem dL_areValuesSo_74 : decode cL_areValuesSo 74 = .ok (.iand, 1) := by decide +kernel
theorem dL_areValuesSo_75 : decode cL_areValuesSo 75 = .ok (.iload 7, 2) := by decide +kernel
theorem dL_areValuesSo_77 : decode cL_areValuesSo 77 = .ok (.ifCond .ge 7, 3) := by decide +kernel
theorem dL_areValuesSo_80 : decode cL_areValuesSo 80 = .ok (.iconst 0, 1) := by decide +kernel
theorem dL_areValuesSo_81 : decode cL_areValuesSo 81 = .ok (.goto 4, 3) := by decide +kernel
theorem dL_areValuesSo_84 : decode cL_areValuesSo 84 = .ok (.iconst 1, 1) := by decide +kernel
theorem dL_areValuesSo_85 : decode cL_areValuesSo 85 = .ok (.if_icmp .ne 86, 3) := by decide +kernel
theorem dL_areValuesSo_88 : decode cL_areValuesSo 88 = .ok (.iload 5, 2) := by decide +kernel
theorem dL_areValuesSo_90 : decode cL_areValuesSo 90 = .ok (.iload 6, 2) := by decide +kernel
theorem dL_areValuesSo_92 : decode cL_areValuesSo 92 = .ok (.ishr, 1) := by decide +kernel
theorem dL_areValuesSo_93 : decode cL_areValuesSo 93 = .ok (.iconst 1, 1) := by decide +kernel
theorem dL_areValuesSo_94 : decode cL_areValuesSo 94 = .ok (.iand, 1) := by decide +kernel
theorem dL_areValuesSo_95 : decode cL_areValuesSo 95 = .ok (.iload 8, 2) := by decide +kernel
theorem dL_areValuesSo_97 : decode cL_areValuesSo 97 = .ok (.ifCond .ge 7, 3) := by decide +kernel
theorem dL_areValuesSo_100 : decode cL_areValuesSo 100 = .ok (.iconst 0, 1) := by decide +kernel
theorem dL_areValuesSo_101 : decode cL_areValuesSo 101 = .ok (.goto 4, 3) := by decide +kernel
theorem dL_areValuesSo_104 : decode cL_areValuesSo 104 = .ok (.iconst 1, 1) := by decide +kernel
theorem dL_areValuesSo_105 : decode cL_areValuesSo 105 = .ok (.if_icmp .ne 66, 3) := by decide +kernel
theorem dL_areValuesSo_108 : decode cL_areValuesSo 108 = .ok (.iload 7, 2) := by decide +kernel
theorem dL_areValuesSo_110 : decode cL_areValuesSo 110 = .ok (.bipush 99, 2) := by decide +kernel
theorem dL_areValuesSo_112 : decode cL_areValuesSo 112 = .ok (.if_icmp .gt 59, 3) := by decide +kernel
theorem dL_areValuesSo_115 : decode cL_areValuesSo 115 = .ok (.iload 8, 2) := by decide +kernel
theorem dL_areValuesSo_117 : decode cL_areValuesSo 117 = .ok (.bipush 7, 2) := by decide +kernel
theorem dL_areValuesSo_119 : decode cL_areValuesSo 119 = .ok (.if_icmp .gt 52, 3) := by decide +kernel
theorem dL_areValuesSo_122 : decode cL_areValuesSo 122 = .ok (.iload 8, 2) := by decide +kernel
theorem dL_areValuesSo_124 : decode cL_areValuesSo 124 = .ok (.ifCond .lt 14, 3) := by decide +kernel
theorem dL_areValuesSo_127 : decode cL_areValuesSo 127 = .ok (.iload 4, 2) := by decide +kernel
theorem dL_areValuesSo_129 : decode cL_areValuesSo 129 = .ok (.iload 8, 2) := by decide +kernel
theorem dL_areValuesSo_131 : decode cL_areValuesSo 131 = .ok (.ishr, 1) := by decide +kernel
theorem dL_areValuesSo_132 : decode cL_areValuesSo 132 = .ok (.iconst 1, 1) := by decide +kernel
theorem dL_areValuesSo_133 : decode cL_areValuesSo 133 = .ok (.iand, 1) := by decide +kernel
theorem dL_areValuesSo_134 : decode cL_areValuesSo 134 = .ok (.iconst 1, 1) := by decide +kernel
theorem dL_areValuesSo_135 : decode cL_areValuesSo 135 = .ok (.if_icmp .ne 36, 3) := by decide +kernel
theorem dL_areValuesSo_138 : decode cL_areValuesSo 138 = .ok (.aload_n 0, 1) := by decide +kernel
theorem dL_areValuesSo_139 : decode cL_areValuesSo 139 = .ok (.iload 6, 2) := by decide +kernel
theorem dL_areValuesSo_141 : decode cL_areValuesSo 141 = .ok (.iload_n 3, 1) := by decide +kernel
theorem dL_areValuesSo_142 : decode cL_areValuesSo 142 = .ok (.iload_n 1, 1) := by decide +kernel
theorem dL_areValuesSo_143 : decode cL_areValuesSo 143 = .ok (.invokevirtual 73, 3) := by decide +kernel
theorem dL_areValuesSo_146 : decode cL_areValuesSo 146 = .ok (.iload 8, 2) := by decide +kernel
theorem dL_areValuesSo_148 : decode cL_areValuesSo 148 = .ok (.ifCond .ge 7, 3) := by decide +kernel
theorem dL_areValuesSo_151 : decode cL_areValuesSo 151 = .ok (.iconst (-1), 1) := by decide +kernel
theorem dL_areValuesSo_152 : decode cL_areValuesSo 152 = .ok (.goto 12, 3) := by decide +kernel
theorem dL_areValuesSo_155 : decode cL_areValuesSo 155 = .ok (.aload_n 0, 1) := by decide +kernel
theorem dL_areValuesSo_156 : decode cL_areValuesSo 156 = .ok (.iconst 0, 1) := by decide +kernel
theorem dL_areValuesSo_157 : decode cL_areValuesSo 157 = .ok (.iload 8, 2) := by decide +kernel
theorem dL_areValuesSo_159 : decode cL_areValuesSo 159 = .ok (.iload_n 3, 1) := by decide +kernel
theorem dL_areValuesSo_160 : decode cL_areValuesSo 160 = .ok (.iload_n 1, 1) := by decide +kernel
theorem dL_areValuesSo_161 : decode cL_areValuesSo 161 = .ok (.invokevirtual 67, 3) := by decide +kernel
theorem dL_areValuesSo_164 : decode cL_areValuesSo 164 = .ok (.if_icmp .ne 7, 3) := by decide +kernel
theorem dL_areValuesSo_167 : decode cL_areValuesSo 167 = .ok (.iconst 1, 1) := by decide +kernel
theorem dL_areValuesSo_168 : decode cL_areValuesSo 168 = .ok (.goto 4, 3) := by decide +kernel
theorem dL_areValuesSo_171 : decode cL_areValuesSo 171 = .ok (.iconst 0, 1) := by decide +kernel
theorem dL_areValuesSo_172 : decode cL_areValuesSo 172 = .ok (.istore_n 2, 1) := by decide +kernel
theorem dL_areValuesSo_173 : decode cL_areValuesSo 173 = .ok (.iinc 6 1, 3) := by decide +kernel
theorem dL_areValuesSo_176 : decode cL_areValuesSo 176 = .ok (.goto (-141), 3) := by decide +kernel
theorem dL_areValuesSo_179 : decode cL_areValuesSo 179 = .ok (.iinc 3 1, 3) := by decide +kernel
theorem dL_areValuesSo_182 : decode cL_areValuesSo 182 = .ok (.goto (-178), 3) := by decide +kernel
theorem dL_areValuesSo_185 : decode cL_areValuesSo 185 = .ok (.iload_n 2, 1) := by decide +kernel
theorem dL_areValuesSo_186 : decode cL_areValuesSo 186 = .ok (.ireturn, 1) := by decide +kernel
theorem dL_areRunsSo_0 : decode cL_areRunsSo 0 = .ok (.iconst 0, 1) := by decide +kernel
theorem dL_areRunsSo_1 : decode cL_areRunsSo 1 = .ok (.istore 4, 2) := by decide +kernel
theorem dL_areRunsSo_3 : decode cL_areRunsSo 3 = .ok (.iconst (-1), 1) := by decide +kernel
theorem dL_areRunsSo_4 : decode cL_areRunsSo 4 = .ok (.istore 5, 2) := by decide +kernel
theorem dL_areRunsSo_6 : decode cL_areRunsSo 6 = .ok (.iconst 0, 1) := by decide +kernel
theorem dL_areRunsSo_7 : decode cL_areRunsSo 7 = .ok (.istore 6, 2) := by decide +kernel
theorem dL_areRunsSo_9 : decode cL_areRunsSo 9 = .ok (.iconst 0, 1) := by decide +kernel
theorem dL_areRunsSo_10 : decode cL_areRunsSo 10 = .ok (.istore 7, 2) := by decide +kernel
theorem dL_areRunsSo_12 : decode cL_areRunsSo 12 = .ok (.iconst 0, 1) := by decide +kernel
theorem dL_areRunsSo_13 : decode cL_areRunsSo 13 = .ok (.istore 8, 2) := by decide +kernel
theorem dL_areRunsSo_15 : decode cL_areRunsSo 15 = .ok (.iconst 1, 1) := by decide +kernel
theorem dL_areRunsSo_16 : decode cL_areRunsSo 16 = .ok (.istore 9, 2) := by decide +kernel
theorem dL_areRunsSo_18 : decode cL_areRunsSo 18 = .ok (.iconst 0, 1) := by decide +kernel
theorem dL_areRunsSo_19 : decode cL_areRunsSo 19 = .ok (.istore 10, 2) := by decide +kernel
theorem dL_areRunsSo_21 : decode cL_areRunsSo 21 = .ok (.iload 10, 2) := by decide +kernel
theorem dL_areRunsSo_23 : decode cL_areRunsSo 23 = .ok (.aload_n 0, 1) := by decide +kernel
theorem dL_areRunsSo_24 : decode cL_areRunsSo 24 = .ok (.iload_n 1, 1) := by decide +kernel
theorem dL_areRunsSo_25 : decode cL_areRunsSo 25 = .ok (.iload_n 2, 1) := by decide +kernel
theorem dL_areRunsSo_26 : decode cL_areRunsSo 26 = .ok (.iload_n 3, 1) := by decide +kernel
theorem dL_areRunsSo_27 : decode cL_areRunsSo 27 = .ok (.invokevirtual 61, 3) := by decide +kernel
theorem dL_areRunsSo_30 : decode cL_areRunsSo 30 = .ok (.if_icmp .ge 210, 3) := by decide +kernel
theorem dL_areRunsSo_33 : decode cL_areRunsSo 33 = .ok (.iload 9, 2) := by decide +kernel
theorem dL_areRunsSo_35 : decode cL_areRunsSo 35 = .ok (.ifCond .eq 205, 3) := by decide +kernel
theorem dL_areRunsSo_38 : decode cL_areRunsSo 38 = .ok (.aload_n 0, 1) := by decide +kernel
theorem dL_areRunsSo_39 : decode cL_areRunsSo 39 = .ok (.iload_n 1, 1) := by decide +kernel
theorem dL_areRunsSo_40 : decode cL_areRunsSo 40 = .ok (.iload_n 2, 1) := by decide +kernel
theorem dL_areRunsSo_41 : decode cL_areRunsSo 41 = .ok (.iload_n 3, 1) := by decide +kernel
theorem dL_areRunsSo_42 : decode cL_areRunsSo 42 = .ok (.iload 10, 2) := by decide +kernel
theorem dL_areRunsSo_44 : decode cL_areRunsSo 44 = .ok (.invokevirtual 76, 3) := by decide +kernel
theorem dL_areRunsSo_47 : decode cL_areRunsSo 47 = .ok (.istore 11, 2) := by decide +kernel
theorem dL_areRunsSo_49 : decode cL_areRunsSo 49 = .ok (.iload 11, 2) := by decide +kernel
theorem dL_areRunsSo_51 : decode cL_areRunsSo 51 = .ok (.sipush 10000, 3) := by decide +kernel
theorem dL_areRunsSo_54 : decode cL_areRunsSo 54 = .ok (.idiv, 1) := by decide +kernel
theorem dL_areRunsSo_55 : decode cL_areRunsSo 55 = .ok (.istore 12, 2) := by decide +kernel
theorem dL_areRunsSo_57 : decode cL_areRunsSo 57 = .ok (.iload 11, 2) := by decide +kernel
theorem dL_areRunsSo_59 : decode cL_areRunsSo 59 = .ok (.bipush 100, 2) := by decide +kernel
theorem dL_areRunsSo_61 : decode cL_areRunsSo 61 = .ok (.idiv, 1) := by decide +kernel
theorem dL_areRunsSo_62 : decode cL_areRunsSo 62 = .ok (.bipush 100, 2) := by decide +kernel
theorem dL_areRunsSo_64 : decode cL_areRunsSo 64 = .ok (.irem, 1) := by decide +kernel
theorem dL_areRunsSo_65 : decode cL_areRunsSo 65 = .ok (.istore 13, 2) := by decide +kernel
theorem dL_areRunsSo_67 : decode cL_areRunsSo 67 = .ok (.iload 12, 2) := by decide +kernel
theorem dL_areRunsSo_69 : decode cL_areRunsSo 69 = .ok (.iload 4, 2) := by decide +kernel
theorem dL_areRunsSo_71 : decode cL_areRunsSo 71 = .ok (.if_icmp .lt 101, 3) := by decide +kernel
theorem dL_areRunsSo_74 : decode cL_areRunsSo 74 = .ok (.iload 13, 2) := by decide +kernel
theorem dL_areRunsSo_76 : decode cL_areRunsSo 76 = .ok (.iload 12, 2) := by decide +kernel
theorem dL_areRunsSo_78 : decode cL_areRunsSo 78 = .ok (.if_icmp .le 94, 3) := by decide +kernel
theorem dL_areRunsSo_81 : decode cL_areRunsSo 81 = .ok (.iload 13, 2) := by decide +kernel
theorem dL_areRunsSo_83 : decode cL_areRunsSo 83 = .ok (.bipush 60, 2) := by decide +kernel
theorem dL_areRunsSo_85 : decode cL_areRunsSo 85 = .ok (.if_icmp .gt 87, 3) := by decide +kernel
theorem dL_areRunsSo_88 : decode cL_areRunsSo 88 = .ok (.iload 10, 2) := by decide +kernel
theorem dL_areRunsSo_90 : decode cL_areRunsSo 90 = .ok (.ifCond .eq 20, 3) := by decide +kernel
theorem dL_areRunsSo_93 : decode cL_areRunsSo 93 = .ok (.iload 12, 2) := by decide +kernel
theorem dL_areRunsSo_95 : decode cL_areRunsSo 95 = .ok (.iload 4, 2) := by decide +kernel
theorem dL_areRunsSo_97 : decode cL_areRunsSo 97 = .ok (.if_icmp .gt 13, 3) := by decide +kernel
theorem dL_areRunsSo_100 : decode cL_areRunsSo 100 = .ok (.iload 11, 2) := by decide +kernel
theorem dL_areRunsSo_102 : decode cL_areRunsSo 102 = .ok (.bipush 100, 2) := by decide +kernel
theorem dL_areRunsSo_104 : decode cL_areRunsSo 104 = .ok (.irem, 1) := by decide +kernel
theorem dL_areRunsSo_105 : decode cL_areRunsSo 105 = .ok (.iload 5, 2) := by decide +kernel
theorem dL_areRunsSo_107 : decode cL_areRunsSo 107 = .ok (.if_icmp .eq 65, 3) := by decide +kernel
theorem dL_areRunsSo_110 : decode cL_areRunsSo 110 = .ok (.aload_n 0, 1) := by decide +kernel
theorem dL_areRunsSo_111 : decode cL_areRunsSo 111 = .ok (.iload_n 1, 1) := by decide +kernel
theorem dL_areRunsSo_112 : decode cL_areRunsSo 112 = .ok (.iload_n 2, 1) := by decide +kernel
theorem dL_areRunsSo_113 : decode cL_areRunsSo 113 = .ok (.iload 12, 2) := by decide +kernel
theorem dL_areRunsSo_115 : decode cL_areRunsSo 115 = .ok (.iload_n 3, 1) := by decide +kernel
theorem dL_areRunsSo_116 : decode cL_areRunsSo 116 = .ok (.invokevirtual 67, 3) := by decide +kernel
theorem dL_areRunsSo_119 : decode cL_areRunsSo 119 = .ok (.iload 11, 2) := by decide +kernel
theorem dL_areRunsSo_121 : decode cL_areRunsSo 121 = .ok (.bipush 100, 2) := by decide +kernel
theorem dL_areRunsSo_123 : decode cL_areRunsSo 123 = .ok (.irem, 1) := by decide +kernel
theorem dL_areRunsSo_124 : decode cL_areRunsSo 124 = .ok (.if_icmp .ne 48, 3) := by decide +kernel
theorem dL_areRunsSo_127 : decode cL_areRunsSo 127 = .ok (.aload_n 0, 1) := by decide +kernel
theorem dL_areRunsSo_128 : decode cL_areRunsSo 128 = .ok (.iload_n 1, 1) := by decide +kernel
theorem dL_areRunsSo_129 : decode cL_areRunsSo 129 = .ok (.iload_n 2, 1) := by decide +kernel
theorem dL_areRunsSo_130 : decode cL_areRunsSo 130 = .ok (.iload 13, 2) := by decide +kernel
theorem dL_areRunsSo_132 : decode cL_areRunsSo 132 = .ok (.iconst 1, 1) := by decide +kernel
theorem dL_areRunsSo_133 : decode cL_areRunsSo 133 = .ok (.isub, 1) := by decide +kernel
theorem dL_areRunsSo_134 : decode cL_areRunsSo 134 = .ok (.iload_n 3, 1) := by decide +kernel
theorem dL_areRunsSo_135 : decode cL_areRunsSo 135 = .ok (.invokevirtual 67, 3) := by decide +kernel
theorem dL_areRunsSo_138 : decode cL_areRunsSo 138 = .ok (.iload 11, 2) := by decide +kernel
theorem dL_areRunsSo_140 : decode cL_areRunsSo 140 = .ok (.bipush 100, 2) := by decide +kernel
theorem dL_areRunsSo_142 : decode cL_areRunsSo 142 = .ok (.irem, 1) := by decide +kernel
theorem dL_areRunsSo_143 : decode cL_areRunsSo 143 = .ok (.if_icmp .ne 29, 3) := by decide +kernel
theorem dL_areRunsSo_146 : decode cL_areRunsSo 146 = .ok (.iload 12, 2) := by decide +kernel
theorem dL_areRunsSo_148 : decode cL_areRunsSo 148 = .ok (.iload 4, 2) := by decide +kernel
theorem dL_areRunsSo_150 : decode cL_areRunsSo 150 = .ok (.if_icmp .eq 18, 3) := by decide +kernel
theorem dL_areRunsSo_153 : decode cL_areRunsSo 153 = .ok (.aload_n 0, 1) := by decide +kernel
theorem dL_areRunsSo_154 : decode cL_areRunsSo 154 = .ok (.iload_n 1, 1) := by decide +kernel
theorem dL_areRunsSo_155 : decode cL_areRunsSo 155 = .ok (.iload_n 2, 1) := by decide +kernel
theorem dL_areRunsSo_156 : decode cL_areRunsSo 156 = .ok (.iload 12, 2) := by decide +kernel
theorem dL_areRunsSo_158 : decode cL_areRunsSo 158 = .ok (.iconst 1, 1) := by decide +kernel
theorem dL_areRunsSo_159 : decode cL_areRunsSo 159 = .ok (.isub, 1) := by decide +kernel
theorem dL_areRunsSo_160 : decode cL_areRunsSo 160 = .ok (.iload_n 3, 1) := by decide +kernel
theorem dL_areRunsSo_161 : decode cL_areRunsSo 161 = .ok (.invokevirtual 67, 3) := by decide +kernel
theorem dL_areRunsSo_164 : decode cL_areRunsSo 164 = .ok (.iconst (-1), 1) := by decide +kernel
theorem dL_areRunsSo_165 : decode cL_areRunsSo 165 = .ok (.if_icmp .ne 7, 3) := by decide +kernel
theorem dL_areRunsSo_168 : decode cL_areRunsSo 168 = .ok (.iconst 1, 1) := by decide +kernel
theorem dL_areRunsSo_169 : decode cL_areRunsSo 169 = .ok (.goto 4, 3) := by decide +kernel
theorem dL_areRunsSo_172 : decode cL_areRunsSo 172 = .ok (.iconst 0, 1) := by decide +kernel
theorem dL_areRunsSo_173 : decode cL_areRunsSo 173 = .ok (.istore 9, 2) := by decide +kernel
theorem dL_areRunsSo_175 : decode cL_areRunsSo 175 = .ok (.iload 13, 2) := by decide +kernel
theorem dL_areRunsSo_177 : decode cL_areRunsSo 177 = .ok (.iload 12, 2) := by decide +kernel
theorem dL_areRunsSo_179 : decode cL_areRunsSo 179 = .ok (.isub, 1) := by decide +kernel
theorem dL_areRunsSo_180 : decode cL_areRunsSo 180 = .ok (.iload 6, 2) := by decide +kernel
theorem dL_areRunsSo_182 : decode cL_areRunsSo 182 = .ok (.if_icmp .le 11, 3) := by decide +kernel
theorem dL_areRunsSo_185 : decode cL_areRunsSo 185 = .ok (.iload 13, 2) := by decide +kernel
theorem dL_areRunsSo_187 : decode cL_areRunsSo 187 = .ok (.iload 12, 2) := by decide +kernel
theorem dL_areRunsSo_189 : decode cL_areRunsSo 189 = .ok (.isub, 1) := by decide +kernel
theorem dL_areRunsSo_190 : decode cL_areRunsSo 190 = .ok (.goto 5, 3) := by decide +kernel
theorem dL_areRunsSo_193 : decode cL_areRunsSo 193 = .ok (.iload 6, 2) := by decide +kernel
theorem dL_areRunsSo_195 : decode cL_areRunsSo 195 = .ok (.istore 6, 2) := by decide +kernel
theorem dL_areRunsSo_197 : decode cL_areRunsSo 197 = .ok (.iload 7, 2) := by decide +kernel
theorem dL_areRunsSo_199 : decode cL_areRunsSo 199 = .ok (.iload 13, 2) := by decide +kernel
theorem dL_areRunsSo_201 : decode cL_areRunsSo 201 = .ok (.iload 12, 2) := by decide +kernel
theorem dL_areRunsSo_203 : decode cL_areRunsSo 203 = .ok (.isub, 1) := by decide +kernel
theorem dL_areRunsSo_204 : decode cL_areRunsSo 204 = .ok (.iadd, 1) := by decide +kernel
theorem dL_areRunsSo_205 : decode cL_areRunsSo 205 = .ok (.istore 7, 2) := by decide +kernel
theorem dL_areRunsSo_207 : decode cL_areRunsSo 207 = .ok (.iload 8, 2) := by decide +kernel
theorem dL_areRunsSo_209 : decode cL_areRunsSo 209 = .ok (.iload 13, 2) := by decide +kernel
theorem dL_areRunsSo_211 : decode cL_areRunsSo 211 = .ok (.iload 12, 2) := by decide +kernel
theorem dL_areRunsSo_213 : decode cL_areRunsSo 213 = .ok (.isub, 1) := by decide +kernel
theorem dL_areRunsSo_214 : decode cL_areRunsSo 214 = .ok (.iload 11, 2) := by decide +kernel
theorem dL_areRunsSo_216 : decode cL_areRunsSo 216 = .ok (.bipush 100, 2) := by decide +kernel
theorem dL_areRunsSo_218 : decode cL_areRunsSo 218 = .ok (.irem, 1) := by decide +kernel
theorem dL_areRunsSo_219 : decode cL_areRunsSo 219 = .ok (.imul, 1) := by decide +kernel
theorem dL_areRunsSo_220 : decode cL_areRunsSo 220 = .ok (.iadd, 1) := by decide +kernel
theorem dL_areRunsSo_221 : decode cL_areRunsSo 221 = .ok (.istore 8, 2) := by decide +kernel
theorem dL_areRunsSo_223 : decode cL_areRunsSo 223 = .ok (.iload 13, 2) := by decide +kernel
theorem dL_areRunsSo_225 : decode cL_areRunsSo 225 = .ok (.istore 4, 2) := by decide +kernel
theorem dL_areRunsSo_227 : decode cL_areRunsSo 227 = .ok (.iload 11, 2) := by decide +kernel
theorem dL_areRunsSo_229 : decode cL_areRunsSo 229 = .ok (.bipush 100, 2) := by decide +kernel
theorem dL_areRunsSo_231 : decode cL_areRunsSo 231 = .ok (.irem, 1) := by decide +kernel
theorem dL_areRunsSo_232 : decode cL_areRunsSo 232 = .ok (.istore 5, 2) := by decide +kernel
theorem dL_areRunsSo_234 : decode cL_areRunsSo 234 = .ok (.iinc 10 1, 3) := by decide +kernel
theorem dL_areRunsSo_237 : decode cL_areRunsSo 237 = .ok (.goto (-216), 3) := by decide +kernel
theorem dL_areRunsSo_240 : decode cL_areRunsSo 240 = .ok (.iload 9, 2) := by decide +kernel
theorem dL_areRunsSo_242 : decode cL_areRunsSo 242 = .ok (.ifCond .eq 39, 3) := by decide +kernel
theorem dL_areRunsSo_245 : decode cL_areRunsSo 245 = .ok (.aload_n 0, 1) := by decide +kernel
theorem dL_areRunsSo_246 : decode cL_areRunsSo 246 = .ok (.iload_n 1, 1) := by decide +kernel
theorem dL_areRunsSo_247 : decode cL_areRunsSo 247 = .ok (.iload_n 2, 1) := by decide +kernel
theorem dL_areRunsSo_248 : decode cL_areRunsSo 248 = .ok (.iload_n 3, 1) := by decide +kernel
theorem dL_areRunsSo_249 : decode cL_areRunsSo 249 = .ok (.invokevirtual 64, 3) := by decide +kernel
theorem dL_areRunsSo_252 : decode cL_areRunsSo 252 = .ok (.iload 6, 2) := by decide +kernel
theorem dL_areRunsSo_254 : decode cL_areRunsSo 254 = .ok (.if_icmp .ne 27, 3) := by decide +kernel
theorem dL_areRunsSo_257 : decode cL_areRunsSo 257 = .ok (.iload 4, 2) := by decide +kernel
theorem dL_areRunsSo_259 : decode cL_areRunsSo 259 = .ok (.bipush 60, 2) := by decide +kernel
theorem dL_areRunsSo_261 : decode cL_areRunsSo 261 = .ok (.if_icmp .eq 16, 3) := by decide +kernel
theorem dL_areRunsSo_264 : decode cL_areRunsSo 264 = .ok (.aload_n 0, 1) := by decide +kernel
theorem dL_areRunsSo_265 : decode cL_areRunsSo 265 = .ok (.iload_n 1, 1) := by decide +kernel
theorem dL_areRunsSo_266 : decode cL_areRunsSo 266 = .ok (.iload_n 2, 1) := by decide +kernel
theorem dL_areRunsSo_267 : decode cL_areRunsSo 267 = .ok (.iload 4, 2) := by decide +kernel
theorem dL_areRunsSo_269 : decode cL_areRunsSo 269 = .ok (.iload_n 3, 1) := by decide +kernel
theorem dL_areRunsSo_270 : decode cL_areRunsSo 270 = .ok (.invokevirtual 67, 3) := by decide +kernel
theorem dL_areRunsSo_273 : decode cL_areRunsSo 273 = .ok (.iconst (-1), 1) := by decide +kernel
theorem dL_areRunsSo_274 : decode cL_areRunsSo 274 = .ok (.if_icmp .ne 7, 3) := by decide +kernel
theorem dL_areRunsSo_277 : decode cL_areRunsSo 277 = .ok (.iconst 1, 1) := by decide +kernel
theorem dL_areRunsSo_278 : decode cL_areRunsSo 278 = .ok (.goto 4, 3) := by decide +kernel
theorem dL_areRunsSo_281 : decode cL_areRunsSo 281 = .ok (.iconst 0, 1) := by decide +kernel
theorem dL_areRunsSo_282 : decode cL_areRunsSo 282 = .ok (.istore 9, 2) := by decide +kernel
theorem dL_areRunsSo_284 : decode cL_areRunsSo 284 = .ok (.iload 9, 2) := by decide +kernel
theorem dL_areRunsSo_286 : decode cL_areRunsSo 286 = .ok (.ifCond .eq 58, 3) := by decide +kernel
theorem dL_areRunsSo_289 : decode cL_areRunsSo 289 = .ok (.iload_n 1, 1) := by decide +kernel
theorem dL_areRunsSo_290 : decode cL_areRunsSo 290 = .ok (.iconst 1, 1) := by decide +kernel
theorem dL_areRunsSo_291 : decode cL_areRunsSo 291 = .ok (.if_icmp .ne 22, 3) := by decide +kernel
theorem dL_areRunsSo_294 : decode cL_areRunsSo 294 = .ok (.aload_n 0, 1) := by decide +kernel
theorem dL_areRunsSo_295 : decode cL_areRunsSo 295 = .ok (.iload_n 2, 1) := by decide +kernel
theorem dL_areRunsSo_296 : decode cL_areRunsSo 296 = .ok (.iload_n 3, 1) := by decide +kernel
theorem dL_areRunsSo_297 : decode cL_areRunsSo 297 = .ok (.invokevirtual 79, 3) := by decide +kernel
theorem dL_areRunsSo_300 : decode cL_areRunsSo 300 = .ok (.aload_n 0, 1) := by decide +kernel
theorem dL_areRunsSo_301 : decode cL_areRunsSo 301 = .ok (.iconst 1, 1) := by decide +kernel
theorem dL_areRunsSo_302 : decode cL_areRunsSo 302 = .ok (.iload_n 2, 1) := by decide +kernel
theorem dL_areRunsSo_303 : decode cL_areRunsSo 303 = .ok (.iload_n 3, 1) := by decide +kernel
theorem dL_areRunsSo_304 : decode cL_areRunsSo 304 = .ok (.invokevirtual 61, 3) := by decide +kernel
theorem dL_areRunsSo_307 : decode cL_areRunsSo 307 = .ok (.if_icmp .lt 37, 3) := by decide +kernel
theorem dL_areRunsSo_310 : decode cL_areRunsSo 310 = .ok (.goto 30, 3) := by decide +kernel
theorem dL_areRunsSo_313 : decode cL_areRunsSo 313 = .ok (.aload_n 0, 1) := by decide +kernel
theorem dL_areRunsSo_314 : decode cL_areRunsSo 314 = .ok (.iload_n 2, 1) := by decide +kernel
theorem dL_areRunsSo_315 : decode cL_areRunsSo 315 = .ok (.iload_n 3, 1) := by decide +kernel
theorem dL_areRunsSo_316 : decode cL_areRunsSo 316 = .ok (.invokestatic 82, 3) := by decide +kernel
theorem dL_areRunsSo_319 : decode cL_areRunsSo 319 = .ok (.iload 7, 2) := by decide +kernel
theorem dL_areRunsSo_321 : decode cL_areRunsSo 321 = .ok (.ifCond .ne 8, 3) := by decide +kernel
theorem dL_areRunsSo_324 : decode cL_areRunsSo 324 = .ok (.ldc 43, 2) := by decide +kernel
theorem dL_areRunsSo_326 : decode cL_areRunsSo 326 = .ok (.goto 10, 3) := by decide +kernel
theorem dL_areRunsSo_329 : decode cL_areRunsSo 329 = .ok (.iload 8, 2) := by decide +kernel
theorem dL_areRunsSo_331 : decode cL_areRunsSo 331 = .ok (.i2f, 1) := by decide +kernel
theorem dL_areRunsSo_332 : decode cL_areRunsSo 332 = .ok (.iload 7, 2) := by decide +kernel
theorem dL_areRunsSo_334 : decode cL_areRunsSo 334 = .ok (.i2f, 1) := by decide +kernel
theorem dL_areRunsSo_335 : decode cL_areRunsSo 335 = .ok (.fdiv, 1) := by decide +kernel
theorem dL_areRunsSo_336 : decode cL_areRunsSo 336 = .ok (.fcmp .l, 1) := by decide +kernel
theorem dL_areRunsSo_337 : decode cL_areRunsSo 337 = .ok (.ifCond .ne 7, 3) := by decide +kernel
theorem dL_areRunsSo_340 : decode cL_areRunsSo 340 = .ok (.iconst 1, 1) := by decide +kernel
theorem dL_areRunsSo_341 : decode cL_areRunsSo 341 = .ok (.goto 4, 3) := by decide +kernel
theorem dL_areRunsSo_344 : decode cL_areRunsSo 344 = .ok (.iconst 0, 1) := by decide +kernel
theorem dL_areRunsSo_345 : decode cL_areRunsSo 345 = .ok (.ireturn, 1) := by decide +kernel
theorem dL_areRowsSo_0 : decode cL_areRowsSo 0 = .ok (.aload_n 0, 1) := by decide +kernel
theorem dL_areRowsSo_1 : decode cL_areRowsSo 1 = .ok (.iload_n 1, 1) := by decide +kernel
theorem dL_areRowsSo_2 : decode cL_areRowsSo 2 = .ok (.iload_n 2, 1) := by decide +kernel
theorem dL_areRowsSo_3 : decode cL_areRowsSo 3 = .ok (.invokevirtual 58, 3) := by decide +kernel
theorem dL_areRowsSo_6 : decode cL_areRowsSo 6 = .ok (.istore_n 3, 1) := by decide +kernel
theorem dL_areRowsSo_7 : decode cL_areRowsSo 7 = .ok (.iconst 0, 1) := by decide +kernel
theorem dL_areRowsSo_8 : decode cL_areRowsSo 8 = .ok (.istore 4, 2) := by decide +kernel
theorem dL_areRowsSo_10 : decode cL_areRowsSo 10 = .ok (.aload_n 0, 1) := by decide +kernel
theorem dL_areRowsSo_11 : decode cL_areRowsSo 11 = .ok (.iload_n 1, 1) := by decide +kernel
theorem dL_areRowsSo_12 : decode cL_areRowsSo 12 = .ok (.iload_n 2, 1) := by decide +kernel
theorem dL_areRowsSo_13 : decode cL_areRowsSo 13 = .ok (.iload_n 3, 1) := by decide +kernel
theorem dL_areRowsSo_14 : decode cL_areRowsSo 14 = .ok (.invokestatic 85, 3) := by decide +kernel
theorem dL_areRowsSo_17 : decode cL_areRowsSo 17 = .ok (.ldc 31, 2) := by decide +kernel
theorem dL_areRowsSo_19 : decode cL_areRowsSo 19 = .ok (.if_icmp .ne 19, 3) := by decide +kernel
theorem dL_areRowsSo_22 : decode cL_areRowsSo 22 = .ok (.aload_n 0, 1) := by decide +kernel
theorem dL_areRowsSo_23 : decode cL_areRowsSo 23 = .ok (.iload_n 1, 1) := by decide +kernel
theorem dL_areRowsSo_24 : decode cL_areRowsSo 24 = .ok (.iload_n 2, 1) := by decide +kernel
theorem dL_areRowsSo_25 : decode cL_areRowsSo 25 = .ok (.iconst (-1), 1) := by decide +kernel
theorem dL_areRowsSo_26 : decode cL_areRowsSo 26 = .ok (.invokestatic 85, 3) := by decide +kernel
theorem dL_areRowsSo_29 : decode cL_areRowsSo 29 = .ok (.ldc 31, 2) := by decide +kernel
theorem dL_areRowsSo_31 : decode cL_areRowsSo 31 = .ok (.if_icmp .ne 7, 3) := by decide +kernel
theorem dL_areRowsSo_34 : decode cL_areRowsSo 34 = .ok (.iconst 1, 1) := by decide +kernel
theorem dL_areRowsSo_35 : decode cL_areRowsSo 35 = .ok (.goto 4, 3) := by decide +kernel
theorem dL_areRowsSo_38 : decode cL_areRowsSo 38 = .ok (.iconst 0, 1) := by decide +kernel
theorem dL_areRowsSo_39 : decode cL_areRowsSo 39 = .ok (.istore 5, 2) := by decide +kernel
theorem dL_areRowsSo_41 : decode cL_areRowsSo 41 = .ok (.iconst 0, 1) := by decide +kernel
theorem dL_areRowsSo_42 : decode cL_areRowsSo 42 = .ok (.istore 6, 2) := by decide +kernel
theorem dL_areRowsSo_44 : decode cL_areRowsSo 44 = .ok (.iload 6, 2) := by decide +kernel
theorem dL_areRowsSo_46 : decode cL_areRowsSo 46 = .ok (.iload_n 3, 1) := by decide +kernel
theorem dL_areRowsSo_47 : decode cL_areRowsSo 47 = .ok (.if_icmp .ge 198, 3) := by decide +kernel
theorem dL_areRowsSo_50 : decode cL_areRowsSo 50 = .ok (.iload 5, 2) := by decide +kernel
theorem dL_areRowsSo_52 : decode cL_areRowsSo 52 = .ok (.ifCond .eq 193, 3) := by decide +kernel
theorem dL_areRowsSo_55 : decode cL_areRowsSo 55 = .ok (.aload_n 0, 1) := by decide +kernel
theorem dL_areRowsSo_56 : decode cL_areRowsSo 56 = .ok (.iload_n 1, 1) := by decide +kernel
theorem dL_areRowsSo_57 : decode cL_areRowsSo 57 = .ok (.iload_n 2, 1) := by decide +kernel
theorem dL_areRowsSo_58 : decode cL_areRowsSo 58 = .ok (.iload 6, 2) := by decide +kernel
theorem dL_areRowsSo_60 : decode cL_areRowsSo 60 = .ok (.invokevirtual 36, 3) := by decide +kernel
theorem dL_areRowsSo_63 : decode cL_areRowsSo 63 = .ok (.istore 7, 2) := by decide +kernel
theorem dL_areRowsSo_65 : decode cL_areRowsSo 65 = .ok (.aload_n 0, 1) := by decide +kernel
theorem dL_areRowsSo_66 : decode cL_areRowsSo 66 = .ok (.iload_n 1, 1) := by decide +kernel
theorem dL_areRowsSo_67 : decode cL_areRowsSo 67 = .ok (.iload_n 2, 1) := by decide +kernel
theorem dL_areRowsSo_68 : decode cL_areRowsSo 68 = .ok (.iload 6, 2) := by decide +kernel
theorem dL_areRowsSo_70 : decode cL_areRowsSo 70 = .ok (.invokevirtual 88, 3) := by decide +kernel
theorem dL_areRowsSo_73 : decode cL_areRowsSo 73 = .ok (.istore 8, 2) := by decide +kernel
theorem dL_areRowsSo_75 : decode cL_areRowsSo 75 = .ok (.aload_n 0, 1) := by decide +kernel
theorem dL_areRowsSo_76 : decode cL_areRowsSo 76 = .ok (.iload_n 1, 1) := by decide +kernel
theorem dL_areRowsSo_77 : decode cL_areRowsSo 77 = .ok (.iload_n 2, 1) := by decide +kernel
theorem dL_areRowsSo_78 : decode cL_areRowsSo 78 = .ok (.iload 6, 2) := by decide +kernel
theorem dL_areRowsSo_80 : decode cL_areRowsSo 80 = .ok (.invokevirtual 91, 3) := by decide +kernel
theorem dL_areRowsSo_83 : decode cL_areRowsSo 83 = .ok (.istore 9, 2) := by decide +kernel
theorem dL_areRowsSo_85 : decode cL_areRowsSo 85 = .ok (.iload 9, 2) := by decide +kernel
theorem dL_areRowsSo_87 : decode cL_areRowsSo 87 = .ok (.ifCond .ge 12, 3) := by decide +kernel
theorem dL_areRowsSo_90 : decode cL_areRowsSo 90 = .ok (.aload_n 0, 1) := by decide +kernel
theorem dL_areRowsSo_91 : decode cL_areRowsSo 91 = .ok (.invokevirtual 54, 3) := by decide +kernel
theorem dL_areRowsSo_94 : decode cL_areRowsSo 94 = .ok (.iconst 1, 1) := by decide +kernel
theorem dL_areRowsSo_95 : decode cL_areRowsSo 95 = .ok (.iadd, 1) := by decide +kernel
theorem dL_areRowsSo_96 : decode cL_areRowsSo 96 = .ok (.goto 5, 3) := by decide +kernel
theorem dL_areRowsSo_99 : decode cL_areRowsSo 99 = .ok (.iload 9, 2) := by decide +kernel
theorem dL_areRowsSo_101 : decode cL_areRowsSo 101 = .ok (.istore 10, 2) := by decide +kernel
theorem dL_areRowsSo_103 : decode cL_areRowsSo 103 = .ok (.iload 4, 2) := by decide +kernel
theorem dL_areRowsSo_105 : decode cL_areRowsSo 105 = .ok (.iload 10, 2) := by decide +kernel
theorem dL_areRowsSo_107 : decode cL_areRowsSo 107 = .ok (.iload 8, 2) := by decide +kernel
theorem dL_areRowsSo_109 : decode cL_areRowsSo 109 = .ok (.isub, 1) := by decide +kernel
theorem dL_areRowsSo_110 : decode cL_areRowsSo 110 = .ok (.iadd, 1) := by decide +kernel
theorem dL_areRowsSo_111 : decode cL_areRowsSo 111 = .ok (.istore 4, 2) := by decide +kernel
theorem dL_areRowsSo_113 : decode cL_areRowsSo 113 = .ok (.iload 8, 2) := by decide +kernel
theorem dL_areRowsSo_115 : decode cL_areRowsSo 115 = .ok (.ifCond .lt 121, 3) := by decide +kernel
theorem dL_areRowsSo_118 : decode cL_areRowsSo 118 = .ok (.iload 8, 2) := by decide +kernel
theorem dL_areRowsSo_120 : decode cL_areRowsSo 120 = .ok (.iload 10, 2) := by decide +kernel
theorem dL_areRowsSo_122 : decode cL_areRowsSo 122 = .ok (.if_icmp .ge 114, 3) := by decide +kernel
theorem dL_areRowsSo_125 : decode cL_areRowsSo 125 = .ok (.iload 10, 2) := by decide +kernel
theorem dL_areRowsSo_127 : decode cL_areRowsSo 127 = .ok (.aload_n 0, 1) := by decide +kernel
theorem dL_areRowsSo_128 : decode cL_areRowsSo 128 = .ok (.invokevirtual 54, 3) := by decide +kernel
theorem dL_areRowsSo_131 : decode cL_areRowsSo 131 = .ok (.iconst 1, 1) := by decide +kernel
theorem dL_areRowsSo_132 : decode cL_areRowsSo 132 = .ok (.iadd, 1) := by decide +kernel
theorem dL_areRowsSo_133 : decode cL_areRowsSo 133 = .ok (.if_icmp .gt 103, 3) := by decide +kernel
theorem dL_areRowsSo_136 : decode cL_areRowsSo 136 = .ok (.iload 9, 2) := by decide +kernel
theorem dL_areRowsSo_138 : decode cL_areRowsSo 138 = .ok (.ifCond .ge 7, 3) := by decide +kernel
theorem dL_areRowsSo_141 : decode cL_areRowsSo 141 = .ok (.iconst 1, 1) := by decide +kernel
theorem dL_areRowsSo_142 : decode cL_areRowsSo 142 = .ok (.goto 4, 3) := by decide +kernel
theorem dL_areRowsSo_145 : decode cL_areRowsSo 145 = .ok (.iconst 0, 1) := by decide +kernel
theorem dL_areRowsSo_146 : decode cL_areRowsSo 146 = .ok (.aload_n 0, 1) := by decide +kernel
theorem dL_areRowsSo_147 : decode cL_areRowsSo 147 = .ok (.iload_n 1, 1) := by decide +kernel
theorem dL_areRowsSo_148 : decode cL_areRowsSo 148 = .ok (.iload_n 2, 1) := by decide +kernel
theorem dL_areRowsSo_149 : decode cL_areRowsSo 149 = .ok (.aload_n 0, 1) := by decide +kernel
theorem dL_areRowsSo_150 : decode cL_areRowsSo 150 = .ok (.invokevirtual 54, 3) := by decide +kernel
theorem dL_areRowsSo_153 : decode cL_areRowsSo 153 = .ok (.iload 7, 2) := by decide +kernel
theorem dL_areRowsSo_155 : decode cL_areRowsSo 155 = .ok (.iload 8, 2) := by decide +kernel
theorem dL_areRowsSo_157 : decode cL_areRowsSo 157 = .ok (.iload 10, 2) := by decide +kernel
theorem dL_areRowsSo_159 : decode cL_areRowsSo 159 = .ok (.invokestatic 94, 3) := by decide +kernel
theorem dL_areRowsSo_162 : decode cL_areRowsSo 162 = .ok (.if_icmp .ne 74, 3) := by decide +kernel
theorem dL_areRowsSo_165 : decode cL_areRowsSo 165 = .ok (.aload_n 0, 1) := by decide +kernel
theorem dL_areRowsSo_166 : decode cL_areRowsSo 166 = .ok (.iload_n 1, 1) := by decide +kernel
theorem dL_areRowsSo_167 : decode cL_areRowsSo 167 = .ok (.iload_n 2, 1) := by decide +kernel
theorem dL_areRowsSo_168 : decode cL_areRowsSo 168 = .ok (.iload 8, 2) := by decide +kernel
theorem dL_areRowsSo_170 : decode cL_areRowsSo 170 = .ok (.iload 7, 2) := by decide +kernel
theorem dL_areRowsSo_172 : decode cL_areRowsSo 172 = .ok (.iload 8, 2) := by decide +kernel
theorem dL_areRowsSo_174 : decode cL_areRowsSo 174 = .ok (.iload 10, 2) := by decide +kernel
theorem dL_areRowsSo_176 : decode cL_areRowsSo 176 = .ok (.invokestatic 94, 3) := by decide +kernel
theorem dL_areRowsSo_179 : decode cL_areRowsSo 179 = .ok (.ifCond .eq 57, 3) := by decide +kernel
theorem dL_areRowsSo_182 : decode cL_areRowsSo 182 = .ok (.iload 8, 2) := by decide +kernel
theorem dL_areRowsSo_184 : decode cL_areRowsSo 184 = .ok (.ifCond .le 24, 3) := by decide +kernel
theorem dL_areRowsSo_187 : decode cL_areRowsSo 187 = .ok (.aload_n 0, 1) := by decide +kernel
theorem dL_areRowsSo_188 : decode cL_areRowsSo 188 = .ok (.iload_n 1, 1) := by decide +kernel
theorem dL_areRowsSo_189 : decode cL_areRowsSo 189 = .ok (.iload_n 2, 1) := by decide +kernel
theorem dL_areRowsSo_190 : decode cL_areRowsSo 190 = .ok (.iload 8, 2) := by decide +kernel
theorem dL_areRowsSo_192 : decode cL_areRowsSo 192 = .ok (.iconst 1, 1) := by decide +kernel
theorem dL_areRowsSo_193 : decode cL_areRowsSo 193 = .ok (.isub, 1) := by decide +kernel
theorem dL_areRowsSo_194 : decode cL_areRowsSo 194 = .ok (.iload 7, 2) := by decide +kernel
theorem dL_areRowsSo_196 : decode cL_areRowsSo 196 = .ok (.iload 8, 2) := by decide +kernel
theorem dL_areRowsSo_198 : decode cL_areRowsSo 198 = .ok (.iconst 1, 1) := by decide +kernel
theorem dL_areRowsSo_199 : decode cL_areRowsSo 199 = .ok (.isub, 1) := by decide +kernel
theorem dL_areRowsSo_200 : decode cL_areRowsSo 200 = .ok (.iload 10, 2) := by decide +kernel
theorem dL_areRowsSo_202 : decode cL_areRowsSo 202 = .ok (.invokestatic 94, 3) := by decide +kernel
theorem dL_areRowsSo_205 : decode cL_areRowsSo 205 = .ok (.ifCond .ne 31, 3) := by decide +kernel
theorem dL_areRowsSo_208 : decode cL_areRowsSo 208 = .ok (.iload 9, 2) := by decide +kernel
theorem dL_areRowsSo_210 : decode cL_areRowsSo 210 = .ok (.ifCond .lt 22, 3) := by decide +kernel
theorem dL_areRowsSo_213 : decode cL_areRowsSo 213 = .ok (.aload_n 0, 1) := by decide +kernel
theorem dL_areRowsSo_214 : decode cL_areRowsSo 214 = .ok (.iload_n 1, 1) := by decide +kernel
theorem dL_areRowsSo_215 : decode cL_areRowsSo 215 = .ok (.iload_n 2, 1) := by decide +kernel
theorem dL_areRowsSo_216 : decode cL_areRowsSo 216 = .ok (.iload 9, 2) := by decide +kernel
theorem dL_areRowsSo_218 : decode cL_areRowsSo 218 = .ok (.iload 7, 2) := by decide +kernel
theorem dL_areRowsSo_220 : decode cL_areRowsSo 220 = .ok (.iload 8, 2) := by decide +kernel
theorem dL_areRowsSo_222 : decode cL_areRowsSo 222 = .ok (.iload 9, 2) := by decide +kernel
theorem dL_areRowsSo_224 : decode cL_areRowsSo 224 = .ok (.iconst 1, 1) := by decide +kernel
theorem dL_areRowsSo_225 : decode cL_areRowsSo 225 = .ok (.iadd, 1) := by decide +kernel
theorem dL_areRowsSo_226 : decode cL_areRowsSo 226 = .ok (.invokestatic 94, 3) := by decide +kernel
theorem dL_areRowsSo_229 : decode cL_areRowsSo 229 = .ok (.ifCond .ne 7, 3) := by decide +kernel
theorem dL_areRowsSo_232 : decode cL_areRowsSo 232 = .ok (.iconst 1, 1) := by decide +kernel
theorem dL_areRowsSo_233 : decode cL_areRowsSo 233 = .ok (.goto 4, 3) := by decide +kernel
theorem dL_areRowsSo_236 : decode cL_areRowsSo 236 = .ok (.iconst 0, 1) := by decide +kernel
theorem dL_areRowsSo_237 : decode cL_areRowsSo 237 = .ok (.istore 5, 2) := by decide +kernel
theorem dL_areRowsSo_239 : decode cL_areRowsSo 239 = .ok (.iinc 6 1, 3) := by decide +kernel
theorem dL_areRowsSo_242 : decode cL_areRowsSo 242 = .ok (.goto (-198), 3) := by decide +kernel
theorem dL_areRowsSo_245 : decode cL_areRowsSo 245 = .ok (.iconst 0, 1) := by decide +kernel
theorem dL_areRowsSo_246 : decode cL_areRowsSo 246 = .ok (.istore 6, 2) := by decide +kernel
theorem dL_areRowsSo_248 : decode cL_areRowsSo 248 = .ok (.iload 6, 2) := by decide +kernel
theorem dL_areRowsSo_250 : decode cL_areRowsSo 250 = .ok (.aload_n 0, 1) := by decide +kernel
theorem dL_areRowsSo_251 : decode cL_areRowsSo 251 = .ok (.invokevirtual 54, 3) := by decide +kernel
theorem dL_areRowsSo_254 : decode cL_areRowsSo 254 = .ok (.if_icmp .gt 22, 3) := by decide +kernel
theorem dL_areRowsSo_257 : decode cL_areRowsSo 257 = .ok (.iload 4, 2) := by decide +kernel
theorem dL_areRowsSo_259 : decode cL_areRowsSo 259 = .ok (.aload_n 0, 1) := by decide +kernel
theorem dL_areRowsSo_260 : decode cL_areRowsSo 260 = .ok (.iload_n 1, 1) := by decide +kernel
theorem dL_areRowsSo_261 : decode cL_areRowsSo 261 = .ok (.iload_n 2, 1) := by decide +kernel
theorem dL_areRowsSo_262 : decode cL_areRowsSo 262 = .ok (.iload 6, 2) := by decide +kernel
theorem dL_areRowsSo_264 : decode cL_areRowsSo 264 = .ok (.invokevirtual 61, 3) := by decide +kernel
theorem dL_areRowsSo_267 : decode cL_areRowsSo 267 = .ok (.isub, 1) := by decide +kernel
theorem dL_areRowsSo_268 : decode cL_areRowsSo 268 = .ok (.istore 4, 2) := by decide +kernel
theorem dL_areRowsSo_270 : decode cL_areRowsSo 270 = .ok (.iinc 6 1, 3) := by decide +kernel
theorem dL_areRowsSo_273 : decode cL_areRowsSo 273 = .ok (.goto (-25), 3) := by decide +kernel
theorem dL_areRowsSo_276 : decode cL_areRowsSo 276 = .ok (.iload 5, 2) := by decide +kernel
theorem dL_areRowsSo_278 : decode cL_areRowsSo 278 = .ok (.ifCond .eq 12, 3) := by decide +kernel
theorem dL_areRowsSo_281 : decode cL_areRowsSo 281 = .ok (.iload 4, 2) := by decide +kernel
theorem dL_areRowsSo_283 : decode cL_areRowsSo 283 = .ok (.ifCond .ne 7, 3) := by decide +kernel
theorem dL_areRowsSo_286 : decode cL_areRowsSo 286 = .ok (.iconst 1, 1) := by decide +kernel
theorem dL_areRowsSo_287 : decode cL_areRowsSo 287 = .ok (.goto 4, 3) := by decide +kernel
theorem dL_areRowsSo_290 : decode cL_areRowsSo 290 = .ok (.iconst 0, 1) := by decide +kernel
theorem dL_areRowsSo_291 : decode cL_areRowsSo 291 = .ok (.ireturn, 1) := by decide +kernel
theorem dL_hasRun_0 : decode cL_hasRun 0 = .ok (.iconst 0, 1) := by decide +kernel
theorem dL_hasRun_1 : decode cL_hasRun 1 = .ok (.istore 7, 2) := by decide +kernel
theorem dL_hasRun_3 : decode cL_hasRun 3 = .ok (.iconst 0, 1) := by decide +kernel
theorem dL_hasRun_4 : decode cL_hasRun 4 = .ok (.istore 8, 2) := by decide +kernel
theorem dL_hasRun_6 : decode cL_hasRun 6 = .ok (.iload 8, 2) := by decide +kernel
theorem dL_hasRun_8 : decode cL_hasRun 8 = .ok (.aload_n 0, 1) := by decide +kernel
theorem dL_hasRun_9 : decode cL_hasRun 9 = .ok (.iload_n 1, 1) := by decide +kernel
theorem dL_hasRun_10 : decode cL_hasRun 10 = .ok (.iload_n 2, 1) := by decide +kernel
theorem dL_hasRun_11 : decode cL_hasRun 11 = .ok (.iload_n 3, 1) := by decide +kernel
theorem dL_hasRun_12 : decode cL_hasRun 12 = .ok (.invokevirtual 61, 3) := by decide +kernel
theorem dL_hasRun_15 : decode cL_hasRun 15 = .ok (.if_icmp .ge 47, 3) := by decide +kernel
theorem dL_hasRun_18 : decode cL_hasRun 18 = .ok (.iload_n 3, 1) := by decide +kernel
theorem dL_hasRun_19 : decode cL_hasRun 19 = .ok (.iload 5, 2) := by decide +kernel
theorem dL_hasRun_21 : decode cL_hasRun 21 = .ok (.if_icmp .lt 41, 3) := by decide +kernel
theorem dL_hasRun_24 : decode cL_hasRun 24 = .ok (.iload_n 3, 1) := by decide +kernel
theorem dL_hasRun_25 : decode cL_hasRun 25 = .ok (.iload 6, 2) := by decide +kernel
theorem dL_hasRun_27 : decode cL_hasRun 27 = .ok (.if_icmp .ge 35, 3) := by decide +kernel
theorem dL_hasRun_30 : decode cL_hasRun 30 = .ok (.iload 7, 2) := by decide +kernel
theorem dL_hasRun_32 : decode cL_hasRun 32 = .ok (.ifCond .ne 17, 3) := by decide +kernel
theorem dL_hasRun_35 : decode cL_hasRun 35 = .ok (.aload_n 0, 1) := by decide +kernel
theorem dL_hasRun_36 : decode cL_hasRun 36 = .ok (.iload_n 1, 1) := by decide +kernel
theorem dL_hasRun_37 : decode cL_hasRun 37 = .ok (.iload_n 2, 1) := by decide +kernel
theorem dL_hasRun_38 : decode cL_hasRun 38 = .ok (.iload_n 3, 1) := by decide +kernel
theorem dL_hasRun_39 : decode cL_hasRun 39 = .ok (.iload 8, 2) := by decide +kernel
theorem dL_hasRun_41 : decode cL_hasRun 41 = .ok (.invokevirtual 76, 3) := by decide +kernel
theorem dL_hasRun_44 : decode cL_hasRun 44 = .ok (.iload 4, 2) := by decide +kernel
theorem dL_hasRun_46 : decode cL_hasRun 46 = .ok (.if_icmp .ne 7, 3) := by decide +kernel
theorem dL_hasRun_49 : decode cL_hasRun 49 = .ok (.iconst 1, 1) := by decide +kernel
theorem dL_hasRun_50 : decode cL_hasRun 50 = .ok (.goto 4, 3) := by decide +kernel
theorem dL_hasRun_53 : decode cL_hasRun 53 = .ok (.iconst 0, 1) := by decide +kernel
theorem dL_hasRun_54 : decode cL_hasRun 54 = .ok (.istore 7, 2) := by decide +kernel
theorem dL_hasRun_56 : decode cL_hasRun 56 = .ok (.iinc 8 1, 3) := by decide +kernel
theorem dL_hasRun_59 : decode cL_hasRun 59 = .ok (.goto (-53), 3) := by decide +kernel
theorem dL_hasRun_62 : decode cL_hasRun 62 = .ok (.iload 7, 2) := by decide +kernel
theorem dL_hasRun_64 : decode cL_hasRun 64 = .ok (.ireturn, 1) := by decide +kernel
theorem dL_isRestoredSo_0 : decode cL_isRestoredSo 0 = .ok (.aload_n 0, 1) := by decide +kernel
theorem dL_isRestoredSo_1 : decode cL_isRestoredSo 1 = .ok (.invokevirtual 54, 3) := by decide +kernel
theorem dL_isRestoredSo_4 : decode cL_isRestoredSo 4 = .ok (.istore 5, 2) := by decide +kernel
theorem dL_isRestoredSo_6 : decode cL_isRestoredSo 6 = .ok (.aload_n 0, 1) := by decide +kernel
theorem dL_isRestoredSo_7 : decode cL_isRestoredSo 7 = .ok (.iload_n 2, 1) := by decide +kernel
theorem dL_isRestoredSo_8 : decode cL_isRestoredSo 8 = .ok (.iload_n 3, 1) := by decide +kernel
theorem dL_isRestoredSo_9 : decode cL_isRestoredSo 9 = .ok (.invokevirtual 58, 3) := by decide +kernel
theorem dL_isRestoredSo_12 : decode cL_isRestoredSo 12 = .ok (.istore 6, 2) := by decide +kernel
theorem dL_isRestoredSo_14 : decode cL_isRestoredSo 14 = .ok (.aload_n 0, 1) := by decide +kernel
theorem dL_isRestoredSo_15 : decode cL_isRestoredSo 15 = .ok (.iconst 3, 1) := by decide +kernel
theorem dL_isRestoredSo_16 : decode cL_isRestoredSo 16 = .ok (.iload_n 2, 1) := by decide +kernel
theorem dL_isRestoredSo_17 : decode cL_isRestoredSo 17 = .ok (.iload_n 3, 1) := by decide +kernel
theorem dL_isRestoredSo_18 : decode cL_isRestoredSo 18 = .ok (.iconst 0, 1) := by decide +kernel
theorem dL_isRestoredSo_19 : decode cL_isRestoredSo 19 = .ok (.iload 4, 2) := by decide +kernel
theorem dL_isRestoredSo_21 : decode cL_isRestoredSo 21 = .ok (.iconst 0, 1) := by decide +kernel
theorem dL_isRestoredSo_22 : decode cL_isRestoredSo 22 = .ok (.invokestatic 50, 3) := by decide +kernel
theorem dL_isRestoredSo_25 : decode cL_isRestoredSo 25 = .ok (.istore 7, 2) := by decide +kernel
theorem dL_isRestoredSo_27 : decode cL_isRestoredSo 27 = .ok (.aload_n 1, 1) := by decide +kernel
theorem dL_isRestoredSo_28 : decode cL_isRestoredSo 28 = .ok (.iconst 3, 1) := by decide +kernel
theorem dL_isRestoredSo_29 : decode cL_isRestoredSo 29 = .ok (.iload_n 2, 1) := by decide +kernel
theorem dL_isRestoredSo_30 : decode cL_isRestoredSo 30 = .ok (.iload_n 3, 1) := by decide +kernel
theorem dL_isRestoredSo_31 : decode cL_isRestoredSo 31 = .ok (.iconst 0, 1) := by decide +kernel
theorem dL_isRestoredSo_32 : decode cL_isRestoredSo 32 = .ok (.iload 4, 2) := by decide +kernel
theorem dL_isRestoredSo_34 : decode cL_isRestoredSo 34 = .ok (.iconst 0, 1) := by decide +kernel
theorem dL_isRestoredSo_35 : decode cL_isRestoredSo 35 = .ok (.invokestatic 50, 3) := by decide +kernel
theorem dL_isRestoredSo_38 : decode cL_isRestoredSo 38 = .ok (.iload 7, 2) := by decide +kernel
theorem dL_isRestoredSo_40 : decode cL_isRestoredSo 40 = .ok (.if_icmp .ne 19, 3) := by decide +kernel
theorem dL_isRestoredSo_43 : decode cL_isRestoredSo 43 = .ok (.iload 4, 2) := by decide +kernel
theorem dL_isRestoredSo_45 : decode cL_isRestoredSo 45 = .ok (.iload 5, 2) := by decide +kernel
theorem dL_isRestoredSo_47 : decode cL_isRestoredSo 47 = .ok (.if_icmp .lt 8, 3) := by decide +kernel
theorem dL_isRestoredSo_50 : decode cL_isRestoredSo 50 = .ok (.iload 7, 2) := by decide +kernel
theorem dL_isRestoredSo_52 : decode cL_isRestoredSo 52 = .ok (.ifCond .ne 7, 3) := by decide +kernel
theorem dL_isRestoredSo_55 : decode cL_isRestoredSo 55 = .ok (.iconst 1, 1) := by decide +kernel
theorem dL_isRestoredSo_56 : decode cL_isRestoredSo 56 = .ok (.goto 4, 3) := by decide +kernel
theorem dL_isRestoredSo_59 : decode cL_isRestoredSo 59 = .ok (.iconst 0, 1) := by decide +kernel
theorem dL_isRestoredSo_60 : decode cL_isRestoredSo 60 = .ok (.istore 8, 2) := by decide +kernel
theorem dL_isRestoredSo_62 : decode cL_isRestoredSo 62 = .ok (.iconst 0, 1) := by decide +kernel
theorem dL_isRestoredSo_63 : decode cL_isRestoredSo 63 = .ok (.istore 9, 2) := by decide +kernel
theorem dL_isRestoredSo_65 : decode cL_isRestoredSo 65 = .ok (.iload 9, 2) := by decide +kernel
theorem dL_isRestoredSo_67 : decode cL_isRestoredSo 67 = .ok (.bipush 60, 2) := by decide +kernel
theorem dL_isRestoredSo_69 : decode cL_isRestoredSo 69 = .ok (.if_icmp .ge 49, 3) := by decide +kernel
theorem dL_isRestoredSo_72 : decode cL_isRestoredSo 72 = .ok (.iload 7, 2) := by decide +kernel
theorem dL_isRestoredSo_74 : decode cL_isRestoredSo 74 = .ok (.ifCond .lt 44, 3) := by decide +kernel
theorem dL_isRestoredSo_77 : decode cL_isRestoredSo 77 = .ok (.iload 8, 2) := by decide +kernel
theorem dL_isRestoredSo_79 : decode cL_isRestoredSo 79 = .ok (.ifCond .eq 39, 3) := by decide +kernel
theorem dL_isRestoredSo_82 : decode cL_isRestoredSo 82 = .ok (.aload_n 0, 1) := by decide +kernel
theorem dL_isRestoredSo_83 : decode cL_isRestoredSo 83 = .ok (.iload_n 2, 1) := by decide +kernel
theorem dL_isRestoredSo_84 : decode cL_isRestoredSo 84 = .ok (.iload_n 3, 1) := by decide +kernel
theorem dL_isRestoredSo_85 : decode cL_isRestoredSo 85 = .ok (.iload 9, 2) := by decide +kernel
theorem dL_isRestoredSo_87 : decode cL_isRestoredSo 87 = .ok (.iload 5, 2) := by decide +kernel
theorem dL_isRestoredSo_89 : decode cL_isRestoredSo 89 = .ok (.invokevirtual 67, 3) := by decide +kernel
theorem dL_isRestoredSo_92 : decode cL_isRestoredSo 92 = .ok (.aload_n 0, 1) := by decide +kernel
theorem dL_isRestoredSo_93 : decode cL_isRestoredSo 93 = .ok (.iload_n 2, 1) := by decide +kernel
theorem dL_isRestoredSo_94 : decode cL_isRestoredSo 94 = .ok (.iload_n 3, 1) := by decide +kernel
theorem dL_isRestoredSo_95 : decode cL_isRestoredSo 95 = .ok (.iload 9, 2) := by decide +kernel
theorem dL_isRestoredSo_97 : decode cL_isRestoredSo 97 = .ok (.iload 4, 2) := by decide +kernel
theorem dL_isRestoredSo_99 : decode cL_isRestoredSo 99 = .ok (.invokevirtual 67, 3) := by decide +kernel
theorem dL_isRestoredSo_102 : decode cL_isRestoredSo 102 = .ok (.if_icmp .ne 7, 3) := by decide +kernel
theorem dL_isRestoredSo_105 : decode cL_isRestoredSo 105 = .ok (.iconst 1, 1) := by decide +kernel
theorem dL_isRestoredSo_106 : decode cL_isRestoredSo 106 = .ok (.goto 4, 3) := by decide +kernel
theorem dL_isRestoredSo_109 : decode cL_isRestoredSo 109 = .ok (.iconst 0, 1) := by decide +kernel
theorem dL_isRestoredSo_110 : decode cL_isRestoredSo 110 = .ok (.istore 8, 2) := by decide +kernel
theorem dL_isRestoredSo_112 : decode cL_isRestoredSo 112 = .ok (.iinc 9 1, 3) := by decide +kernel
theorem dL_isRestoredSo_115 : decode cL_isRestoredSo 115 = .ok (.goto (-50), 3) := by decide +kernel
theorem dL_isRestoredSo_118 : decode cL_isRestoredSo 118 = .ok (.iload 8, 2) := by decide +kernel
theorem dL_isRestoredSo_120 : decode cL_isRestoredSo 120 = .ok (.ifCond .eq 30, 3) := by decide +kernel
theorem dL_isRestoredSo_123 : decode cL_isRestoredSo 123 = .ok (.iload 7, 2) := by decide +kernel
theorem dL_isRestoredSo_125 : decode cL_isRestoredSo 125 = .ok (.ifCond .ne 14, 3) := by decide +kernel
theorem dL_isRestoredSo_128 : decode cL_isRestoredSo 128 = .ok (.aload_n 0, 1) := by decide +kernel
theorem dL_isRestoredSo_129 : decode cL_isRestoredSo 129 = .ok (.iload_n 2, 1) := by decide +kernel
theorem dL_isRestoredSo_130 : decode cL_isRestoredSo 130 = .ok (.iload_n 3, 1) := by decide +kernel
theorem dL_isRestoredSo_131 : decode cL_isRestoredSo 131 = .ok (.invokevirtual 58, 3) := by decide +kernel
theorem dL_isRestoredSo_134 : decode cL_isRestoredSo 134 = .ok (.iload 6, 2) := by decide +kernel
theorem dL_isRestoredSo_136 : decode cL_isRestoredSo 136 = .ok (.if_icmp .ne 14, 3) := by decide +kernel
theorem dL_isRestoredSo_139 : decode cL_isRestoredSo 139 = .ok (.iload 7, 2) := by decide +kernel
theorem dL_isRestoredSo_141 : decode cL_isRestoredSo 141 = .ok (.bipush 60, 2) := by decide +kernel
theorem dL_isRestoredSo_143 : decode cL_isRestoredSo 143 = .ok (.if_icmp .gt 7, 3) := by decide +kernel
theorem dL_isRestoredSo_146 : decode cL_isRestoredSo 146 = .ok (.iconst 1, 1) := by decide +kernel
theorem dL_isRestoredSo_147 : decode cL_isRestoredSo 147 = .ok (.goto 4, 3) := by decide +kernel
theorem dL_isRestoredSo_150 : decode cL_isRestoredSo 150 = .ok (.iconst 0, 1) := by decide +kernel
theorem dL_isRestoredSo_151 : decode cL_isRestoredSo 151 = .ok (.ireturn, 1) := by decide +kernel
theorem dL_law_0 : decode cL_law 0 = .ok (.new 9, 3) := by decide +kernel
theorem dL_law_3 : decode cL_law 3 = .ok (.dup, 1) := by decide +kernel
theorem dL_law_4 : decode cL_law 4 = .ok (.invokespecial 98, 3) := by decide +kernel
theorem dL_law_7 : decode cL_law 7 = .ok (.astore_n 1, 1) := by decide +kernel
theorem dL_law_8 : decode cL_law 8 = .ok (.new 9, 3) := by decide +kernel
theorem dL_law_11 : decode cL_law 11 = .ok (.dup, 1) := by decide +kernel
theorem dL_law_12 : decode cL_law 12 = .ok (.invokespecial 98, 3) := by decide +kernel
theorem dL_law_15 : decode cL_law 15 = .ok (.astore_n 2, 1) := by decide +kernel
theorem dL_law_16 : decode cL_law 16 = .ok (.iconst 0, 1) := by decide +kernel
theorem dL_law_17 : decode cL_law 17 = .ok (.istore_n 3, 1) := by decide +kernel
theorem dL_law_18 : decode cL_law 18 = .ok (.iload_n 3, 1) := by decide +kernel
theorem dL_law_19 : decode cL_law 19 = .ok (.bipush 64, 2) := by decide +kernel
theorem dL_law_21 : decode cL_law 21 = .ok (.if_icmp .ge 179, 3) := by decide +kernel
theorem dL_law_24 : decode cL_law 24 = .ok (.aload_n 0, 1) := by decide +kernel
theorem dL_law_25 : decode cL_law 25 = .ok (.iload_n 3, 1) := by decide +kernel
theorem dL_law_26 : decode cL_law 26 = .ok (.invokestatic 99, 3) := by decide +kernel
theorem dL_law_29 : decode cL_law 29 = .ok (.istore 4, 2) := by decide +kernel
theorem dL_law_31 : decode cL_law 31 = .ok (.aload_n 1, 1) := by decide +kernel
theorem dL_law_32 : decode cL_law 32 = .ok (.iload 4, 2) := by decide +kernel
theorem dL_law_34 : decode cL_law 34 = .ok (.invokestatic 103, 3) := by decide +kernel
theorem dL_law_37 : decode cL_law 37 = .ok (.istore 5, 2) := by decide +kernel
theorem dL_law_39 : decode cL_law 39 = .ok (.iload 5, 2) := by decide +kernel
theorem dL_law_41 : decode cL_law 41 = .ok (.ldc 31, 2) := by decide +kernel
theorem dL_law_43 : decode cL_law 43 = .ok (.if_icmp .eq 14, 3) := by decide +kernel
theorem dL_law_46 : decode cL_law 46 = .ok (.aload_n 2, 1) := by decide +kernel
theorem dL_law_47 : decode cL_law 47 = .ok (.iload 4, 2) := by decide +kernel
theorem dL_law_49 : decode cL_law 49 = .ok (.invokestatic 103, 3) := by decide +kernel
theorem dL_law_52 : decode cL_law 52 = .ok (.iload 5, 2) := by decide +kernel
theorem dL_law_54 : decode cL_law 54 = .ok (.if_icmp .ne 47, 3) := by decide +kernel
theorem dL_law_57 : decode cL_law 57 = .ok (.iload_n 3, 1) := by decide +kernel
theorem dL_law_58 : decode cL_law 58 = .ok (.bipush 6, 2) := by decide +kernel
theorem dL_law_60 : decode cL_law 60 = .ok (.irem, 1) := by decide +kernel
theorem dL_law_61 : decode cL_law 61 = .ok (.iconst 3, 1) := by decide +kernel
theorem dL_law_62 : decode cL_law 62 = .ok (.if_icmp .ne 11, 3) := by decide +kernel
theorem dL_law_65 : decode cL_law 65 = .ok (.aload_n 1, 1) := by decide +kernel
theorem dL_law_66 : decode cL_law 66 = .ok (.aload_n 2, 1) := by decide +kernel
theorem dL_law_67 : decode cL_law 67 = .ok (.invokestatic 107, 3) := by decide +kernel
theorem dL_law_70 : decode cL_law 70 = .ok (.ifCond .eq 31, 3) := by decide +kernel
theorem dL_law_73 : decode cL_law 73 = .ok (.iload_n 3, 1) := by decide +kernel
theorem dL_law_74 : decode cL_law 74 = .ok (.iconst 5, 1) := by decide +kernel
theorem dL_law_75 : decode cL_law 75 = .ok (.irem, 1) := by decide +kernel
theorem dL_law_76 : decode cL_law 76 = .ok (.iconst 2, 1) := by decide +kernel
theorem dL_law_77 : decode cL_law 77 = .ok (.if_icmp .ne 26, 3) := by decide +kernel
theorem dL_law_80 : decode cL_law 80 = .ok (.aload_n 1, 1) := by decide +kernel
theorem dL_law_81 : decode cL_law 81 = .ok (.iload 4, 2) := by decide +kernel
theorem dL_law_83 : decode cL_law 83 = .ok (.bipush 7, 2) := by decide +kernel
theorem dL_law_85 : decode cL_law 85 = .ok (.ishr, 1) := by decide +kernel
theorem dL_law_86 : decode cL_law 86 = .ok (.aload_n 1, 1) := by decide +kernel
theorem dL_law_87 : decode cL_law 87 = .ok (.invokevirtual 54, 3) := by decide +kernel
theorem dL_law_90 : decode cL_law 90 = .ok (.iconst 1, 1) := by decide +kernel
theorem dL_law_91 : decode cL_law 91 = .ok (.iadd, 1) := by decide +kernel
theorem dL_law_92 : decode cL_law 92 = .ok (.invokestatic 44, 3) := by decide +kernel
theorem dL_law_95 : decode cL_law 95 = .ok (.invokestatic 111, 3) := by decide +kernel
theorem dL_law_98 : decode cL_law 98 = .ok (.ifCond .ne 5, 3) := by decide +kernel
theorem dL_law_101 : decode cL_law 101 = .ok (.iconst 0, 1) := by decide +kernel
theorem dL_law_102 : decode cL_law 102 = .ok (.ireturn, 1) := by decide +kernel
theorem dL_law_103 : decode cL_law 103 = .ok (.iload_n 3, 1) := by decide +kernel
theorem dL_law_104 : decode cL_law 104 = .ok (.iconst 3, 1) := by decide +kernel
theorem dL_law_105 : decode cL_law 105 = .ok (.irem, 1) := by decide +kernel
theorem dL_law_106 : decode cL_law 106 = .ok (.iconst 1, 1) := by decide +kernel
theorem dL_law_107 : decode cL_law 107 = .ok (.if_icmp .ne 40, 3) := by decide +kernel
theorem dL_law_110 : decode cL_law 110 = .ok (.aload_n 1, 1) := by decide +kernel
theorem dL_law_111 : decode cL_law 111 = .ok (.iload 4, 2) := by decide +kernel
theorem dL_law_113 : decode cL_law 113 = .ok (.bipush 6, 2) := by decide +kernel
theorem dL_law_115 : decode cL_law 115 = .ok (.ishr, 1) := by decide +kernel
theorem dL_law_116 : decode cL_law 116 = .ok (.iconst 1, 1) := by decide +kernel
theorem dL_law_117 : decode cL_law 117 = .ok (.iand, 1) := by decide +kernel
theorem dL_law_118 : decode cL_law 118 = .ok (.iload 4, 2) := by decide +kernel
theorem dL_law_120 : decode cL_law 120 = .ok (.bipush 9, 2) := by decide +kernel
theorem dL_law_122 : decode cL_law 122 = .ok (.ishr, 1) := by decide +kernel
theorem dL_law_123 : decode cL_law 123 = .ok (.iconst 4, 1) := by decide +kernel
theorem dL_law_124 : decode cL_law 124 = .ok (.invokestatic 44, 3) := by decide +kernel
theorem dL_law_127 : decode cL_law 127 = .ok (.iload 4, 2) := by decide +kernel
theorem dL_law_129 : decode cL_law 129 = .ok (.bipush 11, 2) := by decide +kernel
theorem dL_law_131 : decode cL_law 131 = .ok (.ishr, 1) := by decide +kernel
theorem dL_law_132 : decode cL_law 132 = .ok (.aload_n 1, 1) := by decide +kernel
theorem dL_law_133 : decode cL_law 133 = .ok (.invokevirtual 54, 3) := by decide +kernel
theorem dL_law_136 : decode cL_law 136 = .ok (.iconst 1, 1) := by decide +kernel
theorem dL_law_137 : decode cL_law 137 = .ok (.iadd, 1) := by decide +kernel
theorem dL_law_138 : decode cL_law 138 = .ok (.invokestatic 44, 3) := by decide +kernel
theorem dL_law_141 : decode cL_law 141 = .ok (.invokestatic 115, 3) := by decide +kernel
theorem dL_law_144 : decode cL_law 144 = .ok (.ifCond .eq 48, 3) := by decide +kernel
theorem dL_law_147 : decode cL_law 147 = .ok (.iload_n 3, 1) := by decide +kernel
theorem dL_law_148 : decode cL_law 148 = .ok (.bipush 9, 2) := by decide +kernel
theorem dL_law_150 : decode cL_law 150 = .ok (.irem, 1) := by decide +kernel
theorem dL_law_151 : decode cL_law 151 = .ok (.iconst 4, 1) := by decide +kernel
theorem dL_law_152 : decode cL_law 152 = .ok (.if_icmp .ne 42, 3) := by decide +kernel
theorem dL_law_155 : decode cL_law 155 = .ok (.aload_n 1, 1) := by decide +kernel
theorem dL_law_156 : decode cL_law 156 = .ok (.aload_n 2, 1) := by decide +kernel
theorem dL_law_157 : decode cL_law 157 = .ok (.iload 4, 2) := by decide +kernel
theorem dL_law_159 : decode cL_law 159 = .ok (.iconst 5, 1) := by decide +kernel
theorem dL_law_160 : decode cL_law 160 = .ok (.ishr, 1) := by decide +kernel
theorem dL_law_161 : decode cL_law 161 = .ok (.iconst 1, 1) := by decide +kernel
theorem dL_law_162 : decode cL_law 162 = .ok (.iand, 1) := by decide +kernel
theorem dL_law_163 : decode cL_law 163 = .ok (.iload 4, 2) := by decide +kernel
theorem dL_law_165 : decode cL_law 165 = .ok (.bipush 8, 2) := by decide +kernel
theorem dL_law_167 : decode cL_law 167 = .ok (.ishr, 1) := by decide +kernel
theorem dL_law_168 : decode cL_law 168 = .ok (.iconst 4, 1) := by decide +kernel
theorem dL_law_169 : decode cL_law 169 = .ok (.invokestatic 44, 3) := by decide +kernel
theorem dL_law_172 : decode cL_law 172 = .ok (.iload 4, 2) := by decide +kernel
theorem dL_law_174 : decode cL_law 174 = .ok (.bipush 10, 2) := by decide +kernel
theorem dL_law_176 : decode cL_law 176 = .ok (.ishr, 1) := by decide +kernel
theorem dL_law_177 : decode cL_law 177 = .ok (.aload_n 1, 1) := by decide +kernel
theorem dL_law_178 : decode cL_law 178 = .ok (.invokevirtual 54, 3) := by decide +kernel
theorem dL_law_181 : decode cL_law 181 = .ok (.iconst 1, 1) := by decide +kernel
theorem dL_law_182 : decode cL_law 182 = .ok (.iadd, 1) := by decide +kernel
theorem dL_law_183 : decode cL_law 183 = .ok (.invokestatic 44, 3) := by decide +kernel
theorem dL_law_186 : decode cL_law 186 = .ok (.invokestatic 119, 3) := by decide +kernel
theorem dL_law_189 : decode cL_law 189 = .ok (.ifCond .ne 5, 3) := by decide +kernel
theorem dL_law_192 : decode cL_law 192 = .ok (.iconst 0, 1) := by decide +kernel
theorem dL_law_193 : decode cL_law 193 = .ok (.ireturn, 1) := by decide +kernel
theorem dL_law_194 : decode cL_law 194 = .ok (.iinc 3 1, 3) := by decide +kernel
theorem dL_law_197 : decode cL_law 197 = .ok (.goto (-179), 3) := by decide +kernel
theorem dL_law_200 : decode cL_law 200 = .ok (.aload_n 1, 1) := by decide +kernel
theorem dL_law_201 : decode cL_law 201 = .ok (.aload_n 2, 1) := by decide +kernel
theorem dL_law_202 : decode cL_law 202 = .ok (.invokestatic 107, 3) := by decide +kernel
theorem dL_law_205 : decode cL_law 205 = .ok (.ifCond .eq 36, 3) := by decide +kernel
theorem dL_law_208 : decode cL_law 208 = .ok (.aload_n 1, 1) := by decide +kernel
theorem dL_law_209 : decode cL_law 209 = .ok (.iconst 0, 1) := by decide +kernel
theorem dL_law_210 : decode cL_law 210 = .ok (.iconst 1, 1) := by decide +kernel
theorem dL_law_211 : decode cL_law 211 = .ok (.invokestatic 123, 3) := by decide +kernel
theorem dL_law_214 : decode cL_law 214 = .ok (.ifCond .eq 27, 3) := by decide +kernel
theorem dL_law_217 : decode cL_law 217 = .ok (.aload_n 1, 1) := by decide +kernel
theorem dL_law_218 : decode cL_law 218 = .ok (.iconst 1, 1) := by decide +kernel
theorem dL_law_219 : decode cL_law 219 = .ok (.iconst 2, 1) := by decide +kernel
theorem dL_law_220 : decode cL_law 220 = .ok (.invokestatic 123, 3) := by decide +kernel
theorem dL_law_223 : decode cL_law 223 = .ok (.ifCond .eq 18, 3) := by decide +kernel
theorem dL_law_226 : decode cL_law 226 = .ok (.aload_n 1, 1) := by decide +kernel
theorem dL_law_227 : decode cL_law 227 = .ok (.aload_n 1, 1) := by decide +kernel
theorem dL_law_228 : decode cL_law 228 = .ok (.invokevirtual 54, 3) := by decide +kernel
theorem dL_law_231 : decode cL_law 231 = .ok (.invokestatic 111, 3) := by decide +kernel
theorem dL_law_234 : decode cL_law 234 = .ok (.ifCond .eq 7, 3) := by decide +kernel
theorem dL_law_237 : decode cL_law 237 = .ok (.iconst 1, 1) := by decide +kernel
theorem dL_law_238 : decode cL_law 238 = .ok (.goto 4, 3) := by decide +kernel
theorem dL_law_241 : decode cL_law 241 = .ok (.iconst 0, 1) := by decide +kernel
theorem dL_law_242 : decode cL_law 242 = .ok (.ireturn, 1) := by decide +kernel
end
section
/-! the words of the tables, each by its place; what a call needs, by its callee -/
/-- all words that stay true under a shift of what has been resolved -/
def GW : List Cond := lw_tbl.filter goodWord
theorem gw_good : ∀ w ∈ GW, (w.onTables && w.keeps) = true ∨ ∃ ty, w = .arrayClass ty := fun w h => good_of_word (List.mem_filter.mp h).2
theorem gw_tbl : ∀ w ∈ GW, w ∈ lw_tbl := fun w h => (List.mem_filter.mp h).1
theorem gw_of {w : Cond} (h : w ∈ lw_tbl) (g : goodWord w = true) : w ∈ GW := List.mem_filter.mpr ⟨h, g⟩
theorem gw_1 {w : Cond} {i : Nat} (h : tables_1_1[i]? = some w) (g : goodWord w = true) : w ∈ GW := gw_of (List.mem_append_right _ (List.mem_append_left _ (List.mem_of_getElem? h))) g
theorem gw_2 {w : Cond} {i : Nat} (h : tables_1_2[i]? = some w) (g : goodWord w = true) : w ∈ GW := gw_of (List.mem_append_right _ (List.mem_append_right _ (List.mem_of_getElem? h))) g
theorem gw_p {y : MethodName} {q : MethodName × Nat} {i : Nat} (h : (k2_sels lw_privs)[i]? = some (.selects y.cls y y)) : Cond.selects y.cls y y ∈ GW := gw_of (List.mem_append_left _ (List.mem_of_getElem? h)) rfl
theorem gw_self (c0 : Cond) {ws : List Cond} (g : GoodIn GW ws) : GoodIn (c0 :: GW) ws := fun w h => ⟨List.mem_cons_of_mem _ (g w h).1, (g w h).2⟩
theorem gw_cons {c0 : Cond} (h : c0 ∈ GW) : GoodIn GW (c0 :: GW) := fun w hw => (List.mem_cons.mp hw).elim (fun e => by subst e; exact ⟨h, gw_good _ h⟩) (fun hw => ⟨hw, gw_good _ hw⟩)
theorem gw_list {a : List Cond} (h : ∀ w ∈ a, w ∈ GW) : GoodIn GW a := fun w hw => ⟨h w hw, gw_good _ (h w hw)⟩
theorem gw_V {own C : String} {idx : Nat} {y : MethodName} {c0 : Cond} (h1 : Cond.methodLink own idx y ∈ GW) (h2 : Cond.instanceMethod y ∈ GW) (h3 : Cond.selects C y y ∈ GW) (h4 : Cond.initialized C ∈ GW) (h5 : c0 ∈ GW) : GoodIn GW (wsV own idx C y (c0 :: GW)) := goodIn_app (gw_list (fun w hw => by simp only [List.mem_cons, List.not_mem_nil, or_false] at hw; rcases hw with rfl | rfl | rfl | rfl <;> assumption)) (gw_cons h5)
theorem gw_S {own : String} {idx : Nat} {y : MethodName} {c0 : Cond} (h1 : Cond.methodLink own idx y ∈ GW) (h2 : Cond.static y ∈ GW) (h3 : Cond.initialized y.cls ∈ GW) (h5 : c0 ∈ GW) : GoodIn GW (va_wsS own idx y (c0 :: GW)) := goodIn_app (gw_list (fun w hw => by simp only [List.mem_cons, List.not_mem_nil, or_false] at hw; rcases hw with rfl | rfl | rfl <;> assumption)) (gw_cons h5)
theorem wd_0 : Cond.classLink RL 9 RX0 ∈ GW := gw_1 (i := 10) rfl rfl
theorem wd_1 : Cond.instantiable RX0 4 ∈ GW := gw_1 (i := 11) rfl rfl
theorem wd_2 : Cond.initialized RX0 ∈ GW := gw_1 (i := 1) rfl rfl
theorem wd_3 : Cond.constant RL 31 (-99999) ∈ GW := gw_2 (i := 5) rfl rfl
theorem wd_4 : Cond.methodLink RL 98 yX0_init ∈ GW := gw_1 (i := 12) rfl rfl
theorem wd_5 : Cond.instanceMethod yX0_init ∈ GW := gw_1 (i := 13) rfl rfl
theorem wd_6 : Cond.code yX0_init cX0_init 2 none ∈ GW := gw_1 (i := 14) rfl rfl
theorem wd_7 : Cond.methodLink RX0 3 objectInit ∈ GW := gw_1 (i := 15) rfl rfl
theorem wd_8 : Cond.instanceMethod objectInit ∈ GW := gw_1 (i := 16) rfl rfl
theorem wd_9 : Cond.code objectInit ⟨#[0xb1]⟩ 1 none ∈ GW := gw_1 (i := 17) (by decide +kernel) rfl
theorem wd_10 : Cond.constant RX0 9 (57600) ∈ GW := gw_1 (i := 18) rfl rfl
theorem wd_11 : Cond.arrayClass .int ∈ GW := gw_1 (i := 32) rfl rfl
theorem wd_12 : Cond.fieldLink RX0 10 "Twotimes" "known" "[I" ∈ GW := gw_1 (i := 19) rfl rfl
theorem wd_13 : Cond.fieldLink RX0 14 "Twotimes" "keptOn" "[I" ∈ GW := gw_1 (i := 20) rfl rfl
theorem wd_14 : Cond.fieldLink RX0 17 "Twotimes" "draft" "[I" ∈ GW := gw_1 (i := 21) rfl rfl
theorem wd_15 : Cond.methodLink RL 99 yL_cell ∈ GW := gw_1 (i := 37) rfl rfl
theorem wd_16 : Cond.static yL_cell ∈ GW := gw_1 (i := 38) rfl rfl
theorem wd_17 : Cond.initialized RL ∈ GW := gw_1 (i := 0) rfl rfl
theorem wd_18 : Cond.code yL_cell cL_cell 2 (some .int) ∈ GW := gw_1 (i := 39) rfl rfl
theorem wd_19 : Cond.methodLink RL 103 yL_act ∈ GW := gw_1 (i := 44) rfl rfl
theorem wd_20 : Cond.static yL_act ∈ GW := gw_1 (i := 45) rfl rfl
theorem wd_21 : Cond.code yL_act cL_act 8 (some .int) ∈ GW := gw_1 (i := 46) rfl rfl
theorem wd_22 : Cond.methodLink RL 44 yL_low ∈ GW := gw_1 (i := 40) rfl rfl
theorem wd_23 : Cond.static yL_low ∈ GW := gw_1 (i := 41) rfl rfl
theorem wd_24 : Cond.code yL_low cL_low 2 (some .int) ∈ GW := gw_1 (i := 42) rfl rfl
theorem wd_25 : Cond.constant RL 7 (2147483647) ∈ GW := gw_1 (i := 43) rfl rfl
theorem wd_26 : Cond.methodLink RL 50 yL_does ∈ GW := gw_1 (i := 47) rfl rfl
theorem wd_27 : Cond.static yL_does ∈ GW := gw_1 (i := 48) rfl rfl
theorem wd_28 : Cond.codeWith yL_does cL_does 8 (some .int) [(0, 76, 77, 29), (0, 76, 82, 32), (0, 76, 87, 34)] ∈ GW := gw_1 (i := 49) rfl rfl
theorem wd_29 : Cond.classLink RL 29 "java/lang/IllegalArgumentException" ∈ GW := gw_1 (i := 50) rfl rfl
theorem wd_30 : Cond.classLink RL 32 "java/lang/IndexOutOfBoundsException" ∈ GW := gw_1 (i := 51) rfl rfl
theorem wd_31 : Cond.classLink RL 34 "java/lang/IllegalStateException" ∈ GW := gw_1 (i := 52) rfl rfl
theorem wd_32 : Cond.methodLink RL 8 yX0_put ∈ GW := gw_1 (i := 53) rfl rfl
theorem wd_33 : Cond.instanceMethod yX0_put ∈ GW := gw_1 (i := 54) rfl rfl
theorem wd_34 : Cond.selects RX0 yX0_put yX0_put ∈ GW := gw_1 (i := 55) rfl rfl
theorem wd_35 : Cond.code yX0_put cX0_put 6 (some .int) ∈ GW := gw_1 (i := 56) rfl rfl
theorem wd_36 : Cond.methodLink RX0 20 yX0_needTableAndKey ∈ GW := gw_1 (i := 57) rfl rfl
theorem wd_37 : Cond.static yX0_needTableAndKey ∈ GW := gw_1 (i := 58) rfl rfl
theorem wd_38 : Cond.code yX0_needTableAndKey cX0_needTableAndKey 2 none ∈ GW := gw_1 (i := 59) rfl rfl
theorem wd_39 : Cond.methodLink RX0 28 yX0_needRange ∈ GW := gw_1 (i := 60) rfl rfl
theorem wd_40 : Cond.static yX0_needRange ∈ GW := gw_1 (i := 61) rfl rfl
theorem wd_41 : Cond.code yX0_needRange cX0_needRange 2 none ∈ GW := gw_1 (i := 62) rfl rfl
theorem wd_42 : Cond.classLink RX0 55 "java/lang/IllegalArgumentException" ∈ GW := gw_1 (i := 63) rfl rfl
theorem wd_43 : Cond.initialized "java/lang/IllegalArgumentException" ∈ GW := gw_1 (i := 5) rfl rfl
theorem wd_44 : Cond.methodLink RX0 24 yX0_valuesOf ∈ GW := gw_1 (i := 131) rfl rfl
theorem wd_45 : Cond.static yX0_valuesOf ∈ GW := gw_1 (i := 132) rfl rfl
theorem wd_46 : Cond.code yX0_valuesOf cX0_valuesOf 1 (some .int) ∈ GW := gw_1 (i := 133) rfl rfl
theorem wd_47 : Cond.methodLink RX0 31 yX0_needSpan ∈ GW := gw_1 (i := 134) rfl rfl
theorem wd_48 : Cond.static yX0_needSpan ∈ GW := gw_1 (i := 135) rfl rfl
theorem wd_49 : Cond.code yX0_needSpan cX0_needSpan 2 none ∈ GW := gw_1 (i := 136) rfl rfl
theorem wd_50 : Cond.methodLink RX0 34 yX0_line ∈ GW := gw_1 (i := 138) rfl rfl
theorem wd_51 : Cond.static yX0_line ∈ GW := gw_1 (i := 139) rfl rfl
theorem wd_52 : Cond.code yX0_line cX0_line 2 (some .int) ∈ GW := gw_1 (i := 140) rfl rfl
theorem wd_53 : Cond.methodLink RX0 38 yX0_draftSpan ∈ GW := gw_1 (i := 141) rfl rfl
theorem wd_54 : Cond.instanceMethod yX0_draftSpan ∈ GW := gw_1 (i := 143) rfl rfl
theorem wd_55 : Cond.selects RX0 yX0_draftSpan yX0_draftSpan ∈ GW := gw_of (List.mem_append_left _ (List.mem_of_getElem? (i := 1) (by decide +kernel))) rfl
theorem wd_56 : Cond.code yX0_draftSpan cX0_draftSpan 6 none ∈ GW := gw_1 (i := 144) rfl rfl
theorem wd_57 : Cond.fieldLink RX0 62 "Twotimes" "today" "I" ∈ GW := gw_1 (i := 22) rfl rfl
theorem wd_58 : Cond.methodLink RX0 77 yX0_knownOn ∈ GW := gw_1 (i := 145) rfl rfl
theorem wd_59 : Cond.instanceMethod yX0_knownOn ∈ GW := gw_1 (i := 147) rfl rfl
theorem wd_60 : Cond.selects RX0 yX0_knownOn yX0_knownOn ∈ GW := gw_of (List.mem_append_left _ (List.mem_of_getElem? (i := 2) (by decide +kernel))) rfl
theorem wd_61 : Cond.code yX0_knownOn cX0_knownOn 5 (some .int) ∈ GW := gw_1 (i := 148) rfl rfl
theorem wd_62 : Cond.methodLink RX0 140 yX0_index ∈ GW := gw_1 (i := 149) rfl rfl
theorem wd_63 : Cond.static yX0_index ∈ GW := gw_1 (i := 150) rfl rfl
theorem wd_64 : Cond.code yX0_index cX0_index 3 (some .int) ∈ GW := gw_1 (i := 151) rfl rfl
theorem wd_65 : Cond.methodLink RX0 42 yX0_recordDraft ∈ GW := gw_1 (i := 152) rfl rfl
theorem wd_66 : Cond.instanceMethod yX0_recordDraft ∈ GW := gw_1 (i := 154) rfl rfl
theorem wd_67 : Cond.selects RX0 yX0_recordDraft yX0_recordDraft ∈ GW := gw_of (List.mem_append_left _ (List.mem_of_getElem? (i := 3) (by decide +kernel))) rfl
theorem wd_68 : Cond.code yX0_recordDraft cX0_recordDraft 6 (some .int) ∈ GW := gw_1 (i := 155) rfl rfl
theorem wd_69 : Cond.classLink RX0 66 "java/lang/IllegalStateException" ∈ GW := gw_1 (i := 164) rfl rfl
theorem wd_70 : Cond.initialized "java/lang/IllegalStateException" ∈ GW := gw_1 (i := 6) rfl rfl
theorem wd_71 : Cond.methodLink RX0 149 yX0_draftKeepsReferences ∈ GW := gw_1 (i := 156) rfl rfl
theorem wd_72 : Cond.instanceMethod yX0_draftKeepsReferences ∈ GW := gw_1 (i := 158) rfl rfl
theorem wd_73 : Cond.selects RX0 yX0_draftKeepsReferences yX0_draftKeepsReferences ∈ GW := gw_of (List.mem_append_left _ (List.mem_of_getElem? (i := 4) (by decide +kernel))) rfl
theorem wd_74 : Cond.code yX0_draftKeepsReferences cX0_draftKeepsReferences 5 (some .boolean) ∈ GW := gw_1 (i := 159) rfl rfl
theorem wd_75 : Cond.methodLink RX0 159 yX0_isReferredTo ∈ GW := gw_1 (i := 160) rfl rfl
theorem wd_76 : Cond.instanceMethod yX0_isReferredTo ∈ GW := gw_1 (i := 162) rfl rfl
theorem wd_77 : Cond.selects RX0 yX0_isReferredTo yX0_isReferredTo ∈ GW := gw_of (List.mem_append_left _ (List.mem_of_getElem? (i := 5) (by decide +kernel))) rfl
theorem wd_78 : Cond.code yX0_isReferredTo cX0_isReferredTo 4 (some .boolean) ∈ GW := gw_1 (i := 163) rfl rfl
theorem wd_79 : Cond.methodLink RX0 155 yX0_recordToday ∈ GW := gw_1 (i := 180) rfl rfl
theorem wd_80 : Cond.instanceMethod yX0_recordToday ∈ GW := gw_1 (i := 182) rfl rfl
theorem wd_81 : Cond.selects RX0 yX0_recordToday yX0_recordToday ∈ GW := gw_of (List.mem_append_left _ (List.mem_of_getElem? (i := 6) (by decide +kernel))) rfl
theorem wd_82 : Cond.code yX0_recordToday cX0_recordToday 5 none ∈ GW := gw_1 (i := 183) rfl rfl
theorem wd_83 : Cond.methodLink RL 14 yX0_erase ∈ GW := gw_1 (i := 184) rfl rfl
theorem wd_84 : Cond.instanceMethod yX0_erase ∈ GW := gw_1 (i := 185) rfl rfl
theorem wd_85 : Cond.selects RX0 yX0_erase yX0_erase ∈ GW := gw_1 (i := 186) rfl rfl
theorem wd_86 : Cond.code yX0_erase cX0_erase 5 (some .int) ∈ GW := gw_1 (i := 187) rfl rfl
theorem wd_87 : Cond.methodLink RL 18 yX0_eraseAll ∈ GW := gw_1 (i := 188) rfl rfl
theorem wd_88 : Cond.instanceMethod yX0_eraseAll ∈ GW := gw_1 (i := 189) rfl rfl
theorem wd_89 : Cond.selects RX0 yX0_eraseAll yX0_eraseAll ∈ GW := gw_1 (i := 190) rfl rfl
theorem wd_90 : Cond.code yX0_eraseAll cX0_eraseAll 6 (some .int) ∈ GW := gw_1 (i := 191) rfl rfl
theorem wd_91 : Cond.methodLink RX0 45 yX0_loseWithReferences ∈ GW := gw_1 (i := 192) rfl rfl
theorem wd_92 : Cond.instanceMethod yX0_loseWithReferences ∈ GW := gw_1 (i := 194) rfl rfl
theorem wd_93 : Cond.selects RX0 yX0_loseWithReferences yX0_loseWithReferences ∈ GW := gw_of (List.mem_append_left _ (List.mem_of_getElem? (i := 7) (by decide +kernel))) rfl
theorem wd_94 : Cond.code yX0_loseWithReferences cX0_loseWithReferences 5 (some .int) ∈ GW := gw_1 (i := 195) rfl rfl
theorem wd_95 : Cond.methodLink RX0 162 yX0_lose ∈ GW := gw_1 (i := 196) rfl rfl
theorem wd_96 : Cond.instanceMethod yX0_lose ∈ GW := gw_1 (i := 198) rfl rfl
theorem wd_97 : Cond.selects RX0 yX0_lose yX0_lose ∈ GW := gw_of (List.mem_append_left _ (List.mem_of_getElem? (i := 8) (by decide +kernel))) rfl
theorem wd_98 : Cond.code yX0_lose cX0_lose 3 (some .int) ∈ GW := gw_1 (i := 199) rfl rfl
theorem wd_99 : Cond.methodLink RL 22 yX0_restore ∈ GW := gw_1 (i := 200) rfl rfl
theorem wd_100 : Cond.instanceMethod yX0_restore ∈ GW := gw_1 (i := 201) rfl rfl
theorem wd_101 : Cond.selects RX0 yX0_restore yX0_restore ∈ GW := gw_1 (i := 202) rfl rfl
theorem wd_102 : Cond.code yX0_restore cX0_restore 4 (some .int) ∈ GW := gw_1 (i := 203) rfl rfl
theorem wd_103 : Cond.methodLink RX0 48 yX0_needRecord ∈ GW := gw_1 (i := 204) rfl rfl
theorem wd_104 : Cond.instanceMethod yX0_needRecord ∈ GW := gw_1 (i := 206) rfl rfl
theorem wd_105 : Cond.selects RX0 yX0_needRecord yX0_needRecord ∈ GW := gw_of (List.mem_append_left _ (List.mem_of_getElem? (i := 9) (by decide +kernel))) rfl
theorem wd_106 : Cond.code yX0_needRecord cX0_needRecord 2 none ∈ GW := gw_1 (i := 207) rfl rfl
theorem wd_107 : Cond.classLink RX0 91 "java/lang/IndexOutOfBoundsException" ∈ GW := gw_1 (i := 208) rfl rfl
theorem wd_108 : Cond.initialized "java/lang/IndexOutOfBoundsException" ∈ GW := gw_1 (i := 7) rfl rfl
theorem wd_109 : Cond.methodLink RX0 52 yX0_draftRecord ∈ GW := gw_1 (i := 224) rfl rfl
theorem wd_110 : Cond.instanceMethod yX0_draftRecord ∈ GW := gw_1 (i := 226) rfl rfl
theorem wd_111 : Cond.selects RX0 yX0_draftRecord yX0_draftRecord ∈ GW := gw_of (List.mem_append_left _ (List.mem_of_getElem? (i := 10) (by decide +kernel))) rfl
theorem wd_112 : Cond.code yX0_draftRecord cX0_draftRecord 4 none ∈ GW := gw_1 (i := 227) rfl rfl
theorem wd_113 : Cond.methodLink RL 25 yX0_pass ∈ GW := gw_1 (i := 228) rfl rfl
theorem wd_114 : Cond.instanceMethod yX0_pass ∈ GW := gw_1 (i := 229) rfl rfl
theorem wd_115 : Cond.selects RX0 yX0_pass yX0_pass ∈ GW := gw_1 (i := 230) rfl rfl
theorem wd_116 : Cond.code yX0_pass cX0_pass 4 (some .int) ∈ GW := gw_1 (i := 231) rfl rfl
theorem wd_117 : Cond.methodLink RX0 71 yX0_keepOn ∈ GW := gw_1 (i := 234) rfl rfl
theorem wd_118 : Cond.instanceMethod yX0_keepOn ∈ GW := gw_1 (i := 236) rfl rfl
theorem wd_119 : Cond.selects RX0 yX0_keepOn yX0_keepOn ∈ GW := gw_of (List.mem_append_left _ (List.mem_of_getElem? (i := 11) (by decide +kernel))) rfl
theorem wd_120 : Cond.code yX0_keepOn cX0_keepOn 3 none ∈ GW := gw_1 (i := 237) rfl rfl
theorem wd_121 : Cond.methodLink RX0 74 yX0_copyDay ∈ GW := gw_1 (i := 238) rfl rfl
theorem wd_122 : Cond.instanceMethod yX0_copyDay ∈ GW := gw_2 (i := 0) rfl rfl
theorem wd_123 : Cond.selects RX0 yX0_copyDay yX0_copyDay ∈ GW := gw_of (List.mem_append_left _ (List.mem_of_getElem? (i := 12) (by decide +kernel))) rfl
theorem wd_124 : Cond.code yX0_copyDay cX0_copyDay 3 none ∈ GW := gw_2 (i := 1) rfl rfl
theorem wd_125 : Cond.methodLink RX0 143 arraycopyName ∈ GW := gw_2 (i := 2) rfl rfl
theorem wd_126 : Cond.native arraycopyName ∈ GW := gw_2 (i := 4) rfl rfl
theorem wd_127 : Cond.static arraycopyName ∈ GW := gw_2 (i := 3) rfl rfl
theorem wd_128 : Cond.initialized "java/lang/System" ∈ GW := gw_1 (i := 8) rfl rfl
theorem wd_129 : Cond.methodLink RL 54 yX0_today ∈ GW := gw_1 (i := 33) rfl rfl
theorem wd_130 : Cond.instanceMethod yX0_today ∈ GW := gw_1 (i := 34) rfl rfl
theorem wd_131 : Cond.selects RX0 yX0_today yX0_today ∈ GW := gw_1 (i := 35) rfl rfl
theorem wd_132 : Cond.code yX0_today cX0_today 1 (some .int) ∈ GW := gw_1 (i := 36) rfl rfl
theorem wd_133 : Cond.methodLink RL 107 yL_areAlike ∈ GW := gw_2 (i := 6) rfl rfl
theorem wd_134 : Cond.static yL_areAlike ∈ GW := gw_2 (i := 7) rfl rfl
theorem wd_135 : Cond.code yL_areAlike cL_areAlike 5 (some .boolean) ∈ GW := gw_2 (i := 8) rfl rfl
theorem wd_136 : Cond.methodLink RL 58 yX0_rows ∈ GW := gw_2 (i := 9) rfl rfl
theorem wd_137 : Cond.instanceMethod yX0_rows ∈ GW := gw_2 (i := 10) rfl rfl
theorem wd_138 : Cond.selects RX0 yX0_rows yX0_rows ∈ GW := gw_2 (i := 11) rfl rfl
theorem wd_139 : Cond.code yX0_rows cX0_rows 7 (some .int) ∈ GW := gw_2 (i := 12) rfl rfl
theorem wd_140 : Cond.methodLink RX0 102 yX0_isKept ∈ GW := gw_2 (i := 13) rfl rfl
theorem wd_141 : Cond.instanceMethod yX0_isKept ∈ GW := gw_2 (i := 15) rfl rfl
theorem wd_142 : Cond.selects RX0 yX0_isKept yX0_isKept ∈ GW := gw_of (List.mem_append_left _ (List.mem_of_getElem? (i := 13) (by decide +kernel))) rfl
theorem wd_143 : Cond.code yX0_isKept cX0_isKept 2 (some .boolean) ∈ GW := gw_2 (i := 16) rfl rfl
theorem wd_144 : Cond.methodLink RX0 106 yX0_startsRow ∈ GW := gw_2 (i := 17) rfl rfl
theorem wd_145 : Cond.instanceMethod yX0_startsRow ∈ GW := gw_2 (i := 19) rfl rfl
theorem wd_146 : Cond.selects RX0 yX0_startsRow yX0_startsRow ∈ GW := gw_of (List.mem_append_left _ (List.mem_of_getElem? (i := 14) (by decide +kernel))) rfl
theorem wd_147 : Cond.code yX0_startsRow cX0_startsRow 4 (some .boolean) ∈ GW := gw_2 (i := 20) rfl rfl
theorem wd_148 : Cond.methodLink RX0 84 yX0_startsRun ∈ GW := gw_2 (i := 21) rfl rfl
theorem wd_149 : Cond.instanceMethod yX0_startsRun ∈ GW := gw_2 (i := 23) rfl rfl
theorem wd_150 : Cond.selects RX0 yX0_startsRun yX0_startsRun ∈ GW := gw_of (List.mem_append_left _ (List.mem_of_getElem? (i := 15) (by decide +kernel))) rfl
theorem wd_151 : Cond.code yX0_startsRun cX0_startsRun 5 (some .boolean) ∈ GW := gw_2 (i := 24) rfl rfl
theorem wd_152 : Cond.methodLink RX0 118 yX0_sameRun ∈ GW := gw_2 (i := 25) rfl rfl
theorem wd_153 : Cond.instanceMethod yX0_sameRun ∈ GW := gw_2 (i := 27) rfl rfl
theorem wd_154 : Cond.selects RX0 yX0_sameRun yX0_sameRun ∈ GW := gw_of (List.mem_append_left _ (List.mem_of_getElem? (i := 16) (by decide +kernel))) rfl
theorem wd_155 : Cond.code yX0_sameRun cX0_sameRun 5 (some .boolean) ∈ GW := gw_2 (i := 28) rfl rfl
theorem wd_156 : Cond.methodLink RX0 124 yX0_endOfRun ∈ GW := gw_2 (i := 29) rfl rfl
theorem wd_157 : Cond.instanceMethod yX0_endOfRun ∈ GW := gw_2 (i := 31) rfl rfl
theorem wd_158 : Cond.selects RX0 yX0_endOfRun yX0_endOfRun ∈ GW := gw_of (List.mem_append_left _ (List.mem_of_getElem? (i := 17) (by decide +kernel))) rfl
theorem wd_159 : Cond.code yX0_endOfRun cX0_endOfRun 6 (some .int) ∈ GW := gw_2 (i := 32) rfl rfl
theorem wd_160 : Cond.methodLink RL 61 yX0_runs ∈ GW := gw_2 (i := 33) rfl rfl
theorem wd_161 : Cond.instanceMethod yX0_runs ∈ GW := gw_2 (i := 34) rfl rfl
theorem wd_162 : Cond.selects RX0 yX0_runs yX0_runs ∈ GW := gw_2 (i := 35) rfl rfl
theorem wd_163 : Cond.code yX0_runs cX0_runs 7 (some .int) ∈ GW := gw_2 (i := 36) rfl rfl
theorem wd_164 : Cond.methodLink RL 64 yX0_longest ∈ GW := gw_2 (i := 37) rfl rfl
theorem wd_165 : Cond.instanceMethod yX0_longest ∈ GW := gw_2 (i := 38) rfl rfl
theorem wd_166 : Cond.selects RX0 yX0_longest yX0_longest ∈ GW := gw_2 (i := 39) rfl rfl
theorem wd_167 : Cond.code yX0_longest cX0_longest 7 (some .int) ∈ GW := gw_2 (i := 40) rfl rfl
theorem wd_168 : Cond.methodLink RX0 127 Lib.Math.max.name ∈ GW := gw_2 (i := 41) rfl rfl
theorem wd_169 : Cond.static Lib.Math.max.name ∈ GW := gw_2 (i := 42) rfl rfl
theorem wd_170 : Cond.initialized "java/lang/Math" ∈ GW := gw_1 (i := 9) rfl rfl
theorem wd_171 : Cond.code Lib.Math.max.name Lib.Math.max.code 2 (some .int) ∈ GW := gw_2 (i := 43) (by decide +kernel) rfl
theorem wd_172 : Cond.methodLink RL 67 yX0_value ∈ GW := gw_2 (i := 44) rfl rfl
theorem wd_173 : Cond.instanceMethod yX0_value ∈ GW := gw_2 (i := 45) rfl rfl
theorem wd_174 : Cond.selects RX0 yX0_value yX0_value ∈ GW := gw_2 (i := 46) rfl rfl
theorem wd_175 : Cond.code yX0_value cX0_value 5 (some .int) ∈ GW := gw_2 (i := 47) rfl rfl
theorem wd_176 : Cond.methodLink RL 111 yL_areValuesSo ∈ GW := gw_2 (i := 48) rfl rfl
theorem wd_177 : Cond.static yL_areValuesSo ∈ GW := gw_2 (i := 49) rfl rfl
theorem wd_178 : Cond.code yL_areValuesSo cL_areValuesSo 9 (some .boolean) ∈ GW := gw_2 (i := 50) rfl rfl
theorem wd_179 : Cond.methodLink RL 70 yX0_keys ∈ GW := gw_2 (i := 51) rfl rfl
theorem wd_180 : Cond.instanceMethod yX0_keys ∈ GW := gw_2 (i := 52) rfl rfl
theorem wd_181 : Cond.selects RX0 yX0_keys yX0_keys ∈ GW := gw_2 (i := 53) rfl rfl
theorem wd_182 : Cond.code yX0_keys cX0_keys 6 (some .int) ∈ GW := gw_2 (i := 54) rfl rfl
theorem wd_183 : Cond.methodLink RL 73 yX0_joined ∈ GW := gw_2 (i := 55) rfl rfl
theorem wd_184 : Cond.instanceMethod yX0_joined ∈ GW := gw_2 (i := 56) rfl rfl
theorem wd_185 : Cond.selects RX0 yX0_joined yX0_joined ∈ GW := gw_2 (i := 57) rfl rfl
theorem wd_186 : Cond.code yX0_joined cX0_joined 4 (some .int) ∈ GW := gw_2 (i := 58) rfl rfl
theorem wd_187 : Cond.methodLink RX0 81 yX0_joinedOn ∈ GW := gw_2 (i := 59) rfl rfl
theorem wd_188 : Cond.instanceMethod yX0_joinedOn ∈ GW := gw_2 (i := 61) rfl rfl
theorem wd_189 : Cond.selects RX0 yX0_joinedOn yX0_joinedOn ∈ GW := gw_of (List.mem_append_left _ (List.mem_of_getElem? (i := 18) (by decide +kernel))) rfl
theorem wd_190 : Cond.code yX0_joinedOn cX0_joinedOn 5 (some .int) ∈ GW := gw_2 (i := 62) rfl rfl
theorem wd_191 : Cond.methodLink RL 115 yL_areRunsSo ∈ GW := gw_2 (i := 63) rfl rfl
theorem wd_192 : Cond.static yL_areRunsSo ∈ GW := gw_2 (i := 64) rfl rfl
theorem wd_193 : Cond.code yL_areRunsSo cL_areRunsSo 14 (some .boolean) ∈ GW := gw_2 (i := 65) rfl rfl
theorem wd_194 : Cond.constantFloat RL 43 (3212836864) ∈ GW := gw_2 (i := 95) rfl rfl
theorem wd_195 : Cond.methodLink RL 76 yX0_run ∈ GW := gw_2 (i := 66) rfl rfl
theorem wd_196 : Cond.instanceMethod yX0_run ∈ GW := gw_2 (i := 67) rfl rfl
theorem wd_197 : Cond.selects RX0 yX0_run yX0_run ∈ GW := gw_2 (i := 68) rfl rfl
theorem wd_198 : Cond.code yX0_run cX0_run 7 (some .int) ∈ GW := gw_2 (i := 69) rfl rfl
theorem wd_199 : Cond.methodLink RX0 88 yX0_firstDayOfRun ∈ GW := gw_2 (i := 70) rfl rfl
theorem wd_200 : Cond.instanceMethod yX0_firstDayOfRun ∈ GW := gw_2 (i := 72) rfl rfl
theorem wd_201 : Cond.selects RX0 yX0_firstDayOfRun yX0_firstDayOfRun ∈ GW := gw_of (List.mem_append_left _ (List.mem_of_getElem? (i := 19) (by decide +kernel))) rfl
theorem wd_202 : Cond.code yX0_firstDayOfRun cX0_firstDayOfRun 6 (some .int) ∈ GW := gw_2 (i := 73) rfl rfl
theorem wd_203 : Cond.methodLink RX0 96 yX0_runNumber ∈ GW := gw_2 (i := 75) rfl rfl
theorem wd_204 : Cond.instanceMethod yX0_runNumber ∈ GW := gw_2 (i := 77) rfl rfl
theorem wd_205 : Cond.selects RX0 yX0_runNumber yX0_runNumber ∈ GW := gw_of (List.mem_append_left _ (List.mem_of_getElem? (i := 20) (by decide +kernel))) rfl
theorem wd_206 : Cond.code yX0_runNumber cX0_runNumber 4 (some .int) ∈ GW := gw_2 (i := 78) rfl rfl
theorem wd_207 : Cond.methodLink RL 79 yX0_joinedRuns ∈ GW := gw_2 (i := 79) rfl rfl
theorem wd_208 : Cond.instanceMethod yX0_joinedRuns ∈ GW := gw_2 (i := 80) rfl rfl
theorem wd_209 : Cond.selects RX0 yX0_joinedRuns yX0_joinedRuns ∈ GW := gw_2 (i := 81) rfl rfl
theorem wd_210 : Cond.code yX0_joinedRuns cX0_joinedRuns 5 (some .int) ∈ GW := gw_2 (i := 82) rfl rfl
theorem wd_211 : Cond.methodLink RX0 99 yX0_startsJoinedRun ∈ GW := gw_2 (i := 83) rfl rfl
theorem wd_212 : Cond.instanceMethod yX0_startsJoinedRun ∈ GW := gw_2 (i := 85) rfl rfl
theorem wd_213 : Cond.selects RX0 yX0_startsJoinedRun yX0_startsJoinedRun ∈ GW := gw_of (List.mem_append_left _ (List.mem_of_getElem? (i := 21) (by decide +kernel))) rfl
theorem wd_214 : Cond.code yX0_startsJoinedRun cX0_startsJoinedRun 4 (some .boolean) ∈ GW := gw_2 (i := 86) rfl rfl
theorem wd_215 : Cond.methodLink RL 82 yL_average ∈ GW := gw_2 (i := 87) rfl rfl
theorem wd_216 : Cond.static yL_average ∈ GW := gw_2 (i := 88) rfl rfl
theorem wd_217 : Cond.codeWith yL_average cL_average 4 (some .float) [(0, 6, 7, 34)] ∈ GW := gw_2 (i := 89) rfl rfl
theorem wd_218 : Cond.methodLink RL 39 yX0_average ∈ GW := gw_2 (i := 90) rfl rfl
theorem wd_219 : Cond.instanceMethod yX0_average ∈ GW := gw_2 (i := 91) rfl rfl
theorem wd_220 : Cond.selects RX0 yX0_average yX0_average ∈ GW := gw_2 (i := 92) rfl rfl
theorem wd_221 : Cond.code yX0_average cX0_average 7 (some .float) ∈ GW := gw_2 (i := 93) rfl rfl
theorem wd_222 : Cond.methodLink RL 119 yL_isRestoredSo ∈ GW := gw_2 (i := 128) rfl rfl
theorem wd_223 : Cond.static yL_isRestoredSo ∈ GW := gw_2 (i := 129) rfl rfl
theorem wd_224 : Cond.code yL_isRestoredSo cL_isRestoredSo 10 (some .boolean) ∈ GW := gw_2 (i := 130) rfl rfl
theorem wd_225 : Cond.methodLink RL 123 yL_areRowsSo ∈ GW := gw_2 (i := 96) rfl rfl
theorem wd_226 : Cond.static yL_areRowsSo ∈ GW := gw_2 (i := 97) rfl rfl
theorem wd_227 : Cond.code yL_areRowsSo cL_areRowsSo 11 (some .boolean) ∈ GW := gw_2 (i := 98) rfl rfl
theorem wd_228 : Cond.methodLink RL 85 yL_rowRun ∈ GW := gw_2 (i := 99) rfl rfl
theorem wd_229 : Cond.static yL_rowRun ∈ GW := gw_2 (i := 100) rfl rfl
theorem wd_230 : Cond.codeWith yL_rowRun cL_rowRun 5 (some .int) [(0, 7, 8, 32)] ∈ GW := gw_2 (i := 101) rfl rfl
theorem wd_231 : Cond.methodLink RL 36 yX0_rowRun ∈ GW := gw_2 (i := 102) rfl rfl
theorem wd_232 : Cond.instanceMethod yX0_rowRun ∈ GW := gw_2 (i := 103) rfl rfl
theorem wd_233 : Cond.selects RX0 yX0_rowRun yX0_rowRun ∈ GW := gw_2 (i := 104) rfl rfl
theorem wd_234 : Cond.code yX0_rowRun cX0_rowRun 6 (some .int) ∈ GW := gw_2 (i := 105) rfl rfl
theorem wd_235 : Cond.methodLink RX0 109 yX0_startOfRow ∈ GW := gw_2 (i := 106) rfl rfl
theorem wd_236 : Cond.instanceMethod yX0_startOfRow ∈ GW := gw_2 (i := 108) rfl rfl
theorem wd_237 : Cond.selects RX0 yX0_startOfRow yX0_startOfRow ∈ GW := gw_of (List.mem_append_left _ (List.mem_of_getElem? (i := 22) (by decide +kernel))) rfl
theorem wd_238 : Cond.code yX0_startOfRow cX0_startOfRow 6 (some .int) ∈ GW := gw_2 (i := 109) rfl rfl
theorem wd_239 : Cond.methodLink RX0 112 yX0_recordOfStart ∈ GW := gw_2 (i := 111) rfl rfl
theorem wd_240 : Cond.static yX0_recordOfStart ∈ GW := gw_2 (i := 112) rfl rfl
theorem wd_241 : Cond.code yX0_recordOfStart cX0_recordOfStart 1 (some .int) ∈ GW := gw_2 (i := 113) rfl rfl
theorem wd_242 : Cond.methodLink RX0 115 yX0_validOfStart ∈ GW := gw_2 (i := 114) rfl rfl
theorem wd_243 : Cond.static yX0_validOfStart ∈ GW := gw_2 (i := 115) rfl rfl
theorem wd_244 : Cond.code yX0_validOfStart cX0_validOfStart 1 (some .int) ∈ GW := gw_2 (i := 116) rfl rfl
theorem wd_245 : Cond.methodLink RL 88 yX0_rowFrom ∈ GW := gw_2 (i := 117) rfl rfl
theorem wd_246 : Cond.instanceMethod yX0_rowFrom ∈ GW := gw_2 (i := 118) rfl rfl
theorem wd_247 : Cond.selects RX0 yX0_rowFrom yX0_rowFrom ∈ GW := gw_2 (i := 119) rfl rfl
theorem wd_248 : Cond.code yX0_rowFrom cX0_rowFrom 4 (some .int) ∈ GW := gw_2 (i := 120) rfl rfl
theorem wd_249 : Cond.methodLink RL 91 yX0_rowTo ∈ GW := gw_2 (i := 121) rfl rfl
theorem wd_250 : Cond.instanceMethod yX0_rowTo ∈ GW := gw_2 (i := 122) rfl rfl
theorem wd_251 : Cond.selects RX0 yX0_rowTo yX0_rowTo ∈ GW := gw_2 (i := 123) rfl rfl
theorem wd_252 : Cond.code yX0_rowTo cX0_rowTo 9 (some .int) ∈ GW := gw_2 (i := 124) rfl rfl
theorem wd_253 : Cond.methodLink RL 94 yL_hasRun ∈ GW := gw_2 (i := 125) rfl rfl
theorem wd_254 : Cond.static yL_hasRun ∈ GW := gw_2 (i := 126) rfl rfl
theorem wd_255 : Cond.code yL_hasRun cL_hasRun 9 (some .boolean) ∈ GW := gw_2 (i := 127) rfl rfl
theorem g_L_L_cell : GoodIn GW (va_wsS RL 99 yL_cell (Cond.code yL_cell cL_cell 2 (some .int) :: GW)) := gw_S wd_15 wd_16 wd_17 wd_18
theorem g_L_L_act : GoodIn GW (va_wsS RL 103 yL_act (Cond.code yL_act cL_act 8 (some .int) :: GW)) := gw_S wd_19 wd_20 wd_17 wd_21
theorem g_L_L_low : GoodIn GW (va_wsS RL 44 yL_low (Cond.code yL_low cL_low 2 (some .int) :: GW)) := gw_S wd_22 wd_23 wd_17 wd_24
theorem g_L_L_does : GoodIn GW (va_wsS RL 50 yL_does (Cond.codeWith yL_does cL_does 8 (some .int) [(0, 76, 77, 29), (0, 76, 82, 32), (0, 76, 87, 34)] :: GW)) := gw_S wd_26 wd_27 wd_17 wd_28
theorem g_L_X0_put : GoodIn GW (wsV RL 8 RX0 yX0_put (Cond.code yX0_put cX0_put 6 (some .int) :: GW)) := gw_V wd_32 wd_33 wd_34 wd_2 wd_35
theorem g_X0_X0_needTableAndKey : GoodIn GW (va_wsS RX0 20 yX0_needTableAndKey (Cond.code yX0_needTableAndKey cX0_needTableAndKey 2 none :: GW)) := gw_S wd_36 wd_37 wd_2 wd_38
theorem g_X0_X0_needRange : GoodIn GW (va_wsS RX0 28 yX0_needRange (Cond.code yX0_needRange cX0_needRange 2 none :: GW)) := gw_S wd_39 wd_40 wd_2 wd_41
theorem g_X0_X0_valuesOf : GoodIn GW (va_wsS RX0 24 yX0_valuesOf (Cond.code yX0_valuesOf cX0_valuesOf 1 (some .int) :: GW)) := gw_S wd_44 wd_45 wd_2 wd_46
theorem g_X0_X0_needSpan : GoodIn GW (va_wsS RX0 31 yX0_needSpan (Cond.code yX0_needSpan cX0_needSpan 2 none :: GW)) := gw_S wd_47 wd_48 wd_2 wd_49
theorem g_X0_X0_line : GoodIn GW (va_wsS RX0 34 yX0_line (Cond.code yX0_line cX0_line 2 (some .int) :: GW)) := gw_S wd_50 wd_51 wd_2 wd_52
theorem g_X0_X0_draftSpan : GoodIn GW (wsV RX0 38 RX0 yX0_draftSpan (Cond.code yX0_draftSpan cX0_draftSpan 6 none :: GW)) := gw_V wd_53 wd_54 wd_55 wd_2 wd_56
theorem g_X0_X0_knownOn : GoodIn GW (wsV RX0 77 RX0 yX0_knownOn (Cond.code yX0_knownOn cX0_knownOn 5 (some .int) :: GW)) := gw_V wd_58 wd_59 wd_60 wd_2 wd_61
theorem g_X0_X0_index : GoodIn GW (va_wsS RX0 140 yX0_index (Cond.code yX0_index cX0_index 3 (some .int) :: GW)) := gw_S wd_62 wd_63 wd_2 wd_64
theorem g_X0_X0_recordDraft : GoodIn GW (wsV RX0 42 RX0 yX0_recordDraft (Cond.code yX0_recordDraft cX0_recordDraft 6 (some .int) :: GW)) := gw_V wd_65 wd_66 wd_67 wd_2 wd_68
theorem g_X0_X0_draftKeepsReferences : GoodIn GW (wsV RX0 149 RX0 yX0_draftKeepsReferences (Cond.code yX0_draftKeepsReferences cX0_draftKeepsReferences 5 (some .boolean) :: GW)) := gw_V wd_71 wd_72 wd_73 wd_2 wd_74
theorem g_X0_X0_isReferredTo : GoodIn GW (wsV RX0 159 RX0 yX0_isReferredTo (Cond.code yX0_isReferredTo cX0_isReferredTo 4 (some .boolean) :: GW)) := gw_V wd_75 wd_76 wd_77 wd_2 wd_78
theorem g_X0_X0_recordToday : GoodIn GW (wsV RX0 155 RX0 yX0_recordToday (Cond.code yX0_recordToday cX0_recordToday 5 none :: GW)) := gw_V wd_79 wd_80 wd_81 wd_2 wd_82
theorem g_L_X0_erase : GoodIn GW (wsV RL 14 RX0 yX0_erase (Cond.code yX0_erase cX0_erase 5 (some .int) :: GW)) := gw_V wd_83 wd_84 wd_85 wd_2 wd_86
theorem g_L_X0_eraseAll : GoodIn GW (wsV RL 18 RX0 yX0_eraseAll (Cond.code yX0_eraseAll cX0_eraseAll 6 (some .int) :: GW)) := gw_V wd_87 wd_88 wd_89 wd_2 wd_90
theorem g_X0_X0_loseWithReferences : GoodIn GW (wsV RX0 45 RX0 yX0_loseWithReferences (Cond.code yX0_loseWithReferences cX0_loseWithReferences 5 (some .int) :: GW)) := gw_V wd_91 wd_92 wd_93 wd_2 wd_94
theorem g_X0_X0_lose : GoodIn GW (wsV RX0 162 RX0 yX0_lose (Cond.code yX0_lose cX0_lose 3 (some .int) :: GW)) := gw_V wd_95 wd_96 wd_97 wd_2 wd_98
theorem g_L_X0_restore : GoodIn GW (wsV RL 22 RX0 yX0_restore (Cond.code yX0_restore cX0_restore 4 (some .int) :: GW)) := gw_V wd_99 wd_100 wd_101 wd_2 wd_102
theorem g_X0_X0_needRecord : GoodIn GW (wsV RX0 48 RX0 yX0_needRecord (Cond.code yX0_needRecord cX0_needRecord 2 none :: GW)) := gw_V wd_103 wd_104 wd_105 wd_2 wd_106
theorem g_X0_X0_draftRecord : GoodIn GW (wsV RX0 52 RX0 yX0_draftRecord (Cond.code yX0_draftRecord cX0_draftRecord 4 none :: GW)) := gw_V wd_109 wd_110 wd_111 wd_2 wd_112
theorem g_L_X0_pass : GoodIn GW (wsV RL 25 RX0 yX0_pass (Cond.code yX0_pass cX0_pass 4 (some .int) :: GW)) := gw_V wd_113 wd_114 wd_115 wd_2 wd_116
theorem g_X0_X0_keepOn : GoodIn GW (wsV RX0 71 RX0 yX0_keepOn (Cond.code yX0_keepOn cX0_keepOn 3 none :: GW)) := gw_V wd_117 wd_118 wd_119 wd_2 wd_120
theorem g_X0_X0_copyDay : GoodIn GW (wsV RX0 74 RX0 yX0_copyDay (Cond.code yX0_copyDay cX0_copyDay 3 none :: GW)) := gw_V wd_121 wd_122 wd_123 wd_2 wd_124
theorem g_L_X0_today : GoodIn GW (wsV RL 54 RX0 yX0_today (Cond.code yX0_today cX0_today 1 (some .int) :: GW)) := gw_V wd_129 wd_130 wd_131 wd_2 wd_132
theorem g_L_L_areAlike : GoodIn GW (va_wsS RL 107 yL_areAlike (Cond.code yL_areAlike cL_areAlike 5 (some .boolean) :: GW)) := gw_S wd_133 wd_134 wd_17 wd_135
theorem g_L_X0_rows : GoodIn GW (wsV RL 58 RX0 yX0_rows (Cond.code yX0_rows cX0_rows 7 (some .int) :: GW)) := gw_V wd_136 wd_137 wd_138 wd_2 wd_139
theorem g_X0_X0_isKept : GoodIn GW (wsV RX0 102 RX0 yX0_isKept (Cond.code yX0_isKept cX0_isKept 2 (some .boolean) :: GW)) := gw_V wd_140 wd_141 wd_142 wd_2 wd_143
theorem g_X0_X0_startsRow : GoodIn GW (wsV RX0 106 RX0 yX0_startsRow (Cond.code yX0_startsRow cX0_startsRow 4 (some .boolean) :: GW)) := gw_V wd_144 wd_145 wd_146 wd_2 wd_147
theorem g_X0_X0_startsRun : GoodIn GW (wsV RX0 84 RX0 yX0_startsRun (Cond.code yX0_startsRun cX0_startsRun 5 (some .boolean) :: GW)) := gw_V wd_148 wd_149 wd_150 wd_2 wd_151
theorem g_X0_X0_sameRun : GoodIn GW (wsV RX0 118 RX0 yX0_sameRun (Cond.code yX0_sameRun cX0_sameRun 5 (some .boolean) :: GW)) := gw_V wd_152 wd_153 wd_154 wd_2 wd_155
theorem g_X0_X0_endOfRun : GoodIn GW (wsV RX0 124 RX0 yX0_endOfRun (Cond.code yX0_endOfRun cX0_endOfRun 6 (some .int) :: GW)) := gw_V wd_156 wd_157 wd_158 wd_2 wd_159
theorem g_L_X0_runs : GoodIn GW (wsV RL 61 RX0 yX0_runs (Cond.code yX0_runs cX0_runs 7 (some .int) :: GW)) := gw_V wd_160 wd_161 wd_162 wd_2 wd_163
theorem g_L_X0_longest : GoodIn GW (wsV RL 64 RX0 yX0_longest (Cond.code yX0_longest cX0_longest 7 (some .int) :: GW)) := gw_V wd_164 wd_165 wd_166 wd_2 wd_167
theorem g_L_X0_value : GoodIn GW (wsV RL 67 RX0 yX0_value (Cond.code yX0_value cX0_value 5 (some .int) :: GW)) := gw_V wd_172 wd_173 wd_174 wd_2 wd_175
theorem g_L_L_areValuesSo : GoodIn GW (va_wsS RL 111 yL_areValuesSo (Cond.code yL_areValuesSo cL_areValuesSo 9 (some .boolean) :: GW)) := gw_S wd_176 wd_177 wd_17 wd_178
theorem g_L_X0_keys : GoodIn GW (wsV RL 70 RX0 yX0_keys (Cond.code yX0_keys cX0_keys 6 (some .int) :: GW)) := gw_V wd_179 wd_180 wd_181 wd_2 wd_182
theorem g_L_X0_joined : GoodIn GW (wsV RL 73 RX0 yX0_joined (Cond.code yX0_joined cX0_joined 4 (some .int) :: GW)) := gw_V wd_183 wd_184 wd_185 wd_2 wd_186
theorem g_X0_X0_joinedOn : GoodIn GW (wsV RX0 81 RX0 yX0_joinedOn (Cond.code yX0_joinedOn cX0_joinedOn 5 (some .int) :: GW)) := gw_V wd_187 wd_188 wd_189 wd_2 wd_190
theorem g_L_L_areRunsSo : GoodIn GW (va_wsS RL 115 yL_areRunsSo (Cond.code yL_areRunsSo cL_areRunsSo 14 (some .boolean) :: GW)) := gw_S wd_191 wd_192 wd_17 wd_193
theorem g_L_X0_run : GoodIn GW (wsV RL 76 RX0 yX0_run (Cond.code yX0_run cX0_run 7 (some .int) :: GW)) := gw_V wd_195 wd_196 wd_197 wd_2 wd_198
theorem g_X0_X0_firstDayOfRun : GoodIn GW (wsV RX0 88 RX0 yX0_firstDayOfRun (Cond.code yX0_firstDayOfRun cX0_firstDayOfRun 6 (some .int) :: GW)) := gw_V wd_199 wd_200 wd_201 wd_2 wd_202
theorem g_X0_X0_runNumber : GoodIn GW (wsV RX0 96 RX0 yX0_runNumber (Cond.code yX0_runNumber cX0_runNumber 4 (some .int) :: GW)) := gw_V wd_203 wd_204 wd_205 wd_2 wd_206
theorem g_L_X0_joinedRuns : GoodIn GW (wsV RL 79 RX0 yX0_joinedRuns (Cond.code yX0_joinedRuns cX0_joinedRuns 5 (some .int) :: GW)) := gw_V wd_207 wd_208 wd_209 wd_2 wd_210
theorem g_X0_X0_startsJoinedRun : GoodIn GW (wsV RX0 99 RX0 yX0_startsJoinedRun (Cond.code yX0_startsJoinedRun cX0_startsJoinedRun 4 (some .boolean) :: GW)) := gw_V wd_211 wd_212 wd_213 wd_2 wd_214
theorem g_L_L_average : GoodIn GW (va_wsS RL 82 yL_average (Cond.codeWith yL_average cL_average 4 (some .float) [(0, 6, 7, 34)] :: GW)) := gw_S wd_215 wd_216 wd_17 wd_217
theorem g_L_X0_average : GoodIn GW (wsV RL 39 RX0 yX0_average (Cond.code yX0_average cX0_average 7 (some .float) :: GW)) := gw_V wd_218 wd_219 wd_220 wd_2 wd_221
theorem g_L_L_isRestoredSo : GoodIn GW (va_wsS RL 119 yL_isRestoredSo (Cond.code yL_isRestoredSo cL_isRestoredSo 10 (some .boolean) :: GW)) := gw_S wd_222 wd_223 wd_17 wd_224
theorem g_L_L_areRowsSo : GoodIn GW (va_wsS RL 123 yL_areRowsSo (Cond.code yL_areRowsSo cL_areRowsSo 11 (some .boolean) :: GW)) := gw_S wd_225 wd_226 wd_17 wd_227
theorem g_L_L_rowRun : GoodIn GW (va_wsS RL 85 yL_rowRun (Cond.codeWith yL_rowRun cL_rowRun 5 (some .int) [(0, 7, 8, 32)] :: GW)) := gw_S wd_228 wd_229 wd_17 wd_230
theorem g_L_X0_rowRun : GoodIn GW (wsV RL 36 RX0 yX0_rowRun (Cond.code yX0_rowRun cX0_rowRun 6 (some .int) :: GW)) := gw_V wd_231 wd_232 wd_233 wd_2 wd_234
theorem g_X0_X0_startOfRow : GoodIn GW (wsV RX0 109 RX0 yX0_startOfRow (Cond.code yX0_startOfRow cX0_startOfRow 6 (some .int) :: GW)) := gw_V wd_235 wd_236 wd_237 wd_2 wd_238
theorem g_X0_X0_recordOfStart : GoodIn GW (va_wsS RX0 112 yX0_recordOfStart (Cond.code yX0_recordOfStart cX0_recordOfStart 1 (some .int) :: GW)) := gw_S wd_239 wd_240 wd_2 wd_241
theorem g_X0_X0_validOfStart : GoodIn GW (va_wsS RX0 115 yX0_validOfStart (Cond.code yX0_validOfStart cX0_validOfStart 1 (some .int) :: GW)) := gw_S wd_242 wd_243 wd_2 wd_244
theorem g_L_X0_rowFrom : GoodIn GW (wsV RL 88 RX0 yX0_rowFrom (Cond.code yX0_rowFrom cX0_rowFrom 4 (some .int) :: GW)) := gw_V wd_245 wd_246 wd_247 wd_2 wd_248
theorem g_L_X0_rowTo : GoodIn GW (wsV RL 91 RX0 yX0_rowTo (Cond.code yX0_rowTo cX0_rowTo 9 (some .int) :: GW)) := gw_V wd_249 wd_250 wd_251 wd_2 wd_252
theorem g_L_L_hasRun : GoodIn GW (va_wsS RL 94 yL_hasRun (Cond.code yL_hasRun cL_hasRun 9 (some .boolean) :: GW)) := gw_S wd_253 wd_254 wd_17 wd_255
theorem inX0 : ∀ w ∈ wsX00, w ∈ GW := by decide +kernel
end
section
/-! the base layer: a world, the locals as a list, the operand stack; a row an instruction -/
def lk : List (Nat × Value) → Nat → Option Value
  | [], _ => none
  | q :: r, i => cond (Nat.beq q.1 i) (some q.2) (lk r i)
def lvk (ls : Array Slot) (n : Nat) (L : List (Nat × Value)) : Prop := ls.size = n ∧ lv_wf ls ∧ ∀ (i : Nat) (v : Value), lk L i = some v → v.category = 1 ∧ ls[i]? = some (.val v)
theorem lk_cons_eq (i : Nat) (v : Value) (L : List (Nat × Value)) : lk ((i, v) :: L) i = some v := by
  show cond (Nat.beq i i) (some v) (lk L i) = some v
  rw [show Nat.beq i i = true from Nat.beq_refl i]; rfl
theorem lk_cons_ne {i j : Nat} (v : Value) (L : List (Nat × Value)) (h : i ≠ j) : lk ((i, v) :: L) j = lk L j := by
  show cond (Nat.beq i j) (some v) (lk L j) = lk L j
  have hb : Nat.beq i j = false := by
    cases hb : Nat.beq i j with
    | true => exact absurd (Nat.eq_of_beq_eq_true hb) h
    | false => rfl
  rw [hb]; rfl
theorem lvk_store {ls : Array Slot} {n i : Nat} {L : List (Nat × Value)} {v : Value} (h : lvk ls n L) (hi : i < n) (hc : v.category = 1) : ∃ ls', storeLocals ls i v = some ls' ∧ lvk ls' n ((i, v) :: L) := by
  obtain ⟨h1, h2, h3⟩ := h
  obtain ⟨ls', e', h'⟩ := lv_store1 (l := []) ⟨h1, h2, fun q hq => nomatch hq⟩ hi hc
  refine ⟨ls', e', h'.1, h'.2.1, fun j w hw => ?_⟩
  by_cases hij : i = j
  · subst hij
    rw [lk_cons_eq] at hw
    cases hw
    exact ⟨hc, h'.2.2 (i, v) List.mem_cons_self⟩
  · rw [lk_cons_ne v L hij] at hw
    obtain ⟨g1, g2⟩ := h3 j w hw
    obtain ⟨ls2, e2, h2'⟩ := lv_store1 (l := [(j, w)]) ⟨h1, h2, fun q hq => by rw [List.mem_singleton.mp hq]; exact g2⟩ hi hc
    cases e'.symm.trans e2
    refine ⟨g1, h2'.2.2 (j, w) (List.mem_cons_of_mem _ (List.mem_filter.mpr ⟨List.mem_singleton.mpr rfl, ?_⟩))⟩
    have hji : (j == i) = false := by simp [Ne.symm hij]
    simp [hji, g1]
theorem lk_mem : ∀ {L : List (Nat × Value)} {i : Nat} {v : Value}, lk L i = some v → (i, v) ∈ L
  | [], _, _, h => nomatch h
  | (j, w) :: r, i, v, h => by
    by_cases hj : j = i
    · subst hj
      rw [lk_cons_eq] at h
      cases h
      exact List.mem_cons_self
    · rw [lk_cons_ne w r hj] at h
      exact List.mem_cons_of_mem _ (lk_mem h)
theorem lvk_of {ls : Array Slot} {n : Nat} {L : List (Nat × Value)} (h : lv_has ls n L) (hc : L.all (fun q => q.2.category == 1) = true) : lvk ls n L :=
  ⟨h.1, h.2.1, fun i v hv => ⟨by have := List.all_eq_true.mp hc _ (lk_mem hv); simpa using this, h.2.2 (i, v) (lk_mem hv)⟩⟩
def lsub (L' : List (Nat × Value)) : List (Nat × Value) → Prop
  | [] => True
  | q :: r => lk L' q.1 = some q.2 ∧ lsub L' r
theorem lsub_mem {L' : List (Nat × Value)} : ∀ {L : List (Nat × Value)}, lsub L' L → ∀ q ∈ L, lk L' q.1 = some q.2
  | [], _, _, h => nomatch h
  | _ :: _, h, q, hq => (List.mem_cons.mp hq).elim (fun e => by rw [e]; exact h.1) (fun hq => lsub_mem h.2 q hq)
theorem lvk_sub {ls : Array Slot} {n : Nat} {L L' : List (Nat × Value)} (h : lvk ls n L) (hs : lsub L L') : lvk ls n L' :=
  ⟨h.1, h.2.1, fun i v hv => h.2.2 i v (lsub_mem hs (i, v) (lk_mem hv))⟩
def gg (p : Program) (l : Launch) (e : Env) (R : Room) (s : State) (m : MethodId) (args : Array Value) (below : List Frame) (meth : Method) (c : Code) (D : va_G) (A : Nat → Prop) (n cells slots : Nat) (Q : State → Prop) (ws : va_W) (pc : Nat) (L : List (Nat × Value)) (st : List Value) : Prop :=
  ∀ (H : Heap) (locs : List Loc) (ls : Array Slot), va_P D vwCl ws H → va_D A ws → va_S A s.heap H locs → lvk ls n L → W p l e R s m args below meth c H locs cells slots Q (F0 m pc ls st)
def kx (p : Program) (s : State) (m : MethodId) (args : Array Value) (meth : Method) (c : Code) (D : va_G) (A : Nat → Prop) (tys : List (ClassId × FieldType)) (cc : ByteArray) (own : String) (n : Nat) : Prop :=
  CallFix p m c cc n s args GW own ∧ va_K D vwCl tys s ∧ (∀ q : Nat, s.heap.size ≤ q → A q) ∧ meth.locks = false
def inW (D : va_G) (tys : List (ClassId × FieldType)) (ws : va_W) (sz : Nat) (U : State) : Prop := U.heap.size = sz ∧ va_P D vwCl ws U.heap ∧ va_K D vwCl tys U ∧ va_D (fun _ => True) ws
def outW (D : va_G) (tys : List (ClassId × FieldType)) (A : Nat → Prop) (u : va_W) (t : State) : Prop := va_P D vwCl u t.heap ∧ va_K D vwCl tys t ∧ va_D A u
def qA (D : va_G) (tys : List (ClassId × FieldType)) (A : Nat → Prop) (post : Option Value → va_W → Prop) : Array Value → State → Outcome → State → Prop := fun _ st oc t => (∃ (v : Option Value) (u : va_W), oc = .returned v ∧ post v u ∧ outW D tys A u t) ∧ va_F A st t
def xA (D : va_G) (tys : List (ClassId × FieldType)) (A : Nat → Prop) (pe : String → va_W → Prop) : String → State → State → Prop := fun E st t => (∃ u : va_W, pe E u ∧ outW D tys A u t) ∧ va_F A st t
/-- a method's contract: from the world ws, with the arguments As, it returns an answer and a world as post says -/
def mA (l : Launch) (D : va_G) (tys : List (ClassId × FieldType)) (y : MethodName) (cd : ByteArray) (maxL : Nat) (ret : Option FieldType) (rm : Room) (ws : va_W) (As : List Value) (post : Option Value → va_W → Prop) : Prop :=
  ∀ sz : Nat, Met l y (.code y cd maxL ret :: GW) rm (va_Pc As (inW D tys ws sz)) (qA D tys (va_A ws sz) post) rm.cells rm.slots (va_A ws sz)

theorem gg_iconst {p : Program} {l : Launch} {e : Env} {R : Room} {s : State} {m : MethodId} {args : Array Value} {below : List Frame} {meth : Method} {c : Code} {D : va_G} {A : Nat → Prop} {tys : List (ClassId × FieldType)} {cc : ByteArray} {own : String} {n cells slots pc : Nat} {Q : State → Prop} {ws : va_W} {L : List (Nat × Value)} {st : List Value} {z : Int} {v : Int32} (K : kx p s m args meth c D A tys cc own n) (hd : decode cc pc = .ok (.iconst z, 1)) (hv : Int32.ofInt z = v) (k : gg p l e R s m args below meth c D A n cells slots Q ws (pc + 1) L (.int v :: st)) : gg p l e R s m args below meth c D A n cells slots Q ws pc L st := fun H locs ls hP hD hS hl => lv_iconst K.1.1 K.1.2.1 hd hv (k H locs ls hP hD hS hl)
theorem gg_bipush {p : Program} {l : Launch} {e : Env} {R : Room} {s : State} {m : MethodId} {args : Array Value} {below : List Frame} {meth : Method} {c : Code} {D : va_G} {A : Nat → Prop} {tys : List (ClassId × FieldType)} {cc : ByteArray} {own : String} {n cells slots pc : Nat} {Q : State → Prop} {ws : va_W} {L : List (Nat × Value)} {st : List Value} {z : Int} {v : Int32} (K : kx p s m args meth c D A tys cc own n) (hd : decode cc pc = .ok (.bipush z, 2)) (hv : (Int8.ofInt z).toInt32 = v) (k : gg p l e R s m args below meth c D A n cells slots Q ws (pc + 2) L (.int v :: st)) : gg p l e R s m args below meth c D A n cells slots Q ws pc L st := fun H locs ls hP hD hS hl => lv_bipush K.1.1 K.1.2.1 hd hv (k H locs ls hP hD hS hl)
theorem gg_sipush {p : Program} {l : Launch} {e : Env} {R : Room} {s : State} {m : MethodId} {args : Array Value} {below : List Frame} {meth : Method} {c : Code} {D : va_G} {A : Nat → Prop} {tys : List (ClassId × FieldType)} {cc : ByteArray} {own : String} {n cells slots pc : Nat} {Q : State → Prop} {ws : va_W} {L : List (Nat × Value)} {st : List Value} {z : Int} {v : Int32} (K : kx p s m args meth c D A tys cc own n) (hd : decode cc pc = .ok (.sipush z, 3)) (hv : (Int16.ofInt z).toInt32 = v) (k : gg p l e R s m args below meth c D A n cells slots Q ws (pc + 3) L (.int v :: st)) : gg p l e R s m args below meth c D A n cells slots Q ws pc L st := fun H locs ls hP hD hS hl => lv_sipush K.1.1 K.1.2.1 hd hv (k H locs ls hP hD hS hl)
theorem gg_ldc {p : Program} {l : Launch} {e : Env} {R : Room} {s : State} {m : MethodId} {args : Array Value} {below : List Frame} {meth : Method} {c : Code} {D : va_G} {A : Nat → Prop} {tys : List (ClassId × FieldType)} {cc : ByteArray} {own : String} {n cells slots pc : Nat} {Q : State → Prop} {ws : va_W} {L : List (Nat × Value)} {st : List Value} {index : Nat} {v : Int32} (K : kx p s m args meth c D A tys cc own n) (hc : (Cond.constant own index v) ∈ GW) (hd : decode cc pc = .ok (.ldc index, 2)) (k : gg p l e R s m args below meth c D A n cells slots Q ws (pc + 2) L (.int v :: st)) : gg p l e R s m args below meth c D A n cells slots Q ws pc L st := fun H locs ls hP hD hS hl => lv_ldc K.1.1 K.1.2.1 K.1.2.2.2.1 (K.1.2.2.2.2 _ hc) hd (k H locs ls hP hD hS hl)
theorem gg_iload_n {p : Program} {l : Launch} {e : Env} {R : Room} {s : State} {m : MethodId} {args : Array Value} {below : List Frame} {meth : Method} {c : Code} {D : va_G} {A : Nat → Prop} {tys : List (ClassId × FieldType)} {cc : ByteArray} {own : String} {n cells slots pc : Nat} {Q : State → Prop} {ws : va_W} {L : List (Nat × Value)} {st : List Value} {j : Fin 4} {i : Nat} {x : Int32} (K : kx p s m args meth c D A tys cc own n) (hd : decode cc pc = .ok (.iload_n j, 1)) (hi : (j : Nat) = i) (hx : lk L i = some (.int x)) (k : gg p l e R s m args below meth c D A n cells slots Q ws (pc + 1) L (.int x :: st)) : gg p l e R s m args below meth c D A n cells slots Q ws pc L st := fun H locs ls hP hD hS hl => lv_iload_n K.1.1 K.1.2.1 hd hi (hl.2.2 _ _ hx).2 (k H locs ls hP hD hS hl)
theorem gg_iload {p : Program} {l : Launch} {e : Env} {R : Room} {s : State} {m : MethodId} {args : Array Value} {below : List Frame} {meth : Method} {c : Code} {D : va_G} {A : Nat → Prop} {tys : List (ClassId × FieldType)} {cc : ByteArray} {own : String} {n cells slots pc : Nat} {Q : State → Prop} {ws : va_W} {L : List (Nat × Value)} {st : List Value} {i : Nat} {x : Int32} (K : kx p s m args meth c D A tys cc own n) (hd : decode cc pc = .ok (.iload i, 2)) (hx : lk L i = some (.int x)) (k : gg p l e R s m args below meth c D A n cells slots Q ws (pc + 2) L (.int x :: st)) : gg p l e R s m args below meth c D A n cells slots Q ws pc L st := fun H locs ls hP hD hS hl => lv_iload K.1.1 K.1.2.1 hd (hl.2.2 _ _ hx).2 (k H locs ls hP hD hS hl)
theorem gg_aload_n {p : Program} {l : Launch} {e : Env} {R : Room} {s : State} {m : MethodId} {args : Array Value} {below : List Frame} {meth : Method} {c : Code} {D : va_G} {A : Nat → Prop} {tys : List (ClassId × FieldType)} {cc : ByteArray} {own : String} {n cells slots pc : Nat} {Q : State → Prop} {ws : va_W} {L : List (Nat × Value)} {st : List Value} {j : Fin 4} {i : Nat} {x : Nat} (K : kx p s m args meth c D A tys cc own n) (hd : decode cc pc = .ok (.aload_n j, 1)) (hi : (j : Nat) = i) (hx : lk L i = some (.ref x)) (k : gg p l e R s m args below meth c D A n cells slots Q ws (pc + 1) L (.ref x :: st)) : gg p l e R s m args below meth c D A n cells slots Q ws pc L st := fun H locs ls hP hD hS hl => lv_aload_n K.1.1 K.1.2.1 hd hi (hl.2.2 _ _ hx).2 (k H locs ls hP hD hS hl)
theorem gg_aload {p : Program} {l : Launch} {e : Env} {R : Room} {s : State} {m : MethodId} {args : Array Value} {below : List Frame} {meth : Method} {c : Code} {D : va_G} {A : Nat → Prop} {tys : List (ClassId × FieldType)} {cc : ByteArray} {own : String} {n cells slots pc : Nat} {Q : State → Prop} {ws : va_W} {L : List (Nat × Value)} {st : List Value} {i : Nat} {x : Nat} (K : kx p s m args meth c D A tys cc own n) (hd : decode cc pc = .ok (.aload i, 2)) (hx : lk L i = some (.ref x)) (k : gg p l e R s m args below meth c D A n cells slots Q ws (pc + 2) L (.ref x :: st)) : gg p l e R s m args below meth c D A n cells slots Q ws pc L st := fun H locs ls hP hD hS hl => lv_aload K.1.1 K.1.2.1 hd (hl.2.2 _ _ hx).2 (k H locs ls hP hD hS hl)
theorem gg_fload_n {p : Program} {l : Launch} {e : Env} {R : Room} {s : State} {m : MethodId} {args : Array Value} {below : List Frame} {meth : Method} {c : Code} {D : va_G} {A : Nat → Prop} {tys : List (ClassId × FieldType)} {cc : ByteArray} {own : String} {n cells slots pc : Nat} {Q : State → Prop} {ws : va_W} {L : List (Nat × Value)} {st : List Value} {j : Fin 4} {i : Nat} {x : UInt32} (K : kx p s m args meth c D A tys cc own n) (hd : decode cc pc = .ok (.fload_n j, 1)) (hi : (j : Nat) = i) (hx : lk L i = some (.float x)) (k : gg p l e R s m args below meth c D A n cells slots Q ws (pc + 1) L (.float x :: st)) : gg p l e R s m args below meth c D A n cells slots Q ws pc L st := fun H locs ls hP hD hS hl => lv_fload_n K.1.1 K.1.2.1 hd hi (hl.2.2 _ _ hx).2 (k H locs ls hP hD hS hl)
theorem gg_fload {p : Program} {l : Launch} {e : Env} {R : Room} {s : State} {m : MethodId} {args : Array Value} {below : List Frame} {meth : Method} {c : Code} {D : va_G} {A : Nat → Prop} {tys : List (ClassId × FieldType)} {cc : ByteArray} {own : String} {n cells slots pc : Nat} {Q : State → Prop} {ws : va_W} {L : List (Nat × Value)} {st : List Value} {i : Nat} {x : UInt32} (K : kx p s m args meth c D A tys cc own n) (hd : decode cc pc = .ok (.fload i, 2)) (hx : lk L i = some (.float x)) (k : gg p l e R s m args below meth c D A n cells slots Q ws (pc + 2) L (.float x :: st)) : gg p l e R s m args below meth c D A n cells slots Q ws pc L st := fun H locs ls hP hD hS hl => lv_fload K.1.1 K.1.2.1 hd (hl.2.2 _ _ hx).2 (k H locs ls hP hD hS hl)
theorem gg_istore_n {p : Program} {l : Launch} {e : Env} {R : Room} {s : State} {m : MethodId} {args : Array Value} {below : List Frame} {meth : Method} {c : Code} {D : va_G} {A : Nat → Prop} {tys : List (ClassId × FieldType)} {cc : ByteArray} {own : String} {n cells slots pc : Nat} {Q : State → Prop} {ws : va_W} {L : List (Nat × Value)} {st : List Value} {j : Fin 4} {i : Nat} {x : Int32} (K : kx p s m args meth c D A tys cc own n) (hd : decode cc pc = .ok (.istore_n j, 1)) (hi : (j : Nat) = i) (hn : i < n) (k : gg p l e R s m args below meth c D A n cells slots Q ws (pc + 1) ((i, .int x) :: L) st) : gg p l e R s m args below meth c D A n cells slots Q ws pc L (.int x :: st) := by
  intro H locs ls hP hD hS hl T hT X
  subst hi
  obtain ⟨ls', e', h'⟩ := lvk_store (v := .int x) hl hn rfl
  obtain ⟨t, a, b⟩ := k H locs ls' hP hD hS h' T hT X
  refine ⟨t, ?_, b⟩
  jvm_step X.here [X.here.top, ↓top_set X.here.top, K.1.1, K.1.2.1, hd, e']
  exact a
theorem gg_istore {p : Program} {l : Launch} {e : Env} {R : Room} {s : State} {m : MethodId} {args : Array Value} {below : List Frame} {meth : Method} {c : Code} {D : va_G} {A : Nat → Prop} {tys : List (ClassId × FieldType)} {cc : ByteArray} {own : String} {n cells slots pc : Nat} {Q : State → Prop} {ws : va_W} {L : List (Nat × Value)} {st : List Value} {i : Nat} {x : Int32} (K : kx p s m args meth c D A tys cc own n) (hd : decode cc pc = .ok (.istore i, 2)) (hn : i < n) (k : gg p l e R s m args below meth c D A n cells slots Q ws (pc + 2) ((i, .int x) :: L) st) : gg p l e R s m args below meth c D A n cells slots Q ws pc L (.int x :: st) := by
  intro H locs ls hP hD hS hl T hT X
  obtain ⟨ls', e', h'⟩ := lvk_store (v := .int x) hl hn rfl
  obtain ⟨t, a, b⟩ := k H locs ls' hP hD hS h' T hT X
  refine ⟨t, ?_, b⟩
  jvm_step X.here [X.here.top, ↓top_set X.here.top, K.1.1, K.1.2.1, hd, e']
  exact a
theorem gg_astore_n {p : Program} {l : Launch} {e : Env} {R : Room} {s : State} {m : MethodId} {args : Array Value} {below : List Frame} {meth : Method} {c : Code} {D : va_G} {A : Nat → Prop} {tys : List (ClassId × FieldType)} {cc : ByteArray} {own : String} {n cells slots pc : Nat} {Q : State → Prop} {ws : va_W} {L : List (Nat × Value)} {st : List Value} {j : Fin 4} {i : Nat} {x : Nat} (K : kx p s m args meth c D A tys cc own n) (hd : decode cc pc = .ok (.astore_n j, 1)) (hi : (j : Nat) = i) (hn : i < n) (k : gg p l e R s m args below meth c D A n cells slots Q ws (pc + 1) ((i, .ref x) :: L) st) : gg p l e R s m args below meth c D A n cells slots Q ws pc L (.ref x :: st) := by
  intro H locs ls hP hD hS hl T hT X
  subst hi
  obtain ⟨ls', e', h'⟩ := lvk_store (v := .ref x) hl hn rfl
  obtain ⟨t, a, b⟩ := k H locs ls' hP hD hS h' T hT X
  refine ⟨t, ?_, b⟩
  jvm_step X.here [X.here.top, ↓top_set X.here.top, K.1.1, K.1.2.1, hd, e', Value.isRef]
  exact a
theorem gg_astore {p : Program} {l : Launch} {e : Env} {R : Room} {s : State} {m : MethodId} {args : Array Value} {below : List Frame} {meth : Method} {c : Code} {D : va_G} {A : Nat → Prop} {tys : List (ClassId × FieldType)} {cc : ByteArray} {own : String} {n cells slots pc : Nat} {Q : State → Prop} {ws : va_W} {L : List (Nat × Value)} {st : List Value} {i : Nat} {x : Nat} (K : kx p s m args meth c D A tys cc own n) (hd : decode cc pc = .ok (.astore i, 2)) (hn : i < n) (k : gg p l e R s m args below meth c D A n cells slots Q ws (pc + 2) ((i, .ref x) :: L) st) : gg p l e R s m args below meth c D A n cells slots Q ws pc L (.ref x :: st) := by
  intro H locs ls hP hD hS hl T hT X
  obtain ⟨ls', e', h'⟩ := lvk_store (v := .ref x) hl hn rfl
  obtain ⟨t, a, b⟩ := k H locs ls' hP hD hS h' T hT X
  refine ⟨t, ?_, b⟩
  jvm_step X.here [X.here.top, ↓top_set X.here.top, K.1.1, K.1.2.1, hd, e', Value.isRef]
  exact a
theorem gg_fstore_n {p : Program} {l : Launch} {e : Env} {R : Room} {s : State} {m : MethodId} {args : Array Value} {below : List Frame} {meth : Method} {c : Code} {D : va_G} {A : Nat → Prop} {tys : List (ClassId × FieldType)} {cc : ByteArray} {own : String} {n cells slots pc : Nat} {Q : State → Prop} {ws : va_W} {L : List (Nat × Value)} {st : List Value} {j : Fin 4} {i : Nat} {x : UInt32} (K : kx p s m args meth c D A tys cc own n) (hd : decode cc pc = .ok (.fstore_n j, 1)) (hi : (j : Nat) = i) (hn : i < n) (k : gg p l e R s m args below meth c D A n cells slots Q ws (pc + 1) ((i, .float x) :: L) st) : gg p l e R s m args below meth c D A n cells slots Q ws pc L (.float x :: st) := by
  intro H locs ls hP hD hS hl T hT X
  subst hi
  obtain ⟨ls', e', h'⟩ := lvk_store (v := .float x) hl hn rfl
  obtain ⟨t, a, b⟩ := k H locs ls' hP hD hS h' T hT X
  refine ⟨t, ?_, b⟩
  jvm_step X.here [X.here.top, ↓top_set X.here.top, K.1.1, K.1.2.1, hd, e']
  exact a
theorem gg_fstore {p : Program} {l : Launch} {e : Env} {R : Room} {s : State} {m : MethodId} {args : Array Value} {below : List Frame} {meth : Method} {c : Code} {D : va_G} {A : Nat → Prop} {tys : List (ClassId × FieldType)} {cc : ByteArray} {own : String} {n cells slots pc : Nat} {Q : State → Prop} {ws : va_W} {L : List (Nat × Value)} {st : List Value} {i : Nat} {x : UInt32} (K : kx p s m args meth c D A tys cc own n) (hd : decode cc pc = .ok (.fstore i, 2)) (hn : i < n) (k : gg p l e R s m args below meth c D A n cells slots Q ws (pc + 2) ((i, .float x) :: L) st) : gg p l e R s m args below meth c D A n cells slots Q ws pc L (.float x :: st) := by
  intro H locs ls hP hD hS hl T hT X
  obtain ⟨ls', e', h'⟩ := lvk_store (v := .float x) hl hn rfl
  obtain ⟨t, a, b⟩ := k H locs ls' hP hD hS h' T hT X
  refine ⟨t, ?_, b⟩
  jvm_step X.here [X.here.top, ↓top_set X.here.top, K.1.1, K.1.2.1, hd, e']
  exact a
theorem gg_iinc {p : Program} {l : Launch} {e : Env} {R : Room} {s : State} {m : MethodId} {args : Array Value} {below : List Frame} {meth : Method} {c : Code} {D : va_G} {A : Nat → Prop} {tys : List (ClassId × FieldType)} {cc : ByteArray} {own : String} {n cells slots pc : Nat} {Q : State → Prop} {ws : va_W} {L : List (Nat × Value)} {st : List Value} {i : Nat} {z : Int} {x v : Int32} (K : kx p s m args meth c D A tys cc own n) (hd : decode cc pc = .ok (.iinc i z, 3)) (hx : lk L i = some (.int x)) (hv : x + Int32.ofInt z = v) (hn : i < n) (k : gg p l e R s m args below meth c D A n cells slots Q ws (pc + 3) ((i, .int v) :: L) st) : gg p l e R s m args below meth c D A n cells slots Q ws pc L st := by
  intro H locs ls hP hD hS hl T hT X
  subst hv
  have hg := (hl.2.2 _ _ hx).2
  obtain ⟨ls', e', h'⟩ := lvk_store (v := .int (x + Int32.ofInt z)) hl hn rfl
  obtain ⟨t, a, b⟩ := k H locs ls' hP hD hS h' T hT X
  refine ⟨t, ?_, b⟩
  jvm_step X.here [X.here.top, ↓top_set X.here.top, K.1.1, K.1.2.1, hd, hg, e']
  exact a
theorem gg_iadd {p : Program} {l : Launch} {e : Env} {R : Room} {s : State} {m : MethodId} {args : Array Value} {below : List Frame} {meth : Method} {c : Code} {D : va_G} {A : Nat → Prop} {tys : List (ClassId × FieldType)} {cc : ByteArray} {own : String} {n cells slots pc : Nat} {Q : State → Prop} {ws : va_W} {L : List (Nat × Value)} {st : List Value} {x y : Int32} (K : kx p s m args meth c D A tys cc own n) (hd : decode cc pc = .ok (.iadd, 1))  (k : gg p l e R s m args below meth c D A n cells slots Q ws (pc + 1) L (.int (x + y) :: st)) : gg p l e R s m args below meth c D A n cells slots Q ws pc L (.int y :: .int x :: st) := fun H locs ls hP hD hS hl => lv_iadd K.1.1 K.1.2.1 hd  (k H locs ls hP hD hS hl)
theorem gg_isub {p : Program} {l : Launch} {e : Env} {R : Room} {s : State} {m : MethodId} {args : Array Value} {below : List Frame} {meth : Method} {c : Code} {D : va_G} {A : Nat → Prop} {tys : List (ClassId × FieldType)} {cc : ByteArray} {own : String} {n cells slots pc : Nat} {Q : State → Prop} {ws : va_W} {L : List (Nat × Value)} {st : List Value} {x y : Int32} (K : kx p s m args meth c D A tys cc own n) (hd : decode cc pc = .ok (.isub, 1))  (k : gg p l e R s m args below meth c D A n cells slots Q ws (pc + 1) L (.int (x - y) :: st)) : gg p l e R s m args below meth c D A n cells slots Q ws pc L (.int y :: .int x :: st) := fun H locs ls hP hD hS hl => lv_isub K.1.1 K.1.2.1 hd  (k H locs ls hP hD hS hl)
theorem gg_imul {p : Program} {l : Launch} {e : Env} {R : Room} {s : State} {m : MethodId} {args : Array Value} {below : List Frame} {meth : Method} {c : Code} {D : va_G} {A : Nat → Prop} {tys : List (ClassId × FieldType)} {cc : ByteArray} {own : String} {n cells slots pc : Nat} {Q : State → Prop} {ws : va_W} {L : List (Nat × Value)} {st : List Value} {x y : Int32} (K : kx p s m args meth c D A tys cc own n) (hd : decode cc pc = .ok (.imul, 1))  (k : gg p l e R s m args below meth c D A n cells slots Q ws (pc + 1) L (.int (x * y) :: st)) : gg p l e R s m args below meth c D A n cells slots Q ws pc L (.int y :: .int x :: st) := fun H locs ls hP hD hS hl => lv_imul K.1.1 K.1.2.1 hd  (k H locs ls hP hD hS hl)
theorem gg_iand {p : Program} {l : Launch} {e : Env} {R : Room} {s : State} {m : MethodId} {args : Array Value} {below : List Frame} {meth : Method} {c : Code} {D : va_G} {A : Nat → Prop} {tys : List (ClassId × FieldType)} {cc : ByteArray} {own : String} {n cells slots pc : Nat} {Q : State → Prop} {ws : va_W} {L : List (Nat × Value)} {st : List Value} {x y : Int32} (K : kx p s m args meth c D A tys cc own n) (hd : decode cc pc = .ok (.iand, 1))  (k : gg p l e R s m args below meth c D A n cells slots Q ws (pc + 1) L (.int (x &&& y) :: st)) : gg p l e R s m args below meth c D A n cells slots Q ws pc L (.int y :: .int x :: st) := fun H locs ls hP hD hS hl => lv_iand K.1.1 K.1.2.1 hd  (k H locs ls hP hD hS hl)
theorem gg_ior {p : Program} {l : Launch} {e : Env} {R : Room} {s : State} {m : MethodId} {args : Array Value} {below : List Frame} {meth : Method} {c : Code} {D : va_G} {A : Nat → Prop} {tys : List (ClassId × FieldType)} {cc : ByteArray} {own : String} {n cells slots pc : Nat} {Q : State → Prop} {ws : va_W} {L : List (Nat × Value)} {st : List Value} {x y : Int32} (K : kx p s m args meth c D A tys cc own n) (hd : decode cc pc = .ok (.ior, 1))  (k : gg p l e R s m args below meth c D A n cells slots Q ws (pc + 1) L (.int (x ||| y) :: st)) : gg p l e R s m args below meth c D A n cells slots Q ws pc L (.int y :: .int x :: st) := fun H locs ls hP hD hS hl => lv_ior K.1.1 K.1.2.1 hd  (k H locs ls hP hD hS hl)
theorem gg_ixor {p : Program} {l : Launch} {e : Env} {R : Room} {s : State} {m : MethodId} {args : Array Value} {below : List Frame} {meth : Method} {c : Code} {D : va_G} {A : Nat → Prop} {tys : List (ClassId × FieldType)} {cc : ByteArray} {own : String} {n cells slots pc : Nat} {Q : State → Prop} {ws : va_W} {L : List (Nat × Value)} {st : List Value} {x y : Int32} (K : kx p s m args meth c D A tys cc own n) (hd : decode cc pc = .ok (.ixor, 1))  (k : gg p l e R s m args below meth c D A n cells slots Q ws (pc + 1) L (.int (x ^^^ y) :: st)) : gg p l e R s m args below meth c D A n cells slots Q ws pc L (.int y :: .int x :: st) := fun H locs ls hP hD hS hl => lv_ixor K.1.1 K.1.2.1 hd  (k H locs ls hP hD hS hl)
theorem gg_ishl {p : Program} {l : Launch} {e : Env} {R : Room} {s : State} {m : MethodId} {args : Array Value} {below : List Frame} {meth : Method} {c : Code} {D : va_G} {A : Nat → Prop} {tys : List (ClassId × FieldType)} {cc : ByteArray} {own : String} {n cells slots pc : Nat} {Q : State → Prop} {ws : va_W} {L : List (Nat × Value)} {st : List Value} {x y : Int32} (K : kx p s m args meth c D A tys cc own n) (hd : decode cc pc = .ok (.ishl, 1))  (k : gg p l e R s m args below meth c D A n cells slots Q ws (pc + 1) L (.int (x <<< (y &&& 31)) :: st)) : gg p l e R s m args below meth c D A n cells slots Q ws pc L (.int y :: .int x :: st) := fun H locs ls hP hD hS hl => lv_ishl K.1.1 K.1.2.1 hd  (k H locs ls hP hD hS hl)
theorem gg_idiv {p : Program} {l : Launch} {e : Env} {R : Room} {s : State} {m : MethodId} {args : Array Value} {below : List Frame} {meth : Method} {c : Code} {D : va_G} {A : Nat → Prop} {tys : List (ClassId × FieldType)} {cc : ByteArray} {own : String} {n cells slots pc : Nat} {Q : State → Prop} {ws : va_W} {L : List (Nat × Value)} {st : List Value} {x y : Int32} (K : kx p s m args meth c D A tys cc own n) (hd : decode cc pc = .ok (.idiv, 1)) (hne : ¬ y = 0) (k : gg p l e R s m args below meth c D A n cells slots Q ws (pc + 1) L (.int (x / y) :: st)) : gg p l e R s m args below meth c D A n cells slots Q ws pc L (.int y :: .int x :: st) := fun H locs ls hP hD hS hl => lv_idiv K.1.1 K.1.2.1 hd hne (k H locs ls hP hD hS hl)
theorem gg_irem {p : Program} {l : Launch} {e : Env} {R : Room} {s : State} {m : MethodId} {args : Array Value} {below : List Frame} {meth : Method} {c : Code} {D : va_G} {A : Nat → Prop} {tys : List (ClassId × FieldType)} {cc : ByteArray} {own : String} {n cells slots pc : Nat} {Q : State → Prop} {ws : va_W} {L : List (Nat × Value)} {st : List Value} {x y : Int32} (K : kx p s m args meth c D A tys cc own n) (hd : decode cc pc = .ok (.irem, 1)) (hne : ¬ y = 0) (k : gg p l e R s m args below meth c D A n cells slots Q ws (pc + 1) L (.int (x - x / y * y) :: st)) : gg p l e R s m args below meth c D A n cells slots Q ws pc L (.int y :: .int x :: st) := fun H locs ls hP hD hS hl => lv_irem K.1.1 K.1.2.1 hd hne (k H locs ls hP hD hS hl)
theorem gg_i2l {p : Program} {l : Launch} {e : Env} {R : Room} {s : State} {m : MethodId} {args : Array Value} {below : List Frame} {meth : Method} {c : Code} {D : va_G} {A : Nat → Prop} {tys : List (ClassId × FieldType)} {cc : ByteArray} {own : String} {n cells slots pc : Nat} {Q : State → Prop} {ws : va_W} {L : List (Nat × Value)} {st : List Value} {x : Int32} (K : kx p s m args meth c D A tys cc own n) (hd : decode cc pc = .ok (.i2l, 1))  (k : gg p l e R s m args below meth c D A n cells slots Q ws (pc + 1) L (.long x.toInt64 :: st)) : gg p l e R s m args below meth c D A n cells slots Q ws pc L (.int x :: st) := fun H locs ls hP hD hS hl => lv_i2l K.1.1 K.1.2.1 hd rfl (k H locs ls hP hD hS hl)
theorem gg_i2f {p : Program} {l : Launch} {e : Env} {R : Room} {s : State} {m : MethodId} {args : Array Value} {below : List Frame} {meth : Method} {c : Code} {D : va_G} {A : Nat → Prop} {tys : List (ClassId × FieldType)} {cc : ByteArray} {own : String} {n cells slots pc : Nat} {Q : State → Prop} {ws : va_W} {L : List (Nat × Value)} {st : List Value} {x : Int32} (K : kx p s m args meth c D A tys cc own n) (hd : decode cc pc = .ok (.i2f, 1))  (k : gg p l e R s m args below meth c D A n cells slots Q ws (pc + 1) L (.float (FP.i2f x) :: st)) : gg p l e R s m args below meth c D A n cells slots Q ws pc L (.int x :: st) := fun H locs ls hP hD hS hl => lv_i2f K.1.1 K.1.2.1 hd  (k H locs ls hP hD hS hl)
theorem gg_fdiv {p : Program} {l : Launch} {e : Env} {R : Room} {s : State} {m : MethodId} {args : Array Value} {below : List Frame} {meth : Method} {c : Code} {D : va_G} {A : Nat → Prop} {tys : List (ClassId × FieldType)} {cc : ByteArray} {own : String} {n cells slots pc : Nat} {Q : State → Prop} {ws : va_W} {L : List (Nat × Value)} {st : List Value} {x y : UInt32} (K : kx p s m args meth c D A tys cc own n) (hd : decode cc pc = .ok (.fdiv, 1)) (hne : vf_n32 (FP.fdiv x y)) (k : gg p l e R s m args below meth c D A n cells slots Q ws (pc + 1) L (.float (FP.fdiv x y) :: st)) : gg p l e R s m args below meth c D A n cells slots Q ws pc L (.float y :: .float x :: st) := fun H locs ls hP hD hS hl => lv_fdiv K.1.1 K.1.2.1 hd hne (k H locs ls hP hD hS hl)
theorem gg_f2d {p : Program} {l : Launch} {e : Env} {R : Room} {s : State} {m : MethodId} {args : Array Value} {below : List Frame} {meth : Method} {c : Code} {D : va_G} {A : Nat → Prop} {tys : List (ClassId × FieldType)} {cc : ByteArray} {own : String} {n cells slots pc : Nat} {Q : State → Prop} {ws : va_W} {L : List (Nat × Value)} {st : List Value} {x : UInt32} (K : kx p s m args meth c D A tys cc own n) (hd : decode cc pc = .ok (.f2d, 1)) (hne : vf_n64 (FP.f2d x)) (k : gg p l e R s m args below meth c D A n cells slots Q ws (pc + 1) L (.double (FP.f2d x) :: st)) : gg p l e R s m args below meth c D A n cells slots Q ws pc L (.float x :: st) := fun H locs ls hP hD hS hl => lv_f2d K.1.1 K.1.2.1 hd hne (k H locs ls hP hD hS hl)
theorem gg_fcmp {p : Program} {l : Launch} {e : Env} {R : Room} {s : State} {m : MethodId} {args : Array Value} {below : List Frame} {meth : Method} {c : Code} {D : va_G} {A : Nat → Prop} {tys : List (ClassId × FieldType)} {cc : ByteArray} {own : String} {n cells slots pc : Nat} {Q : State → Prop} {ws : va_W} {L : List (Nat × Value)} {st : List Value} {x y : UInt32} {op : CmpOp} (K : kx p s m args meth c D A tys cc own n) (hd : decode cc pc = .ok (.fcmp op, 1))  (k : gg p l e R s m args below meth c D A n cells slots Q ws (pc + 1) L (.int (Op.cmpValue (FP.fcmp x y) op) :: st)) : gg p l e R s m args below meth c D A n cells slots Q ws pc L (.float y :: .float x :: st) := fun H locs ls hP hD hS hl => lv_fcmp K.1.1 K.1.2.1 hd  (k H locs ls hP hD hS hl)
theorem gg_dcmp {p : Program} {l : Launch} {e : Env} {R : Room} {s : State} {m : MethodId} {args : Array Value} {below : List Frame} {meth : Method} {c : Code} {D : va_G} {A : Nat → Prop} {tys : List (ClassId × FieldType)} {cc : ByteArray} {own : String} {n cells slots pc : Nat} {Q : State → Prop} {ws : va_W} {L : List (Nat × Value)} {st : List Value} {x y : UInt64} {op : CmpOp} (K : kx p s m args meth c D A tys cc own n) (hd : decode cc pc = .ok (.dcmp op, 1))  (k : gg p l e R s m args below meth c D A n cells slots Q ws (pc + 1) L (.int (Op.cmpValue (FP.dcmp x y) op) :: st)) : gg p l e R s m args below meth c D A n cells slots Q ws pc L (.double y :: .double x :: st) := fun H locs ls hP hD hS hl => lv_dcmp K.1.1 K.1.2.1 hd  (k H locs ls hP hD hS hl)
theorem gg_fconst0 {p : Program} {l : Launch} {e : Env} {R : Room} {s : State} {m : MethodId} {args : Array Value} {below : List Frame} {meth : Method} {c : Code} {D : va_G} {A : Nat → Prop} {tys : List (ClassId × FieldType)} {cc : ByteArray} {own : String} {n cells slots pc : Nat} {Q : State → Prop} {ws : va_W} {L : List (Nat × Value)} {st : List Value}  (K : kx p s m args meth c D A tys cc own n) (hd : decode cc pc = .ok (.fconst 0, 1))  (k : gg p l e R s m args below meth c D A n cells slots Q ws (pc + 1) L (.float FP.fconst0 :: st)) : gg p l e R s m args below meth c D A n cells slots Q ws pc L st := fun H locs ls hP hD hS hl => lv_fconst0 K.1.1 K.1.2.1 hd  (k H locs ls hP hD hS hl)
theorem gg_dup {p : Program} {l : Launch} {e : Env} {R : Room} {s : State} {m : MethodId} {args : Array Value} {below : List Frame} {meth : Method} {c : Code} {D : va_G} {A : Nat → Prop} {tys : List (ClassId × FieldType)} {cc : ByteArray} {own : String} {n cells slots pc : Nat} {Q : State → Prop} {ws : va_W} {L : List (Nat × Value)} {st : List Value} {v : Value} (K : kx p s m args meth c D A tys cc own n) (hd : decode cc pc = .ok (.dup, 1)) (hv : v.category = 1) (k : gg p l e R s m args below meth c D A n cells slots Q ws (pc + 1) L (v :: v :: st)) : gg p l e R s m args below meth c D A n cells slots Q ws pc L (v :: st) := fun H locs ls hP hD hS hl => lv_dup K.1.1 K.1.2.1 hd hv (k H locs ls hP hD hS hl)
theorem gg_if_eq {p : Program} {l : Launch} {e : Env} {R : Room} {s : State} {m : MethodId} {args : Array Value} {below : List Frame} {meth : Method} {c : Code} {D : va_G} {A : Nat → Prop} {tys : List (ClassId × FieldType)} {cc : ByteArray} {own : String} {n cells slots pc : Nat} {Q : State → Prop} {ws : va_W} {L : List (Nat × Value)} {st : List Value} {x : Int32} {off : Int} (K : kx p s m args meth c D A tys cc own n) {tgt : Nat} (hd : decode cc pc = .ok (.ifCond .eq off, 3)) (ht : (pc : Int) + off = (tgt : Int)) (kt : x = 0 → gg p l e R s m args below meth c D A n cells slots Q ws tgt L st) (kf : ¬ x = 0 → gg p l e R s m args below meth c D A n cells slots Q ws (pc + 3) L st) : gg p l e R s m args below meth c D A n cells slots Q ws pc L (.int x :: st) := fun H locs ls hP hD hS hl => lv_if_eq K.1.1 K.1.2.1 hd ht (fun hc => kt hc H locs ls hP hD hS hl) (fun hc => kf hc H locs ls hP hD hS hl)
theorem gg_icmp_eq {p : Program} {l : Launch} {e : Env} {R : Room} {s : State} {m : MethodId} {args : Array Value} {below : List Frame} {meth : Method} {c : Code} {D : va_G} {A : Nat → Prop} {tys : List (ClassId × FieldType)} {cc : ByteArray} {own : String} {n cells slots pc : Nat} {Q : State → Prop} {ws : va_W} {L : List (Nat × Value)} {st : List Value} {x y : Int32} {off : Int} (K : kx p s m args meth c D A tys cc own n) {tgt : Nat} (hd : decode cc pc = .ok (.if_icmp .eq off, 3)) (ht : (pc : Int) + off = (tgt : Int)) (kt : x = y → gg p l e R s m args below meth c D A n cells slots Q ws tgt L st) (kf : ¬ x = y → gg p l e R s m args below meth c D A n cells slots Q ws (pc + 3) L st) : gg p l e R s m args below meth c D A n cells slots Q ws pc L (.int y :: .int x :: st) := fun H locs ls hP hD hS hl => lv_icmp_eq K.1.1 K.1.2.1 hd ht (fun hc => kt hc H locs ls hP hD hS hl) (fun hc => kf hc H locs ls hP hD hS hl)
theorem gg_if_ne {p : Program} {l : Launch} {e : Env} {R : Room} {s : State} {m : MethodId} {args : Array Value} {below : List Frame} {meth : Method} {c : Code} {D : va_G} {A : Nat → Prop} {tys : List (ClassId × FieldType)} {cc : ByteArray} {own : String} {n cells slots pc : Nat} {Q : State → Prop} {ws : va_W} {L : List (Nat × Value)} {st : List Value} {x : Int32} {off : Int} (K : kx p s m args meth c D A tys cc own n) {tgt : Nat} (hd : decode cc pc = .ok (.ifCond .ne off, 3)) (ht : (pc : Int) + off = (tgt : Int)) (kt : ¬ x = 0 → gg p l e R s m args below meth c D A n cells slots Q ws tgt L st) (kf : x = 0 → gg p l e R s m args below meth c D A n cells slots Q ws (pc + 3) L st) : gg p l e R s m args below meth c D A n cells slots Q ws pc L (.int x :: st) := fun H locs ls hP hD hS hl => lv_if_ne K.1.1 K.1.2.1 hd ht (fun hc => kt hc H locs ls hP hD hS hl) (fun hc => kf hc H locs ls hP hD hS hl)
theorem gg_icmp_ne {p : Program} {l : Launch} {e : Env} {R : Room} {s : State} {m : MethodId} {args : Array Value} {below : List Frame} {meth : Method} {c : Code} {D : va_G} {A : Nat → Prop} {tys : List (ClassId × FieldType)} {cc : ByteArray} {own : String} {n cells slots pc : Nat} {Q : State → Prop} {ws : va_W} {L : List (Nat × Value)} {st : List Value} {x y : Int32} {off : Int} (K : kx p s m args meth c D A tys cc own n) {tgt : Nat} (hd : decode cc pc = .ok (.if_icmp .ne off, 3)) (ht : (pc : Int) + off = (tgt : Int)) (kt : ¬ x = y → gg p l e R s m args below meth c D A n cells slots Q ws tgt L st) (kf : x = y → gg p l e R s m args below meth c D A n cells slots Q ws (pc + 3) L st) : gg p l e R s m args below meth c D A n cells slots Q ws pc L (.int y :: .int x :: st) := fun H locs ls hP hD hS hl => lv_icmp_ne K.1.1 K.1.2.1 hd ht (fun hc => kt hc H locs ls hP hD hS hl) (fun hc => kf hc H locs ls hP hD hS hl)
theorem gg_if_lt {p : Program} {l : Launch} {e : Env} {R : Room} {s : State} {m : MethodId} {args : Array Value} {below : List Frame} {meth : Method} {c : Code} {D : va_G} {A : Nat → Prop} {tys : List (ClassId × FieldType)} {cc : ByteArray} {own : String} {n cells slots pc : Nat} {Q : State → Prop} {ws : va_W} {L : List (Nat × Value)} {st : List Value} {x : Int32} {off : Int} (K : kx p s m args meth c D A tys cc own n) {tgt : Nat} (hd : decode cc pc = .ok (.ifCond .lt off, 3)) (ht : (pc : Int) + off = (tgt : Int)) (kt : x < 0 → gg p l e R s m args below meth c D A n cells slots Q ws tgt L st) (kf : ¬ x < 0 → gg p l e R s m args below meth c D A n cells slots Q ws (pc + 3) L st) : gg p l e R s m args below meth c D A n cells slots Q ws pc L (.int x :: st) := fun H locs ls hP hD hS hl => lv_if_lt K.1.1 K.1.2.1 hd ht (fun hc => kt hc H locs ls hP hD hS hl) (fun hc => kf hc H locs ls hP hD hS hl)
theorem gg_icmp_lt {p : Program} {l : Launch} {e : Env} {R : Room} {s : State} {m : MethodId} {args : Array Value} {below : List Frame} {meth : Method} {c : Code} {D : va_G} {A : Nat → Prop} {tys : List (ClassId × FieldType)} {cc : ByteArray} {own : String} {n cells slots pc : Nat} {Q : State → Prop} {ws : va_W} {L : List (Nat × Value)} {st : List Value} {x y : Int32} {off : Int} (K : kx p s m args meth c D A tys cc own n) {tgt : Nat} (hd : decode cc pc = .ok (.if_icmp .lt off, 3)) (ht : (pc : Int) + off = (tgt : Int)) (kt : x < y → gg p l e R s m args below meth c D A n cells slots Q ws tgt L st) (kf : ¬ x < y → gg p l e R s m args below meth c D A n cells slots Q ws (pc + 3) L st) : gg p l e R s m args below meth c D A n cells slots Q ws pc L (.int y :: .int x :: st) := fun H locs ls hP hD hS hl => lv_icmp_lt K.1.1 K.1.2.1 hd ht (fun hc => kt hc H locs ls hP hD hS hl) (fun hc => kf hc H locs ls hP hD hS hl)
theorem gg_if_ge {p : Program} {l : Launch} {e : Env} {R : Room} {s : State} {m : MethodId} {args : Array Value} {below : List Frame} {meth : Method} {c : Code} {D : va_G} {A : Nat → Prop} {tys : List (ClassId × FieldType)} {cc : ByteArray} {own : String} {n cells slots pc : Nat} {Q : State → Prop} {ws : va_W} {L : List (Nat × Value)} {st : List Value} {x : Int32} {off : Int} (K : kx p s m args meth c D A tys cc own n) {tgt : Nat} (hd : decode cc pc = .ok (.ifCond .ge off, 3)) (ht : (pc : Int) + off = (tgt : Int)) (kt : 0 ≤ x → gg p l e R s m args below meth c D A n cells slots Q ws tgt L st) (kf : ¬ 0 ≤ x → gg p l e R s m args below meth c D A n cells slots Q ws (pc + 3) L st) : gg p l e R s m args below meth c D A n cells slots Q ws pc L (.int x :: st) := fun H locs ls hP hD hS hl => lv_if_ge K.1.1 K.1.2.1 hd ht (fun hc => kt hc H locs ls hP hD hS hl) (fun hc => kf hc H locs ls hP hD hS hl)
theorem gg_icmp_ge {p : Program} {l : Launch} {e : Env} {R : Room} {s : State} {m : MethodId} {args : Array Value} {below : List Frame} {meth : Method} {c : Code} {D : va_G} {A : Nat → Prop} {tys : List (ClassId × FieldType)} {cc : ByteArray} {own : String} {n cells slots pc : Nat} {Q : State → Prop} {ws : va_W} {L : List (Nat × Value)} {st : List Value} {x y : Int32} {off : Int} (K : kx p s m args meth c D A tys cc own n) {tgt : Nat} (hd : decode cc pc = .ok (.if_icmp .ge off, 3)) (ht : (pc : Int) + off = (tgt : Int)) (kt : y ≤ x → gg p l e R s m args below meth c D A n cells slots Q ws tgt L st) (kf : ¬ y ≤ x → gg p l e R s m args below meth c D A n cells slots Q ws (pc + 3) L st) : gg p l e R s m args below meth c D A n cells slots Q ws pc L (.int y :: .int x :: st) := fun H locs ls hP hD hS hl => lv_icmp_ge K.1.1 K.1.2.1 hd ht (fun hc => kt hc H locs ls hP hD hS hl) (fun hc => kf hc H locs ls hP hD hS hl)
theorem gg_if_gt {p : Program} {l : Launch} {e : Env} {R : Room} {s : State} {m : MethodId} {args : Array Value} {below : List Frame} {meth : Method} {c : Code} {D : va_G} {A : Nat → Prop} {tys : List (ClassId × FieldType)} {cc : ByteArray} {own : String} {n cells slots pc : Nat} {Q : State → Prop} {ws : va_W} {L : List (Nat × Value)} {st : List Value} {x : Int32} {off : Int} (K : kx p s m args meth c D A tys cc own n) {tgt : Nat} (hd : decode cc pc = .ok (.ifCond .gt off, 3)) (ht : (pc : Int) + off = (tgt : Int)) (kt : 0 < x → gg p l e R s m args below meth c D A n cells slots Q ws tgt L st) (kf : ¬ 0 < x → gg p l e R s m args below meth c D A n cells slots Q ws (pc + 3) L st) : gg p l e R s m args below meth c D A n cells slots Q ws pc L (.int x :: st) := fun H locs ls hP hD hS hl => lv_if_gt K.1.1 K.1.2.1 hd ht (fun hc => kt hc H locs ls hP hD hS hl) (fun hc => kf hc H locs ls hP hD hS hl)
theorem gg_icmp_gt {p : Program} {l : Launch} {e : Env} {R : Room} {s : State} {m : MethodId} {args : Array Value} {below : List Frame} {meth : Method} {c : Code} {D : va_G} {A : Nat → Prop} {tys : List (ClassId × FieldType)} {cc : ByteArray} {own : String} {n cells slots pc : Nat} {Q : State → Prop} {ws : va_W} {L : List (Nat × Value)} {st : List Value} {x y : Int32} {off : Int} (K : kx p s m args meth c D A tys cc own n) {tgt : Nat} (hd : decode cc pc = .ok (.if_icmp .gt off, 3)) (ht : (pc : Int) + off = (tgt : Int)) (kt : y < x → gg p l e R s m args below meth c D A n cells slots Q ws tgt L st) (kf : ¬ y < x → gg p l e R s m args below meth c D A n cells slots Q ws (pc + 3) L st) : gg p l e R s m args below meth c D A n cells slots Q ws pc L (.int y :: .int x :: st) := fun H locs ls hP hD hS hl => lv_icmp_gt K.1.1 K.1.2.1 hd ht (fun hc => kt hc H locs ls hP hD hS hl) (fun hc => kf hc H locs ls hP hD hS hl)
theorem gg_if_le {p : Program} {l : Launch} {e : Env} {R : Room} {s : State} {m : MethodId} {args : Array Value} {below : List Frame} {meth : Method} {c : Code} {D : va_G} {A : Nat → Prop} {tys : List (ClassId × FieldType)} {cc : ByteArray} {own : String} {n cells slots pc : Nat} {Q : State → Prop} {ws : va_W} {L : List (Nat × Value)} {st : List Value} {x : Int32} {off : Int} (K : kx p s m args meth c D A tys cc own n) {tgt : Nat} (hd : decode cc pc = .ok (.ifCond .le off, 3)) (ht : (pc : Int) + off = (tgt : Int)) (kt : x ≤ 0 → gg p l e R s m args below meth c D A n cells slots Q ws tgt L st) (kf : ¬ x ≤ 0 → gg p l e R s m args below meth c D A n cells slots Q ws (pc + 3) L st) : gg p l e R s m args below meth c D A n cells slots Q ws pc L (.int x :: st) := fun H locs ls hP hD hS hl => lv_if_le K.1.1 K.1.2.1 hd ht (fun hc => kt hc H locs ls hP hD hS hl) (fun hc => kf hc H locs ls hP hD hS hl)
theorem gg_icmp_le {p : Program} {l : Launch} {e : Env} {R : Room} {s : State} {m : MethodId} {args : Array Value} {below : List Frame} {meth : Method} {c : Code} {D : va_G} {A : Nat → Prop} {tys : List (ClassId × FieldType)} {cc : ByteArray} {own : String} {n cells slots pc : Nat} {Q : State → Prop} {ws : va_W} {L : List (Nat × Value)} {st : List Value} {x y : Int32} {off : Int} (K : kx p s m args meth c D A tys cc own n) {tgt : Nat} (hd : decode cc pc = .ok (.if_icmp .le off, 3)) (ht : (pc : Int) + off = (tgt : Int)) (kt : x ≤ y → gg p l e R s m args below meth c D A n cells slots Q ws tgt L st) (kf : ¬ x ≤ y → gg p l e R s m args below meth c D A n cells slots Q ws (pc + 3) L st) : gg p l e R s m args below meth c D A n cells slots Q ws pc L (.int y :: .int x :: st) := fun H locs ls hP hD hS hl => lv_icmp_le K.1.1 K.1.2.1 hd ht (fun hc => kt hc H locs ls hP hD hS hl) (fun hc => kf hc H locs ls hP hD hS hl)
theorem gg_goto {p : Program} {l : Launch} {e : Env} {R : Room} {s : State} {m : MethodId} {args : Array Value} {below : List Frame} {meth : Method} {c : Code} {D : va_G} {A : Nat → Prop} {tys : List (ClassId × FieldType)} {cc : ByteArray} {own : String} {n cells slots pc : Nat} {Q : State → Prop} {ws : va_W} {L : List (Nat × Value)} {st : List Value} {off : Int} (K : kx p s m args meth c D A tys cc own n) {tgt : Nat} (hd : decode cc pc = .ok (.goto off, 3)) (ht : (pc : Int) + off = (tgt : Int)) (k : gg p l e R s m args below meth c D A n cells slots Q ws tgt L st) : gg p l e R s m args below meth c D A n cells slots Q ws pc L st := fun H locs ls hP hD hS hl => lv_goto K.1.1 K.1.2.1 hd ht (k H locs ls hP hD hS hl)
theorem gg_sub {p : Program} {l : Launch} {e : Env} {R : Room} {s : State} {m : MethodId} {args : Array Value} {below : List Frame} {meth : Method} {c : Code} {D : va_G} {A : Nat → Prop} {n cells slots pc : Nat} {Q : State → Prop} {ws : va_W} {L : List (Nat × Value)} {st : List Value} {L' : List (Nat × Value)} (hs : lsub L L') (k : gg p l e R s m args below meth c D A n cells slots Q ws pc L' st) : gg p l e R s m args below meth c D A n cells slots Q ws pc L st := fun H locs ls hP hD hS hl => k H locs ls hP hD hS (lvk_sub hl hs)
theorem gg_top {p : Program} {l : Launch} {e : Env} {R : Room} {s : State} {m : MethodId} {args : Array Value} {below : List Frame} {meth : Method} {c : Code} {D : va_G} {A : Nat → Prop} {n cells slots pc : Nat} {Q : State → Prop} {ws : va_W} {L : List (Nat × Value)} {st : List Value} {x y : Int32} (hxy : x = y) (k : gg p l e R s m args below meth c D A n cells slots Q ws pc L (.int y :: st)) : gg p l e R s m args below meth c D A n cells slots Q ws pc L (.int x :: st) := by rw [hxy]; exact k
theorem gg_wid {p : Program} {l : Launch} {e : Env} {R : Room} {s : State} {m : MethodId} {args : Array Value} {below : List Frame} {meth : Method} {c : Code} {D : va_G} {A : Nat → Prop} {n cells slots pc : Nat} {Q : State → Prop} {ws : va_W} {L : List (Nat × Value)} {st : List Value} {k9 n9 : Nat} (h1 : cells ≤ k9) (h2 : slots ≤ n9) (k : gg p l e R s m args below meth c D A n k9 n9 Q ws pc L st) : gg p l e R s m args below meth c D A n cells slots Q ws pc L st := fun H locs ls hP hD hS hl => W.widen h1 h2 (k H locs ls hP hD hS hl)
end
section
/-! calls: contracts that return (mA) or return and throw (mX); what a throw needs (te) -/
def okV (own : String) (idx : Nat) (C : String) (y : MethodName) (c0 : Cond) (k : Nat) : Prop := GoodIn GW (wsV own idx C y (c0 :: GW)) ∧ (y.cls = C ∧ y.cls ≠ "java/lang/invoke/MethodHandle" ∧ y.cls ≠ "java/lang/invoke/VarHandle" ∧ (parseMethodDescriptor y.desc).map (fun d => d.parameters.length) = some k)
def okS (own : String) (idx : Nat) (y : MethodName) (c0 : Cond) (k : Nat) : Prop := GoodIn GW (va_wsS own idx y (c0 :: GW)) ∧ (y.cls ≠ "java/lang/invoke/MethodHandle" ∧ y.cls ≠ "java/lang/invoke/VarHandle" ∧ (parseMethodDescriptor y.desc).map (fun d => d.parameters.length) = some k)
def rOk (rm R : Room) (maxL cells slots : Nat) : Bool := Nat.ble (rm.frames + 1) R.frames && (Nat.ble (8 + (maxL + 11) + rm.locals) R.locals && (Nat.ble (cells + rm.cells) R.cells && Nat.ble (slots + rm.slots) R.slots))
theorem rOk_spec {rm R : Room} {maxL cells slots : Nat} (h : rOk rm R maxL cells slots = true) : (rm.frames + 1 ≤ R.frames ∧ 8 + (maxL + 11) + rm.locals ≤ R.locals) ∧ (cells + rm.cells ≤ R.cells ∧ slots + rm.slots ≤ R.slots) := by
  simp only [rOk, Bool.and_eq_true] at h
  exact ⟨⟨Nat.le_of_ble_eq_true h.1, Nat.le_of_ble_eq_true h.2.1⟩, Nat.le_of_ble_eq_true h.2.2.1, Nat.le_of_ble_eq_true h.2.2.2⟩
def c8 (st : List Value) : Bool := Nat.ble (st.map fun v => v.category).sum 8
theorem fm_of_map {α β : Type} {f : α → Option β} : ∀ {is : List α} {w : List β}, is.map f = w.map some → is.filterMap f = w
  | [], [], _ => rfl
  | [], _ :: _, h => by simp at h
  | _ :: _, [], h => by simp at h
  | i :: is, x :: w, h => by
    simp only [List.map_cons, List.cons.injEq] at h
    rw [List.filterMap_cons, h.1]
    simp only
    rw [fm_of_map h.2]
def strs : List (Nat × String) := [(132, "no values"), (134, "out of range"), (136, "span"), (138, "record"), (153, "references"), (165, "row"), (57, "days"), (68, "the last day"), (93, "run")]
abbrev eA : String := "java/lang/IllegalArgumentException"
abbrev eS : String := "java/lang/IllegalStateException"
abbrev eB : String := "java/lang/IndexOutOfBoundsException"
def teW : List Cond := [.castable eA eA, .castable eS eS, .castable eB eB, .declares (Bundle.initS "java/lang/RuntimeException"), .declares (Bundle.initS "java/lang/Exception"), .declares (Bundle.initS Bundle.tN)]
def teN : List (String × String) := [(eA, eS), (eA, eB), (eS, eA), (eS, eB), (eB, eA), (eB, eS)]
/-- what a throw needs of the launch's statics, texts and classes -/
def te (A : Nat → Prop) (U : State) (H : Heap) : Prop := vx_Zq Bundle.tN "UNASSIGNED_STACK" Bundle.steD A U H ∧ vx_Zq Bundle.tN "SUPPRESSED_SENTINEL" Bundle.listD A U H ∧ (∀ q ∈ strs, ∃ sa : Nat, vk_R RX0 q.1 q.2 sa U) ∧ (∀ w ∈ teW, va_Nw w U) ∧ ∀ q ∈ teN, va_Nc q.1 q.2 U
theorem teW_ot : ∀ w ∈ teW, w.onTables = true := fun w hw => by
  simp only [teW, List.mem_cons, List.not_mem_nil, or_false] at hw
  rcases hw with rfl | rfl | rfl | rfl | rfl | rfl <;> rfl
theorem teW_warm {s U : State} (hW : s.WarmedH U.vm) : ∀ w ∈ teW, va_Nw w s → va_Nw w U := fun w hw h => by
  simp only [teW, List.mem_cons, List.not_mem_nil, or_false] at hw
  rcases hw with rfl | rfl | rfl | rfl | rfl | rfl <;> first | exact va_Nw.warmC hW h | exact va_Nw.warmD hW h
theorem teW_same {u U : State} (hv : u.vm = U.vm) : ∀ w ∈ teW, va_Nw w u → va_Nw w U := fun w hw h => by
  simp only [teW, List.mem_cons, List.not_mem_nil, or_false] at hw
  rcases hw with rfl | rfl | rfl | rfl | rfl | rfl <;> exact va_Nw.same rfl hv h
theorem te.go {A B : Nat → Prop} {s U : State} {H : Heap} {locs : List Loc} (h : te A s s.heap) (hW : s.WarmedH U.vm) (hS : va_S A s.heap H locs) (hAB : ∀ q, B q → A q) : te B U H :=
  ⟨((h.1.kept hS.2.1).moved hW.alike).narrow hAB, ((h.2.1.kept hS.2.1).moved hW.alike).narrow hAB, fun q hq => by obtain ⟨sa, hsa⟩ := h.2.2.1 q hq; exact ⟨sa, hsa.warm hW⟩, fun w hw => teW_warm hW w hw (h.2.2.2.1 w hw), fun q hq => va_Nc.moved hW.alike (h.2.2.2.2 q hq)⟩
theorem te.blind {A : Nat → Prop} {U : State} {H : Heap} {g : JFrame} {mk : MethodId} {a : Array Value} (h : te A U H) : te A (U.calling g mk a) H :=
  ⟨h.1.moved (u := U) (U := U.calling g mk a) (Vm.Alike.refl U.vm), h.2.1.moved (u := U) (U := U.calling g mk a) (Vm.Alike.refl U.vm), fun q hq => by obtain ⟨sa, hsa⟩ := h.2.2.1 q hq; exact ⟨sa, vk_R.same (u := U) (U := U.calling g mk a) rfl hsa⟩, fun w hw => teW_same (u := U) (U := U.calling g mk a) rfl w hw (h.2.2.2.1 w hw), fun q hq => va_Nc.moved (u := U) (U := U.calling g mk a) (Vm.Alike.refl U.vm) (h.2.2.2.2 q hq)⟩
def inX (D : va_G) (tys : List (ClassId × FieldType)) (ws : va_W) (sz : Nat) (U : State) : Prop := inW D tys ws sz U ∧ te (va_A ws sz) U U.heap
/-- a contract that returns (post) or throws (pe) -/
def mX (l : Launch) (D : va_G) (tys : List (ClassId × FieldType)) (y : MethodName) (c0 : Cond) (rm : Room) (ws : va_W) (As : List Value) (post : Option Value → va_W → Prop) (pe : String → va_W → Prop) : Prop :=
  ∀ sz : Nat, vx_Met l y (c0 :: GW) rm (va_Pc As (inX D tys ws sz)) (qA D tys (va_A ws sz) post) (xA D tys (va_A ws sz) pe) rm.cells rm.slots (va_A ws sz)
theorem inW_blind {D : va_G} {tys : List (ClassId × FieldType)} {ws : va_W} {sz : Nat} {As : List Value} : FrameBlind (va_Pc As (inW D tys ws sz)) := fun a U g mk q => by
  obtain ⟨q0, q1, qP, qK, qD⟩ := q
  exact ⟨q0, q1, qP, va_K.moved (u := U) (U := U.calling g mk a) (Vm.Alike.refl U.vm) qK, qD⟩
theorem inX_blind {D : va_G} {tys : List (ClassId × FieldType)} {ws : va_W} {sz : Nat} {As : List Value} : FrameBlind (va_Pc As (inX D tys ws sz)) := fun a U g mk q => by
  obtain ⟨q0, q1, q2⟩ := q
  exact ⟨q0, (inW_blind (As := As) a U g mk ⟨q0, q1⟩).2, q2.blind⟩
section
variable {p : Program} {l : Launch} {e : Env} {R : Room} {s : State} {m : MethodId} {args : Array Value} {below : List Frame} {meth : Method} {c : Code} {H : Heap} {locs : List Loc} {cells slots : Nat} {Q : State → Prop}
variable {pc : Nat} {ls : Array Slot} {rest st0 : List Value} {a : Array Value} {A0 A1 : Nat → Prop} {H0 : Heap} {mc ms : Nat} {free : Addr → Prop} {D : va_G} {tys : List (ClassId × FieldType)}
theorem va_callo {post : Option Value → va_W → Prop} (hr : va_Run p l e R s m args below meth c H locs cells slots mc ms (F0 m pc ls st0) rest (qA D tys A1 post a) free) (hS : va_S A0 H0 H locs) (hA : ∀ q, q < H.size → A1 q → A0 q) (hf : ∀ q, free q → A0 q)
    (kk : ∀ (v : Option Value) (u : va_W) (t : State) (H1 : Heap) (locs1 : List Loc), t.heap = H1 → s.vm.Alike t.vm → post v u → outW D tys A1 u t → H.size ≤ H1.size → (∀ q : Nat, q < H.size → ¬ A1 q → H1[q]? = H[q]?) → va_S A0 H0 H1 locs1 → W p l e R s m args below meth c H1 locs1 (cells + mc) (slots + ms) Q (F0 m (pc + 3) ls (v.toList ++ rest))) : W p l e R s m args below meth c H locs cells slots Q (F0 m pc ls st0) := by
  intro T hT X
  obtain ⟨v, st₀, t, T', L, h0, X', hL, e1, e2, ⟨⟨v2, u, hv, hp, hb⟩, hF⟩, st⟩ := hr T hT X
  cases hv
  obtain ⟨k1, k2, k3⟩ := vx_keep h0 e1 hS hA hf hL hF
  obtain ⟨t2, a1, b1⟩ := kk v u t T'.heap (locs ++ L) e1.symm (by rw [← e2]; exact X'.warmed.alike) hp hb k1 k2 k3 T' rfl X'
  exact ⟨t2, st t2 a1, b1⟩
theorem vx_callo {post : Option Value → va_W → Prop} {pe : String → va_W → Prop} (hr : vx_Run p l e R s m args below meth c H locs cells slots mc ms (F0 m pc ls st0) rest (qA D tys A1 post a) (xA D tys A1 pe) free) (hS : va_S A0 H0 H locs) (hA : ∀ q, q < H.size → A1 q → A0 q) (hf : ∀ q, free q → A0 q)
    (kx9 : ∀ (E : String) (ce : Cell) (q9 : Addr) (u : va_W) (t : State) (H1 : Heap) (locs1 : List Loc), t.heap = H1 → s.vm.Alike t.vm → pe E u → outW D tys A1 u t → H.size ≤ H1.size → (∀ q : Nat, q < H.size → ¬ A1 q → H1[q]? = H[q]?) → va_S A0 H0 H1 locs1 → H1[q9]? = some ce → ce.vm = .none → s.vm.findClass E = some ce.cls → vx_W p l e R s m args below meth c H1 locs1 (cells + mc) (slots + ms) Q (F0 m pc ls rest) q9)
    (kk : ∀ (v : Option Value) (u : va_W) (t : State) (H1 : Heap) (locs1 : List Loc), t.heap = H1 → s.vm.Alike t.vm → post v u → outW D tys A1 u t → H.size ≤ H1.size → (∀ q : Nat, q < H.size → ¬ A1 q → H1[q]? = H[q]?) → va_S A0 H0 H1 locs1 → W p l e R s m args below meth c H1 locs1 (cells + mc) (slots + ms) Q (F0 m (pc + 3) ls (v.toList ++ rest))) : W p l e R s m args below meth c H locs cells slots Q (F0 m pc ls st0) := by
  intro T hT X
  rcases hr T hT X with ⟨v, st₀, t, T', L, h0, X', hL, e1, e2, ⟨⟨v2, u, hv, hp, hb⟩, hF⟩, st⟩ | ⟨q, st₀, t, T', L, E, ce, h0, X', hL, e1, e2, ⟨⟨u, hp, hb⟩, hF⟩, hce, hcv, hcl, st⟩
  · cases hv
    obtain ⟨k1, k2, k3⟩ := vx_keep h0 e1 hS hA hf hL hF
    obtain ⟨t2, a1, b1⟩ := kk v u t T'.heap (locs ++ L) e1.symm (by rw [← e2]; exact X'.warmed.alike) hp hb k1 k2 k3 T' rfl X'
    exact ⟨t2, st t2 a1, b1⟩
  · obtain ⟨k1, k2, k3⟩ := vx_keep h0 e1 hS hA hf hL hF
    obtain ⟨t2, a1, b1⟩ := kx9 E ce q u t T'.heap (locs ++ L) e1.symm (by rw [← e2]; exact X'.warmed.alike) hp hb k1 k2 k3 (by rw [e1]; exact hce) hcv hcl T' rfl X'
    exact ⟨t2, st.trans a1, b1⟩
end
/-- a throw under way in this method, with the world ws -/
def gx (p : Program) (l : Launch) (e : Env) (R : Room) (s : State) (m : MethodId) (args : Array Value) (below : List Frame) (meth : Method) (c : Code) (D : va_G) (A : Nat → Prop) (n cells slots : Nat) (Q : State → Prop) (ws : va_W) (pc : Nat) (L : List (Nat × Value)) (st : List Value) (E : String) : Prop :=
  ∀ (H : Heap) (locs : List Loc) (ls : Array Slot) (ce : Cell) (q : Addr), va_P D vwCl ws H → va_D A ws → va_S A s.heap H locs → lvk ls n L → H[q]? = some ce → ce.vm = .none → s.vm.findClass E = some ce.cls → vx_W p l e R s m args below meth c H locs cells slots Q (F0 m pc ls st) q
theorem self_free {A : Nat → Prop} {ws : va_W} {H0 H : Heap} {locs : List Loc} (hD : va_D A ws) (hS : va_S A H0 H locs) (hA : ∀ q, H0.size ≤ q → A q) : ∀ q, va_A ws H.size q → A q := fun q h => h.elim (fun ⟨k, e, h⟩ => hD.2 k (q, e) h) (fun h => hA q (Nat.le_trans hS.1 h))
theorem nil_free {A : Nat → Prop} {H0 H : Heap} {locs : List Loc} (hS : va_S A H0 H locs) (hA : ∀ q, H0.size ≤ q → A q) : ∀ q, va_A [] H.size q → A q := fun q h => h.elim (fun ⟨k, e, h⟩ => by simp at h) (fun h => hA q (Nat.le_trans hS.1 h))
theorem nil_kept {D : va_G} {ws : va_W} {H H1 : Heap} (hP : va_P D vwCl ws H) (hk : ∀ q : Nat, q < H.size → ¬ va_A [] H.size q → H1[q]? = H[q]?) : va_P D vwCl ws H1 := hP.kept (fun k q h => hk q.1 (hP k q h).lt (fun z => z.elim (fun ⟨k, e, z⟩ => by simp at z) (fun z => absurd (hP k q h).lt (Nat.not_lt.mpr z))))
theorem nil_P {D : va_G} {H : Heap} : va_P D vwCl [] H := fun k q h => by simp at h
theorem nil_D {A : Nat → Prop} : va_D A [] := ⟨fun i j p q h => by simp at h, fun k q h => by simp at h⟩

theorem gg_callW {p : Program} {l : Launch} {e : Env} {R : Room} {s : State} {m : MethodId} {args : Array Value} {below : List Frame} {meth : Method} {c : Code} {D : va_G} {A : Nat → Prop} {tys : List (ClassId × FieldType)} {cc : ByteArray} {own : String} {n cells slots pc : Nat} {Q : State → Prop} {ws : va_W} {L : List (Nat × Value)} {st : List Value} {y : MethodName} {cd : ByteArray} {maxL k9 idx : Nat} {ret : Option FieldType} {rm : Room} {As rest : List Value} {post : Option Value → va_W → Prop} {b : Nat} {C : String} (K : kx p s m args meth c D A tys cc own n) (ok : okV own idx C y (.code y cd maxL ret) k9) (hM : mA l D tys y cd maxL ret rm ws (.ref b :: As) post) (q0 : Nat) {ci N : Nat} {fs : List Value} {T : u_T} (hrec : ws[q0]? = some (b, .inr (ci, fs))) (hcl : vwCl[ci]? = some (C, T, N)) (hd : decode cc pc = .ok (.invokevirtual idx, 3)) (hst : st = As.reverse ++ .ref b :: rest) (hAs : As.length = k9) (hr : rOk rm R maxL cells slots = true) (hw : c8 rest = true)
    (kk : ∀ (v : Option Value) (u : va_W), post v u → gg p l e R s m args below meth c D A n (cells + rm.cells) (slots + rm.slots) Q u (pc + 3) L (v.toList ++ rest)) : gg p l e R s m args below meth c D A n cells slots Q ws pc L st := by
  intro H locs ls hP hD hS hl
  subst hst
  have hF := self_free hD hS K.2.2.1
  refine va_callo (va_runV (As := As) (rest := rest) K.1 (hM H.size) (cwV k9 K.1.2.2.2.2 ok.1 rfl rfl rfl ok.2 (rOk_spec hr).1) ⟨inW_blind, va_recv K.2.1 hP hcl hrec, fun U hU hW => ⟨rfl, by rw [hU], by rw [hU]; exact hP, va_K.moved hW.alike K.2.1, hD.weaken (fun _ _ _ _ => trivial)⟩⟩ rfl hAs hl.1 rfl (lv_room (Nat.le_of_ble_eq_true hw)) hd (rOk_spec hr).2) hS (fun q _ h => hF q h) hF (fun v u t H1 locs1 ht hvm hp hB hz hk hS1 => ?_)
  obtain ⟨hP1, hK1, hD1⟩ := hB
  rw [ht] at hP1
  exact kk v u hp H1 locs1 ls hP1 (hD1.weaken (fun k q _ h => hF q.1 h)) hS1 hl
theorem gg_callWX {p : Program} {l : Launch} {e : Env} {R : Room} {s : State} {m : MethodId} {args : Array Value} {below : List Frame} {meth : Method} {c : Code} {D : va_G} {A : Nat → Prop} {tys : List (ClassId × FieldType)} {cc : ByteArray} {own : String} {n cells slots pc : Nat} {Q : State → Prop} {ws : va_W} {L : List (Nat × Value)} {st : List Value} {y : MethodName} {cd : ByteArray} {maxL k9 idx : Nat} {ret : Option FieldType} {rm : Room} {As rest : List Value} {post : Option Value → va_W → Prop} {pe : String → va_W → Prop} {b : Nat} {C : String} (K : kx p s m args meth c D A tys cc own n) (T9 : te A s s.heap) (ok : okV own idx C y (.code y cd maxL ret) k9) (hM : mX l D tys y (.code y cd maxL ret) rm ws (.ref b :: As) post pe) (q0 : Nat) {ci N : Nat} {fs : List Value} {T : u_T} (hrec : ws[q0]? = some (b, .inr (ci, fs))) (hcl : vwCl[ci]? = some (C, T, N)) (hd : decode cc pc = .ok (.invokevirtual idx, 3)) (hst : st = As.reverse ++ .ref b :: rest) (hAs : As.length = k9) (hr : rOk rm R maxL cells slots = true) (hw : c8 rest = true)
    (kt : ∀ (E : String) (u : va_W), pe E u → gx p l e R s m args below meth c D A n (cells + rm.cells) (slots + rm.slots) Q u pc L rest E)
    (kk : ∀ (v : Option Value) (u : va_W), post v u → gg p l e R s m args below meth c D A n (cells + rm.cells) (slots + rm.slots) Q u (pc + 3) L (v.toList ++ rest)) : gg p l e R s m args below meth c D A n cells slots Q ws pc L st := by
  intro H locs ls hP hD hS hl
  subst hst
  have hF := self_free hD hS K.2.2.1
  refine vx_callo (vx_runV (As := As) (rest := rest) K.1 (hM H.size) (cwV k9 K.1.2.2.2.2 ok.1 rfl rfl rfl ok.2 (rOk_spec hr).1) ⟨inX_blind, va_recv K.2.1 hP hcl hrec, fun U hU hW => ⟨rfl, ⟨by rw [hU], by rw [hU]; exact hP, va_K.moved hW.alike K.2.1, hD.weaken (fun _ _ _ _ => trivial)⟩, by rw [hU]; exact T9.go hW hS hF⟩⟩ rfl hAs hl.1 rfl (lv_room (Nat.le_of_ble_eq_true hw)) hd (rOk_spec hr).2) hS (fun q _ h => hF q h) hF (fun E ce q9 u t H1 locs1 ht hvm hp hB hz hk hS1 h1 h2 h3 => ?_) (fun v u t H1 locs1 ht hvm hp hB hz hk hS1 => ?_)
  · obtain ⟨hP1, hK1, hD1⟩ := hB
    rw [ht] at hP1
    exact kt E u hp H1 locs1 ls ce q9 hP1 (hD1.weaken (fun k q _ h => hF q.1 h)) hS1 hl h1 h2 h3
  · obtain ⟨hP1, hK1, hD1⟩ := hB
    rw [ht] at hP1
    exact kk v u hp H1 locs1 ls hP1 (hD1.weaken (fun k q _ h => hF q.1 h)) hS1 hl
theorem gg_callS {p : Program} {l : Launch} {e : Env} {R : Room} {s : State} {m : MethodId} {args : Array Value} {below : List Frame} {meth : Method} {c : Code} {D : va_G} {A : Nat → Prop} {tys : List (ClassId × FieldType)} {cc : ByteArray} {own : String} {n cells slots pc : Nat} {Q : State → Prop} {ws : va_W} {L : List (Nat × Value)} {st : List Value} {y : MethodName} {cd : ByteArray} {maxL k9 idx : Nat} {ret : Option FieldType} {rm : Room} {As rest : List Value} {post : Option Value → va_W → Prop} (K : kx p s m args meth c D A tys cc own n) (ok : okS own idx y (.code y cd maxL ret) k9) (hM : mA l D tys y cd maxL ret rm [] As post) (hd : decode cc pc = .ok (.invokestatic idx, 3)) (hst : st = As.reverse ++ rest) (hAs : As.length = k9) (hr : rOk rm R maxL cells slots = true) (hw : c8 rest = true)
    (kk : ∀ (v : Option Value) (u : va_W), post v u → gg p l e R s m args below meth c D A n (cells + rm.cells) (slots + rm.slots) Q ws (pc + 3) L (v.toList ++ rest)) : gg p l e R s m args below meth c D A n cells slots Q ws pc L st := by
  intro H locs ls hP hD hS hl
  subst hst
  have hF := nil_free hS K.2.2.1
  refine va_callo (va_runS (As := As) (rest := rest) K.1 (hM H.size) (va_cwS k9 K.1.2.2.2.2 ok.1 rfl rfl rfl ok.2 (rOk_spec hr).1) ⟨inW_blind, fun U hU hW => ⟨rfl, by rw [hU], nil_P, va_K.moved hW.alike K.2.1, nil_D⟩⟩ rfl hAs hl.1 rfl (lv_room (Nat.le_of_ble_eq_true hw)) hd (rOk_spec hr).2) hS (fun q _ h => hF q h) hF (fun v u t H1 locs1 ht hvm hp hB hz hk hS1 => ?_)
  exact kk v u hp H1 locs1 ls (nil_kept hP hk) hD hS1 hl
theorem gg_callSX {p : Program} {l : Launch} {e : Env} {R : Room} {s : State} {m : MethodId} {args : Array Value} {below : List Frame} {meth : Method} {c : Code} {D : va_G} {A : Nat → Prop} {tys : List (ClassId × FieldType)} {cc : ByteArray} {own : String} {n cells slots pc : Nat} {Q : State → Prop} {ws : va_W} {L : List (Nat × Value)} {st : List Value} {y : MethodName} {cd : ByteArray} {maxL k9 idx : Nat} {ret : Option FieldType} {rm : Room} {As rest : List Value} {post : Option Value → va_W → Prop} {pe : String → va_W → Prop} (K : kx p s m args meth c D A tys cc own n) (T9 : te A s s.heap) (ok : okS own idx y (.code y cd maxL ret) k9) (hM : mX l D tys y (.code y cd maxL ret) rm [] As post pe) (hd : decode cc pc = .ok (.invokestatic idx, 3)) (hst : st = As.reverse ++ rest) (hAs : As.length = k9) (hr : rOk rm R maxL cells slots = true) (hw : c8 rest = true)
    (kt : ∀ (E : String) (u : va_W), pe E u → gx p l e R s m args below meth c D A n (cells + rm.cells) (slots + rm.slots) Q ws pc L rest E)
    (kk : ∀ (v : Option Value) (u : va_W), post v u → gg p l e R s m args below meth c D A n (cells + rm.cells) (slots + rm.slots) Q ws (pc + 3) L (v.toList ++ rest)) : gg p l e R s m args below meth c D A n cells slots Q ws pc L st := by
  intro H locs ls hP hD hS hl
  subst hst
  have hF := nil_free hS K.2.2.1
  refine vx_callo (vx_runS (As := As) (rest := rest) K.1 (hM H.size) (va_cwS k9 K.1.2.2.2.2 ok.1 rfl rfl rfl ok.2 (rOk_spec hr).1) ⟨inX_blind, fun U hU hW => ⟨rfl, ⟨by rw [hU], nil_P, va_K.moved hW.alike K.2.1, nil_D⟩, by rw [hU]; exact T9.go hW hS hF⟩⟩ rfl hAs hl.1 rfl (lv_room (Nat.le_of_ble_eq_true hw)) hd (rOk_spec hr).2) hS (fun q _ h => hF q h) hF (fun E ce q9 u t H1 locs1 ht hvm hp hB hz hk hS1 h1 h2 h3 => ?_) (fun v u t H1 locs1 ht hvm hp hB hz hk hS1 => ?_)
  · exact kt E u hp H1 locs1 ls ce q9 (nil_kept hP hk) hD hS1 hl h1 h2 h3
  · exact kk v u hp H1 locs1 ls (nil_kept hP hk) hD hS1 hl
theorem gg_iret {p : Program} {l : Launch} {e : Env} {R : Room} {s : State} {m : MethodId} {args : Array Value} {below : List Frame} {meth : Method} {c : Code} {D : va_G} {A : Nat → Prop} {tys : List (ClassId × FieldType)} {cc : ByteArray} {own : String} {n cells slots pc : Nat} {ws : va_W} {L : List (Nat × Value)} {mc ms : Nat} {post : Option Value → va_W → Prop} {x : Int32} (K : kx p s m args meth c D A tys cc own n) (hr : meth.sig.returnType = some .int) (hd : decode cc pc = .ok (.ireturn, 1)) (hc : cells ≤ mc) (hs : slots ≤ ms) (hp : post (some (.int x)) ws) : gg p l e R s m args below meth c D A n cells slots (MQ below (qA D tys A post) args s mc ms A) ws pc L [.int x] :=
  fun H locs ls hP hD hS hl => W.widen hc hs (W.iret K.1.1 K.1.2.1 hr (fun t ht hW => ⟨⟨_, ws, rfl, hp, by rw [ht]; exact hP, va_K.moved hW.alike K.2.1, hD⟩, hS.F ht⟩) hS.2.2 hd (hlocks := K.2.2.2))
theorem gg_zret {p : Program} {l : Launch} {e : Env} {R : Room} {s : State} {m : MethodId} {args : Array Value} {below : List Frame} {meth : Method} {c : Code} {D : va_G} {A : Nat → Prop} {tys : List (ClassId × FieldType)} {cc : ByteArray} {own : String} {n cells slots pc : Nat} {ws : va_W} {L : List (Nat × Value)} {mc ms : Nat} {post : Option Value → va_W → Prop} {x : Int32} (K : kx p s m args meth c D A tys cc own n) (hr : meth.sig.returnType = some .boolean) (hd : decode cc pc = .ok (.ireturn, 1)) (hx : x = 0 ∨ x = 1) (hc : cells ≤ mc) (hs : slots ≤ ms) (hp : post (some (.int x)) ws) : gg p l e R s m args below meth c D A n cells slots (MQ below (qA D tys A post) args s mc ms A) ws pc L [.int x] :=
  fun H locs ls hP hD hS hl => W.widen hc hs (W.zret K.1.1 K.1.2.1 hr (by rcases hx with rfl | rfl <;> rfl) (fun t ht hW => ⟨⟨_, ws, rfl, hp, by rw [ht]; exact hP, va_K.moved hW.alike K.2.1, hD⟩, hS.F ht⟩) hS.2.2 hd (hlocks := K.2.2.2))
theorem gg_vret {p : Program} {l : Launch} {e : Env} {R : Room} {s : State} {m : MethodId} {args : Array Value} {below : List Frame} {meth : Method} {c : Code} {D : va_G} {A : Nat → Prop} {tys : List (ClassId × FieldType)} {cc : ByteArray} {own : String} {n cells slots pc : Nat} {ws : va_W} {L : List (Nat × Value)} {mc ms : Nat} {post : Option Value → va_W → Prop} (K : kx p s m args meth c D A tys cc own n) (hr : meth.sig.returnType = none) (hd : decode cc pc = .ok (.return_, 1)) (hc : cells ≤ mc) (hs : slots ≤ ms) (hp : post none ws) : gg p l e R s m args below meth c D A n cells slots (MQ below (qA D tys A post) args s mc ms A) ws pc L [] :=
  fun H locs ls hP hD hS hl => W.widen hc hs (W.vret K.1.1 K.1.2.1 hr (fun t ht hW => ⟨⟨_, ws, rfl, hp, by rw [ht]; exact hP, va_K.moved hW.alike K.2.1, hD⟩, hS.F ht⟩) hS.2.2 hd (hlocks := K.2.2.2))
theorem gg_fret {p : Program} {l : Launch} {e : Env} {R : Room} {s : State} {m : MethodId} {args : Array Value} {below : List Frame} {meth : Method} {c : Code} {D : va_G} {A : Nat → Prop} {tys : List (ClassId × FieldType)} {cc : ByteArray} {own : String} {n cells slots pc : Nat} {ws : va_W} {L : List (Nat × Value)} {mc ms : Nat} {post : Option Value → va_W → Prop} {x : UInt32} (K : kx p s m args meth c D A tys cc own n) (hr : meth.sig.returnType = some .float) (hd : decode cc pc = .ok (.freturn, 1)) (hc : cells ≤ mc) (hs : slots ≤ ms) (hp : post (some (.float x)) ws) : gg p l e R s m args below meth c D A n cells slots (MQ below (qA D tys A post) args s mc ms A) ws pc L [.float x] :=
  fun H locs ls hP hD hS hl => W.widen hc hs (W.fret K.1.1 K.1.2.1 hr (fun t ht hW => ⟨⟨_, ws, rfl, hp, by rw [ht]; exact hP, va_K.moved hW.alike K.2.1, hD⟩, hS.F ht⟩) hS.2.2 hd (hlocks := K.2.2.2))
theorem gg_x {p : Program} {l : Launch} {e : Env} {R : Room} {s : State} {m : MethodId} {args : Array Value} {below : List Frame} {meth : Method} {c : Code} {D : va_G} {A : Nat → Prop} {tys : List (ClassId × FieldType)} {n cells slots pc : Nat} {ws : va_W} {L : List (Nat × Value)} {st : List Value} {mc ms : Nat} {post : Option Value → va_W → Prop} {pe : String → va_W → Prop} (k : gg p l e R s m args below meth c D A n cells slots (MQ below (qA D tys A post) args s mc ms A) ws pc L st) : gg p l e R s m args below meth c D A n cells slots (vx_MQ below (qA D tys A post) (xA D tys A pe) args s mc ms A) ws pc L st := fun H locs ls hP hD hS hl => vx_ret (k H locs ls hP hD hS hl)
theorem gx_out {p : Program} {l : Launch} {e : Env} {R : Room} {s : State} {m : MethodId} {args : Array Value} {below : List Frame} {meth : Method} {c : Code} {D : va_G} {A : Nat → Prop} {tys : List (ClassId × FieldType)} {cc : ByteArray} {own : String} {n cells slots pc : Nat} {ws : va_W} {L : List (Nat × Value)} {st : List Value} {mc ms : Nat} {post : Option Value → va_W → Prop} {pe : String → va_W → Prop} {E : String} (K : kx p s m args meth c D A tys cc own n) (htab : ∀ x ∈ c.exceptionTable.toList, False) (hc : cells ≤ mc) (hs : slots ≤ ms) (hp : pe E ws) : gx p l e R s m args below meth c D A n cells slots (vx_MQ below (qA D tys A post) (xA D tys A pe) args s mc ms A) ws pc L st E :=
  fun H locs ls ce q hP hD hS hl h1 h2 h3 => vx_out (fun x hx => (htab x hx).elim) K.2.2.2 h1 h2 h3 (fun t ht hvm => ⟨⟨ws, hp, by rw [ht]; exact hP, va_K.moved hvm K.2.1, hD⟩, hS.F ht⟩) hS.2.2 hc hs
theorem thr_good_eA : ∀ w ∈ Cond.classLink RX0 55 eA :: Cond.initialized eA :: vx_atS RX0 59 eA ["java/lang/RuntimeException", "java/lang/Exception"], vx_ot w = true := by decide +kernel
theorem thr_rest_eA : ∀ w ∈ (vx_atS RX0 59 eA ["java/lang/RuntimeException", "java/lang/Exception"]).filter (fun w => !goodWord w), w ∈ teW := by decide +kernel
theorem thr_in_eA : ∀ w ∈ (vx_atS RX0 59 eA ["java/lang/RuntimeException", "java/lang/Exception"]).filter goodWord, w ∈ GW := fun w h => gw_of (wsL_law_x0 w h) (List.mem_filter.mp h).2
theorem thr_cl_eA : Cond.classLink RX0 55 eA ∈ GW := by decide +kernel
theorem thr_ini_eA : Cond.initialized eA ∈ GW := by decide +kernel
theorem gg_throw_eA {p : Program} {l : Launch} {e : Env} {R : Room} {s : State} {m : MethodId} {args : Array Value} {below : List Frame} {meth : Method} {c : Code} {D : va_G} {A : Nat → Prop} {tys : List (ClassId × FieldType)} {cc : ByteArray} {n cells slots pc : Nat} {ws : va_W} {L : List (Nat × Value)} {st : List Value} {mc ms : Nat} {post : Option Value → va_W → Prop} {pe : String → va_W → Prop} {is : Nat} {text : String} (K : kx p s m args meth c D A tys cc RX0 n) (T9 : te A s s.heap) (hl0 : l.stackTraces = false) (htab : ∀ x ∈ c.exceptionTable.toList, False) (hstr : (is, text) ∈ strs) (d0 : decode cc pc = .ok (.new 55, 3)) (d3 : decode cc (pc + 3) = .ok (.dup, 1)) (d4 : decode cc (pc + 4) = .ok (.ldc is, 2)) (d6 : decode cc (pc + 6) = .ok (.invokespecial 59, 3)) (d9 : decode cc (pc + 9) = .ok (.athrow, 1)) (hR : (Nat.ble 6 R.frames && (Nat.ble 90 R.locals && (Nat.ble (cells + 1) R.cells && Nat.ble (slots + 6) R.slots))) = true) (hw : c8 st = true) (hc : cells + 1 ≤ mc) (hs : slots + 6 ≤ ms) (hp : pe eA ws) : gg p l e R s m args below meth c D A n cells slots (vx_MQ below (qA D tys A post) (xA D tys A pe) args s mc ms A) ws pc L st := by
  intro H locs ls hP hD hS hl
  simp only [Bool.and_eq_true] at hR
  obtain ⟨r1, r2, r3, r4⟩ := hR
  have r1 := Nat.le_of_ble_eq_true r1
  have r2 := Nat.le_of_ble_eq_true r2
  have r3 := Nat.le_of_ble_eq_true r3
  have r4 := Nat.le_of_ble_eq_true r4
  have hw := Nat.le_of_ble_eq_true hw
  obtain ⟨sa, hsa⟩ := T9.2.2.1 _ hstr
  refine vx_throwS K.1.1 K.1.2.1 hl0 (names := ["java/lang/RuntimeException", "java/lang/Exception"]) (ik := 55) (ic := 59) (A := A) K.1.2.2.2.1 (by decide +kernel) (by decide +kernel) (K.1.2.2.2.2 _ thr_cl_eA) (K.1.2.2.2.2 _ thr_ini_eA) hsa (vx_hat (fun w h => K.1.2.2.2.2 _ (thr_in_eA w h)) thr_rest_eA (fun w h => va_Nw.use (teW_ot w h) (T9.2.2.2.1 w h))) thr_good_eA T9.1 T9.2.1 hS (hl.1.trans K.1.2.2.1.symm) d0 d3 d4 d6 d9 (fun x hx => (htab x hx).elim) (by show 2 + 3 < R.frames; omega) (by show (st.map fun v => v.category).sum + (13 * (2 + 1) + 43) ≤ R.locals; omega) r3 r4 K.2.2.2 (fun t hvm hz hk => ⟨⟨ws, hp, hP.kept (fun k q h => hk q.1 (hP k q h).lt), va_K.moved hvm K.2.1, hD⟩, Nat.le_trans hS.1 hz, fun q h1 h2 => (hk q (Nat.lt_of_lt_of_le h1 hS.1)).trans (hS.2.1 q h1 h2)⟩) hS.2.2 hc hs
theorem thr_good_eS : ∀ w ∈ Cond.classLink RX0 66 eS :: Cond.initialized eS :: vx_atS RX0 70 eS ["java/lang/RuntimeException", "java/lang/Exception"], vx_ot w = true := by decide +kernel
theorem thr_rest_eS : ∀ w ∈ (vx_atS RX0 70 eS ["java/lang/RuntimeException", "java/lang/Exception"]).filter (fun w => !goodWord w), w ∈ teW := by decide +kernel
theorem thr_in_eS : ∀ w ∈ (vx_atS RX0 70 eS ["java/lang/RuntimeException", "java/lang/Exception"]).filter goodWord, w ∈ GW := fun w h => gw_of (wsL_law_x1 w h) (List.mem_filter.mp h).2
theorem thr_cl_eS : Cond.classLink RX0 66 eS ∈ GW := by decide +kernel
theorem thr_ini_eS : Cond.initialized eS ∈ GW := by decide +kernel
theorem gg_throw_eS {p : Program} {l : Launch} {e : Env} {R : Room} {s : State} {m : MethodId} {args : Array Value} {below : List Frame} {meth : Method} {c : Code} {D : va_G} {A : Nat → Prop} {tys : List (ClassId × FieldType)} {cc : ByteArray} {n cells slots pc : Nat} {ws : va_W} {L : List (Nat × Value)} {st : List Value} {mc ms : Nat} {post : Option Value → va_W → Prop} {pe : String → va_W → Prop} {is : Nat} {text : String} (K : kx p s m args meth c D A tys cc RX0 n) (T9 : te A s s.heap) (hl0 : l.stackTraces = false) (htab : ∀ x ∈ c.exceptionTable.toList, False) (hstr : (is, text) ∈ strs) (d0 : decode cc pc = .ok (.new 66, 3)) (d3 : decode cc (pc + 3) = .ok (.dup, 1)) (d4 : decode cc (pc + 4) = .ok (.ldc is, 2)) (d6 : decode cc (pc + 6) = .ok (.invokespecial 70, 3)) (d9 : decode cc (pc + 9) = .ok (.athrow, 1)) (hR : (Nat.ble 6 R.frames && (Nat.ble 90 R.locals && (Nat.ble (cells + 1) R.cells && Nat.ble (slots + 6) R.slots))) = true) (hw : c8 st = true) (hc : cells + 1 ≤ mc) (hs : slots + 6 ≤ ms) (hp : pe eS ws) : gg p l e R s m args below meth c D A n cells slots (vx_MQ below (qA D tys A post) (xA D tys A pe) args s mc ms A) ws pc L st := by
  intro H locs ls hP hD hS hl
  simp only [Bool.and_eq_true] at hR
  obtain ⟨r1, r2, r3, r4⟩ := hR
  have r1 := Nat.le_of_ble_eq_true r1
  have r2 := Nat.le_of_ble_eq_true r2
  have r3 := Nat.le_of_ble_eq_true r3
  have r4 := Nat.le_of_ble_eq_true r4
  have hw := Nat.le_of_ble_eq_true hw
  obtain ⟨sa, hsa⟩ := T9.2.2.1 _ hstr
  refine vx_throwS K.1.1 K.1.2.1 hl0 (names := ["java/lang/RuntimeException", "java/lang/Exception"]) (ik := 66) (ic := 70) (A := A) K.1.2.2.2.1 (by decide +kernel) (by decide +kernel) (K.1.2.2.2.2 _ thr_cl_eS) (K.1.2.2.2.2 _ thr_ini_eS) hsa (vx_hat (fun w h => K.1.2.2.2.2 _ (thr_in_eS w h)) thr_rest_eS (fun w h => va_Nw.use (teW_ot w h) (T9.2.2.2.1 w h))) thr_good_eS T9.1 T9.2.1 hS (hl.1.trans K.1.2.2.1.symm) d0 d3 d4 d6 d9 (fun x hx => (htab x hx).elim) (by show 2 + 3 < R.frames; omega) (by show (st.map fun v => v.category).sum + (13 * (2 + 1) + 43) ≤ R.locals; omega) r3 r4 K.2.2.2 (fun t hvm hz hk => ⟨⟨ws, hp, hP.kept (fun k q h => hk q.1 (hP k q h).lt), va_K.moved hvm K.2.1, hD⟩, Nat.le_trans hS.1 hz, fun q h1 h2 => (hk q (Nat.lt_of_lt_of_le h1 hS.1)).trans (hS.2.1 q h1 h2)⟩) hS.2.2 hc hs
theorem thr_good_eB : ∀ w ∈ Cond.classLink RX0 91 eB :: Cond.initialized eB :: vx_atS RX0 95 eB ["java/lang/RuntimeException", "java/lang/Exception"], vx_ot w = true := by decide +kernel
theorem thr_rest_eB : ∀ w ∈ (vx_atS RX0 95 eB ["java/lang/RuntimeException", "java/lang/Exception"]).filter (fun w => !goodWord w), w ∈ teW := by decide +kernel
theorem thr_in_eB : ∀ w ∈ (vx_atS RX0 95 eB ["java/lang/RuntimeException", "java/lang/Exception"]).filter goodWord, w ∈ GW := fun w h => gw_of (wsL_law_x2 w h) (List.mem_filter.mp h).2
theorem thr_cl_eB : Cond.classLink RX0 91 eB ∈ GW := by decide +kernel
theorem thr_ini_eB : Cond.initialized eB ∈ GW := by decide +kernel
theorem gg_throw_eB {p : Program} {l : Launch} {e : Env} {R : Room} {s : State} {m : MethodId} {args : Array Value} {below : List Frame} {meth : Method} {c : Code} {D : va_G} {A : Nat → Prop} {tys : List (ClassId × FieldType)} {cc : ByteArray} {n cells slots pc : Nat} {ws : va_W} {L : List (Nat × Value)} {st : List Value} {mc ms : Nat} {post : Option Value → va_W → Prop} {pe : String → va_W → Prop} {is : Nat} {text : String} (K : kx p s m args meth c D A tys cc RX0 n) (T9 : te A s s.heap) (hl0 : l.stackTraces = false) (htab : ∀ x ∈ c.exceptionTable.toList, False) (hstr : (is, text) ∈ strs) (d0 : decode cc pc = .ok (.new 91, 3)) (d3 : decode cc (pc + 3) = .ok (.dup, 1)) (d4 : decode cc (pc + 4) = .ok (.ldc is, 2)) (d6 : decode cc (pc + 6) = .ok (.invokespecial 95, 3)) (d9 : decode cc (pc + 9) = .ok (.athrow, 1)) (hR : (Nat.ble 6 R.frames && (Nat.ble 90 R.locals && (Nat.ble (cells + 1) R.cells && Nat.ble (slots + 6) R.slots))) = true) (hw : c8 st = true) (hc : cells + 1 ≤ mc) (hs : slots + 6 ≤ ms) (hp : pe eB ws) : gg p l e R s m args below meth c D A n cells slots (vx_MQ below (qA D tys A post) (xA D tys A pe) args s mc ms A) ws pc L st := by
  intro H locs ls hP hD hS hl
  simp only [Bool.and_eq_true] at hR
  obtain ⟨r1, r2, r3, r4⟩ := hR
  have r1 := Nat.le_of_ble_eq_true r1
  have r2 := Nat.le_of_ble_eq_true r2
  have r3 := Nat.le_of_ble_eq_true r3
  have r4 := Nat.le_of_ble_eq_true r4
  have hw := Nat.le_of_ble_eq_true hw
  obtain ⟨sa, hsa⟩ := T9.2.2.1 _ hstr
  refine vx_throwS K.1.1 K.1.2.1 hl0 (names := ["java/lang/RuntimeException", "java/lang/Exception"]) (ik := 91) (ic := 95) (A := A) K.1.2.2.2.1 (by decide +kernel) (by decide +kernel) (K.1.2.2.2.2 _ thr_cl_eB) (K.1.2.2.2.2 _ thr_ini_eB) hsa (vx_hat (fun w h => K.1.2.2.2.2 _ (thr_in_eB w h)) thr_rest_eB (fun w h => va_Nw.use (teW_ot w h) (T9.2.2.2.1 w h))) thr_good_eB T9.1 T9.2.1 hS (hl.1.trans K.1.2.2.1.symm) d0 d3 d4 d6 d9 (fun x hx => (htab x hx).elim) (by show 2 + 3 < R.frames; omega) (by show (st.map fun v => v.category).sum + (13 * (2 + 1) + 43) ≤ R.locals; omega) r3 r4 K.2.2.2 (fun t hvm hz hk => ⟨⟨ws, hp, hP.kept (fun k q h => hk q.1 (hP k q h).lt), va_K.moved hvm K.2.1, hD⟩, Nat.le_trans hS.1 hz, fun q h1 h2 => (hk q (Nat.lt_of_lt_of_le h1 hS.1)).trans (hS.2.1 q h1 h2)⟩) hS.2.2 hc hs
theorem mA_intro {l : Launch} {D : va_G} {tys : List (ClassId × FieldType)} {y : MethodName} {cd : ByteArray} {maxL : Nat} {ret : Option FieldType} {rm : Room} {ws : va_W} {As : List Value} {post : Option Value → va_W → Prop} {own : String} (L0 : List (Nat × Value)) (hy : plainName y.cls = true) (hcls : y.cls = own) (hlen : Nat.ble (lg_sl As).length maxL = true) (hL : lv_args 0 As = L0) (hc : L0.all (fun q => q.2.category == 1) = true)
    (body : ∀ (p : Program) (e : Env) (s : State) (m : MethodId) (args : Array Value) (below : List Frame) (meth : Method) (c : Code) (A : Nat → Prop), kx p s m args meth c D A tys cd own maxL → meth.sig.returnType = ret → (y.name = "<init>" → meth.name = "<init>") → gg p l e rm s m args below meth c D A maxL 0 0 (MQ below (qA D tys A post) args s rm.cells rm.slots A) ws 0 L0 []) : mA l D tys y cd maxL ret rm ws As post := by
  intro sz
  refine Met.ofW (cc := cd) (maxL := maxL) (ret := ret) hy rfl ?_
  intro p e s m args below meth c s₁ B hml hv
  obtain ⟨rfl, hsz, hP, hK, hD0⟩ := hv
  subst hsz
  have hts := atoms_spec (ws := .code y cd maxL ret :: GW) B.pre
  have hl := lv_entry As (Nat.le_of_ble_eq_true hlen)
  rw [hL] at hl
  rw [lg_entry_eq]
  exact body p e s m _ below meth c (va_A ws s.heap.size) ⟨⟨B.exec, B.bytes, hml, by rw [← hcls]; exact findClass_of_methodNamed B.named, fun w hw => hts w (List.mem_cons_of_mem _ hw)⟩, hK, fun q h => Or.inr h, B.notSynchronized⟩ B.returns (fun h => by rw [(name_of_methodNamed B.named B.method).1]; exact h) s.heap [] _ hP hD0.self va_S.rf (lvk_of hl hc)
theorem mX_intro {l : Launch} {D : va_G} {tys : List (ClassId × FieldType)} {y : MethodName} {cd : ByteArray} {maxL : Nat} {ret : Option FieldType} {rm : Room} {ws : va_W} {As : List Value} {post : Option Value → va_W → Prop} {pe : String → va_W → Prop} {own : String} (L0 : List (Nat × Value)) (hy : plainName y.cls = true) (hcls : y.cls = own) (hlen : Nat.ble (lg_sl As).length maxL = true) (hL : lv_args 0 As = L0) (hc : L0.all (fun q => q.2.category == 1) = true)
    (body : ∀ (p : Program) (e : Env) (s : State) (m : MethodId) (args : Array Value) (below : List Frame) (meth : Method) (c : Code) (A : Nat → Prop), kx p s m args meth c D A tys cd own maxL → meth.sig.returnType = ret → te A s s.heap → (∀ x ∈ c.exceptionTable.toList, False) → gg p l e rm s m args below meth c D A maxL 0 0 (vx_MQ below (qA D tys A post) (xA D tys A pe) args s rm.cells rm.slots A) ws 0 L0 []) : mX l D tys y (.code y cd maxL ret) rm ws As post pe := by
  intro sz
  refine vx_ofW (cc := cd) (maxL := maxL) (ret := ret) hy rfl ?_
  intro p e s m args below meth c s₁ B hml htab hv
  obtain ⟨rfl, ⟨hsz, hP, hK, hD0⟩, hte⟩ := hv
  subst hsz
  have hts := atoms_spec (ws := .code y cd maxL ret :: GW) B.pre
  have hl := lv_entry As (Nat.le_of_ble_eq_true hlen)
  rw [hL] at hl
  rw [lg_entry_eq]
  exact body p e s m _ below meth c (va_A ws s.heap.size) ⟨⟨B.exec, B.bytes, hml, by rw [← hcls]; exact findClass_of_methodNamed B.named, fun w hw => hts w (List.mem_cons_of_mem _ hw)⟩, hK, fun q h => Or.inr h, B.notSynchronized⟩ B.returns hte htab s.heap [] _ hP hD0.self va_S.rf (lvk_of hl hc)
end
section
/-! the worlds of the two objects; rows on their fields and arrays; calls with one answer -/
abbrev ZT : Type := va_G × ClassId × ClassId × ClassId
abbrev ty3 (Z : ZT) : List (ClassId × FieldType) := [(Z.2.1, .int)]
abbrev XT : Type := Nat × Nat × Nat × Nat
/-- a Twotimes: known, keptOn, draft, today -/
def wX (Z : ZT) (X : XT) (k kp dr : Nat → Int32) (td : Int32) : va_W := [(X.1, .inr (0, [.ref X.2.1, .ref X.2.2.1, .ref X.2.2.2, .int td])), (X.2.1, .inl (Z.2.1, 57600, .inl k)), (X.2.2.1, .inl (Z.2.1, 60, .inl kp)), (X.2.2.2, .inl (Z.2.1, 60, .inl dr))]
abbrev rmk (f lo mc ms : Nat) : Room := { frames := f, cells := mc, slots := ms, locals := lo }
def mR (l : Launch) (Z : ZT) (y : MethodName) (cd : ByteArray) (maxL : Nat) (ret : Option FieldType) (rm : Room) (ws : va_W) (As : List Value) (v : Value) : Prop := mA l Z.1 (ty3 Z) y cd maxL ret rm ws As (fun r u => r = some v ∧ u = ws)
def mS (l : Launch) (y : MethodName) (cd : ByteArray) (maxL : Nat) (ret : Option FieldType) (rm : Room) (As : List Value) (v : Value) : Prop := ∀ (D : va_G) (tys : List (ClassId × FieldType)), mA l D tys y cd maxL ret rm [] As (fun r _ => r = some v)
theorem gg_wsE {p : Program} {l : Launch} {e : Env} {R : Room} {s : State} {m : MethodId} {args : Array Value} {below : List Frame} {meth : Method} {c : Code} {D : va_G} {A : Nat → Prop} {n cells slots pc : Nat} {Q : State → Prop} {ws ws' : va_W} {L : List (Nat × Value)} {st : List Value} (h : ws = ws') (k : gg p l e R s m args below meth c D A n cells slots Q ws' pc L st) : gg p l e R s m args below meth c D A n cells slots Q ws pc L st := by rw [h]; exact k
section
variable {p : Program} {l : Launch} {e : Env} {R : Room} {s : State} {m : MethodId} {args : Array Value} {below : List Frame} {meth : Method} {c : Code} {Z : ZT} {A : Nat → Prop} {cc : ByteArray} {own : String} {n cells slots pc : Nat} {Q : State → Prop} {ws : va_W} {L : List (Nat × Value)} {st : List Value}
variable {y : MethodName} {cd : ByteArray} {maxL k9 idx : Nat} {ret : Option FieldType} {rm : Room} {As rest : List Value}
theorem gg_callRX {X : XT} {k kp dr : Nat → Int32} {td : Int32} {v : Value} (K : kx p s m args meth c Z.1 A (ty3 Z) cc own n) (ok : okV own idx RX0 y (.code y cd maxL ret) k9) (hM : mR l Z y cd maxL ret rm (wX Z X k kp dr td) (.ref X.1 :: As) v) (hd : decode cc pc = .ok (.invokevirtual idx, 3)) (hst : st = As.reverse ++ .ref X.1 :: rest) (hAs : As.length = k9) (hr : rOk rm R maxL cells slots = true) (hw : c8 rest = true) (hz : rm.cells = 0 ∧ rm.slots = 0)
    (kk : gg p l e R s m args below meth c Z.1 A n cells slots Q (wX Z X k kp dr td) (pc + 3) L (v :: rest)) : gg p l e R s m args below meth c Z.1 A n cells slots Q (wX Z X k kp dr td) pc L st :=
  gg_callW K ok hM 0 (ci := 0) (N := 4) (T := TX0) rfl rfl hd hst hAs hr hw (fun v' u h => by obtain ⟨rfl, rfl⟩ := h; rw [hz.1, hz.2]; exact kk)
/-- .. that writes and makes nothing -/
theorem gg_callUX {X : XT} {k kp dr : Nat → Int32} {td : Int32} {post : Option Value → va_W → Prop} (K : kx p s m args meth c Z.1 A (ty3 Z) cc own n) (ok : okV own idx RX0 y (.code y cd maxL ret) k9) (hM : mA l Z.1 (ty3 Z) y cd maxL ret rm (wX Z X k kp dr td) (.ref X.1 :: As) post) (hd : decode cc pc = .ok (.invokevirtual idx, 3)) (hst : st = As.reverse ++ .ref X.1 :: rest) (hAs : As.length = k9) (hr : rOk rm R maxL cells slots = true) (hw : c8 rest = true) (hz : rm.cells = 0 ∧ rm.slots = 0)
    (kk : ∀ (v : Option Value) (u : va_W), post v u → gg p l e R s m args below meth c Z.1 A n cells slots Q u (pc + 3) L (v.toList ++ rest)) : gg p l e R s m args below meth c Z.1 A n cells slots Q (wX Z X k kp dr td) pc L st :=
  gg_callW K ok hM 0 (ci := 0) (N := 4) (T := TX0) rfl rfl hd hst hAs hr hw (fun v' u h => by rw [hz.1, hz.2]; exact kk v' u h)
theorem gg_callSR {D : va_G} {tys : List (ClassId × FieldType)} {v : Value} (K : kx p s m args meth c D A tys cc own n) (ok : okS own idx y (.code y cd maxL ret) k9) (hM : mS l y cd maxL ret rm As v) (hd : decode cc pc = .ok (.invokestatic idx, 3)) (hst : st = As.reverse ++ rest) (hAs : As.length = k9) (hr : rOk rm R maxL cells slots = true) (hw : c8 rest = true) (hz : rm.cells = 0 ∧ rm.slots = 0)
    (kk : gg p l e R s m args below meth c D A n cells slots Q ws (pc + 3) L (v :: rest)) : gg p l e R s m args below meth c D A n cells slots Q ws pc L st :=
  gg_callS K ok (hM D tys) hd hst hAs hr hw (fun v' u h => by subst h; rw [hz.1, hz.2]; exact kk)
/-- throwing calls, the room that they may take named -/
theorem gg_callTX {X : XT} {k kp dr : Nat → Int32} {td : Int32} {post : Option Value → va_W → Prop} {pe : String → va_W → Prop} (c1 s1 : Nat) (K : kx p s m args meth c Z.1 A (ty3 Z) cc own n) (T9 : te A s s.heap) (ok : okV own idx RX0 y (.code y cd maxL ret) k9) (hM : mX l Z.1 (ty3 Z) y (.code y cd maxL ret) rm (wX Z X k kp dr td) (.ref X.1 :: As) post pe) (hd : decode cc pc = .ok (.invokevirtual idx, 3)) (hst : st = As.reverse ++ .ref X.1 :: rest) (hAs : As.length = k9) (hr : rOk rm R maxL cells slots = true) (hw : c8 rest = true) (hz : cells + rm.cells = c1 ∧ slots + rm.slots = s1)
    (kt : ∀ (E : String) (u : va_W), pe E u → gx p l e R s m args below meth c Z.1 A n c1 s1 Q u pc L rest E)
    (kk : ∀ (v : Option Value) (u : va_W), post v u → gg p l e R s m args below meth c Z.1 A n c1 s1 Q u (pc + 3) L (v.toList ++ rest)) : gg p l e R s m args below meth c Z.1 A n cells slots Q (wX Z X k kp dr td) pc L st := by
  obtain ⟨rfl, rfl⟩ := hz
  exact gg_callWX K T9 ok hM 0 (ci := 0) (N := 4) (T := TX0) rfl rfl hd hst hAs hr hw kt kk
theorem gg_callTS {D : va_G} {tys : List (ClassId × FieldType)} {post : Option Value → va_W → Prop} {pe : String → va_W → Prop} (c1 s1 : Nat) (K : kx p s m args meth c D A tys cc own n) (T9 : te A s s.heap) (ok : okS own idx y (.code y cd maxL ret) k9) (hM : mX l D tys y (.code y cd maxL ret) rm [] As post pe) (hd : decode cc pc = .ok (.invokestatic idx, 3)) (hst : st = As.reverse ++ rest) (hAs : As.length = k9) (hr : rOk rm R maxL cells slots = true) (hw : c8 rest = true) (hz : cells + rm.cells = c1 ∧ slots + rm.slots = s1)
    (kt : ∀ (E : String) (u : va_W), pe E u → gx p l e R s m args below meth c D A n c1 s1 Q ws pc L rest E)
    (kk : ∀ (v : Option Value) (u : va_W), post v u → gg p l e R s m args below meth c D A n c1 s1 Q ws (pc + 3) L (v.toList ++ rest)) : gg p l e R s m args below meth c D A n cells slots Q ws pc L st := by
  obtain ⟨rfl, rfl⟩ := hz
  exact gg_callSX K T9 ok hM hd hst hAs hr hw kt kk
theorem gX_known {X : XT} {k kp dr : Nat → Int32} {td : Int32} (K : kx p s m args meth c Z.1 A (ty3 Z) cc RX0 n) (hd : decode cc pc = .ok (.getfield 10, 3)) (kk : gg p l e R s m args below meth c Z.1 A n cells slots Q (wX Z X k kp dr td) (pc + 3) L (.ref X.2.1 :: st)) : gg p l e R s m args below meth c Z.1 A n cells slots Q (wX Z X k kp dr td) pc L (.ref X.1 :: st) :=
  fun H locs ls hP hD hS hl => va_get (D := Z.1) (ci := 0) (v := .ref X.2.1) (C := RX0) (T := TX0) (N := 4) K.1.1 K.1.2.1 K.1.2.2.2.2 inX0 K.1.2.2.2.1 K.2.1 hP 0 rfl rfl 0 (by decide) (K.1.2.2.2.2 _ wd_12) (fun _ h9 => h9) rfl hd (kk H locs ls hP hD hS hl)
theorem gX_keptOn {X : XT} {k kp dr : Nat → Int32} {td : Int32} (K : kx p s m args meth c Z.1 A (ty3 Z) cc RX0 n) (hd : decode cc pc = .ok (.getfield 14, 3)) (kk : gg p l e R s m args below meth c Z.1 A n cells slots Q (wX Z X k kp dr td) (pc + 3) L (.ref X.2.2.1 :: st)) : gg p l e R s m args below meth c Z.1 A n cells slots Q (wX Z X k kp dr td) pc L (.ref X.1 :: st) :=
  fun H locs ls hP hD hS hl => va_get (D := Z.1) (ci := 0) (v := .ref X.2.2.1) (C := RX0) (T := TX0) (N := 4) K.1.1 K.1.2.1 K.1.2.2.2.2 inX0 K.1.2.2.2.1 K.2.1 hP 0 rfl rfl 1 (by decide) (K.1.2.2.2.2 _ wd_13) (fun _ h9 => h9) rfl hd (kk H locs ls hP hD hS hl)
theorem gX_draft {X : XT} {k kp dr : Nat → Int32} {td : Int32} (K : kx p s m args meth c Z.1 A (ty3 Z) cc RX0 n) (hd : decode cc pc = .ok (.getfield 17, 3)) (kk : gg p l e R s m args below meth c Z.1 A n cells slots Q (wX Z X k kp dr td) (pc + 3) L (.ref X.2.2.2 :: st)) : gg p l e R s m args below meth c Z.1 A n cells slots Q (wX Z X k kp dr td) pc L (.ref X.1 :: st) :=
  fun H locs ls hP hD hS hl => va_get (D := Z.1) (ci := 0) (v := .ref X.2.2.2) (C := RX0) (T := TX0) (N := 4) K.1.1 K.1.2.1 K.1.2.2.2.2 inX0 K.1.2.2.2.1 K.2.1 hP 0 rfl rfl 2 (by decide) (K.1.2.2.2.2 _ wd_14) (fun _ h9 => h9) rfl hd (kk H locs ls hP hD hS hl)
theorem gX_today {X : XT} {k kp dr : Nat → Int32} {td : Int32} (K : kx p s m args meth c Z.1 A (ty3 Z) cc RX0 n) (hd : decode cc pc = .ok (.getfield 62, 3)) (kk : gg p l e R s m args below meth c Z.1 A n cells slots Q (wX Z X k kp dr td) (pc + 3) L (.int td :: st)) : gg p l e R s m args below meth c Z.1 A n cells slots Q (wX Z X k kp dr td) pc L (.ref X.1 :: st) :=
  fun H locs ls hP hD hS hl => va_get (D := Z.1) (ci := 0) (v := .int td) (C := RX0) (T := TX0) (N := 4) K.1.1 K.1.2.1 K.1.2.2.2.2 inX0 K.1.2.2.2.1 K.2.1 hP 0 rfl rfl 3 (by decide) (K.1.2.2.2.2 _ wd_57) (fun _ h9 => h9) rfl hd (kk H locs ls hP hD hS hl)
theorem gX_ptoday {X : XT} {k kp dr : Nat → Int32} {td x : Int32} (K : kx p s m args meth c Z.1 A (ty3 Z) cc RX0 n) (hd : decode cc pc = .ok (.putfield 62, 3)) (kk : gg p l e R s m args below meth c Z.1 A n cells slots Q (wX Z X k kp dr x) (pc + 3) L st) : gg p l e R s m args below meth c Z.1 A n cells slots Q (wX Z X k kp dr td) pc L (.int x :: .ref X.1 :: st) :=
  fun H locs ls hP hD hS hl => va_put (D := Z.1) (ci := 0) (v := .int x) (ty := .int) (C := RX0) (T := TX0) (N := 4) K.1.1 K.1.2.1 K.1.2.2.2.2 inX0 tyX0 tyX0_ok nmX0 K.1.2.2.2.1 K.2.1 hP hD hS 0 rfl rfl 3 (by decide) (K.1.2.2.2.2 _ wd_57) (fun _ h9 => h9) rfl (by decide +kernel) rfl rfl (Nat.le_of_ble_eq_true rfl) hd (fun H1 locs1 hP hD hS => kk H1 locs1 ls hP hD hS hl)
theorem gX_ld_known {X : XT} {k kp dr : Nat → Int32} {td : Int32} (j : Nat) {i : Int32} (K : kx p s m args meth c Z.1 A (ty3 Z) cc own n) (hi : i = nI j) (hj : j < 57600) (hd : decode cc pc = .ok (.iaload, 1)) (kk : gg p l e R s m args below meth c Z.1 A n cells slots Q (wX Z X k kp dr td) (pc + 1) L (.int (k j) :: st)) : gg p l e R s m args below meth c Z.1 A n cells slots Q (wX Z X k kp dr td) pc L (.int i :: .ref X.2.1 :: st) := by
  subst hi
  intro H locs ls hP hD hS hl
  have e : (nI j).toNatClampNeg = j := nI_clamp (by omega)
  refine va_iald K.1.1 K.1.2.1 K.2.1 hP 1 0 (cA := Z.2.1) (n := 57600) (f := k) rfl rfl (vp_in_nI hj (Nat.le_of_ble_eq_true rfl)) hd ?_
  rw [e]
  exact kk H locs ls hP hD hS hl
theorem gX_st_known {X : XT} {k kp dr : Nat → Int32} {td : Int32} (j : Nat) {i x : Int32} (K : kx p s m args meth c Z.1 A (ty3 Z) cc own n) (hi : i = nI j) (hj : j < 57600) (hd : decode cc pc = .ok (.iastore, 1)) (kk : gg p l e R s m args below meth c Z.1 A n cells slots Q (wX Z X (upd k j x) kp dr td) (pc + 1) L st) : gg p l e R s m args below meth c Z.1 A n cells slots Q (wX Z X k kp dr td) pc L (.int x :: .int i :: .ref X.2.1 :: st) := by
  subst hi
  intro H locs ls hP hD hS hl
  have e : (nI j).toNatClampNeg = j := nI_clamp (by omega)
  refine va_iast K.1.1 K.1.2.1 K.2.1 hP hD hS 1 0 (cA := Z.2.1) (n := 57600) (f := k) rfl rfl (vp_in_nI hj (Nat.le_of_ble_eq_true rfl)) hd (fun H1 locs1 hP hD hS => ?_)
  rw [e] at hP hD
  exact kk H1 locs1 ls hP hD hS hl
theorem gX_len_known {X : XT} {k kp dr : Nat → Int32} {td : Int32} (K : kx p s m args meth c Z.1 A (ty3 Z) cc own n) (hd : decode cc pc = .ok (.arraylength, 1)) (kk : gg p l e R s m args below meth c Z.1 A n cells slots Q (wX Z X k kp dr td) (pc + 1) L (.int (nI 57600) :: st)) : gg p l e R s m args below meth c Z.1 A n cells slots Q (wX Z X k kp dr td) pc L (.ref X.2.1 :: st) :=
  fun H locs ls hP hD hS hl => va_alen K.1.1 K.1.2.1 K.2.1 hP 1 0 (cA := Z.2.1) (x := (57600, .inl k)) rfl (ty := .int) rfl (v := nI 57600) rfl hd (kk H locs ls hP hD hS hl)
theorem gX_ld_kept {X : XT} {k kp dr : Nat → Int32} {td : Int32} (j : Nat) {i : Int32} (K : kx p s m args meth c Z.1 A (ty3 Z) cc own n) (hi : i = nI j) (hj : j < 60) (hd : decode cc pc = .ok (.iaload, 1)) (kk : gg p l e R s m args below meth c Z.1 A n cells slots Q (wX Z X k kp dr td) (pc + 1) L (.int (kp j) :: st)) : gg p l e R s m args below meth c Z.1 A n cells slots Q (wX Z X k kp dr td) pc L (.int i :: .ref X.2.2.1 :: st) := by
  subst hi
  intro H locs ls hP hD hS hl
  have e : (nI j).toNatClampNeg = j := nI_clamp (by omega)
  refine va_iald K.1.1 K.1.2.1 K.2.1 hP 2 0 (cA := Z.2.1) (n := 60) (f := kp) rfl rfl (vp_in_nI hj (Nat.le_of_ble_eq_true rfl)) hd ?_
  rw [e]
  exact kk H locs ls hP hD hS hl
theorem gX_st_kept {X : XT} {k kp dr : Nat → Int32} {td : Int32} (j : Nat) {i x : Int32} (K : kx p s m args meth c Z.1 A (ty3 Z) cc own n) (hi : i = nI j) (hj : j < 60) (hd : decode cc pc = .ok (.iastore, 1)) (kk : gg p l e R s m args below meth c Z.1 A n cells slots Q (wX Z X k (upd kp j x) dr td) (pc + 1) L st) : gg p l e R s m args below meth c Z.1 A n cells slots Q (wX Z X k kp dr td) pc L (.int x :: .int i :: .ref X.2.2.1 :: st) := by
  subst hi
  intro H locs ls hP hD hS hl
  have e : (nI j).toNatClampNeg = j := nI_clamp (by omega)
  refine va_iast K.1.1 K.1.2.1 K.2.1 hP hD hS 2 0 (cA := Z.2.1) (n := 60) (f := kp) rfl rfl (vp_in_nI hj (Nat.le_of_ble_eq_true rfl)) hd (fun H1 locs1 hP hD hS => ?_)
  rw [e] at hP hD
  exact kk H1 locs1 ls hP hD hS hl
theorem gX_len_kept {X : XT} {k kp dr : Nat → Int32} {td : Int32} (K : kx p s m args meth c Z.1 A (ty3 Z) cc own n) (hd : decode cc pc = .ok (.arraylength, 1)) (kk : gg p l e R s m args below meth c Z.1 A n cells slots Q (wX Z X k kp dr td) (pc + 1) L (.int (nI 60) :: st)) : gg p l e R s m args below meth c Z.1 A n cells slots Q (wX Z X k kp dr td) pc L (.ref X.2.2.1 :: st) :=
  fun H locs ls hP hD hS hl => va_alen K.1.1 K.1.2.1 K.2.1 hP 2 0 (cA := Z.2.1) (x := (60, .inl kp)) rfl (ty := .int) rfl (v := nI 60) rfl hd (kk H locs ls hP hD hS hl)
theorem gX_ld_draft {X : XT} {k kp dr : Nat → Int32} {td : Int32} (j : Nat) {i : Int32} (K : kx p s m args meth c Z.1 A (ty3 Z) cc own n) (hi : i = nI j) (hj : j < 60) (hd : decode cc pc = .ok (.iaload, 1)) (kk : gg p l e R s m args below meth c Z.1 A n cells slots Q (wX Z X k kp dr td) (pc + 1) L (.int (dr j) :: st)) : gg p l e R s m args below meth c Z.1 A n cells slots Q (wX Z X k kp dr td) pc L (.int i :: .ref X.2.2.2 :: st) := by
  subst hi
  intro H locs ls hP hD hS hl
  have e : (nI j).toNatClampNeg = j := nI_clamp (by omega)
  refine va_iald K.1.1 K.1.2.1 K.2.1 hP 3 0 (cA := Z.2.1) (n := 60) (f := dr) rfl rfl (vp_in_nI hj (Nat.le_of_ble_eq_true rfl)) hd ?_
  rw [e]
  exact kk H locs ls hP hD hS hl
theorem gX_st_draft {X : XT} {k kp dr : Nat → Int32} {td : Int32} (j : Nat) {i x : Int32} (K : kx p s m args meth c Z.1 A (ty3 Z) cc own n) (hi : i = nI j) (hj : j < 60) (hd : decode cc pc = .ok (.iastore, 1)) (kk : gg p l e R s m args below meth c Z.1 A n cells slots Q (wX Z X k kp (upd dr j x) td) (pc + 1) L st) : gg p l e R s m args below meth c Z.1 A n cells slots Q (wX Z X k kp dr td) pc L (.int x :: .int i :: .ref X.2.2.2 :: st) := by
  subst hi
  intro H locs ls hP hD hS hl
  have e : (nI j).toNatClampNeg = j := nI_clamp (by omega)
  refine va_iast K.1.1 K.1.2.1 K.2.1 hP hD hS 3 0 (cA := Z.2.1) (n := 60) (f := dr) rfl rfl (vp_in_nI hj (Nat.le_of_ble_eq_true rfl)) hd (fun H1 locs1 hP hD hS => ?_)
  rw [e] at hP hD
  exact kk H1 locs1 ls hP hD hS hl
theorem gX_len_draft {X : XT} {k kp dr : Nat → Int32} {td : Int32} (K : kx p s m args meth c Z.1 A (ty3 Z) cc own n) (hd : decode cc pc = .ok (.arraylength, 1)) (kk : gg p l e R s m args below meth c Z.1 A n cells slots Q (wX Z X k kp dr td) (pc + 1) L (.int (nI 60) :: st)) : gg p l e R s m args below meth c Z.1 A n cells slots Q (wX Z X k kp dr td) pc L (.ref X.2.2.2 :: st) :=
  fun H locs ls hP hD hS hl => va_alen K.1.1 K.1.2.1 K.2.1 hP 3 0 (cA := Z.2.1) (x := (60, .inl dr)) rfl (ty := .int) rfl (v := nI 60) rfl hd (kk H locs ls hP hD hS hl)
end
theorem k_L_L_cell : okS RL 99 yL_cell (Cond.code yL_cell cL_cell 2 (some .int)) 2 := ⟨g_L_L_cell, by decide +kernel⟩
theorem k_L_L_act : okS RL 103 yL_act (Cond.code yL_act cL_act 8 (some .int)) 2 := ⟨g_L_L_act, by decide +kernel⟩
theorem k_L_L_low : okS RL 44 yL_low (Cond.code yL_low cL_low 2 (some .int)) 2 := ⟨g_L_L_low, by decide +kernel⟩
theorem k_L_L_does : okS RL 50 yL_does (Cond.codeWith yL_does cL_does 8 (some .int) [(0, 76, 77, 29), (0, 76, 82, 32), (0, 76, 87, 34)]) 7 := ⟨g_L_L_does, by decide +kernel⟩
theorem k_L_X0_put : okV RL 8 RX0 yX0_put (Cond.code yX0_put cX0_put 6 (some .int)) 5 := ⟨g_L_X0_put, by decide +kernel⟩
theorem k_X0_X0_needTableAndKey : okS RX0 20 yX0_needTableAndKey (Cond.code yX0_needTableAndKey cX0_needTableAndKey 2 none) 2 := ⟨g_X0_X0_needTableAndKey, by decide +kernel⟩
theorem k_X0_X0_needRange : okS RX0 28 yX0_needRange (Cond.code yX0_needRange cX0_needRange 2 none) 2 := ⟨g_X0_X0_needRange, by decide +kernel⟩
theorem k_X0_X0_valuesOf : okS RX0 24 yX0_valuesOf (Cond.code yX0_valuesOf cX0_valuesOf 1 (some .int)) 1 := ⟨g_X0_X0_valuesOf, by decide +kernel⟩
theorem k_X0_X0_needSpan : okS RX0 31 yX0_needSpan (Cond.code yX0_needSpan cX0_needSpan 2 none) 2 := ⟨g_X0_X0_needSpan, by decide +kernel⟩
theorem k_X0_X0_line : okS RX0 34 yX0_line (Cond.code yX0_line cX0_line 2 (some .int)) 2 := ⟨g_X0_X0_line, by decide +kernel⟩
theorem k_X0_X0_draftSpan : okV RX0 38 RX0 yX0_draftSpan (Cond.code yX0_draftSpan cX0_draftSpan 6 none) 4 := ⟨g_X0_X0_draftSpan, by decide +kernel⟩
theorem k_X0_X0_knownOn : okV RX0 77 RX0 yX0_knownOn (Cond.code yX0_knownOn cX0_knownOn 5 (some .int)) 3 := ⟨g_X0_X0_knownOn, by decide +kernel⟩
theorem k_X0_X0_index : okS RX0 140 yX0_index (Cond.code yX0_index cX0_index 3 (some .int)) 3 := ⟨g_X0_X0_index, by decide +kernel⟩
theorem k_X0_X0_recordDraft : okV RX0 42 RX0 yX0_recordDraft (Cond.code yX0_recordDraft cX0_recordDraft 6 (some .int)) 2 := ⟨g_X0_X0_recordDraft, by decide +kernel⟩
theorem k_X0_X0_draftKeepsReferences : okV RX0 149 RX0 yX0_draftKeepsReferences (Cond.code yX0_draftKeepsReferences cX0_draftKeepsReferences 5 (some .boolean)) 2 := ⟨g_X0_X0_draftKeepsReferences, by decide +kernel⟩
theorem k_X0_X0_isReferredTo : okV RX0 159 RX0 yX0_isReferredTo (Cond.code yX0_isReferredTo cX0_isReferredTo 4 (some .boolean)) 2 := ⟨g_X0_X0_isReferredTo, by decide +kernel⟩
theorem k_X0_X0_recordToday : okV RX0 155 RX0 yX0_recordToday (Cond.code yX0_recordToday cX0_recordToday 5 none) 3 := ⟨g_X0_X0_recordToday, by decide +kernel⟩
theorem k_L_X0_erase : okV RL 14 RX0 yX0_erase (Cond.code yX0_erase cX0_erase 5 (some .int)) 4 := ⟨g_L_X0_erase, by decide +kernel⟩
theorem k_L_X0_eraseAll : okV RL 18 RX0 yX0_eraseAll (Cond.code yX0_eraseAll cX0_eraseAll 6 (some .int)) 3 := ⟨g_L_X0_eraseAll, by decide +kernel⟩
theorem k_X0_X0_loseWithReferences : okV RX0 45 RX0 yX0_loseWithReferences (Cond.code yX0_loseWithReferences cX0_loseWithReferences 5 (some .int)) 2 := ⟨g_X0_X0_loseWithReferences, by decide +kernel⟩
theorem k_X0_X0_lose : okV RX0 162 RX0 yX0_lose (Cond.code yX0_lose cX0_lose 3 (some .int)) 2 := ⟨g_X0_X0_lose, by decide +kernel⟩
theorem k_L_X0_restore : okV RL 22 RX0 yX0_restore (Cond.code yX0_restore cX0_restore 4 (some .int)) 3 := ⟨g_L_X0_restore, by decide +kernel⟩
theorem k_X0_X0_needRecord : okV RX0 48 RX0 yX0_needRecord (Cond.code yX0_needRecord cX0_needRecord 2 none) 1 := ⟨g_X0_X0_needRecord, by decide +kernel⟩
theorem k_X0_X0_draftRecord : okV RX0 52 RX0 yX0_draftRecord (Cond.code yX0_draftRecord cX0_draftRecord 4 none) 2 := ⟨g_X0_X0_draftRecord, by decide +kernel⟩
theorem k_L_X0_pass : okV RL 25 RX0 yX0_pass (Cond.code yX0_pass cX0_pass 4 (some .int)) 1 := ⟨g_L_X0_pass, by decide +kernel⟩
theorem k_X0_X0_keepOn : okV RX0 71 RX0 yX0_keepOn (Cond.code yX0_keepOn cX0_keepOn 3 none) 2 := ⟨g_X0_X0_keepOn, by decide +kernel⟩
theorem k_X0_X0_copyDay : okV RX0 74 RX0 yX0_copyDay (Cond.code yX0_copyDay cX0_copyDay 3 none) 2 := ⟨g_X0_X0_copyDay, by decide +kernel⟩
theorem k_L_X0_today : okV RL 54 RX0 yX0_today (Cond.code yX0_today cX0_today 1 (some .int)) 0 := ⟨g_L_X0_today, by decide +kernel⟩
theorem k_L_L_areAlike : okS RL 107 yL_areAlike (Cond.code yL_areAlike cL_areAlike 5 (some .boolean)) 2 := ⟨g_L_L_areAlike, by decide +kernel⟩
theorem k_L_X0_rows : okV RL 58 RX0 yX0_rows (Cond.code yX0_rows cX0_rows 7 (some .int)) 2 := ⟨g_L_X0_rows, by decide +kernel⟩
theorem k_X0_X0_isKept : okV RX0 102 RX0 yX0_isKept (Cond.code yX0_isKept cX0_isKept 2 (some .boolean)) 1 := ⟨g_X0_X0_isKept, by decide +kernel⟩
theorem k_X0_X0_startsRow : okV RX0 106 RX0 yX0_startsRow (Cond.code yX0_startsRow cX0_startsRow 4 (some .boolean)) 3 := ⟨g_X0_X0_startsRow, by decide +kernel⟩
theorem k_X0_X0_startsRun : okV RX0 84 RX0 yX0_startsRun (Cond.code yX0_startsRun cX0_startsRun 5 (some .boolean)) 3 := ⟨g_X0_X0_startsRun, by decide +kernel⟩
theorem k_X0_X0_sameRun : okV RX0 118 RX0 yX0_sameRun (Cond.code yX0_sameRun cX0_sameRun 5 (some .boolean)) 4 := ⟨g_X0_X0_sameRun, by decide +kernel⟩
theorem k_X0_X0_endOfRun : okV RX0 124 RX0 yX0_endOfRun (Cond.code yX0_endOfRun cX0_endOfRun 6 (some .int)) 3 := ⟨g_X0_X0_endOfRun, by decide +kernel⟩
theorem k_L_X0_runs : okV RL 61 RX0 yX0_runs (Cond.code yX0_runs cX0_runs 7 (some .int)) 3 := ⟨g_L_X0_runs, by decide +kernel⟩
theorem k_L_X0_longest : okV RL 64 RX0 yX0_longest (Cond.code yX0_longest cX0_longest 7 (some .int)) 3 := ⟨g_L_X0_longest, by decide +kernel⟩
theorem k_L_X0_value : okV RL 67 RX0 yX0_value (Cond.code yX0_value cX0_value 5 (some .int)) 4 := ⟨g_L_X0_value, by decide +kernel⟩
theorem k_L_L_areValuesSo : okS RL 111 yL_areValuesSo (Cond.code yL_areValuesSo cL_areValuesSo 9 (some .boolean)) 2 := ⟨g_L_L_areValuesSo, by decide +kernel⟩
theorem k_L_X0_keys : okV RL 70 RX0 yX0_keys (Cond.code yX0_keys cX0_keys 6 (some .int)) 3 := ⟨g_L_X0_keys, by decide +kernel⟩
theorem k_L_X0_joined : okV RL 73 RX0 yX0_joined (Cond.code yX0_joined cX0_joined 4 (some .int)) 3 := ⟨g_L_X0_joined, by decide +kernel⟩
theorem k_X0_X0_joinedOn : okV RX0 81 RX0 yX0_joinedOn (Cond.code yX0_joinedOn cX0_joinedOn 5 (some .int)) 3 := ⟨g_X0_X0_joinedOn, by decide +kernel⟩
theorem k_L_L_areRunsSo : okS RL 115 yL_areRunsSo (Cond.code yL_areRunsSo cL_areRunsSo 14 (some .boolean)) 4 := ⟨g_L_L_areRunsSo, by decide +kernel⟩
theorem k_L_X0_run : okV RL 76 RX0 yX0_run (Cond.code yX0_run cX0_run 7 (some .int)) 4 := ⟨g_L_X0_run, by decide +kernel⟩
theorem k_X0_X0_firstDayOfRun : okV RX0 88 RX0 yX0_firstDayOfRun (Cond.code yX0_firstDayOfRun cX0_firstDayOfRun 6 (some .int)) 3 := ⟨g_X0_X0_firstDayOfRun, by decide +kernel⟩
theorem k_X0_X0_runNumber : okV RX0 96 RX0 yX0_runNumber (Cond.code yX0_runNumber cX0_runNumber 4 (some .int)) 3 := ⟨g_X0_X0_runNumber, by decide +kernel⟩
theorem k_L_X0_joinedRuns : okV RL 79 RX0 yX0_joinedRuns (Cond.code yX0_joinedRuns cX0_joinedRuns 5 (some .int)) 2 := ⟨g_L_X0_joinedRuns, by decide +kernel⟩
theorem k_X0_X0_startsJoinedRun : okV RX0 99 RX0 yX0_startsJoinedRun (Cond.code yX0_startsJoinedRun cX0_startsJoinedRun 4 (some .boolean)) 3 := ⟨g_X0_X0_startsJoinedRun, by decide +kernel⟩
theorem k_L_L_average : okS RL 82 yL_average (Cond.codeWith yL_average cL_average 4 (some .float) [(0, 6, 7, 34)]) 3 := ⟨g_L_L_average, by decide +kernel⟩
theorem k_L_X0_average : okV RL 39 RX0 yX0_average (Cond.code yX0_average cX0_average 7 (some .float)) 2 := ⟨g_L_X0_average, by decide +kernel⟩
theorem k_L_L_isRestoredSo : okS RL 119 yL_isRestoredSo (Cond.code yL_isRestoredSo cL_isRestoredSo 10 (some .boolean)) 5 := ⟨g_L_L_isRestoredSo, by decide +kernel⟩
theorem k_L_L_areRowsSo : okS RL 123 yL_areRowsSo (Cond.code yL_areRowsSo cL_areRowsSo 11 (some .boolean)) 3 := ⟨g_L_L_areRowsSo, by decide +kernel⟩
theorem k_L_L_rowRun : okS RL 85 yL_rowRun (Cond.codeWith yL_rowRun cL_rowRun 5 (some .int) [(0, 7, 8, 32)]) 4 := ⟨g_L_L_rowRun, by decide +kernel⟩
theorem k_L_X0_rowRun : okV RL 36 RX0 yX0_rowRun (Cond.code yX0_rowRun cX0_rowRun 6 (some .int)) 3 := ⟨g_L_X0_rowRun, by decide +kernel⟩
theorem k_X0_X0_startOfRow : okV RX0 109 RX0 yX0_startOfRow (Cond.code yX0_startOfRow cX0_startOfRow 6 (some .int)) 2 := ⟨g_X0_X0_startOfRow, by decide +kernel⟩
theorem k_X0_X0_recordOfStart : okS RX0 112 yX0_recordOfStart (Cond.code yX0_recordOfStart cX0_recordOfStart 1 (some .int)) 1 := ⟨g_X0_X0_recordOfStart, by decide +kernel⟩
theorem k_X0_X0_validOfStart : okS RX0 115 yX0_validOfStart (Cond.code yX0_validOfStart cX0_validOfStart 1 (some .int)) 1 := ⟨g_X0_X0_validOfStart, by decide +kernel⟩
theorem k_L_X0_rowFrom : okV RL 88 RX0 yX0_rowFrom (Cond.code yX0_rowFrom cX0_rowFrom 4 (some .int)) 3 := ⟨g_L_X0_rowFrom, by decide +kernel⟩
theorem k_L_X0_rowTo : okV RL 91 RX0 yX0_rowTo (Cond.code yX0_rowTo cX0_rowTo 9 (some .int)) 3 := ⟨g_L_X0_rowTo, by decide +kernel⟩
theorem k_L_L_hasRun : okS RL 94 yL_hasRun (Cond.code yL_hasRun cL_hasRun 9 (some .boolean)) 7 := ⟨g_L_L_hasRun, by decide +kernel⟩
end
section
/-! plain facts: numbers, the two stores seen as one table of values, what the questions ask of it -/
theorem nI_mul (a b : Nat) : nI a * nI b = nI (a * b) := (Int32.ofNat_mul a b).symm
theorem nI_lit (z : Nat) : (OfNat.ofNat z : Int32) = nI z := rfl
theorem nI_sub1 {a : Nat} (h : 0 < a) : nI a - 1 = nI (a - 1) := by
  obtain ⟨b, rfl⟩ : ∃ b, a = b + 1 := ⟨a - 1, by omega⟩
  exact nI_pred b
def bI (b : Bool) : Int32 := cond b 1 0
theorem bI_01 (b : Bool) : bI b = 0 ∨ bI b = 1 := by cases b; exact Or.inl rfl; exact Or.inr rfl
theorem bI_0 {b : Bool} : bI b = 0 ↔ b = false := by cases b <;> decide
theorem bI_t {b : Bool} (h : b = true) : bI b = 1 := by rw [h]; rfl
theorem bI_f {b : Bool} (h : b = false) : bI b = 0 := by rw [h]; rfl
theorem some_int {x y : Int32} (h : x = y) : (some (Value.int x)) = some (Value.int y) := by rw [h]
section
variable {p : Program} {l : Launch} {e : Env} {R : Room} {s : State} {m : MethodId} {args : Array Value} {below : List Frame} {meth : Method} {c : Code} {D : va_G} {A : Nat → Prop} {tys : List (ClassId × FieldType)} {cc : ByteArray} {own : String} {n cells slots pc : Nat} {Q : State → Prop} {ws : va_W} {L : List (Nat × Value)} {st : List Value}
theorem gg_b_eq {b : Bool} {off : Int} (K : kx p s m args meth c D A tys cc own n) {tgt : Nat} (hd : decode cc pc = .ok (.ifCond .eq off, 3)) (ht : (pc : Int) + off = (tgt : Int)) (kt : b = false → gg p l e R s m args below meth c D A n cells slots Q ws tgt L st) (kf : b = true → gg p l e R s m args below meth c D A n cells slots Q ws (pc + 3) L st) : gg p l e R s m args below meth c D A n cells slots Q ws pc L (.int (bI b) :: st) :=
  gg_if_eq K hd ht (fun h => kt (bI_0.mp h)) (fun h => kf (by cases b; exact absurd rfl h; rfl))
theorem gg_b_ne {b : Bool} {off : Int} (K : kx p s m args meth c D A tys cc own n) {tgt : Nat} (hd : decode cc pc = .ok (.ifCond .ne off, 3)) (ht : (pc : Int) + off = (tgt : Int)) (kt : b = true → gg p l e R s m args below meth c D A n cells slots Q ws tgt L st) (kf : b = false → gg p l e R s m args below meth c D A n cells slots Q ws (pc + 3) L st) : gg p l e R s m args below meth c D A n cells slots Q ws pc L (.int (bI b) :: st) :=
  gg_if_ne K hd ht (fun h => kt (by cases b; exact absurd rfl h; rfl)) (fun h => kf (bI_0.mp h))
end
abbrev VT : Type := Nat → Nat → Nat → Int32
def ix (r l d : Nat) : Nat := (r * 16 + l) * 60 + d
theorem ix_lt {r l d : Nat} (hr : r < 60) (hl : l < 16) (hd : d < 60) : ix r l d < 57600 := by unfold ix; omega
theorem ix_inj {r l d r' l' d' : Nat} (hl : l < 16) (hd : d < 60) (hl' : l' < 16) (hd' : d' < 60) (h : ix r l d = ix r' l' d') : r = r' ∧ l = l' ∧ d = d' := by
  unfold ix at h
  omega
/-- what keptOn says for a day -/
def kq (kp : Nat → Int32) (r : Nat) : Nat := (kp r).toNatClampNeg
def vX (k kp : Nat → Int32) (T : Nat) : VT := fun r l d => if r ≤ T ∧ l < 16 ∧ d < 60 then k (ix (kq kp r) l d) else -1
def vM (k : Nat → Int32) (T : Nat) : VT := fun r l d => if r ≤ T ∧ l < 16 ∧ d < 60 then k (ix r l d) - 1 else -1
/-- the days of record: which stand for themselves -/
def okX (kp : Nat → Int32) (T : Nat) : Prop := T < 60 ∧ kp T = nI T ∧ kp 0 = nI 0 ∧ ∀ r, r ≤ T → (kp r = nI (kq kp r) ∧ kq kp r ≤ r) ∧ (kp r = nI r ∨ (0 < r ∧ kp r = kp (r - 1)))
theorem kq_nI {kp : Nat → Int32} {r q : Nat} (h : kp r = nI q) (hq : q < 60) : kq kp r = q := by
  unfold kq
  rw [h]
  exact nI_clamp (by omega)
def stF (f : Nat → Int32) (d : Nat) : Bool := decide (¬ f d = -1 ∧ (d = 0 ∨ ¬ f (d - 1) = f d))
def enF (f : Nat → Int32) (v : Int32) : Nat → Nat → Nat
  | 0, d => d
  | n + 1, d => if f d = v then enF f v n (d + 1) else d
def endF (f : Nat → Int32) (d : Nat) : Nat := enF f (f d) (59 - d) (d + 1)
def runN (f : Nat → Int32) (d : Nat) : Int32 := nI 10000 * nI d + nI 100 * nI (endF f d) + f d
def toldF (f : Nat → Int32) (d : Nat) : Int32 := if stF f d = true then runN f d else -1
theorem enF_le (f : Nat → Int32) (v : Int32) : ∀ (n d : Nat), enF f v n d ≤ d + n
  | 0, d => Nat.le_refl _
  | n + 1, d => by
    unfold enF
    split
    · have := enF_le f v n (d + 1); omega
    · omega
theorem enF_ge (f : Nat → Int32) (v : Int32) : ∀ (n d : Nat), d ≤ enF f v n d
  | 0, d => Nat.le_refl _
  | n + 1, d => by
    unfold enF
    split
    · have := enF_ge f v n (d + 1); omega
    · omega
theorem endF_le {f : Nat → Int32} {d : Nat} (h : d < 60) : endF f d ≤ 60 := by
  have := enF_le f (f d) (59 - d) (d + 1)
  unfold endF
  omega
theorem endF_gt (f : Nat → Int32) (d : Nat) : d < endF f d := enF_ge f (f d) (59 - d) (d + 1)
end
section
/-! ===== how many places have a property ===== -/
def fb_ct (p : Nat → Bool) : Nat → Nat
  | 0 => 0
  | n + 1 => fb_ct p n + (if p n then 1 else 0)
theorem fb_ct_succ (p : Nat → Bool) (n : Nat) : fb_ct p (n + 1) = fb_ct p n + (if p n then 1 else 0) := rfl
theorem fb_ct_le (p : Nat → Bool) : ∀ n, fb_ct p n ≤ n
  | 0 => Nat.le_refl _
  | n + 1 => by
    have h := fb_ct_le p n
    rw [fb_ct_succ]
    split <;> omega
theorem fb_ct_step (p : Nat → Bool) (m : Nat) : ∀ n, fb_ct p m ≤ fb_ct p (m + n)
  | 0 => Nat.le_refl _
  | n + 1 => by
    have h := fb_ct_step p m n
    show fb_ct p m ≤ fb_ct p (m + n + 1)
    rw [fb_ct_succ]
    omega
theorem fb_ct_mono (p : Nat → Bool) {m n : Nat} (h : m ≤ n) : fb_ct p m ≤ fb_ct p n := by
  have := fb_ct_step p m (n - m)
  rwa [Nat.add_sub_cancel' h] at this
theorem fb_ct_cong {p q : Nat → Bool} : ∀ {n : Nat}, (∀ k, k < n → p k = q k) → fb_ct p n = fb_ct q n
  | 0, _ => rfl
  | n + 1, h => by
    rw [fb_ct_succ, fb_ct_succ, fb_ct_cong (fun k hk => h k (by omega)), h n (by omega)]
/-- one place changed -/
theorem fb_ct_out (p : Nat → Bool) (b : Bool) {i n : Nat} (h : n ≤ i) : fb_ct (fun k => if k = i then b else p k) n = fb_ct p n :=
  fb_ct_cong fun k hk => if_neg (by omega)
theorem fb_ct_upd (p : Nat → Bool) (b : Bool) {i : Nat} : ∀ {n : Nat}, i < n → fb_ct (fun k => if k = i then b else p k) n + (if p i then 1 else 0) = fb_ct p n + (if b then 1 else 0)
  | 0, h => absurd h (Nat.not_lt_zero i)
  | n + 1, h => by
    rw [fb_ct_succ, fb_ct_succ]
    rcases Nat.lt_or_ge i n with q | q
    · have := fb_ct_upd p b q
      have e : (if n = i then b else p n) = p n := if_neg (by omega)
      rw [e]
      omega
    · have e : i = n := by omega
      subst e
      rw [fb_ct_out p b (Nat.le_refl _)]
      simp only [if_true]
      omega
theorem fb_ct_sub {p q : Nat → Bool} : ∀ {n : Nat}, (∀ k, k < n → p k = true → q k = true) → fb_ct p n ≤ fb_ct q n
  | 0, _ => Nat.le_refl _
  | n + 1, h => by
    have h1 := fb_ct_sub (n := n) (p := p) (q := q) (fun k hk => h k (by omega))
    have h2 := h n (by omega)
    rw [fb_ct_succ, fb_ct_succ]
    cases hp : p n <;> cases hq : q n <;> simp_all <;> omega
theorem fb_ct_or {p q : Nat → Bool} : ∀ {n : Nat}, (∀ k, k < n → ¬ (p k = true ∧ q k = true)) → fb_ct (fun k => p k || q k) n = fb_ct p n + fb_ct q n
  | 0, _ => rfl
  | n + 1, h => by
    have h1 := fb_ct_or (n := n) (p := p) (q := q) (fun k hk => h k (by omega))
    have h2 := h n (by omega)
    rw [fb_ct_succ, fb_ct_succ, fb_ct_succ, h1]
    cases hp : p n <;> cases hq : q n <;> simp_all <;> omega
theorem fb_ct_not (p : Nat → Bool) : ∀ n, fb_ct p n + fb_ct (fun k => !p k) n = n
  | 0 => rfl
  | n + 1 => by
    have h := fb_ct_not p n
    rw [fb_ct_succ, fb_ct_succ]
    cases p n <;> simp <;> omega
theorem fb_ct_split (p : Nat → Bool) (m : Nat) : ∀ n, fb_ct p (m + n) = fb_ct p m + fb_ct (fun k => p (m + k)) n
  | 0 => rfl
  | n + 1 => by
    have h := fb_ct_split p m n
    show fb_ct p (m + n + 1) = _
    rw [fb_ct_succ, fb_ct_succ, h, Nat.add_assoc]
theorem fb_ct_zero {p : Nat → Bool} : ∀ {n : Nat}, fb_ct p n = 0 ↔ ∀ k, k < n → p k = false
  | 0 => ⟨fun _ k hk => absurd hk (Nat.not_lt_zero k), fun _ => rfl⟩
  | n + 1 => by
    have h := fb_ct_zero (p := p) (n := n)
    rw [fb_ct_succ]
    constructor
    · intro e k hk
      have e1 : fb_ct p n = 0 := by omega
      rcases Nat.lt_or_ge k n with q | q
      · exact h.mp e1 k q
      · have ek : k = n := by omega
        subst ek
        cases hp : p k
        · rfl
        · simp [hp] at e
    · intro a
      rw [h.mpr (fun k hk => a k (by omega)), a n (by omega)]
      rfl
theorem fb_ct_pos {p : Nat → Bool} {n : Nat} : 0 < fb_ct p n ↔ ∃ k, k < n ∧ p k = true := by
  constructor
  · intro h
    refine Classical.byContradiction fun hx => ?_
    have := fb_ct_zero.mpr (fun k hk => by
      cases hp : p k
      · rfl
      · exact absurd ⟨k, hk, hp⟩ hx : ∀ k, k < n → p k = false)
    omega
  · rintro ⟨k, hk, hp⟩
    rcases Nat.eq_zero_or_pos (fb_ct p n) with e | e
    · have := fb_ct_zero.mp e k hk
      rw [this] at hp
      cases hp
    · exact e
theorem fb_ct_all {p : Nat → Bool} {n : Nat} : fb_ct p n = n ↔ ∀ k, k < n → p k = true := by
  have h := fb_ct_not p n
  constructor
  · intro e k hk
    have z : fb_ct (fun k => !p k) n = 0 := by omega
    have := fb_ct_zero.mp z k hk
    cases hp : p k
    · simp [hp] at this
    · rfl
  · intro a
    have z : fb_ct (fun k => !p k) n = 0 := fb_ct_zero.mpr (fun k hk => by simp [a k hk])
    omega
/-- the k-th place with the property -/
theorem fb_ct_kth {p : Nat → Bool} {k : Nat} : ∀ {n : Nat}, k < fb_ct p n → ∃ i, i < n ∧ p i = true ∧ fb_ct p i = k
  | 0, h => absurd h (Nat.not_lt_zero k)
  | n + 1, h => by
    rcases Nat.lt_or_ge k (fb_ct p n) with q | q
    · obtain ⟨i, h1, h2⟩ := fb_ct_kth q
      exact ⟨i, by omega, h2⟩
    · rw [fb_ct_succ] at h
      cases hp : p n
      · simp [hp] at h; omega
      · simp [hp] at h
        exact ⟨n, by omega, hp, by omega⟩
theorem fb_ct_kth_one {p : Nat → Bool} {i j : Nat} (hi : p i = true) (hj : p j = true) (e : fb_ct p i = fb_ct p j) : i = j := by
  have key : ∀ a b : Nat, a < b → p a = true → fb_ct p a < fb_ct p b := by
    intro a b hab ha
    have h := fb_ct_mono p (show a + 1 ≤ b from hab)
    rw [fb_ct_succ, ha] at h
    simp at h
    omega
  rcases Nat.lt_trichotomy i j with q | q | q
  · have := key i j q hi; omega
  · exact q
  · have := key j i q hj; omega
/-! ===== sums over a range: one place changed, parts, bounds ===== -/
def fb_sm (f : Nat → Nat) : Nat → Nat
  | 0 => 0
  | n + 1 => fb_sm f n + f n
theorem fb_sm_succ (f : Nat → Nat) (n : Nat) : fb_sm f (n + 1) = fb_sm f n + f n := rfl
theorem fb_sm_cong {f g : Nat → Nat} : ∀ {n : Nat}, (∀ k, k < n → f k = g k) → fb_sm f n = fb_sm g n
  | 0, _ => rfl
  | n + 1, h => by rw [fb_sm_succ, fb_sm_succ, fb_sm_cong (fun k hk => h k (by omega)), h n (by omega)]
theorem fb_sm_out (f : Nat → Nat) (v : Nat) {i n : Nat} (h : n ≤ i) : fb_sm (fun k => if k = i then v else f k) n = fb_sm f n :=
  fb_sm_cong fun k hk => if_neg (by omega)
theorem fb_sm_upd (f : Nat → Nat) (v : Nat) {i : Nat} : ∀ {n : Nat}, i < n → fb_sm (fun k => if k = i then v else f k) n + f i = fb_sm f n + v
  | 0, h => absurd h (Nat.not_lt_zero i)
  | n + 1, h => by
    rw [fb_sm_succ, fb_sm_succ]
    rcases Nat.lt_or_ge i n with q | q
    · have := fb_sm_upd f v q
      have e : (if n = i then v else f n) = f n := if_neg (by omega)
      rw [e]
      omega
    · have e : i = n := by omega
      subst e
      rw [fb_sm_out f v (Nat.le_refl _)]
      simp only [if_true]
      omega
theorem fb_sm_add (f g : Nat → Nat) : ∀ n, fb_sm (fun k => f k + g k) n = fb_sm f n + fb_sm g n
  | 0 => rfl
  | n + 1 => by
    have h := fb_sm_add f g n
    rw [fb_sm_succ, fb_sm_succ, fb_sm_succ, h]
    omega
theorem fb_sm_le {f g : Nat → Nat} : ∀ {n : Nat}, (∀ k, k < n → f k ≤ g k) → fb_sm f n ≤ fb_sm g n
  | 0, _ => Nat.le_refl _
  | n + 1, h => by
    have h1 := fb_sm_le (n := n) (f := f) (g := g) (fun k hk => h k (by omega))
    have h2 := h n (by omega)
    rw [fb_sm_succ, fb_sm_succ]
    omega
theorem fb_sm_const (c : Nat) : ∀ n, fb_sm (fun _ => c) n = n * c
  | 0 => by rw [Nat.zero_mul]; rfl
  | n + 1 => by rw [fb_sm_succ, fb_sm_const c n, Nat.succ_mul]
theorem fb_sm_bound {f : Nat → Nat} {c n : Nat} (h : ∀ k, k < n → f k ≤ c) : fb_sm f n ≤ n * c := by
  rw [← fb_sm_const c n]
  exact fb_sm_le h
theorem fb_sm_mono (f : Nat → Nat) (m : Nat) : ∀ n, fb_sm f m ≤ fb_sm f (m + n)
  | 0 => Nat.le_refl _
  | n + 1 => by
    have h := fb_sm_mono f m n
    show fb_sm f m ≤ fb_sm f (m + n + 1)
    rw [fb_sm_succ]
    omega
theorem fb_sm_part (f : Nat → Nat) {i n : Nat} (h : i < n) : fb_sm f i + f i ≤ fb_sm f n := by
  have := fb_sm_mono f (i + 1) (n - (i + 1))
  rw [fb_sm_succ, show i + 1 + (n - (i + 1)) = n by omega] at this
  exact this
theorem fb_sm_split (f : Nat → Nat) (m : Nat) : ∀ n, fb_sm f (m + n) = fb_sm f m + fb_sm (fun k => f (m + k)) n
  | 0 => rfl
  | n + 1 => by
    have h := fb_sm_split f m n
    show fb_sm f (m + n + 1) = _
    rw [fb_sm_succ, fb_sm_succ, h, Nat.add_assoc]
theorem fb_sm_zero {f : Nat → Nat} {n : Nat} (h : fb_sm f n = 0) : ∀ k, k < n → f k = 0 := fun k hk => by
  have := fb_sm_part f hk
  omega
/-- the same over whole numbers -/
def fb_si (f : Nat → Int) : Nat → Int
  | 0 => 0
  | n + 1 => fb_si f n + f n
end
section
/-! Twotimes: what its calls need of their arguments; the store read -/
set_option maxRecDepth 100000 in
theorem x_index {l : Launch} (r li d : Nat) {x y z : Int32} (hx : x = nI r) (hy : y = nI li) (hz : z = nI d) : mS l yX0_index cX0_index 3 (some .int) (rmk 0 0 0 0) [.int x, .int y, .int z] (.int (nI (ix r li d))) := by
  intro D tys
  refine mA_intro (own := RX0) [(0, .int x), (1, .int y), (2, .int z)] (by decide +kernel) rfl rfl rfl rfl ?_
  intro p e s m args below meth c A K hr hin
  subst hx hy hz
  refine gg_iload_n K (i := 0) dX0_index_0 rfl rfl ?_
  refine gg_bipush K (v := 16) dX0_index_1 (by decide) ?_
  refine gg_imul K dX0_index_3 ?_
  refine gg_iload_n K (i := 1) dX0_index_4 rfl rfl ?_
  refine gg_iadd K dX0_index_5 ?_
  refine gg_bipush K (v := 60) dX0_index_6 (by decide) ?_
  refine gg_imul K dX0_index_8 ?_
  refine gg_iload_n K (i := 2) dX0_index_9 rfl rfl ?_
  refine gg_iadd K dX0_index_10 ?_
  exact gg_iret K hr dX0_index_11 (Nat.zero_le _) (Nat.zero_le _) (some_int (by simp only [nI_lit, nI_mul, nI_add]; rfl))
set_option maxRecDepth 100000 in
theorem x_line {l : Launch} (t k : Nat) {x y : Int32} (hx : x = nI t) (hy : y = nI k) : mS l yX0_line cX0_line 2 (some .int) (rmk 0 0 0 0) [.int x, .int y] (.int (nI (t * 8 + k))) := by
  intro D tys
  refine mA_intro (own := RX0) [(0, .int x), (1, .int y)] (by decide +kernel) rfl rfl rfl rfl ?_
  intro p e s m args below meth c A K hr hin
  subst hx hy
  refine gg_iload_n K (i := 0) dX0_line_0 rfl rfl ?_
  refine gg_bipush K (v := 8) dX0_line_1 (by decide) ?_
  refine gg_imul K dX0_line_3 ?_
  refine gg_iload_n K (i := 1) dX0_line_4 rfl rfl ?_
  refine gg_iadd K dX0_line_5 ?_
  exact gg_iret K hr dX0_line_6 (Nat.zero_le _) (Nat.zero_le _) (some_int (by simp only [nI_lit, nI_mul, nI_add]))
set_option maxRecDepth 100000 in
theorem x_valuesOf {l : Launch} {x : Int32} : mS l yX0_valuesOf cX0_valuesOf 1 (some .int) (rmk 0 0 0 0) [.int x] (.int (if x = 0 then 100 else 8)) := by
  intro D tys
  refine mA_intro (own := RX0) [(0, .int x)] (by decide +kernel) rfl rfl rfl rfl ?_
  intro p e s m args below meth c A K hr hin
  refine gg_iload_n K (i := 0) dX0_valuesOf_0 rfl rfl ?_
  refine gg_if_ne K (tgt := 9) dX0_valuesOf_1 (by decide) (fun h1 => ?_) (fun h1 => ?_)
  · refine gg_bipush K (v := 8) dX0_valuesOf_9 (by decide) ?_
    exact gg_iret K hr dX0_valuesOf_11 (Nat.zero_le _) (Nat.zero_le _) (some_int (by rw [if_neg h1]))
  · refine gg_bipush K (v := 100) dX0_valuesOf_4 (by decide) ?_
    refine gg_goto K (tgt := 11) dX0_valuesOf_6 (by decide) ?_
    exact gg_iret K hr dX0_valuesOf_11 (Nat.zero_le _) (Nat.zero_le _) (some_int (by rw [if_pos h1]))
set_option maxRecDepth 100000 in
theorem x_recordOfStart {l : Launch} {x : Int32} : mS l yX0_recordOfStart cX0_recordOfStart 1 (some .int) (rmk 0 0 0 0) [.int x] (.int (x / 60)) := by
  intro D tys
  refine mA_intro (own := RX0) [(0, .int x)] (by decide +kernel) rfl rfl rfl rfl ?_
  intro p e s m args below meth c A K hr hin
  refine gg_iload_n K (i := 0) dX0_recordOfStart_0 rfl rfl ?_
  refine gg_bipush K (v := 60) dX0_recordOfStart_1 (by decide) ?_
  refine gg_idiv K dX0_recordOfStart_3 (by decide) ?_
  exact gg_iret K hr dX0_recordOfStart_4 (Nat.zero_le _) (Nat.zero_le _) rfl
set_option maxRecDepth 100000 in
theorem x_validOfStart {l : Launch} {x : Int32} : mS l yX0_validOfStart cX0_validOfStart 1 (some .int) (rmk 0 0 0 0) [.int x] (.int (x - x / 60 * 60)) := by
  intro D tys
  refine mA_intro (own := RX0) [(0, .int x)] (by decide +kernel) rfl rfl rfl rfl ?_
  intro p e s m args below meth c A K hr hin
  refine gg_iload_n K (i := 0) dX0_validOfStart_0 rfl rfl ?_
  refine gg_bipush K (v := 60) dX0_validOfStart_1 (by decide) ?_
  refine gg_irem K dX0_validOfStart_3 (by decide) ?_
  exact gg_iret K hr dX0_validOfStart_4 (Nat.zero_le _) (Nat.zero_le _) rfl
set_option maxRecDepth 100000 in
theorem x_knownOn {l : Launch} {Z : ZT} {X : XT} {k kp dr : Nat → Int32} {td : Int32} {T : Nat} (r li d : Nat) {x y z : Int32} (ok : okX kp T) (hr0 : r ≤ T) (hl0 : li < 16) (hd0 : d < 60) (hx : x = nI r) (hy : y = nI li) (hz : z = nI d) : mR l Z yX0_knownOn cX0_knownOn 5 (some .int) (rmk 1 30 0 0) (wX Z X k kp dr td) [.ref X.1, .int x, .int y, .int z] (.int (vX k kp T r li d)) := by
  refine mA_intro (own := RX0) [(0, .ref X.1), (1, .int x), (2, .int y), (3, .int z)] (by decide +kernel) rfl rfl rfl rfl ?_
  intro p e s m args below meth c A K hr hin
  obtain ⟨o1, o2, o3, o4⟩ := ok
  obtain ⟨⟨q1, q2⟩, -⟩ := o4 r hr0
  have hv : vX k kp T r li d = k (ix (kq kp r) li d) := if_pos ⟨hr0, hl0, hd0⟩
  have hlt := ix_lt (r := kq kp r) (by omega) hl0 hd0
  subst hx hy hz
  refine gg_iload_n K (i := 1) dX0_knownOn_0 rfl rfl ?_
  refine gg_if_lt K (tgt := 10) dX0_knownOn_1 (by decide) (fun h1 => ?_) (fun h1 => ?_)
  · exact absurd h1 (nI_pos (by omega))
  refine gg_iload_n K (i := 1) dX0_knownOn_4 rfl rfl ?_
  refine gg_bipush K (v := 60) dX0_knownOn_5 (by decide) ?_
  refine gg_icmp_lt K (tgt := 12) dX0_knownOn_7 (by decide) (fun h7 => ?_) (fun h7 => ?_)
  rotate_left
  · exact absurd (nI_lt (b := 60) (by omega) (by omega)) h7
  refine gg_aload_n K (i := 0) dX0_knownOn_12 rfl rfl ?_
  refine gX_keptOn K dX0_knownOn_13 ?_
  refine gg_iload_n K (i := 1) dX0_knownOn_16 rfl rfl ?_
  refine gX_ld_kept r K rfl (by omega) dX0_knownOn_17 ?_
  refine gg_iload_n K (i := 2) dX0_knownOn_18 rfl rfl ?_
  refine gg_iload_n K (i := 3) dX0_knownOn_19 rfl rfl ?_
  refine gg_callSR K k_X0_X0_index (x_index (kq kp r) li d q1 rfl rfl) dX0_knownOn_20 rfl rfl rfl rfl ⟨rfl, rfl⟩ ?_
  refine gg_istore K dX0_knownOn_23 (by decide) ?_
  refine gg_iload K dX0_knownOn_25 rfl ?_
  refine gg_if_lt K (tgt := 40) dX0_knownOn_27 (by decide) (fun h27 => ?_) (fun h27 => ?_)
  · exact absurd h27 (nI_pos (by omega))
  refine gg_iload K dX0_knownOn_30 rfl ?_
  refine gg_aload_n K (i := 0) dX0_knownOn_32 rfl rfl ?_
  refine gX_known K dX0_knownOn_33 ?_
  refine gX_len_known K dX0_knownOn_36 ?_
  refine gg_icmp_lt K (tgt := 44) dX0_knownOn_37 (by decide) (fun h37 => ?_) (fun h37 => ?_)
  rotate_left
  · exact absurd (nI_lt (by omega) (by omega)) h37
  refine gg_aload_n K (i := 0) dX0_knownOn_44 rfl rfl ?_
  refine gX_known K dX0_knownOn_45 ?_
  refine gg_iload K dX0_knownOn_48 rfl ?_
  refine gX_ld_known (ix (kq kp r) li d) K rfl hlt dX0_knownOn_50 ?_
  exact gg_iret K hr dX0_knownOn_51 (Nat.zero_le _) (Nat.zero_le _) ⟨some_int hv.symm, rfl⟩
end
section
/-! Twotimes: runs, rows, joins of the store read -/
theorem nI_inc (j : Nat) : nI j + Int32.ofInt 1 = nI (j + 1) := nI_1 j
theorem i_le {a b : Nat} (h : nI a ≤ nI b) (ha : a < 2 ^ 31 := by omega) (hb : b < 2 ^ 31 := by omega) : a ≤ b := (nI_leI ha hb).mp h
theorem i_lt {a b : Nat} (h : nI a < nI b) (ha : a < 2 ^ 31 := by omega) (hb : b < 2 ^ 31 := by omega) : a < b := (nI_ltI ha hb).mp h
theorem i_nle {a b : Nat} (h : ¬ nI a ≤ nI b) (ha : a < 2 ^ 31 := by omega) (hb : b < 2 ^ 31 := by omega) : b < a := Nat.not_le.mp (fun q => h ((nI_leI ha hb).mpr q))
theorem i_nlt {a b : Nat} (h : ¬ nI a < nI b) (ha : a < 2 ^ 31 := by omega) (hb : b < 2 ^ 31 := by omega) : b ≤ a := Nat.not_lt.mp (fun q => h ((nI_ltI ha hb).mpr q))
theorem i_eq {a b : Nat} (h : nI a = nI b) (ha : a < 2 ^ 31 := by omega) (hb : b < 2 ^ 31 := by omega) : a = b := (nI_eq ha hb).mp h
theorem i_ne {a b : Nat} (h : ¬ nI a = nI b) : ¬ a = b := fun q => h (by rw [q])
theorem gg_loop {p : Program} {l : Launch} {e : Env} {R : Room} {s : State} {m : MethodId} {args : Array Value} {below : List Frame} {meth : Method} {c : Code} {D : va_G} {A : Nat → Prop} {n cells slots pc : Nat} {Q : State → Prop} (I : Nat → va_W → List (Nat × Value) → Prop) (h0 : ∀ (w : va_W) (L : List (Nat × Value)), ¬ I 0 w L)
    (step : ∀ (i : Nat) (w : va_W) (L : List (Nat × Value)), I (i + 1) w L → (∀ (w' : va_W) (L' : List (Nat × Value)), I i w' L' → gg p l e R s m args below meth c D A n cells slots Q w' pc L' []) → gg p l e R s m args below meth c D A n cells slots Q w pc L []) : ∀ (i : Nat) (w : va_W) (L : List (Nat × Value)), I i w L → gg p l e R s m args below meth c D A n cells slots Q w pc L []
  | 0, w, L, h => absurd h (h0 w L)
  | i + 1, w, L, h => step i w L h (fun w' L' h' => gg_loop I h0 step i w' L' h')
theorem stF_t {f : Nat → Int32} {d : Nat} (h1 : ¬ f d = -1) (h2 : d = 0 ∨ ¬ f (d - 1) = f d) : stF f d = true := decide_eq_true ⟨h1, h2⟩
theorem stF_f {f : Nat → Int32} {d : Nat} (h : ¬ (¬ f d = -1 ∧ (d = 0 ∨ ¬ f (d - 1) = f d))) : stF f d = false := decide_eq_false h
theorem bI_e {b : Bool} {x : Int32} (h : x = bI b) : x = 0 ∨ x = 1 := by rw [h]; exact bI_01 b
set_option maxRecDepth 100000 in
theorem x_startsRun {l : Launch} {Z : ZT} {X : XT} {k kp dr : Nat → Int32} {td : Int32} {T : Nat} (r li d : Nat) {x y z : Int32} (ok : okX kp T) (hr0 : r ≤ T) (hl0 : li < 16) (hd0 : d < 60) (hx : x = nI r) (hy : y = nI li) (hz : z = nI d) : mR l Z yX0_startsRun cX0_startsRun 5 (some .boolean) (rmk 2 60 0 0) (wX Z X k kp dr td) [.ref X.1, .int x, .int y, .int z] (.int (bI (stF (vX k kp T r li) d))) := by
  refine mA_intro (own := RX0) [(0, .ref X.1), (1, .int x), (2, .int y), (3, .int z)] (by decide +kernel) rfl rfl rfl rfl ?_
  intro p e s m args below meth c A K hr hin
  subst hx hy hz
  refine gg_aload_n K (i := 0) dX0_startsRun_0 rfl rfl ?_
  refine gg_iload_n K (i := 1) dX0_startsRun_1 rfl rfl ?_
  refine gg_iload_n K (i := 2) dX0_startsRun_2 rfl rfl ?_
  refine gg_iload_n K (i := 3) dX0_startsRun_3 rfl rfl ?_
  refine gg_callRX K k_X0_X0_knownOn (x_knownOn r li d ok hr0 hl0 hd0 rfl rfl rfl) dX0_startsRun_4 rfl rfl rfl rfl ⟨rfl, rfl⟩ ?_
  refine gg_istore K dX0_startsRun_7 (by decide) ?_
  refine gg_iload K dX0_startsRun_9 rfl ?_
  refine gg_iconst K (v := (-1)) dX0_startsRun_11 (by decide) ?_
  refine gg_icmp_eq K (tgt := 37) dX0_startsRun_12 (by decide) (fun h12 => ?_) (fun h12 => ?_)
  · refine gg_iconst K (v := 0) dX0_startsRun_37 (by decide) ?_
    exact gg_zret K hr dX0_startsRun_38 (Or.inl rfl) (Nat.zero_le _) (Nat.zero_le _) ⟨some_int (bI_f (stF_f (fun q => q.1 h12))).symm, rfl⟩
  refine gg_iload_n K (i := 3) dX0_startsRun_15 rfl rfl ?_
  refine gg_if_eq K (tgt := 33) dX0_startsRun_16 (by decide) (fun h16 => ?_) (fun h16 => ?_)
  · refine gg_iconst K (v := 1) dX0_startsRun_33 (by decide) ?_
    refine gg_goto K (tgt := 38) dX0_startsRun_34 (by decide) ?_
    exact gg_zret K hr dX0_startsRun_38 (Or.inr rfl) (Nat.zero_le _) (Nat.zero_le _) ⟨some_int (bI_t (stF_t h12 (Or.inl (i_eq (b := 0) h16)))).symm, rfl⟩
  have hd1 : ¬ d = 0 := fun q => h16 (by rw [q]; rfl)
  refine gg_aload_n K (i := 0) dX0_startsRun_19 rfl rfl ?_
  refine gg_iload_n K (i := 1) dX0_startsRun_20 rfl rfl ?_
  refine gg_iload_n K (i := 2) dX0_startsRun_21 rfl rfl ?_
  refine gg_iload_n K (i := 3) dX0_startsRun_22 rfl rfl ?_
  refine gg_iconst K (v := 1) dX0_startsRun_23 (by decide) ?_
  refine gg_isub K dX0_startsRun_24 ?_
  refine gg_callRX K k_X0_X0_knownOn (x_knownOn r li (d - 1) ok hr0 hl0 (by omega) rfl rfl (nI_sub1 (by omega))) dX0_startsRun_25 rfl rfl rfl rfl ⟨rfl, rfl⟩ ?_
  refine gg_iload K dX0_startsRun_28 rfl ?_
  refine gg_icmp_eq K (tgt := 37) dX0_startsRun_30 (by decide) (fun h30 => ?_) (fun h30 => ?_)
  · refine gg_iconst K (v := 0) dX0_startsRun_37 (by decide) ?_
    exact gg_zret K hr dX0_startsRun_38 (Or.inl rfl) (Nat.zero_le _) (Nat.zero_le _) ⟨some_int (bI_f (stF_f (fun q => q.2.elim hd1 (fun z => z h30)))).symm, rfl⟩
  · refine gg_iconst K (v := 1) dX0_startsRun_33 (by decide) ?_
    refine gg_goto K (tgt := 38) dX0_startsRun_34 (by decide) ?_
    exact gg_zret K hr dX0_startsRun_38 (Or.inr rfl) (Nat.zero_le _) (Nat.zero_le _) ⟨some_int (bI_t (stF_t h12 (Or.inr h30))).symm, rfl⟩
set_option maxRecDepth 100000 in
theorem x_endOfRun {l : Launch} {Z : ZT} {X : XT} {k kp dr : Nat → Int32} {td : Int32} {T : Nat} (r li d : Nat) {x y z : Int32} (ok : okX kp T) (hr0 : r ≤ T) (hl0 : li < 16) (hd0 : d < 60) (hx : x = nI r) (hy : y = nI li) (hz : z = nI d) : mR l Z yX0_endOfRun cX0_endOfRun 6 (some .int) (rmk 2 60 0 0) (wX Z X k kp dr td) [.ref X.1, .int x, .int y, .int z] (.int (nI (endF (vX k kp T r li) d))) := by
  refine mA_intro (own := RX0) [(0, .ref X.1), (1, .int x), (2, .int y), (3, .int z)] (by decide +kernel) rfl rfl rfl rfl ?_
  intro p e s m args below meth c A K hr hin
  subst hx hy hz
  refine gg_aload_n K (i := 0) dX0_endOfRun_0 rfl rfl ?_
  refine gg_iload_n K (i := 1) dX0_endOfRun_1 rfl rfl ?_
  refine gg_iload_n K (i := 2) dX0_endOfRun_2 rfl rfl ?_
  refine gg_iload_n K (i := 3) dX0_endOfRun_3 rfl rfl ?_
  refine gg_callRX K k_X0_X0_knownOn (x_knownOn r li d ok hr0 hl0 hd0 rfl rfl rfl) dX0_endOfRun_4 rfl rfl rfl rfl ⟨rfl, rfl⟩ ?_
  refine gg_istore K dX0_endOfRun_7 (by decide) ?_
  refine gg_iload_n K (i := 3) dX0_endOfRun_9 rfl rfl ?_
  refine gg_iconst K (v := 1) dX0_endOfRun_10 (by decide) ?_
  refine gg_iadd K dX0_endOfRun_11 ?_
  refine gg_top (nI_1 d) ?_
  refine gg_istore K dX0_endOfRun_12 (by decide) ?_
  refine gg_sub (L' := [(5, .int (nI (d + 1))), (4, .int ((vX k kp T r li d))), (0, .ref X.1), (1, .int (nI r)), (2, .int (nI li)), (3, .int (nI d))]) ⟨rfl, rfl, rfl, rfl, rfl, rfl, trivial⟩ ?_
  refine gg_loop (fun i w L => ∃ j : Nat, j + i = 61 ∧ w = wX Z X k kp dr td ∧ L = [(5, .int (nI j)), (4, .int ((vX k kp T r li d))), (0, .ref X.1), (1, .int (nI r)), (2, .int (nI li)), (3, .int (nI d))] ∧ endF (vX k kp T r li) d = enF (vX k kp T r li) (vX k kp T r li d) (60 - j) j) (fun w L h => ?_) (fun i w L h ih => ?_) (60 - d) _ _ ⟨d + 1, by omega, rfl, rfl, by unfold endF; rw [show 59 - d = 60 - (d + 1) by omega]⟩
  · obtain ⟨j, h1, rfl, rfl, h2⟩ := h
    have := endF_le (f := vX k kp T r li) hd0
    rw [h2, show 60 - j = 0 by omega] at this
    unfold enF at this
    omega
  · obtain ⟨j, hj, rfl, rfl, he⟩ := h
    refine gg_iload K dX0_endOfRun_14 rfl ?_
    refine gg_bipush K (v := 60) dX0_endOfRun_16 (by decide) ?_
    refine gg_icmp_ge K (tgt := 40) dX0_endOfRun_18 (by decide) (fun h18 => ?_) (fun h18 => ?_)
    · have hj2 := i_le (a := 60) h18
      refine gg_iload K dX0_endOfRun_40 rfl ?_
      exact gg_iret K hr dX0_endOfRun_42 (Nat.zero_le _) (Nat.zero_le _) ⟨some_int (by rw [he, show 60 - j = 0 by omega]; rfl), rfl⟩
    have hj2 := i_nle (a := 60) h18
    rw [show 60 - j = (59 - j) + 1 by omega] at he
    unfold enF at he
    refine gg_aload_n K (i := 0) dX0_endOfRun_21 rfl rfl ?_
    refine gg_iload_n K (i := 1) dX0_endOfRun_22 rfl rfl ?_
    refine gg_iload_n K (i := 2) dX0_endOfRun_23 rfl rfl ?_
    refine gg_iload K dX0_endOfRun_24 rfl ?_
    refine gg_callRX K k_X0_X0_knownOn (x_knownOn r li j ok hr0 hl0 hj2 rfl rfl rfl) dX0_endOfRun_26 rfl rfl rfl rfl ⟨rfl, rfl⟩ ?_
    refine gg_iload K dX0_endOfRun_29 rfl ?_
    refine gg_icmp_ne K (tgt := 40) dX0_endOfRun_31 (by decide) (fun h31 => ?_) (fun h31 => ?_)
    · refine gg_iload K dX0_endOfRun_40 rfl ?_
      exact gg_iret K hr dX0_endOfRun_42 (Nat.zero_le _) (Nat.zero_le _) ⟨some_int (by rw [he, if_neg h31]), rfl⟩
    refine gg_iinc K (v := nI (j + 1)) dX0_endOfRun_34 rfl (nI_inc (j)) (by decide) ?_
    refine gg_goto K (tgt := 14) dX0_endOfRun_37 (by decide) ?_
    refine gg_sub (L' := [(5, .int (nI (j + 1))), (4, .int ((vX k kp T r li d))), (0, .ref X.1), (1, .int (nI r)), (2, .int (nI li)), (3, .int (nI d))]) ⟨rfl, rfl, rfl, rfl, rfl, rfl, trivial⟩ ?_
    rw [if_pos h31] at he
    exact ih _ _ ⟨j + 1, by omega, rfl, rfl, by rw [he, show 59 - j = 60 - (j + 1) by omega]⟩
set_option maxRecDepth 100000 in
theorem x_runNumber {l : Launch} {Z : ZT} {X : XT} {k kp dr : Nat → Int32} {td : Int32} {T : Nat} (r li d : Nat) {x y z : Int32} (ok : okX kp T) (hr0 : r ≤ T) (hl0 : li < 16) (hd0 : d < 60) (hx : x = nI r) (hy : y = nI li) (hz : z = nI d) : mR l Z yX0_runNumber cX0_runNumber 4 (some .int) (rmk 3 90 0 0) (wX Z X k kp dr td) [.ref X.1, .int x, .int y, .int z] (.int (runN (vX k kp T r li) d)) := by
  refine mA_intro (own := RX0) [(0, .ref X.1), (1, .int x), (2, .int y), (3, .int z)] (by decide +kernel) rfl rfl rfl rfl ?_
  intro p e s m args below meth c A K hr hin
  subst hx hy hz
  refine gg_sipush K (v := 10000) dX0_runNumber_0 (by decide) ?_
  refine gg_iload_n K (i := 3) dX0_runNumber_3 rfl rfl ?_
  refine gg_imul K dX0_runNumber_4 ?_
  refine gg_bipush K (v := 100) dX0_runNumber_5 (by decide) ?_
  refine gg_aload_n K (i := 0) dX0_runNumber_7 rfl rfl ?_
  refine gg_iload_n K (i := 1) dX0_runNumber_8 rfl rfl ?_
  refine gg_iload_n K (i := 2) dX0_runNumber_9 rfl rfl ?_
  refine gg_iload_n K (i := 3) dX0_runNumber_10 rfl rfl ?_
  refine gg_callRX K k_X0_X0_endOfRun (x_endOfRun r li d ok hr0 hl0 hd0 rfl rfl rfl) dX0_runNumber_11 rfl rfl rfl rfl ⟨rfl, rfl⟩ ?_
  refine gg_imul K dX0_runNumber_14 ?_
  refine gg_iadd K dX0_runNumber_15 ?_
  refine gg_aload_n K (i := 0) dX0_runNumber_16 rfl rfl ?_
  refine gg_iload_n K (i := 1) dX0_runNumber_17 rfl rfl ?_
  refine gg_iload_n K (i := 2) dX0_runNumber_18 rfl rfl ?_
  refine gg_iload_n K (i := 3) dX0_runNumber_19 rfl rfl ?_
  refine gg_callRX K k_X0_X0_knownOn (x_knownOn r li d ok hr0 hl0 hd0 rfl rfl rfl) dX0_runNumber_20 rfl rfl rfl rfl ⟨rfl, rfl⟩ ?_
  refine gg_iadd K dX0_runNumber_23 ?_
  exact gg_iret K hr dX0_runNumber_24 (Nat.zero_le _) (Nat.zero_le _) ⟨rfl, rfl⟩
set_option maxRecDepth 100000 in
theorem x_isKept {l : Launch} {Z : ZT} {X : XT} {k kp dr : Nat → Int32} {td : Int32} {T : Nat} (r : Nat) {x : Int32} (ok : okX kp T) (hr0 : r ≤ T) (hx : x = nI r) : mR l Z yX0_isKept cX0_isKept 2 (some .boolean) (rmk 0 0 0 0) (wX Z X k kp dr td) [.ref X.1, .int x] (.int (bI (decide (kp r = nI r)))) := by
  refine mA_intro (own := RX0) [(0, .ref X.1), (1, .int x)] (by decide +kernel) rfl rfl rfl rfl ?_
  intro p e s m args below meth c A K hr hin
  obtain ⟨o1, o2, o3, o4⟩ := ok
  subst hx
  refine gg_iload_n K (i := 1) dX0_isKept_0 rfl rfl ?_
  refine gg_if_lt K (tgt := 24) dX0_isKept_1 (by decide) (fun h1 => ?_) (fun h1 => ?_)
  · exact absurd h1 (nI_pos (by omega))
  refine gg_iload_n K (i := 1) dX0_isKept_4 rfl rfl ?_
  refine gg_bipush K (v := 60) dX0_isKept_5 (by decide) ?_
  refine gg_icmp_ge K (tgt := 24) dX0_isKept_7 (by decide) (fun h7 => ?_) (fun h7 => ?_)
  · exact absurd (i_le (a := 60) h7) (by omega)
  refine gg_aload_n K (i := 0) dX0_isKept_10 rfl rfl ?_
  refine gX_keptOn K dX0_isKept_11 ?_
  refine gg_iload_n K (i := 1) dX0_isKept_14 rfl rfl ?_
  refine gX_ld_kept r K rfl (by omega) dX0_isKept_15 ?_
  refine gg_iload_n K (i := 1) dX0_isKept_16 rfl rfl ?_
  refine gg_icmp_ne K (tgt := 24) dX0_isKept_17 (by decide) (fun h17 => ?_) (fun h17 => ?_)
  · refine gg_iconst K (v := 0) dX0_isKept_24 (by decide) ?_
    exact gg_zret K hr dX0_isKept_25 (Or.inl rfl) (Nat.zero_le _) (Nat.zero_le _) ⟨some_int (bI_f (decide_eq_false h17)).symm, rfl⟩
  · refine gg_iconst K (v := 1) dX0_isKept_20 (by decide) ?_
    refine gg_goto K (tgt := 25) dX0_isKept_21 (by decide) ?_
    exact gg_zret K hr dX0_isKept_25 (Or.inr rfl) (Nat.zero_le _) (Nat.zero_le _) ⟨some_int (bI_t (decide_eq_true h17)).symm, rfl⟩
end
section
/-! Twotimes: rows, joins, references read -/
noncomputable def bP (P : Prop) : Bool := @decide P (Classical.propDecidable P)
theorem bP_t {P : Prop} (h : P) : bP P = true := @decide_eq_true P (Classical.propDecidable P) h
theorem bP_f {P : Prop} (h : ¬ P) : bP P = false := @decide_eq_false P (Classical.propDecidable P) h
theorem bP_iff {P : Prop} : bP P = true ↔ P := ⟨fun h => @of_decide_eq_true P (Classical.propDecidable P) h, bP_t⟩
theorem bP_nf {P : Prop} (h : bP P = false) : ¬ P := fun q => by rw [bP_t q] at h; cases h
def fstF (q : Nat → Bool) (run : Int32) : Nat → Nat → Nat → Int32
  | 0, _, _ => -1
  | n + 1, d, b => if q d = true then (if nI b = run then nI d else fstF q run n (d + 1) (b + 1)) else fstF q run n (d + 1) b
/-- all values are -1 or numbers below 100, in the second table below 8 -/
def valOk (V : VT) (T : Nat) : Prop := ∀ r l d, r ≤ T → l < 16 → d < 60 → V r l d = -1 ∨ ∃ j, V r l d = nI j ∧ j < 100 ∧ (8 ≤ l → j < 8)
def jnF (V : VT) (r key d : Nat) : Int32 := if V r (8 + key) d = -1 then -1 else V r (V r (8 + key) d).toNatClampNeg d
noncomputable def jsF (V : VT) (r key d : Nat) : Bool := bP (¬ V r (8 + key) d = -1 ∧ (stF (V r (8 + key)) d = true ∨ ¬ jnF V r key d = jnF V r key (d - 1)))
noncomputable def smF (f g : Nat → Int32) (d : Nat) : Bool := bP (stF g d = true ∧ g d = f d ∧ endF g d = endF f d)
noncomputable def rowF (V : VT) (l r d : Nat) : Bool := bP (stF (V r l) d = true ∧ (r = 0 ∨ smF (V r l) (V (r - 1) l) d = false))
def refd (V : VT) (T : Nat) (x : Int32) (d : Nat) : Prop := ∃ i, i < 8 ∧ V T (8 + i) d = x
set_option maxRecDepth 100000 in
theorem x_firstDayOfRun {l : Launch} {Z : ZT} {X : XT} {k kp dr : Nat → Int32} {td : Int32} {T : Nat} (r li : Nat) {x y z : Int32} (ok : okX kp T) (hr0 : r ≤ T) (hl0 : li < 16) (hx : x = nI r) (hy : y = nI li) : mR l Z yX0_firstDayOfRun cX0_firstDayOfRun 6 (some .int) (rmk 3 90 0 0) (wX Z X k kp dr td) [.ref X.1, .int x, .int y, .int z] (.int (fstF (stF (vX k kp T r li)) z 60 0 0)) := by
  refine mA_intro (own := RX0) [(0, .ref X.1), (1, .int x), (2, .int y), (3, .int z)] (by decide +kernel) rfl rfl rfl rfl ?_
  intro p e s m args below meth c A K hr hin
  subst hx hy
  obtain ⟨G, hG⟩ : ∃ G, G = fstF (stF (vX k kp T r li)) z 60 0 0 := ⟨_, rfl⟩
  rw [← hG]
  refine gg_iconst K (v := 0) dX0_firstDayOfRun_0 (by decide) ?_
  refine gg_istore K dX0_firstDayOfRun_1 (by decide) ?_
  refine gg_iconst K (v := 0) dX0_firstDayOfRun_3 (by decide) ?_
  refine gg_istore K dX0_firstDayOfRun_4 (by decide) ?_
  refine gg_sub (L' := [(5, .int (nI 0)), (4, .int (nI 0)), (0, .ref X.1), (1, .int (nI r)), (2, .int (nI li)), (3, .int z)]) ⟨rfl, rfl, rfl, rfl, rfl, rfl, trivial⟩ ?_
  refine gg_loop (fun i w L => ∃ d b : Nat, d + i = 61 ∧ w = wX Z X k kp dr td ∧ L = [(5, .int (nI d)), (4, .int (nI b)), (0, .ref X.1), (1, .int (nI r)), (2, .int (nI li)), (3, .int z)] ∧ d ≤ 60 ∧ G = fstF (stF (vX k kp T r li)) z (60 - d) d b) (fun w L h => ?_) (fun i w L h ih => ?_) 61 _ _ ⟨0, 0, rfl, rfl, rfl, by omega, hG⟩
  · obtain ⟨d, b, h1, -, -, h2, -⟩ := h
    omega
  · obtain ⟨d, b, hj, rfl, rfl, -, he⟩ := h
    refine gg_iload K dX0_firstDayOfRun_6 rfl ?_
    refine gg_bipush K (v := 60) dX0_firstDayOfRun_8 (by decide) ?_
    refine gg_icmp_ge K (tgt := 42) dX0_firstDayOfRun_10 (by decide) (fun h10 => ?_) (fun h10 => ?_)
    · have hj2 := i_le (a := 60) h10
      refine gg_iconst K (v := (-1)) dX0_firstDayOfRun_42 (by decide) ?_
      exact gg_iret K hr dX0_firstDayOfRun_43 (Nat.zero_le _) (Nat.zero_le _) ⟨some_int (by rw [he, show 60 - d = 0 by omega]; rfl), rfl⟩
    have hj2 := i_nle (a := 60) h10
    rw [show 60 - d = (59 - d) + 1 by omega] at he
    unfold fstF at he
    refine gg_aload_n K (i := 0) dX0_firstDayOfRun_13 rfl rfl ?_
    refine gg_iload_n K (i := 1) dX0_firstDayOfRun_14 rfl rfl ?_
    refine gg_iload_n K (i := 2) dX0_firstDayOfRun_15 rfl rfl ?_
    refine gg_iload K dX0_firstDayOfRun_16 rfl ?_
    refine gg_callRX K k_X0_X0_startsRun (x_startsRun r li d ok hr0 hl0 hj2 rfl rfl rfl) dX0_firstDayOfRun_18 rfl rfl rfl rfl ⟨rfl, rfl⟩ ?_
    refine gg_b_eq K (tgt := 36) dX0_firstDayOfRun_21 (by decide) (fun h21 => ?_) (fun h21 => ?_)
    · rw [if_neg (by rw [h21]; decide)] at he
      refine gg_iinc K (v := nI (d + 1)) dX0_firstDayOfRun_36 rfl (nI_inc (d)) (by decide) ?_
      refine gg_goto K (tgt := 6) dX0_firstDayOfRun_39 (by decide) ?_
      refine gg_sub (L' := [(5, .int (nI (d + 1))), (4, .int (nI b)), (0, .ref X.1), (1, .int (nI r)), (2, .int (nI li)), (3, .int z)]) ⟨rfl, rfl, rfl, rfl, rfl, rfl, trivial⟩ ?_
      exact ih _ _ ⟨d + 1, b, by omega, rfl, rfl, by omega, by rw [he, show 59 - d = 60 - (d + 1) by omega]⟩
    rw [if_pos h21] at he
    refine gg_iload K dX0_firstDayOfRun_24 rfl ?_
    refine gg_iload_n K (i := 3) dX0_firstDayOfRun_26 rfl rfl ?_
    refine gg_icmp_ne K (tgt := 33) dX0_firstDayOfRun_27 (by decide) (fun h27 => ?_) (fun h27 => ?_)
    · rw [if_neg h27] at he
      refine gg_iinc K (v := nI (b + 1)) dX0_firstDayOfRun_33 rfl (nI_inc (b)) (by decide) ?_
      refine gg_iinc K (v := nI (d + 1)) dX0_firstDayOfRun_36 rfl (nI_inc (d)) (by decide) ?_
      refine gg_goto K (tgt := 6) dX0_firstDayOfRun_39 (by decide) ?_
      refine gg_sub (L' := [(5, .int (nI (d + 1))), (4, .int (nI (b + 1))), (0, .ref X.1), (1, .int (nI r)), (2, .int (nI li)), (3, .int z)]) ⟨rfl, rfl, rfl, rfl, rfl, rfl, trivial⟩ ?_
      exact ih _ _ ⟨d + 1, b + 1, by omega, rfl, rfl, by omega, by rw [he, show 59 - d = 60 - (d + 1) by omega]⟩
    · rw [if_pos h27] at he
      refine gg_iload K dX0_firstDayOfRun_30 rfl ?_
      exact gg_iret K hr dX0_firstDayOfRun_32 (Nat.zero_le _) (Nat.zero_le _) ⟨some_int he.symm, rfl⟩
set_option maxRecDepth 100000 in
theorem x_joinedOn {l : Launch} {Z : ZT} {X : XT} {k kp dr : Nat → Int32} {td : Int32} {T : Nat} (r key d : Nat) {x y z : Int32} (ok : okX kp T) (hv : valOk (vX k kp T) T) (hr0 : r ≤ T) (hl0 : key < 8) (hd0 : d < 60) (hx : x = nI r) (hy : y = nI key) (hz : z = nI d) : mR l Z yX0_joinedOn cX0_joinedOn 5 (some .int) (rmk 2 60 0 0) (wX Z X k kp dr td) [.ref X.1, .int x, .int y, .int z] (.int (jnF (vX k kp T) r key d)) := by
  refine mA_intro (own := RX0) [(0, .ref X.1), (1, .int x), (2, .int y), (3, .int z)] (by decide +kernel) rfl rfl rfl rfl ?_
  intro p e s m args below meth c A K hr hin
  subst hx hy hz
  refine gg_aload_n K (i := 0) dX0_joinedOn_0 rfl rfl ?_
  refine gg_iload_n K (i := 1) dX0_joinedOn_1 rfl rfl ?_
  refine gg_iconst K (v := 1) dX0_joinedOn_2 (by decide) ?_
  refine gg_iload_n K (i := 2) dX0_joinedOn_3 rfl rfl ?_
  refine gg_callSR K k_X0_X0_line (x_line 1 key rfl rfl) dX0_joinedOn_4 rfl rfl rfl rfl ⟨rfl, rfl⟩ ?_
  refine gg_iload_n K (i := 3) dX0_joinedOn_7 rfl rfl ?_
  refine gg_callRX K k_X0_X0_knownOn (x_knownOn r (8 + key) d ok hr0 (by omega) hd0 rfl (congrArg nI (by omega)) rfl) dX0_joinedOn_8 rfl rfl rfl rfl ⟨rfl, rfl⟩ ?_
  refine gg_istore K dX0_joinedOn_11 (by decide) ?_
  refine gg_iload K dX0_joinedOn_13 rfl ?_
  refine gg_iconst K (v := (-1)) dX0_joinedOn_15 (by decide) ?_
  refine gg_icmp_ne K (tgt := 23) dX0_joinedOn_16 (by decide) (fun h16 => ?_) (fun h16 => ?_)
  rotate_left
  · refine gg_iconst K (v := (-1)) dX0_joinedOn_19 (by decide) ?_
    refine gg_goto K (tgt := 35) dX0_joinedOn_20 (by decide) ?_
    exact gg_iret K hr dX0_joinedOn_35 (Nat.zero_le _) (Nat.zero_le _) ⟨some_int (if_pos h16).symm, rfl⟩
  obtain ⟨j, hj1, -, hj2⟩ := (hv r (8 + key) d hr0 (by omega) hd0).resolve_left h16
  have hj2 := hj2 (by omega)
  refine gg_aload_n K (i := 0) dX0_joinedOn_23 rfl rfl ?_
  refine gg_iload_n K (i := 1) dX0_joinedOn_24 rfl rfl ?_
  refine gg_iconst K (v := 0) dX0_joinedOn_25 (by decide) ?_
  refine gg_iload K dX0_joinedOn_26 rfl ?_
  refine gg_callSR K k_X0_X0_line (x_line 0 j rfl hj1) dX0_joinedOn_28 rfl rfl rfl rfl ⟨rfl, rfl⟩ ?_
  refine gg_iload_n K (i := 3) dX0_joinedOn_31 rfl rfl ?_
  refine gg_callRX K k_X0_X0_knownOn (x_knownOn r j d ok hr0 (by omega) hd0 rfl (congrArg nI (by omega)) rfl) dX0_joinedOn_32 rfl rfl rfl rfl ⟨rfl, rfl⟩ ?_
  exact gg_iret K hr dX0_joinedOn_35 (Nat.zero_le _) (Nat.zero_le _) ⟨some_int (by unfold jnF; rw [if_neg h16, hj1, nI_clamp (by omega)]), rfl⟩
set_option maxRecDepth 100000 in
theorem x_startsJoinedRun {l : Launch} {Z : ZT} {X : XT} {k kp dr : Nat → Int32} {td : Int32} {T : Nat} (r key d : Nat) {x y z : Int32} (ok : okX kp T) (hv : valOk (vX k kp T) T) (hr0 : r ≤ T) (hl0 : key < 8) (hd0 : d < 60) (hx : x = nI r) (hy : y = nI key) (hz : z = nI d) : mR l Z yX0_startsJoinedRun cX0_startsJoinedRun 4 (some .boolean) (rmk 3 90 0 0) (wX Z X k kp dr td) [.ref X.1, .int x, .int y, .int z] (.int (bI (jsF (vX k kp T) r key d))) := by
  refine mA_intro (own := RX0) [(0, .ref X.1), (1, .int x), (2, .int y), (3, .int z)] (by decide +kernel) rfl rfl rfl rfl ?_
  intro p e s m args below meth c A K hr hin
  subst hx hy hz
  refine gg_aload_n K (i := 0) dX0_startsJoinedRun_0 rfl rfl ?_
  refine gg_iload_n K (i := 1) dX0_startsJoinedRun_1 rfl rfl ?_
  refine gg_iconst K (v := 1) dX0_startsJoinedRun_2 (by decide) ?_
  refine gg_iload_n K (i := 2) dX0_startsJoinedRun_3 rfl rfl ?_
  refine gg_callSR K k_X0_X0_line (x_line 1 key rfl rfl) dX0_startsJoinedRun_4 rfl rfl rfl rfl ⟨rfl, rfl⟩ ?_
  refine gg_iload_n K (i := 3) dX0_startsJoinedRun_7 rfl rfl ?_
  refine gg_callRX K k_X0_X0_knownOn (x_knownOn r (8 + key) d ok hr0 (by omega) hd0 rfl (congrArg nI (by omega)) rfl) dX0_startsJoinedRun_8 rfl rfl rfl rfl ⟨rfl, rfl⟩ ?_
  refine gg_iconst K (v := (-1)) dX0_startsJoinedRun_11 (by decide) ?_
  refine gg_icmp_ne K (tgt := 17) dX0_startsJoinedRun_12 (by decide) (fun h12 => ?_) (fun h12 => ?_)
  rotate_left
  · refine gg_iconst K (v := 0) dX0_startsJoinedRun_15 (by decide) ?_
    exact gg_zret K hr dX0_startsJoinedRun_16 (Or.inl rfl) (Nat.zero_le _) (Nat.zero_le _) ⟨some_int (bI_f (bP_f (fun q => q.1 h12))).symm, rfl⟩
  refine gg_aload_n K (i := 0) dX0_startsJoinedRun_17 rfl rfl ?_
  refine gg_iload_n K (i := 1) dX0_startsJoinedRun_18 rfl rfl ?_
  refine gg_iconst K (v := 1) dX0_startsJoinedRun_19 (by decide) ?_
  refine gg_iload_n K (i := 2) dX0_startsJoinedRun_20 rfl rfl ?_
  refine gg_callSR K k_X0_X0_line (x_line 1 key rfl rfl) dX0_startsJoinedRun_21 rfl rfl rfl rfl ⟨rfl, rfl⟩ ?_
  refine gg_iload_n K (i := 3) dX0_startsJoinedRun_24 rfl rfl ?_
  refine gg_callRX K k_X0_X0_startsRun (x_startsRun r (8 + key) d ok hr0 (by omega) hd0 rfl (congrArg nI (by omega)) rfl) dX0_startsJoinedRun_25 rfl rfl rfl rfl ⟨rfl, rfl⟩ ?_
  refine gg_b_ne K (tgt := 50) dX0_startsJoinedRun_28 (by decide) (fun h28 => ?_) (fun h28 => ?_)
  · refine gg_iconst K (v := 1) dX0_startsJoinedRun_50 (by decide) ?_
    refine gg_goto K (tgt := 55) dX0_startsJoinedRun_51 (by decide) ?_
    exact gg_zret K hr dX0_startsJoinedRun_55 (Or.inr rfl) (Nat.zero_le _) (Nat.zero_le _) ⟨some_int (bI_t (bP_t ⟨h12, Or.inl h28⟩)).symm, rfl⟩
  have hd1 : ¬ d = 0 := fun q => by rw [stF_t h12 (Or.inl q)] at h28; cases h28
  have hnt : ¬ stF (vX k kp T r (8 + key)) d = true := by rw [h28]; decide
  refine gg_aload_n K (i := 0) dX0_startsJoinedRun_31 rfl rfl ?_
  refine gg_iload_n K (i := 1) dX0_startsJoinedRun_32 rfl rfl ?_
  refine gg_iload_n K (i := 2) dX0_startsJoinedRun_33 rfl rfl ?_
  refine gg_iload_n K (i := 3) dX0_startsJoinedRun_34 rfl rfl ?_
  refine gg_callRX K k_X0_X0_joinedOn (x_joinedOn r key d ok hv hr0 hl0 hd0 rfl rfl rfl) dX0_startsJoinedRun_35 rfl rfl rfl rfl ⟨rfl, rfl⟩ ?_
  refine gg_aload_n K (i := 0) dX0_startsJoinedRun_38 rfl rfl ?_
  refine gg_iload_n K (i := 1) dX0_startsJoinedRun_39 rfl rfl ?_
  refine gg_iload_n K (i := 2) dX0_startsJoinedRun_40 rfl rfl ?_
  refine gg_iload_n K (i := 3) dX0_startsJoinedRun_41 rfl rfl ?_
  refine gg_iconst K (v := 1) dX0_startsJoinedRun_42 (by decide) ?_
  refine gg_isub K dX0_startsJoinedRun_43 ?_
  refine gg_callRX K k_X0_X0_joinedOn (x_joinedOn r key (d - 1) ok hv hr0 hl0 (by omega) rfl rfl (nI_sub1 (by omega))) dX0_startsJoinedRun_44 rfl rfl rfl rfl ⟨rfl, rfl⟩ ?_
  refine gg_icmp_eq K (tgt := 54) dX0_startsJoinedRun_47 (by decide) (fun h47 => ?_) (fun h47 => ?_)
  · refine gg_iconst K (v := 0) dX0_startsJoinedRun_54 (by decide) ?_
    exact gg_zret K hr dX0_startsJoinedRun_55 (Or.inl rfl) (Nat.zero_le _) (Nat.zero_le _) ⟨some_int (bI_f (bP_f (fun q => q.2.elim hnt (fun z => z h47)))).symm, rfl⟩
  · refine gg_iconst K (v := 1) dX0_startsJoinedRun_50 (by decide) ?_
    refine gg_goto K (tgt := 55) dX0_startsJoinedRun_51 (by decide) ?_
    exact gg_zret K hr dX0_startsJoinedRun_55 (Or.inr rfl) (Nat.zero_le _) (Nat.zero_le _) ⟨some_int (bI_t (bP_t ⟨h12, Or.inr h47⟩)).symm, rfl⟩
set_option maxRecDepth 100000 in
theorem x_sameRun {l : Launch} {Z : ZT} {X : XT} {k kp dr : Nat → Int32} {td : Int32} {T : Nat} (r o9 li d : Nat) {x y z v : Int32} (ok : okX kp T) (hr0 : r ≤ T) (ho0 : o9 ≤ T) (hl0 : li < 16) (hd0 : d < 60) (hx : x = nI r) (hy : y = nI o9) (hz : z = nI li) (hv : v = nI d) : mR l Z yX0_sameRun cX0_sameRun 5 (some .boolean) (rmk 3 90 0 0) (wX Z X k kp dr td) [.ref X.1, .int x, .int y, .int z, .int v] (.int (bI (smF (vX k kp T r li) (vX k kp T o9 li) d))) := by
  refine mA_intro (own := RX0) [(0, .ref X.1), (1, .int x), (2, .int y), (3, .int z), (4, .int v)] (by decide +kernel) rfl rfl rfl rfl ?_
  intro p e s m args below meth c A K hr hin
  subst hx hy hz hv
  refine gg_aload_n K (i := 0) dX0_sameRun_0 rfl rfl ?_
  refine gg_iload_n K (i := 2) dX0_sameRun_1 rfl rfl ?_
  refine gg_iload_n K (i := 3) dX0_sameRun_2 rfl rfl ?_
  refine gg_iload K dX0_sameRun_3 rfl ?_
  refine gg_callRX K k_X0_X0_startsRun (x_startsRun o9 li d ok ho0 hl0 hd0 rfl rfl rfl) dX0_sameRun_5 rfl rfl rfl rfl ⟨rfl, rfl⟩ ?_
  refine gg_b_eq K (tgt := 53) dX0_sameRun_8 (by decide) (fun h8 => ?_) (fun h8 => ?_)
  · refine gg_iconst K (v := 0) dX0_sameRun_53 (by decide) ?_
    exact gg_zret K hr dX0_sameRun_54 (Or.inl rfl) (Nat.zero_le _) (Nat.zero_le _) ⟨some_int (bI_f (bP_f (fun q => by rw [q.1] at h8; cases h8))).symm, rfl⟩
  refine gg_aload_n K (i := 0) dX0_sameRun_11 rfl rfl ?_
  refine gg_iload_n K (i := 2) dX0_sameRun_12 rfl rfl ?_
  refine gg_iload_n K (i := 3) dX0_sameRun_13 rfl rfl ?_
  refine gg_iload K dX0_sameRun_14 rfl ?_
  refine gg_callRX K k_X0_X0_knownOn (x_knownOn o9 li d ok ho0 hl0 hd0 rfl rfl rfl) dX0_sameRun_16 rfl rfl rfl rfl ⟨rfl, rfl⟩ ?_
  refine gg_aload_n K (i := 0) dX0_sameRun_19 rfl rfl ?_
  refine gg_iload_n K (i := 1) dX0_sameRun_20 rfl rfl ?_
  refine gg_iload_n K (i := 3) dX0_sameRun_21 rfl rfl ?_
  refine gg_iload K dX0_sameRun_22 rfl ?_
  refine gg_callRX K k_X0_X0_knownOn (x_knownOn r li d ok hr0 hl0 hd0 rfl rfl rfl) dX0_sameRun_24 rfl rfl rfl rfl ⟨rfl, rfl⟩ ?_
  refine gg_icmp_ne K (tgt := 53) dX0_sameRun_27 (by decide) (fun h27 => ?_) (fun h27 => ?_)
  · refine gg_iconst K (v := 0) dX0_sameRun_53 (by decide) ?_
    exact gg_zret K hr dX0_sameRun_54 (Or.inl rfl) (Nat.zero_le _) (Nat.zero_le _) ⟨some_int (bI_f (bP_f (fun q => h27 q.2.1))).symm, rfl⟩
  refine gg_aload_n K (i := 0) dX0_sameRun_30 rfl rfl ?_
  refine gg_iload_n K (i := 2) dX0_sameRun_31 rfl rfl ?_
  refine gg_iload_n K (i := 3) dX0_sameRun_32 rfl rfl ?_
  refine gg_iload K dX0_sameRun_33 rfl ?_
  refine gg_callRX K k_X0_X0_endOfRun (x_endOfRun o9 li d ok ho0 hl0 hd0 rfl rfl rfl) dX0_sameRun_35 rfl rfl rfl rfl ⟨rfl, rfl⟩ ?_
  refine gg_aload_n K (i := 0) dX0_sameRun_38 rfl rfl ?_
  refine gg_iload_n K (i := 1) dX0_sameRun_39 rfl rfl ?_
  refine gg_iload_n K (i := 3) dX0_sameRun_40 rfl rfl ?_
  refine gg_iload K dX0_sameRun_41 rfl ?_
  refine gg_callRX K k_X0_X0_endOfRun (x_endOfRun r li d ok hr0 hl0 hd0 rfl rfl rfl) dX0_sameRun_43 rfl rfl rfl rfl ⟨rfl, rfl⟩ ?_
  have e1 := endF_le (f := vX k kp T r li) hd0
  have e2 := endF_le (f := vX k kp T o9 li) hd0
  refine gg_icmp_ne K (tgt := 53) dX0_sameRun_46 (by decide) (fun h46 => ?_) (fun h46 => ?_)
  · refine gg_iconst K (v := 0) dX0_sameRun_53 (by decide) ?_
    exact gg_zret K hr dX0_sameRun_54 (Or.inl rfl) (Nat.zero_le _) (Nat.zero_le _) ⟨some_int (bI_f (bP_f (fun q => h46 (by rw [q.2.2])))).symm, rfl⟩
  · refine gg_iconst K (v := 1) dX0_sameRun_49 (by decide) ?_
    refine gg_goto K (tgt := 54) dX0_sameRun_50 (by decide) ?_
    exact gg_zret K hr dX0_sameRun_54 (Or.inr rfl) (Nat.zero_le _) (Nat.zero_le _) ⟨some_int (bI_t (bP_t ⟨h8, h27, i_eq h46⟩)).symm, rfl⟩
set_option maxRecDepth 100000 in
theorem x_startsRow {l : Launch} {Z : ZT} {X : XT} {k kp dr : Nat → Int32} {td : Int32} {T : Nat} (r li d : Nat) {x y z : Int32} (ok : okX kp T) (hr0 : r ≤ T) (hl0 : li < 16) (hd0 : d < 60) (hx : x = nI r) (hy : y = nI li) (hz : z = nI d) : mR l Z yX0_startsRow cX0_startsRow 4 (some .boolean) (rmk 4 120 0 0) (wX Z X k kp dr td) [.ref X.1, .int x, .int y, .int z] (.int (bI (rowF (vX k kp T) li r d))) := by
  refine mA_intro (own := RX0) [(0, .ref X.1), (1, .int x), (2, .int y), (3, .int z)] (by decide +kernel) rfl rfl rfl rfl ?_
  intro p e s m args below meth c A K hr hin
  have o1 := ok.1
  subst hx hy hz
  refine gg_aload_n K (i := 0) dX0_startsRow_0 rfl rfl ?_
  refine gg_iload_n K (i := 1) dX0_startsRow_1 rfl rfl ?_
  refine gg_iload_n K (i := 2) dX0_startsRow_2 rfl rfl ?_
  refine gg_iload_n K (i := 3) dX0_startsRow_3 rfl rfl ?_
  refine gg_callRX K k_X0_X0_startsRun (x_startsRun r li d ok hr0 hl0 hd0 rfl rfl rfl) dX0_startsRow_4 rfl rfl rfl rfl ⟨rfl, rfl⟩ ?_
  refine gg_b_eq K (tgt := 31) dX0_startsRow_7 (by decide) (fun h7 => ?_) (fun h7 => ?_)
  · refine gg_iconst K (v := 0) dX0_startsRow_31 (by decide) ?_
    exact gg_zret K hr dX0_startsRow_32 (Or.inl rfl) (Nat.zero_le _) (Nat.zero_le _) ⟨some_int (bI_f (bP_f (fun q => by rw [q.1] at h7; cases h7))).symm, rfl⟩
  refine gg_iload_n K (i := 1) dX0_startsRow_10 rfl rfl ?_
  refine gg_if_eq K (tgt := 27) dX0_startsRow_11 (by decide) (fun h11 => ?_) (fun h11 => ?_)
  · refine gg_iconst K (v := 1) dX0_startsRow_27 (by decide) ?_
    refine gg_goto K (tgt := 32) dX0_startsRow_28 (by decide) ?_
    exact gg_zret K hr dX0_startsRow_32 (Or.inr rfl) (Nat.zero_le _) (Nat.zero_le _) ⟨some_int (bI_t (bP_t ⟨h7, Or.inl (i_eq (b := 0) h11)⟩)).symm, rfl⟩
  have hr1 : ¬ r = 0 := fun q => h11 (by rw [q]; rfl)
  refine gg_aload_n K (i := 0) dX0_startsRow_14 rfl rfl ?_
  refine gg_iload_n K (i := 1) dX0_startsRow_15 rfl rfl ?_
  refine gg_iload_n K (i := 1) dX0_startsRow_16 rfl rfl ?_
  refine gg_iconst K (v := 1) dX0_startsRow_17 (by decide) ?_
  refine gg_isub K dX0_startsRow_18 ?_
  refine gg_iload_n K (i := 2) dX0_startsRow_19 rfl rfl ?_
  refine gg_iload_n K (i := 3) dX0_startsRow_20 rfl rfl ?_
  refine gg_callRX K k_X0_X0_sameRun (x_sameRun r (r - 1) li d ok hr0 (by omega) hl0 hd0 rfl (nI_sub1 (by omega)) rfl rfl) dX0_startsRow_21 rfl rfl rfl rfl ⟨rfl, rfl⟩ ?_
  refine gg_b_ne K (tgt := 31) dX0_startsRow_24 (by decide) (fun h24 => ?_) (fun h24 => ?_)
  · refine gg_iconst K (v := 0) dX0_startsRow_31 (by decide) ?_
    exact gg_zret K hr dX0_startsRow_32 (Or.inl rfl) (Nat.zero_le _) (Nat.zero_le _) ⟨some_int (bI_f (bP_f (fun q => q.2.elim hr1 (fun z => by rw [h24] at z; cases z)))).symm, rfl⟩
  · refine gg_iconst K (v := 1) dX0_startsRow_27 (by decide) ?_
    refine gg_goto K (tgt := 32) dX0_startsRow_28 (by decide) ?_
    exact gg_zret K hr dX0_startsRow_32 (Or.inr rfl) (Nat.zero_le _) (Nat.zero_le _) ⟨some_int (bI_t (bP_t ⟨h7, Or.inr h24⟩)).symm, rfl⟩
set_option maxRecDepth 100000 in
theorem x_isReferredTo {l : Launch} {Z : ZT} {X : XT} {k kp dr : Nat → Int32} {td : Int32} {T : Nat} (d : Nat) {x y : Int32} (ok : okX kp T) (ht : td = nI T) (hd0 : d < 60) (hy : y = nI d) : mR l Z yX0_isReferredTo cX0_isReferredTo 4 (some .boolean) (rmk 2 60 0 0) (wX Z X k kp dr td) [.ref X.1, .int x, .int y] (.int (bI (bP (refd (vX k kp T) T x d)))) := by
  refine mA_intro (own := RX0) [(0, .ref X.1), (1, .int x), (2, .int y)] (by decide +kernel) rfl rfl rfl rfl ?_
  intro p e s m args below meth c A K hr hin
  have o1 := ok.1
  subst hy
  refine gg_iconst K (v := 0) dX0_isReferredTo_0 (by decide) ?_
  refine gg_istore_n K (i := 3) dX0_isReferredTo_1 rfl (by decide) ?_
  refine gg_sub (L' := [(3, .int (nI 0)), (0, .ref X.1), (1, .int x), (2, .int (nI d))]) ⟨rfl, rfl, rfl, rfl, trivial⟩ ?_
  refine gg_loop (fun i w L => ∃ j : Nat, j + i = 9 ∧ w = wX Z X k kp dr td ∧ L = [(3, .int (nI j)), (0, .ref X.1), (1, .int x), (2, .int (nI d))] ∧ j ≤ 8 ∧ ∀ q, q < j → ¬ vX k kp T T (8 + q) d = x) (fun w L h => ?_) (fun i w L h ih => ?_) 9 _ _ ⟨0, rfl, rfl, rfl, by omega, fun q h => absurd h (by omega)⟩
  · obtain ⟨j, hj, -, -, h2, -⟩ := h
    omega
  · obtain ⟨j, hj, rfl, rfl, -, he⟩ := h
    refine gg_iload_n K (i := 3) dX0_isReferredTo_2 rfl rfl ?_
    refine gg_bipush K (v := 8) dX0_isReferredTo_3 (by decide) ?_
    refine gg_icmp_ge K (tgt := 34) dX0_isReferredTo_5 (by decide) (fun h5 => ?_) (fun h5 => ?_)
    · have hj2 := i_le (a := 8) h5
      refine gg_iconst K (v := 0) dX0_isReferredTo_34 (by decide) ?_
      exact gg_zret K hr dX0_isReferredTo_35 (Or.inl rfl) (Nat.zero_le _) (Nat.zero_le _) ⟨some_int (bI_f (bP_f (fun ⟨q, q1, q2⟩ => he q (by omega) q2))).symm, rfl⟩
    have hj2 := i_nle (a := 8) h5
    refine gg_aload_n K (i := 0) dX0_isReferredTo_8 rfl rfl ?_
    refine gg_aload_n K (i := 0) dX0_isReferredTo_9 rfl rfl ?_
    refine gX_today K dX0_isReferredTo_10 ?_
    refine gg_iconst K (v := 1) dX0_isReferredTo_13 (by decide) ?_
    refine gg_iload_n K (i := 3) dX0_isReferredTo_14 rfl rfl ?_
    refine gg_callSR K k_X0_X0_line (x_line 1 j rfl rfl) dX0_isReferredTo_15 rfl rfl rfl rfl ⟨rfl, rfl⟩ ?_
    refine gg_iload_n K (i := 2) dX0_isReferredTo_18 rfl rfl ?_
    refine gg_callRX K k_X0_X0_knownOn (x_knownOn T (8 + j) d ok (Nat.le_refl T) (by omega) hd0 ht (congrArg nI (by omega)) rfl) dX0_isReferredTo_19 rfl rfl rfl rfl ⟨rfl, rfl⟩ ?_
    refine gg_iload_n K (i := 1) dX0_isReferredTo_22 rfl rfl ?_
    refine gg_icmp_ne K (tgt := 28) dX0_isReferredTo_23 (by decide) (fun h23 => ?_) (fun h23 => ?_)
    · refine gg_iinc K (v := nI (j + 1)) dX0_isReferredTo_28 rfl (nI_inc (j)) (by decide) ?_
      refine gg_goto K (tgt := 2) dX0_isReferredTo_31 (by decide) ?_
      refine gg_sub (L' := [(3, .int (nI (j + 1))), (0, .ref X.1), (1, .int x), (2, .int (nI d))]) ⟨rfl, rfl, rfl, rfl, trivial⟩ ?_
      exact ih _ _ ⟨j + 1, by omega, rfl, rfl, by omega, fun q hq => by
        by_cases hqj : q = j
        · rw [hqj]; exact h23
        · exact he q (by omega)⟩
    · refine gg_iconst K (v := 1) dX0_isReferredTo_26 (by decide) ?_
      exact gg_zret K hr dX0_isReferredTo_27 (Or.inr rfl) (Nat.zero_le _) (Nat.zero_le _) ⟨some_int (bI_t (bP_t ⟨j, hj2, h23⟩)).symm, rfl⟩
end
section
/-! Twotimes: the store written -/
def uV (V : VT) (r0 l0 d0 : Nat) (x : Int32) : VT := fun r l d => if r = r0 ∧ l = l0 ∧ d = d0 then x else V r l d
def updR (V : VT) (T li : Nat) (g : Nat → Int32) (a b : Nat) : VT := fun r l d => if r = T ∧ l = li ∧ a ≤ d ∧ d < b then g d else V r l d
theorem updR_0 (V : VT) (T li : Nat) (g : Nat → Int32) (a : Nat) : updR V T li g a a = V := by
  funext r l d
  exact if_neg (by omega)
theorem updR_step {V : VT} {T li : Nat} {g : Nat → Int32} {a b : Nat} (h : a ≤ b) : uV (updR V T li g a b) T li b (g b) = updR V T li g a (b + 1) := by
  funext r l d
  unfold uV updR
  by_cases h1 : r = T ∧ l = li ∧ d = b
  · obtain ⟨rfl, rfl, rfl⟩ := h1
    rw [if_pos ⟨rfl, rfl, rfl⟩, if_pos ⟨rfl, rfl, h, by omega⟩]
  · rw [if_neg h1]
    by_cases h2 : r = T ∧ l = li ∧ a ≤ d ∧ d < b
    · rw [if_pos h2, if_pos ⟨h2.1, h2.2.1, h2.2.2.1, by omega⟩]
    · rw [if_neg h2, if_neg (by omega)]
theorem updR_skip {V : VT} {T li : Nat} {g : Nat → Int32} {a b : Nat} (h : a ≤ b) (e : V T li b = g b) : updR V T li g a b = updR V T li g a (b + 1) := by
  funext r l d
  unfold updR
  by_cases h2 : r = T ∧ l = li ∧ a ≤ d ∧ d < b
  · rw [if_pos h2, if_pos ⟨h2.1, h2.2.1, h2.2.2.1, by omega⟩]
  · rw [if_neg h2]
    by_cases h1 : r = T ∧ l = li ∧ d = b
    · obtain ⟨rfl, rfl, rfl⟩ := h1
      rw [if_pos ⟨rfl, rfl, h, by omega⟩, e]
    · rw [if_neg (by omega)]
theorem updR_at {V : VT} {T li : Nat} {g : Nat → Int32} {a b d : Nat} (h : b ≤ d) : updR V T li g a b T li d = V T li d := if_neg (by omega)
theorem vX_upd {k kp : Nat → Int32} {T l0 d0 : Nat} (ok : okX kp T) (hl0 : l0 < 16) (hd0 : d0 < 60) (x : Int32) : vX (upd k (ix T l0 d0) x) kp T = uV (vX k kp T) T l0 d0 x := by
  funext r l d
  obtain ⟨o1, o2, o3, o4⟩ := ok
  unfold vX uV upd
  dsimp only
  by_cases hc : r ≤ T ∧ l < 16 ∧ d < 60
  · rw [if_pos hc, if_pos hc]
    by_cases h1 : r = T ∧ l = l0 ∧ d = d0
    · obtain ⟨rfl, rfl, rfl⟩ := h1
      rw [kq_nI o2 o1, if_pos rfl, if_pos ⟨rfl, rfl, rfl⟩]
    · rw [if_neg h1, if_neg]
      intro he
      obtain ⟨e1, e2, e3⟩ := ix_inj hc.2.1 hc.2.2 hl0 hd0 he
      have h4 := (o4 r hc.1).1.2
      exact h1 ⟨by omega, e2, e3⟩
  · rw [if_neg hc, if_neg hc, if_neg (by omega)]
theorem some_none {α : Type} : (none : Option α) = none := rfl
/-- a draft keeps the references -/
def keepP (V : VT) (T : Nat) (dr : Nat → Int32) (t9 key : Nat) : Prop := ∀ d, d < 60 → (t9 = 0 → dr d = -1 → ¬ refd V T (nI key) d) ∧ (t9 = 1 → ¬ dr d = -1 → ¬ V T (dr d).toNatClampNeg d = -1)
set_option maxRecDepth 100000 in
theorem x_recordToday {l : Launch} {Z : ZT} {X : XT} {k kp dr : Nat → Int32} {td : Int32} {T : Nat} (li d : Nat) {y z x : Int32} (ok : okX kp T) (ht : td = nI T) (hl0 : li < 16) (hd0 : d < 60) (hy : y = nI li) (hz : z = nI d) : mA l Z.1 (ty3 Z) yX0_recordToday cX0_recordToday 5 none (rmk 1 30 0 0) (wX Z X k kp dr td) [.ref X.1, .int y, .int z, .int x] (fun r u => r = none ∧ u = wX Z X (upd k (ix T li d) x) kp dr td) := by
  refine mA_intro (own := RX0) [(0, .ref X.1), (1, .int y), (2, .int z), (3, .int x)] (by decide +kernel) rfl rfl rfl rfl ?_
  intro p e s m args below meth c A K hr hin
  have hlt := ix_lt (r := T) ok.1 hl0 hd0
  subst hy hz
  refine gg_aload_n K (i := 0) dX0_recordToday_0 rfl rfl ?_
  refine gX_today K dX0_recordToday_1 ?_
  refine gg_iload_n K (i := 1) dX0_recordToday_4 rfl rfl ?_
  refine gg_iload_n K (i := 2) dX0_recordToday_5 rfl rfl ?_
  refine gg_callSR K k_X0_X0_index (x_index T li d ht rfl rfl) dX0_recordToday_6 rfl rfl rfl rfl ⟨rfl, rfl⟩ ?_
  refine gg_istore K dX0_recordToday_9 (by decide) ?_
  refine gg_iload K dX0_recordToday_11 rfl ?_
  refine gg_if_lt K (tgt := 34) dX0_recordToday_13 (by decide) (fun h13 => ?_) (fun h13 => ?_)
  · exact absurd h13 (nI_pos (by omega))
  refine gg_iload K dX0_recordToday_16 rfl ?_
  refine gg_aload_n K (i := 0) dX0_recordToday_18 rfl rfl ?_
  refine gX_known K dX0_recordToday_19 ?_
  refine gX_len_known K dX0_recordToday_22 ?_
  refine gg_icmp_ge K (tgt := 34) dX0_recordToday_23 (by decide) (fun h23 => ?_) (fun h23 => ?_)
  · exact absurd (i_le h23) (by omega)
  refine gg_aload_n K (i := 0) dX0_recordToday_26 rfl rfl ?_
  refine gX_known K dX0_recordToday_27 ?_
  refine gg_iload K dX0_recordToday_30 rfl ?_
  refine gg_iload_n K (i := 3) dX0_recordToday_32 rfl rfl ?_
  refine gX_st_known (ix T li d) K rfl hlt dX0_recordToday_33 ?_
  exact gg_vret K hr dX0_recordToday_34 (Nat.zero_le _) (Nat.zero_le _) ⟨rfl, rfl⟩
set_option maxRecDepth 100000 in
theorem x_keepOn {l : Launch} {Z : ZT} {X : XT} {k kp dr : Nat → Int32} {td : Int32} (r : Nat) {x y : Int32} (hr0 : r < 60) (hx : x = nI r) : mA l Z.1 (ty3 Z) yX0_keepOn cX0_keepOn 3 none (rmk 0 0 0 0) (wX Z X k kp dr td) [.ref X.1, .int x, .int y] (fun v u => v = none ∧ u = wX Z X k (upd kp r y) dr td) := by
  refine mA_intro (own := RX0) [(0, .ref X.1), (1, .int x), (2, .int y)] (by decide +kernel) rfl rfl rfl rfl ?_
  intro p e s m args below meth c A K hr hin
  subst hx
  refine gg_iload_n K (i := 1) dX0_keepOn_0 rfl rfl ?_
  refine gg_if_lt K (tgt := 17) dX0_keepOn_1 (by decide) (fun h1 => ?_) (fun h1 => ?_)
  · exact absurd h1 (nI_pos (by omega))
  refine gg_iload_n K (i := 1) dX0_keepOn_4 rfl rfl ?_
  refine gg_bipush K (v := 60) dX0_keepOn_5 (by decide) ?_
  refine gg_icmp_ge K (tgt := 17) dX0_keepOn_7 (by decide) (fun h7 => ?_) (fun h7 => ?_)
  · exact absurd (i_le (a := 60) h7) (by omega)
  refine gg_aload_n K (i := 0) dX0_keepOn_10 rfl rfl ?_
  refine gX_keptOn K dX0_keepOn_11 ?_
  refine gg_iload_n K (i := 1) dX0_keepOn_14 rfl rfl ?_
  refine gg_iload_n K (i := 2) dX0_keepOn_15 rfl rfl ?_
  refine gX_st_kept r K rfl hr0 dX0_keepOn_16 ?_
  exact gg_vret K hr dX0_keepOn_17 (Nat.zero_le _) (Nat.zero_le _) ⟨rfl, rfl⟩
set_option maxRecDepth 100000 in
theorem x_lose {l : Launch} {Z : ZT} {X : XT} {k kp dr : Nat → Int32} {td : Int32} {T : Nat} (li d : Nat) {y z : Int32} (ok : okX kp T) (ht : td = nI T) (hl0 : li < 16) (hd0 : d < 60) (hy : y = nI li) (hz : z = nI d) : mA l Z.1 (ty3 Z) yX0_lose cX0_lose 3 (some .int) (rmk 2 60 0 0) (wX Z X k kp dr td) [.ref X.1, .int y, .int z] (fun r u => r = some (.int (bI (bP (¬ vX k kp T T li d = -1)))) ∧ ∃ k', u = wX Z X k' kp dr td ∧ vX k' kp T = uV (vX k kp T) T li d (-1)) := by
  refine mA_intro (own := RX0) [(0, .ref X.1), (1, .int y), (2, .int z)] (by decide +kernel) rfl rfl rfl rfl ?_
  intro p e s m args below meth c A K hr hin
  subst hy hz
  refine gg_aload_n K (i := 0) dX0_lose_0 rfl rfl ?_
  refine gg_aload_n K (i := 0) dX0_lose_1 rfl rfl ?_
  refine gX_today K dX0_lose_2 ?_
  refine gg_iload_n K (i := 1) dX0_lose_5 rfl rfl ?_
  refine gg_iload_n K (i := 2) dX0_lose_6 rfl rfl ?_
  refine gg_callRX K k_X0_X0_knownOn (x_knownOn T li d ok (Nat.le_refl T) hl0 hd0 ht rfl rfl) dX0_lose_7 rfl rfl rfl rfl ⟨rfl, rfl⟩ ?_
  refine gg_iconst K (v := (-1)) dX0_lose_10 (by decide) ?_
  refine gg_icmp_ne K (tgt := 16) dX0_lose_11 (by decide) (fun h11 => ?_) (fun h11 => ?_)
  rotate_left
  · refine gg_iconst K (v := 0) dX0_lose_14 (by decide) ?_
    refine gg_iret K hr dX0_lose_15 (Nat.zero_le _) (Nat.zero_le _) ⟨some_int (bI_f (bP_f (fun q => q h11))).symm, k, rfl, ?_⟩
    funext r l9 d9
    unfold uV
    by_cases h1 : r = T ∧ l9 = li ∧ d9 = d
    · obtain ⟨rfl, rfl, rfl⟩ := h1
      rw [if_pos ⟨rfl, rfl, rfl⟩, h11]
    · rw [if_neg h1]
  refine gg_aload_n K (i := 0) dX0_lose_16 rfl rfl ?_
  refine gg_iload_n K (i := 1) dX0_lose_17 rfl rfl ?_
  refine gg_iload_n K (i := 2) dX0_lose_18 rfl rfl ?_
  refine gg_iconst K (v := (-1)) dX0_lose_19 (by decide) ?_
  refine gg_callUX K k_X0_X0_recordToday (x_recordToday li d ok ht hl0 hd0 rfl rfl) dX0_lose_20 rfl rfl rfl rfl ⟨rfl, rfl⟩ (fun v u h => ?_)
  obtain ⟨rfl, rfl⟩ := h
  refine gg_iconst K (v := 1) dX0_lose_23 (by decide) ?_
  exact gg_iret K hr dX0_lose_24 (Nat.zero_le _) (Nat.zero_le _) ⟨some_int (bI_t (bP_t h11)).symm, _, rfl, vX_upd ok hl0 hd0 _⟩
set_option maxRecDepth 100000 in
theorem x_draftSpan {l : Launch} {Z : ZT} {X : XT} {k kp dr : Nat → Int32} {td : Int32} {T : Nat} (li f t : Nat) {x y z v : Int32} (ok : okX kp T) (ht : td = nI T) (hl0 : li < 16) (hf : f < 60) (ht2 : t ≤ 60) (hx : x = nI li) (hy : y = nI f) (hz : z = nI t) : mA l Z.1 (ty3 Z) yX0_draftSpan cX0_draftSpan 6 none (rmk 2 60 0 0) (wX Z X k kp dr td) [.ref X.1, .int x, .int y, .int z, .int v] (fun r u => r = none ∧ ∃ dr', u = wX Z X k kp dr' td ∧ ∀ d, d < 60 → dr' d = if f ≤ d ∧ d < t then v else vX k kp T T li d) := by
  refine mA_intro (own := RX0) [(0, .ref X.1), (1, .int x), (2, .int y), (3, .int z), (4, .int v)] (by decide +kernel) rfl rfl rfl rfl ?_
  intro p e s m args below meth c A K hr hin
  have o1 := ok.1
  subst hx hy hz
  refine gg_iconst K (v := 0) dX0_draftSpan_0 (by decide) ?_
  refine gg_istore K dX0_draftSpan_1 (by decide) ?_
  refine gg_sub (L' := [(5, .int (nI 0)), (0, .ref X.1), (1, .int (nI li)), (2, .int (nI f)), (3, .int (nI t)), (4, .int v)]) ⟨rfl, rfl, rfl, rfl, rfl, rfl, trivial⟩ ?_
  refine gg_loop (fun i w L => ∃ (j : Nat) (dr' : Nat → Int32), j + i = 61 ∧ w = wX Z X k kp dr' td ∧ L = [(5, .int (nI j)), (0, .ref X.1), (1, .int (nI li)), (2, .int (nI f)), (3, .int (nI t)), (4, .int v)] ∧ j ≤ 60 ∧ ∀ d, d < j → dr' d = if f ≤ d ∧ d < t then v else vX k kp T T li d) (fun w L h => ?_) (fun i w L h ih => ?_) 61 _ _ ⟨0, dr, rfl, rfl, rfl, by omega, fun q h => absurd h (by omega)⟩
  · obtain ⟨j, dr', hj, -, -, h2, -⟩ := h
    omega
  · obtain ⟨j, dr', hj, rfl, rfl, -, he⟩ := h
    refine gg_iload K dX0_draftSpan_3 rfl ?_
    refine gg_bipush K (v := 60) dX0_draftSpan_5 (by decide) ?_
    refine gg_icmp_ge K (tgt := 51) dX0_draftSpan_7 (by decide) (fun h7 => ?_) (fun h7 => ?_)
    · have hj2 := i_le (a := 60) h7
      exact gg_vret K hr dX0_draftSpan_51 (Nat.zero_le _) (Nat.zero_le _) ⟨rfl, dr', rfl, fun d hd => he d (by omega)⟩
    have hj2 := i_nle (a := 60) h7
    refine gg_aload_n K (i := 0) dX0_draftSpan_10 rfl rfl ?_
    refine gX_draft K dX0_draftSpan_11 ?_
    refine gg_iload K dX0_draftSpan_14 rfl ?_
    refine gg_iload K dX0_draftSpan_16 rfl ?_
    refine gg_iload_n K (i := 2) dX0_draftSpan_18 rfl rfl ?_
    refine gg_icmp_lt K (tgt := 33) dX0_draftSpan_19 (by decide) (fun h19 => ?_) (fun h19 => ?_)
    · have hlt := i_lt h19
      refine gg_aload_n K (i := 0) dX0_draftSpan_33 rfl rfl ?_
      refine gg_aload_n K (i := 0) dX0_draftSpan_34 rfl rfl ?_
      refine gX_today K dX0_draftSpan_35 ?_
      refine gg_iload_n K (i := 1) dX0_draftSpan_38 rfl rfl ?_
      refine gg_iload K dX0_draftSpan_39 rfl ?_
      refine gg_callRX K k_X0_X0_knownOn (x_knownOn T li j ok (Nat.le_refl T) hl0 hj2 ht rfl rfl) dX0_draftSpan_41 rfl rfl rfl rfl ⟨rfl, rfl⟩ ?_
      refine gX_st_draft j K rfl hj2 dX0_draftSpan_44 ?_
      refine gg_iinc K (v := nI (j + 1)) dX0_draftSpan_45 rfl (nI_inc (j)) (by decide) ?_
      refine gg_goto K (tgt := 3) dX0_draftSpan_48 (by decide) ?_
      refine gg_sub (L' := [(5, .int (nI (j + 1))), (0, .ref X.1), (1, .int (nI li)), (2, .int (nI f)), (3, .int (nI t)), (4, .int v)]) ⟨rfl, rfl, rfl, rfl, rfl, rfl, trivial⟩ ?_
      refine ih _ _ ⟨j + 1, _, by omega, rfl, rfl, by omega, fun d hd => ?_⟩
      unfold upd
      by_cases hdj : d = j
      · rw [if_pos hdj, hdj, if_neg (by omega)]
      · rw [if_neg hdj]
        exact he d (by omega)
    have hge := i_nlt h19
    refine gg_iload K dX0_draftSpan_22 rfl ?_
    refine gg_iload_n K (i := 3) dX0_draftSpan_24 rfl rfl ?_
    refine gg_icmp_ge K (tgt := 33) dX0_draftSpan_25 (by decide) (fun h25 => ?_) (fun h25 => ?_)
    · have hlt := i_le h25
      refine gg_aload_n K (i := 0) dX0_draftSpan_33 rfl rfl ?_
      refine gg_aload_n K (i := 0) dX0_draftSpan_34 rfl rfl ?_
      refine gX_today K dX0_draftSpan_35 ?_
      refine gg_iload_n K (i := 1) dX0_draftSpan_38 rfl rfl ?_
      refine gg_iload K dX0_draftSpan_39 rfl ?_
      refine gg_callRX K k_X0_X0_knownOn (x_knownOn T li j ok (Nat.le_refl T) hl0 hj2 ht rfl rfl) dX0_draftSpan_41 rfl rfl rfl rfl ⟨rfl, rfl⟩ ?_
      refine gX_st_draft j K rfl hj2 dX0_draftSpan_44 ?_
      refine gg_iinc K (v := nI (j + 1)) dX0_draftSpan_45 rfl (nI_inc (j)) (by decide) ?_
      refine gg_goto K (tgt := 3) dX0_draftSpan_48 (by decide) ?_
      refine gg_sub (L' := [(5, .int (nI (j + 1))), (0, .ref X.1), (1, .int (nI li)), (2, .int (nI f)), (3, .int (nI t)), (4, .int v)]) ⟨rfl, rfl, rfl, rfl, rfl, rfl, trivial⟩ ?_
      refine ih _ _ ⟨j + 1, _, by omega, rfl, rfl, by omega, fun d hd => ?_⟩
      unfold upd
      by_cases hdj : d = j
      · rw [if_pos hdj, hdj, if_neg (by omega)]
      · rw [if_neg hdj]
        exact he d (by omega)
    have hlt := i_nle h25
    refine gg_iload K dX0_draftSpan_28 rfl ?_
    refine gg_goto K (tgt := 44) dX0_draftSpan_30 (by decide) ?_
    refine gX_st_draft j K rfl hj2 dX0_draftSpan_44 ?_
    refine gg_iinc K (v := nI (j + 1)) dX0_draftSpan_45 rfl (nI_inc (j)) (by decide) ?_
    refine gg_goto K (tgt := 3) dX0_draftSpan_48 (by decide) ?_
    refine gg_sub (L' := [(5, .int (nI (j + 1))), (0, .ref X.1), (1, .int (nI li)), (2, .int (nI f)), (3, .int (nI t)), (4, .int v)]) ⟨rfl, rfl, rfl, rfl, rfl, rfl, trivial⟩ ?_
    refine ih _ _ ⟨j + 1, _, by omega, rfl, rfl, by omega, fun d hd => ?_⟩
    unfold upd
    by_cases hdj : d = j
    · rw [if_pos hdj, hdj, if_pos ⟨hge, hlt⟩]
    · rw [if_neg hdj]
      exact he d (by omega)
set_option maxRecDepth 100000 in
theorem x_draftRecord {l : Launch} {Z : ZT} {X : XT} {k kp dr : Nat → Int32} {td : Int32} {T : Nat} (li r : Nat) {x y : Int32} (ok : okX kp T) (hl0 : li < 16) (hr0 : r ≤ T) (hx : x = nI li) (hy : y = nI r) : mA l Z.1 (ty3 Z) yX0_draftRecord cX0_draftRecord 4 none (rmk 2 60 0 0) (wX Z X k kp dr td) [.ref X.1, .int x, .int y] (fun v u => v = none ∧ ∃ dr', u = wX Z X k kp dr' td ∧ ∀ d, d < 60 → dr' d = vX k kp T r li d) := by
  refine mA_intro (own := RX0) [(0, .ref X.1), (1, .int x), (2, .int y)] (by decide +kernel) rfl rfl rfl rfl ?_
  intro p e s m args below meth c A K hr hin
  have o1 := ok.1
  subst hx hy
  refine gg_iconst K (v := 0) dX0_draftRecord_0 (by decide) ?_
  refine gg_istore_n K (i := 3) dX0_draftRecord_1 rfl (by decide) ?_
  refine gg_sub (L' := [(3, .int (nI 0)), (0, .ref X.1), (1, .int (nI li)), (2, .int (nI r))]) ⟨rfl, rfl, rfl, rfl, trivial⟩ ?_
  refine gg_loop (fun i w L => ∃ (j : Nat) (dr' : Nat → Int32), j + i = 61 ∧ w = wX Z X k kp dr' td ∧ L = [(3, .int (nI j)), (0, .ref X.1), (1, .int (nI li)), (2, .int (nI r))] ∧ j ≤ 60 ∧ ∀ d, d < j → dr' d = vX k kp T r li d) (fun w L h => ?_) (fun i w L h ih => ?_) 61 _ _ ⟨0, dr, rfl, rfl, rfl, by omega, fun q h => absurd h (by omega)⟩
  · obtain ⟨j, dr', hj, -, -, h2, -⟩ := h
    omega
  · obtain ⟨j, dr', hj, rfl, rfl, -, he⟩ := h
    refine gg_iload_n K (i := 3) dX0_draftRecord_2 rfl rfl ?_
    refine gg_bipush K (v := 60) dX0_draftRecord_3 (by decide) ?_
    refine gg_icmp_ge K (tgt := 27) dX0_draftRecord_5 (by decide) (fun h5 => ?_) (fun h5 => ?_)
    · have hj2 := i_le (a := 60) h5
      exact gg_vret K hr dX0_draftRecord_27 (Nat.zero_le _) (Nat.zero_le _) ⟨rfl, dr', rfl, fun d hd => he d (by omega)⟩
    have hj2 := i_nle (a := 60) h5
    refine gg_aload_n K (i := 0) dX0_draftRecord_8 rfl rfl ?_
    refine gX_draft K dX0_draftRecord_9 ?_
    refine gg_iload_n K (i := 3) dX0_draftRecord_12 rfl rfl ?_
    refine gg_aload_n K (i := 0) dX0_draftRecord_13 rfl rfl ?_
    refine gg_iload_n K (i := 2) dX0_draftRecord_14 rfl rfl ?_
    refine gg_iload_n K (i := 1) dX0_draftRecord_15 rfl rfl ?_
    refine gg_iload_n K (i := 3) dX0_draftRecord_16 rfl rfl ?_
    refine gg_callRX K k_X0_X0_knownOn (x_knownOn r li j ok hr0 hl0 hj2 rfl rfl rfl) dX0_draftRecord_17 rfl rfl rfl rfl ⟨rfl, rfl⟩ ?_
    refine gX_st_draft j K rfl hj2 dX0_draftRecord_20 ?_
    refine gg_iinc K (v := nI (j + 1)) dX0_draftRecord_21 rfl (nI_inc (j)) (by decide) ?_
    refine gg_goto K (tgt := 2) dX0_draftRecord_24 (by decide) ?_
    refine gg_sub (L' := [(3, .int (nI (j + 1))), (0, .ref X.1), (1, .int (nI li)), (2, .int (nI r))]) ⟨rfl, rfl, rfl, rfl, trivial⟩ ?_
    refine ih _ _ ⟨j + 1, _, by omega, rfl, rfl, by omega, fun d hd => ?_⟩
    unfold upd
    by_cases hdj : d = j
    · rw [if_pos hdj, hdj]
    · rw [if_neg hdj]
      exact he d (by omega)
set_option maxRecDepth 100000 in
theorem x_draftKeeps {l : Launch} {Z : ZT} {X : XT} {k kp dr : Nat → Int32} {td : Int32} {T : Nat} (t9 key : Nat) {x y : Int32} (ok : okX kp T) (ht : td = nI T) (ht9 : t9 < 2) (hdr : t9 = 1 → ∀ d, d < 60 → dr d = -1 ∨ ∃ j, dr d = nI j ∧ j < 8) (hx : x = nI t9) (hy : y = nI key) : mR l Z yX0_draftKeepsReferences cX0_draftKeepsReferences 5 (some .boolean) (rmk 3 90 0 0) (wX Z X k kp dr td) [.ref X.1, .int x, .int y] (.int (bI (bP (keepP (vX k kp T) T dr t9 key)))) := by
  refine mA_intro (own := RX0) [(0, .ref X.1), (1, .int x), (2, .int y)] (by decide +kernel) rfl rfl rfl rfl ?_
  intro p e s m args below meth c A K hr hin
  have o1 := ok.1
  subst hx hy
  refine gg_iconst K (v := 0) dX0_draftKeepsReferences_0 (by decide) ?_
  refine gg_istore_n K (i := 3) dX0_draftKeepsReferences_1 rfl (by decide) ?_
  refine gg_sub (L' := [(3, .int (nI 0)), (0, .ref X.1), (1, .int (nI t9)), (2, .int (nI key))]) ⟨rfl, rfl, rfl, rfl, trivial⟩ ?_
  refine gg_loop (fun i w L => ∃ (j : Nat) (z9 : Int32), j + i = 61 ∧ w = wX Z X k kp dr td ∧ L = [(3, .int (nI j)), (0, .ref X.1), (1, .int (nI t9)), (2, .int (nI key))] ∧ j ≤ 60 ∧ ∀ d, d < j → (t9 = 0 → dr d = -1 → ¬ refd (vX k kp T) T (nI key) d) ∧ (t9 = 1 → ¬ dr d = -1 → ¬ vX k kp T T (dr d).toNatClampNeg d = -1)) (fun w L h => ?_) (fun i w L h ih => ?_) 61 _ _ ⟨0, 0, rfl, rfl, rfl, by omega, fun q h => absurd h (by omega)⟩
  · obtain ⟨j, z9, hj, -, -, h2, -⟩ := h
    omega
  · obtain ⟨j, z9, hj, rfl, rfl, -, he⟩ := h
    have next : j < 60 → ((t9 = 0 → dr j = -1 → ¬ refd (vX k kp T) T (nI key) j) ∧ (t9 = 1 → ¬ dr j = -1 → ¬ vX k kp T T (dr j).toNatClampNeg j = -1)) → ∀ d, d < j + 1 → (t9 = 0 → dr d = -1 → ¬ refd (vX k kp T) T (nI key) d) ∧ (t9 = 1 → ¬ dr d = -1 → ¬ vX k kp T T (dr d).toNatClampNeg d = -1) := fun _ h d hd => by
      by_cases hdj : d = j
      · rw [hdj]; exact h
      · exact he d (by omega)
    refine gg_iload_n K (i := 3) dX0_draftKeepsReferences_2 rfl rfl ?_
    refine gg_bipush K (v := 60) dX0_draftKeepsReferences_3 (by decide) ?_
    refine gg_icmp_ge K (tgt := 75) dX0_draftKeepsReferences_5 (by decide) (fun h5 => ?_) (fun h5 => ?_)
    · have hj2 := i_le (a := 60) h5
      refine gg_iconst K (v := 1) dX0_draftKeepsReferences_75 (by decide) ?_
      exact gg_zret K hr dX0_draftKeepsReferences_76 (Or.inr rfl) (Nat.zero_le _) (Nat.zero_le _) ⟨some_int (bI_t (bP_t (fun d hd => he d (by omega)))).symm, rfl⟩
    have hj2 := i_nle (a := 60) h5
    refine gg_aload_n K (i := 0) dX0_draftKeepsReferences_8 rfl rfl ?_
    refine gX_draft K dX0_draftKeepsReferences_9 ?_
    refine gg_iload_n K (i := 3) dX0_draftKeepsReferences_12 rfl rfl ?_
    refine gX_ld_draft j K rfl hj2 dX0_draftKeepsReferences_13 ?_
    refine gg_istore K dX0_draftKeepsReferences_14 (by decide) ?_
    refine gg_iload_n K (i := 1) dX0_draftKeepsReferences_16 rfl rfl ?_
    refine gg_if_ne K (tgt := 37) dX0_draftKeepsReferences_17 (by decide) (fun h17 => ?_) (fun h17 => ?_)
    · have t1 : t9 = 1 := by
        have := i_ne (b := 0) h17
        omega
      refine gg_iload_n K (i := 1) dX0_draftKeepsReferences_37 rfl rfl ?_
      refine gg_iconst K (v := 1) dX0_draftKeepsReferences_38 (by decide) ?_
      refine gg_icmp_ne K (tgt := 69) dX0_draftKeepsReferences_39 (by decide) (fun h39 => ?_) (fun h39 => ?_)
      · exact absurd (by rw [t1]; rfl) h39
      refine gg_iload K dX0_draftKeepsReferences_42 rfl ?_
      refine gg_iconst K (v := (-1)) dX0_draftKeepsReferences_44 (by decide) ?_
      refine gg_icmp_eq K (tgt := 69) dX0_draftKeepsReferences_45 (by decide) (fun h45 => ?_) (fun h45 => ?_)
      · refine gg_iinc K (v := nI (j + 1)) dX0_draftKeepsReferences_69 rfl (nI_inc (j)) (by decide) ?_
        refine gg_goto K (tgt := 2) dX0_draftKeepsReferences_72 (by decide) ?_
        refine gg_sub (L' := [(3, .int (nI (j + 1))), (0, .ref X.1), (1, .int (nI t9)), (2, .int (nI key))]) ⟨rfl, rfl, rfl, rfl, trivial⟩ ?_
        exact ih _ _ ⟨j + 1, 0, by omega, rfl, rfl, by omega, next hj2 ⟨fun q => absurd q (by omega), fun _ q => absurd h45 q⟩⟩
      obtain ⟨i9, hi1, hi2⟩ := (hdr t1 j hj2).resolve_left h45
      refine gg_aload_n K (i := 0) dX0_draftKeepsReferences_48 rfl rfl ?_
      refine gg_aload_n K (i := 0) dX0_draftKeepsReferences_49 rfl rfl ?_
      refine gX_today K dX0_draftKeepsReferences_50 ?_
      refine gg_iconst K (v := 0) dX0_draftKeepsReferences_53 (by decide) ?_
      refine gg_iload K dX0_draftKeepsReferences_54 rfl ?_
      refine gg_callSR K k_X0_X0_line (x_line 0 i9 rfl hi1) dX0_draftKeepsReferences_56 rfl rfl rfl rfl ⟨rfl, rfl⟩ ?_
      refine gg_iload_n K (i := 3) dX0_draftKeepsReferences_59 rfl rfl ?_
      refine gg_callRX K k_X0_X0_knownOn (x_knownOn T i9 j ok (Nat.le_refl T) (by omega) hj2 ht (congrArg nI (by omega)) rfl) dX0_draftKeepsReferences_60 rfl rfl rfl rfl ⟨rfl, rfl⟩ ?_
      have hc : (dr j).toNatClampNeg = i9 := by rw [hi1]; exact nI_clamp (by omega)
      refine gg_iconst K (v := (-1)) dX0_draftKeepsReferences_63 (by decide) ?_
      refine gg_icmp_ne K (tgt := 69) dX0_draftKeepsReferences_64 (by decide) (fun h64 => ?_) (fun h64 => ?_)
      · refine gg_iinc K (v := nI (j + 1)) dX0_draftKeepsReferences_69 rfl (nI_inc (j)) (by decide) ?_
        refine gg_goto K (tgt := 2) dX0_draftKeepsReferences_72 (by decide) ?_
        refine gg_sub (L' := [(3, .int (nI (j + 1))), (0, .ref X.1), (1, .int (nI t9)), (2, .int (nI key))]) ⟨rfl, rfl, rfl, rfl, trivial⟩ ?_
        exact ih _ _ ⟨j + 1, 0, by omega, rfl, rfl, by omega, next hj2 ⟨fun q => absurd q (by omega), fun _ _ => by rw [hc]; exact h64⟩⟩
      · refine gg_iconst K (v := 0) dX0_draftKeepsReferences_67 (by decide) ?_
        exact gg_zret K hr dX0_draftKeepsReferences_68 (Or.inl rfl) (Nat.zero_le _) (Nat.zero_le _) ⟨some_int (bI_f (bP_f (fun q => (q j hj2).2 t1 h45 (by rw [hc]; exact h64)))).symm, rfl⟩
    · have t0 : t9 = 0 := i_eq (b := 0) h17
      refine gg_iload K dX0_draftKeepsReferences_20 rfl ?_
      refine gg_iconst K (v := (-1)) dX0_draftKeepsReferences_22 (by decide) ?_
      refine gg_icmp_ne K (tgt := 37) dX0_draftKeepsReferences_23 (by decide) (fun h23 => ?_) (fun h23 => ?_)
      · refine gg_iload_n K (i := 1) dX0_draftKeepsReferences_37 rfl rfl ?_
        refine gg_iconst K (v := 1) dX0_draftKeepsReferences_38 (by decide) ?_
        refine gg_icmp_ne K (tgt := 69) dX0_draftKeepsReferences_39 (by decide) (fun h39 => ?_) (fun h39 => ?_)
        · refine gg_iinc K (v := nI (j + 1)) dX0_draftKeepsReferences_69 rfl (nI_inc (j)) (by decide) ?_
          refine gg_goto K (tgt := 2) dX0_draftKeepsReferences_72 (by decide) ?_
          refine gg_sub (L' := [(3, .int (nI (j + 1))), (0, .ref X.1), (1, .int (nI t9)), (2, .int (nI key))]) ⟨rfl, rfl, rfl, rfl, trivial⟩ ?_
          exact ih _ _ ⟨j + 1, 0, by omega, rfl, rfl, by omega, next hj2 ⟨fun _ q => absurd q h23, fun q => absurd q (by omega)⟩⟩
        · exact absurd h39 (by rw [t0]; decide)
      refine gg_aload_n K (i := 0) dX0_draftKeepsReferences_26 rfl rfl ?_
      refine gg_iload_n K (i := 2) dX0_draftKeepsReferences_27 rfl rfl ?_
      refine gg_iload_n K (i := 3) dX0_draftKeepsReferences_28 rfl rfl ?_
      refine gg_callRX K k_X0_X0_isReferredTo (x_isReferredTo j ok ht hj2 rfl) dX0_draftKeepsReferences_29 rfl rfl rfl rfl ⟨rfl, rfl⟩ ?_
      refine gg_b_eq K (tgt := 37) dX0_draftKeepsReferences_32 (by decide) (fun h32 => ?_) (fun h32 => ?_)
      · refine gg_iload_n K (i := 1) dX0_draftKeepsReferences_37 rfl rfl ?_
        refine gg_iconst K (v := 1) dX0_draftKeepsReferences_38 (by decide) ?_
        refine gg_icmp_ne K (tgt := 69) dX0_draftKeepsReferences_39 (by decide) (fun h39 => ?_) (fun h39 => ?_)
        · refine gg_iinc K (v := nI (j + 1)) dX0_draftKeepsReferences_69 rfl (nI_inc (j)) (by decide) ?_
          refine gg_goto K (tgt := 2) dX0_draftKeepsReferences_72 (by decide) ?_
          refine gg_sub (L' := [(3, .int (nI (j + 1))), (0, .ref X.1), (1, .int (nI t9)), (2, .int (nI key))]) ⟨rfl, rfl, rfl, rfl, trivial⟩ ?_
          exact ih _ _ ⟨j + 1, 0, by omega, rfl, rfl, by omega, next hj2 ⟨fun _ _ => bP_nf h32, fun q => absurd q (by omega)⟩⟩
        · exact absurd h39 (by rw [t0]; decide)
      · refine gg_iconst K (v := 0) dX0_draftKeepsReferences_35 (by decide) ?_
        exact gg_zret K hr dX0_draftKeepsReferences_36 (Or.inl rfl) (Nat.zero_le _) (Nat.zero_le _) ⟨some_int (bI_f (bP_f (fun q => (q j hj2).1 t0 h23 (bP_iff.mp h32)))).symm, rfl⟩
end
section
/-! Twotimes: the checks of arguments; a draft recorded; what is lost with references; days copied -/
def inR (x : Int32) (b : Int32) : Prop := ¬ x < 0 ∧ ¬ b ≤ x
theorem inR_nat {x : Int32} {b : Nat} (h : inR x (nI b)) (hb : b < 2 ^ 31 := by omega) : ∃ j, j < b ∧ x = nI j := by
  obtain ⟨j, h1, h2⟩ := nI_of h.1
  refine ⟨j, ?_, h2⟩
  have := h.2
  rw [h2] at this
  exact i_nle this
theorem inR_of {j b : Nat} (h : j < b) (hb : b < 2 ^ 31 := by omega) : inR (nI j) (nI b) := ⟨nI_pos (by omega), nI_ge h (by omega)⟩
set_option maxRecDepth 100000 in
theorem x_needRange {l : Launch} (hl0 : l.stackTraces = false) {D : va_G} {tys : List (ClassId × FieldType)} {x b : Int32} : mX l D tys yX0_needRange (.code yX0_needRange cX0_needRange 2 none) (rmk 6 90 1 6) [] [.int x, .int b] (fun r u => r = none ∧ u = [] ∧ inR x b) (fun E u => E = eA ∧ u = [] ∧ ¬ inR x b) := by
  refine mX_intro (own := RX0) [(0, .int x), (1, .int b)] (by decide +kernel) rfl rfl rfl rfl ?_
  intro p e s m args below meth c A K hr T9 htab
  refine gg_iload_n K (i := 0) dX0_needRange_0 rfl rfl ?_
  refine gg_if_lt K (tgt := 9) dX0_needRange_1 (by decide) (fun h1 => ?_) (fun h1 => ?_)
  · exact gg_throw_eA K T9 hl0 htab (is := 134) (text := "out of range") (by decide) dX0_needRange_9 dX0_needRange_12 dX0_needRange_13 dX0_needRange_15 dX0_needRange_18 rfl rfl (Nat.le_of_ble_eq_true rfl) (Nat.le_of_ble_eq_true rfl) ⟨rfl, rfl, fun q => q.1 h1⟩
  refine gg_iload_n K (i := 0) dX0_needRange_4 rfl rfl ?_
  refine gg_iload_n K (i := 1) dX0_needRange_5 rfl rfl ?_
  refine gg_icmp_lt K (tgt := 19) dX0_needRange_6 (by decide) (fun h6 => ?_) (fun h6 => ?_)
  · exact gg_x (gg_vret K hr dX0_needRange_19 (Nat.le_of_ble_eq_true rfl) (Nat.le_of_ble_eq_true rfl) ⟨rfl, rfl, h1, fun q => by rw [Int32.lt_iff_toInt_lt] at h6; rw [Int32.le_iff_toInt_le] at q; omega⟩)
  · exact gg_throw_eA K T9 hl0 htab (is := 134) (text := "out of range") (by decide) dX0_needRange_9 dX0_needRange_12 dX0_needRange_13 dX0_needRange_15 dX0_needRange_18 rfl rfl (Nat.le_of_ble_eq_true rfl) (Nat.le_of_ble_eq_true rfl) ⟨rfl, rfl, fun q => q.2 (by rw [Int32.lt_iff_toInt_lt] at h6; rw [Int32.le_iff_toInt_le]; omega)⟩
set_option maxRecDepth 100000 in
theorem x_needTK {l : Launch} (hl0 : l.stackTraces = false) {D : va_G} {tys : List (ClassId × FieldType)} {x y : Int32} : mX l D tys yX0_needTableAndKey (.code yX0_needTableAndKey cX0_needTableAndKey 2 none) (rmk 7 120 2 12) [] [.int x, .int y] (fun r u => r = none ∧ u = [] ∧ inR x 2 ∧ inR y 8) (fun E u => E = eA ∧ u = [] ∧ ¬ (inR x 2 ∧ inR y 8)) := by
  refine mX_intro (own := RX0) [(0, .int x), (1, .int y)] (by decide +kernel) rfl rfl rfl rfl ?_
  intro p e s m args below meth c A K hr T9 htab
  refine gg_iload_n K (i := 0) dX0_needTableAndKey_0 rfl rfl ?_
  refine gg_iconst K (v := 2) dX0_needTableAndKey_1 (by decide) ?_
  refine gg_callTS 1 6 K T9 k_X0_X0_needRange (x_needRange hl0) dX0_needTableAndKey_2 rfl rfl rfl rfl ⟨rfl, rfl⟩ (fun E u h => ?_) (fun v u h => ?_)
  · obtain ⟨rfl, rfl, h⟩ := h
    exact gx_out K htab (Nat.le_of_ble_eq_true rfl) (Nat.le_of_ble_eq_true rfl) ⟨rfl, rfl, fun q => h q.1⟩
  obtain ⟨rfl, rfl, h1⟩ := h
  refine gg_iload_n K (i := 1) dX0_needTableAndKey_5 rfl rfl ?_
  refine gg_bipush K (v := 8) dX0_needTableAndKey_6 (by decide) ?_
  refine gg_callTS 2 12 K T9 k_X0_X0_needRange (x_needRange hl0) dX0_needTableAndKey_8 rfl rfl rfl rfl ⟨rfl, rfl⟩ (fun E u h => ?_) (fun v u h => ?_)
  · obtain ⟨rfl, rfl, h⟩ := h
    exact gx_out K htab (Nat.le_of_ble_eq_true rfl) (Nat.le_of_ble_eq_true rfl) ⟨rfl, rfl, fun q => h q.2⟩
  obtain ⟨rfl, rfl, h2⟩ := h
  exact gg_x (gg_vret K hr dX0_needTableAndKey_11 (Nat.le_of_ble_eq_true rfl) (Nat.le_of_ble_eq_true rfl) ⟨rfl, rfl, h1, h2⟩)
def spanR (f t : Int32) : Prop := inR f 60 ∧ ¬ t ≤ f ∧ t ≤ 60
set_option maxRecDepth 100000 in
theorem x_needSpan {l : Launch} (hl0 : l.stackTraces = false) {D : va_G} {tys : List (ClassId × FieldType)} {x y : Int32} : mX l D tys yX0_needSpan (.code yX0_needSpan cX0_needSpan 2 none) (rmk 7 120 2 12) [] [.int x, .int y] (fun r u => r = none ∧ u = [] ∧ spanR x y) (fun E u => E = eA ∧ u = [] ∧ ¬ spanR x y) := by
  refine mX_intro (own := RX0) [(0, .int x), (1, .int y)] (by decide +kernel) rfl rfl rfl rfl ?_
  intro p e s m args below meth c A K hr T9 htab
  refine gg_iload_n K (i := 0) dX0_needSpan_0 rfl rfl ?_
  refine gg_bipush K (v := 60) dX0_needSpan_1 (by decide) ?_
  refine gg_callTS 1 6 K T9 k_X0_X0_needRange (x_needRange hl0) dX0_needSpan_3 rfl rfl rfl rfl ⟨rfl, rfl⟩ (fun E u h => ?_) (fun v u h => ?_)
  · obtain ⟨rfl, rfl, h⟩ := h
    exact gx_out K htab (Nat.le_of_ble_eq_true rfl) (Nat.le_of_ble_eq_true rfl) ⟨rfl, rfl, fun q => h q.1⟩
  obtain ⟨rfl, rfl, h1⟩ := h
  refine gg_iload_n K (i := 1) dX0_needSpan_6 rfl rfl ?_
  refine gg_iload_n K (i := 0) dX0_needSpan_7 rfl rfl ?_
  refine gg_icmp_le K (tgt := 17) dX0_needSpan_8 (by decide) (fun h8 => ?_) (fun h8 => ?_)
  · exact gg_throw_eA K T9 hl0 htab (is := 136) (text := "span") (by decide) dX0_needSpan_17 dX0_needSpan_20 dX0_needSpan_21 dX0_needSpan_23 dX0_needSpan_26 rfl rfl (Nat.le_of_ble_eq_true rfl) (Nat.le_of_ble_eq_true rfl) ⟨rfl, rfl, fun q => q.2.1 h8⟩
  refine gg_iload_n K (i := 1) dX0_needSpan_11 rfl rfl ?_
  refine gg_bipush K (v := 60) dX0_needSpan_12 (by decide) ?_
  refine gg_icmp_le K (tgt := 27) dX0_needSpan_14 (by decide) (fun h14 => ?_) (fun h14 => ?_)
  · exact gg_x (gg_vret K hr dX0_needSpan_27 (Nat.le_of_ble_eq_true rfl) (Nat.le_of_ble_eq_true rfl) ⟨rfl, rfl, h1, h8, h14⟩)
  · exact gg_throw_eA K T9 hl0 htab (is := 136) (text := "span") (by decide) dX0_needSpan_17 dX0_needSpan_20 dX0_needSpan_21 dX0_needSpan_23 dX0_needSpan_26 rfl rfl (Nat.le_of_ble_eq_true rfl) (Nat.le_of_ble_eq_true rfl) ⟨rfl, rfl, fun q => h14 q.2.2⟩
set_option maxRecDepth 100000 in
theorem x_needRecord {l : Launch} {Z : ZT} {X : XT} {k kp dr : Nat → Int32} {td : Int32} (hl0 : l.stackTraces = false) {x : Int32} : mX l Z.1 (ty3 Z) yX0_needRecord (.code yX0_needRecord cX0_needRecord 2 none) (rmk 7 120 2 12) (wX Z X k kp dr td) [.ref X.1, .int x] (fun r u => r = none ∧ u = wX Z X k kp dr td ∧ inR x 60 ∧ x ≤ td) (fun E u => u = wX Z X k kp dr td ∧ ((E = eA ∧ ¬ inR x 60) ∨ (E = eB ∧ inR x 60 ∧ ¬ x ≤ td))) := by
  refine mX_intro (own := RX0) [(0, .ref X.1), (1, .int x)] (by decide +kernel) rfl rfl rfl rfl ?_
  intro p e s m args below meth c A K hr T9 htab
  refine gg_iload_n K (i := 1) dX0_needRecord_0 rfl rfl ?_
  refine gg_bipush K (v := 60) dX0_needRecord_1 (by decide) ?_
  refine gg_callTS 1 6 K T9 k_X0_X0_needRange (x_needRange hl0) dX0_needRecord_3 rfl rfl rfl rfl ⟨rfl, rfl⟩ (fun E u h => ?_) (fun v u h => ?_)
  · obtain ⟨rfl, rfl, h⟩ := h
    exact gx_out K htab (Nat.le_of_ble_eq_true rfl) (Nat.le_of_ble_eq_true rfl) ⟨rfl, Or.inl ⟨rfl, h⟩⟩
  obtain ⟨rfl, rfl, h1⟩ := h
  refine gg_iload_n K (i := 1) dX0_needRecord_6 rfl rfl ?_
  refine gg_aload_n K (i := 0) dX0_needRecord_7 rfl rfl ?_
  refine gX_today K dX0_needRecord_8 ?_
  refine gg_icmp_le K (tgt := 24) dX0_needRecord_11 (by decide) (fun h11 => ?_) (fun h11 => ?_)
  · exact gg_x (gg_vret K hr dX0_needRecord_24 (Nat.le_of_ble_eq_true rfl) (Nat.le_of_ble_eq_true rfl) ⟨rfl, rfl, h1, h11⟩)
  · exact gg_throw_eB K T9 hl0 htab (is := 138) (text := "record") (by decide) dX0_needRecord_14 dX0_needRecord_17 dX0_needRecord_18 dX0_needRecord_20 dX0_needRecord_23 rfl rfl (Nat.le_of_ble_eq_true rfl) (Nat.le_of_ble_eq_true rfl) ⟨rfl, Or.inr ⟨rfl, h1, h11⟩⟩
set_option maxRecDepth 100000 in
theorem x_recordDraft {l : Launch} {Z : ZT} {X : XT} {k kp dr : Nat → Int32} {td : Int32} {T : Nat} (hl0 : l.stackTraces = false) (t9 key : Nat) {x y : Int32} (ok : okX kp T) (ht : td = nI T) (ht9 : t9 < 2) (hk : key < 8) (hdr : t9 = 1 → ∀ d, d < 60 → dr d = -1 ∨ ∃ j, dr d = nI j ∧ j < 8) (hx : x = nI t9) (hy : y = nI key) : mX l Z.1 (ty3 Z) yX0_recordDraft (.code yX0_recordDraft cX0_recordDraft 6 (some .int)) (rmk 7 120 1 6) (wX Z X k kp dr td) [.ref X.1, .int x, .int y]
    (fun r u => keepP (vX k kp T) T dr t9 key ∧ r = some (.int (nI (fb_ct (fun d => bP (¬ vX k kp T T (t9 * 8 + key) d = dr d)) 60))) ∧ ∃ k', u = wX Z X k' kp dr td ∧ vX k' kp T = updR (vX k kp T) T (t9 * 8 + key) dr 0 60) (fun E u => E = eS ∧ u = wX Z X k kp dr td ∧ ¬ keepP (vX k kp T) T dr t9 key) := by
  refine mX_intro (own := RX0) [(0, .ref X.1), (1, .int x), (2, .int y)] (by decide +kernel) rfl rfl rfl rfl ?_
  intro p e s m args below meth c A K hr T9 htab
  have o1 := ok.1
  subst hx hy
  refine gg_aload_n K (i := 0) dX0_recordDraft_0 rfl rfl ?_
  refine gg_iload_n K (i := 1) dX0_recordDraft_1 rfl rfl ?_
  refine gg_iload_n K (i := 2) dX0_recordDraft_2 rfl rfl ?_
  refine gg_callRX K k_X0_X0_draftKeepsReferences (x_draftKeeps t9 key ok ht ht9 hdr rfl rfl) dX0_recordDraft_3 rfl rfl rfl rfl ⟨rfl, rfl⟩ ?_
  refine gg_b_ne K (tgt := 19) dX0_recordDraft_6 (by decide) (fun h6 => ?_) (fun h6 => ?_)
  rotate_left
  · exact gg_throw_eS K T9 hl0 htab (is := 153) (text := "references") (by decide) dX0_recordDraft_9 dX0_recordDraft_12 dX0_recordDraft_13 dX0_recordDraft_15 dX0_recordDraft_18 rfl rfl (Nat.le_of_ble_eq_true rfl) (Nat.le_of_ble_eq_true rfl) ⟨rfl, rfl, bP_nf h6⟩
  have hkeep := bP_iff.mp h6
  refine gg_iload_n K (i := 1) dX0_recordDraft_19 rfl rfl ?_
  refine gg_iload_n K (i := 2) dX0_recordDraft_20 rfl rfl ?_
  refine gg_callSR K k_X0_X0_line (x_line t9 key rfl rfl) dX0_recordDraft_21 rfl rfl rfl rfl ⟨rfl, rfl⟩ ?_
  refine gg_istore_n K (i := 3) dX0_recordDraft_24 rfl (by decide) ?_
  refine gg_iconst K (v := 0) dX0_recordDraft_25 (by decide) ?_
  refine gg_istore K dX0_recordDraft_26 (by decide) ?_
  refine gg_iconst K (v := 0) dX0_recordDraft_28 (by decide) ?_
  refine gg_istore K dX0_recordDraft_29 (by decide) ?_
  refine gg_sub (L' := [(5, .int (nI 0)), (4, .int (nI 0)), (3, .int (nI (t9 * 8 + key))), (0, .ref X.1), (1, .int (nI t9)), (2, .int (nI key))]) ⟨rfl, rfl, rfl, rfl, rfl, rfl, trivial⟩ ?_
  refine gg_loop (fun i w L => ∃ (j b : Nat) (k' : Nat → Int32), j + i = 61 ∧ w = wX Z X k' kp dr td ∧ L = [(5, .int (nI j)), (4, .int (nI b)), (3, .int (nI (t9 * 8 + key))), (0, .ref X.1), (1, .int (nI t9)), (2, .int (nI key))] ∧ j ≤ 60 ∧ b = fb_ct ((fun d => bP (¬ vX k kp T T (t9 * 8 + key) d = dr d))) j ∧ vX k' kp T = updR (vX k kp T) T (t9 * 8 + key) dr 0 j) (fun w L h => ?_) (fun i w L h ih => ?_) 61 _ _ ⟨0, 0, k, rfl, rfl, rfl, by omega, rfl, (updR_0 _ _ _ _ _).symm⟩
  · obtain ⟨j, b, k', hj, -, -, h2, -⟩ := h
    omega
  · obtain ⟨j, b, k', hj, rfl, rfl, -, hb, he⟩ := h
    refine gg_iload K dX0_recordDraft_31 rfl ?_
    refine gg_bipush K (v := 60) dX0_recordDraft_33 (by decide) ?_
    refine gg_icmp_ge K (tgt := 82) dX0_recordDraft_35 (by decide) (fun h35 => ?_) (fun h35 => ?_)
    · have hj2 := i_le (a := 60) h35
      have hj3 : j = 60 := by omega
      subst hj3
      refine gg_iload K dX0_recordDraft_82 rfl ?_
      exact gg_x (gg_iret K hr dX0_recordDraft_84 (Nat.le_of_ble_eq_true rfl) (Nat.le_of_ble_eq_true rfl) ⟨hkeep, some_int (by rw [hb]), k', rfl, he⟩)
    have hj2 := i_nle (a := 60) h35
    refine gg_aload_n K (i := 0) dX0_recordDraft_38 rfl rfl ?_
    refine gg_aload_n K (i := 0) dX0_recordDraft_39 rfl rfl ?_
    refine gX_today K dX0_recordDraft_40 ?_
    refine gg_iload_n K (i := 3) dX0_recordDraft_43 rfl rfl ?_
    refine gg_iload K dX0_recordDraft_44 rfl ?_
    refine gg_callRX K k_X0_X0_knownOn (x_knownOn T (t9 * 8 + key) j ok (Nat.le_refl T) (by omega) hj2 ht rfl rfl) dX0_recordDraft_46 rfl rfl rfl rfl ⟨rfl, rfl⟩ ?_
    refine gg_aload_n K (i := 0) dX0_recordDraft_49 rfl rfl ?_
    refine gX_draft K dX0_recordDraft_50 ?_
    refine gg_iload K dX0_recordDraft_53 rfl ?_
    refine gX_ld_draft j K rfl hj2 dX0_recordDraft_55 ?_
    have hat : vX k' kp T T (t9 * 8 + key) j = vX k kp T T (t9 * 8 + key) j := by rw [he]; exact updR_at (Nat.le_refl j)
    refine gg_icmp_eq K (tgt := 76) dX0_recordDraft_56 (by decide) (fun h56 => ?_) (fun h56 => ?_)
    · rw [hat] at h56
      refine gg_iinc K (v := nI (j + 1)) dX0_recordDraft_76 rfl (nI_inc (j)) (by decide) ?_
      refine gg_goto K (tgt := 31) dX0_recordDraft_79 (by decide) ?_
      refine gg_sub (L' := [(5, .int (nI (j + 1))), (4, .int (nI b)), (3, .int (nI (t9 * 8 + key))), (0, .ref X.1), (1, .int (nI t9)), (2, .int (nI key))]) ⟨rfl, rfl, rfl, rfl, rfl, rfl, trivial⟩ ?_
      refine ih _ _ ⟨j + 1, b, k', by omega, rfl, rfl, by omega, ?_, ?_⟩
      · rw [fb_ct_succ, bP_f (fun q => q h56), ← hb]; rfl
      · rw [he]; exact updR_skip (Nat.zero_le j) h56
    · rw [hat] at h56
      refine gg_aload_n K (i := 0) dX0_recordDraft_59 rfl rfl ?_
      refine gg_iload_n K (i := 3) dX0_recordDraft_60 rfl rfl ?_
      refine gg_iload K dX0_recordDraft_61 rfl ?_
      refine gg_aload_n K (i := 0) dX0_recordDraft_63 rfl rfl ?_
      refine gX_draft K dX0_recordDraft_64 ?_
      refine gg_iload K dX0_recordDraft_67 rfl ?_
      refine gX_ld_draft j K rfl hj2 dX0_recordDraft_69 ?_
      refine gg_callUX K k_X0_X0_recordToday (x_recordToday (t9 * 8 + key) j ok ht (by omega) hj2 rfl rfl) dX0_recordDraft_70 rfl rfl rfl rfl ⟨rfl, rfl⟩ (fun v u h => ?_)
      obtain ⟨rfl, rfl⟩ := h
      refine gg_iinc K (v := nI (b + 1)) dX0_recordDraft_73 rfl (nI_inc (b)) (by decide) ?_
      refine gg_iinc K (v := nI (j + 1)) dX0_recordDraft_76 rfl (nI_inc (j)) (by decide) ?_
      refine gg_goto K (tgt := 31) dX0_recordDraft_79 (by decide) ?_
      refine gg_sub (L' := [(5, .int (nI (j + 1))), (4, .int (nI (b + 1))), (3, .int (nI (t9 * 8 + key))), (0, .ref X.1), (1, .int (nI t9)), (2, .int (nI key))]) ⟨rfl, rfl, rfl, rfl, rfl, rfl, trivial⟩ ?_
      refine ih _ _ ⟨j + 1, b + 1, _, by omega, rfl, rfl, by omega, ?_, ?_⟩
      · rw [fb_ct_succ, bP_t h56, ← hb]; rfl
      · rw [vX_upd ok (by omega) hj2, he]; exact updR_step (Nat.zero_le j)
end
section
/-! Twotimes: the questions that change nothing, from their first instruction -/
abbrev nN (x : Int32) : Nat := x.toNatClampNeg
theorem inR_N {x : Int32} {b : Nat} (h : inR x (nI b)) (hb : b < 2 ^ 31 := by omega) : nN x < b ∧ x = nI (nN x) := by
  obtain ⟨j, h1, h2⟩ := inR_nat h
  have e : nN x = j := by rw [h2]; exact nI_clamp (by omega)
  rw [e]
  exact ⟨h1, h2⟩
theorem leT {x : Int32} {T : Nat} (h2 : x = nI (nN x)) (h1 : nN x < 60) (hT : T < 60) (h : x ≤ nI T) : nN x ≤ T := by
  rw [h2] at h
  exact i_le h
/-- what a call may answer: its code (0: it returns), its answer, the table of values and today behind it -/
abbrev ST : Type := Int32 → Int32 → VT → Nat → Prop
def qS (V : VT) (T : Nat) (P1 P2 : Prop) (r0 : Int32) : ST := fun c r V' T' => V' = V ∧ T' = T ∧ ((¬ P1 ∧ c = 1) ∨ (P1 ∧ ¬ P2 ∧ c = 2) ∨ (P1 ∧ P2 ∧ c = 0 ∧ r = r0))
def xPost (Z : ZT) (X : XT) (S : ST) : Option Value → va_W → Prop := fun ret u => ∃ (r : Int32) (k' kp' dr' : Nat → Int32) (T' : Nat), ret = some (.int r) ∧ u = wX Z X k' kp' dr' (nI T') ∧ okX kp' T' ∧ S 0 r (vX k' kp' T') T'
def xErr (Z : ZT) (X : XT) (S : ST) (codes : List (String × Int32)) : String → va_W → Prop := fun E u => ∃ (c : Int32) (k' kp' dr' : Nat → Int32) (T' : Nat), (E, c) ∈ codes ∧ u = wX Z X k' kp' dr' (nI T') ∧ okX kp' T' ∧ S c 0 (vX k' kp' T') T'
def cAB : List (String × Int32) := [(eA, 1), (eB, 2)]
def cAS : List (String × Int32) := [(eA, 1), (eS, 2)]
def cA1 : List (String × Int32) := [(eA, 1)]
def cABS : List (String × Int32) := [(eA, 1), (eB, 2), (eS, 3)]
theorem qE1 {Z : ZT} {X : XT} {k kp dr : Nat → Int32} {T : Nat} {P1 P2 : Prop} {r0 : Int32} {codes : List (String × Int32)} (ok : okX kp T) (h : ¬ P1) (hm : (eA, 1) ∈ codes) : xErr Z X (qS (vX k kp T) T P1 P2 r0) codes eA (wX Z X k kp dr (nI T)) := ⟨1, k, kp, dr, T, hm, rfl, ok, rfl, rfl, Or.inl ⟨h, rfl⟩⟩
theorem qE2 {Z : ZT} {X : XT} {k kp dr : Nat → Int32} {T : Nat} {P1 P2 : Prop} {r0 : Int32} {codes : List (String × Int32)} {E : String} (ok : okX kp T) (h1 : P1) (h : ¬ P2) (hm : (E, 2) ∈ codes) : xErr Z X (qS (vX k kp T) T P1 P2 r0) codes E (wX Z X k kp dr (nI T)) := ⟨2, k, kp, dr, T, hm, rfl, ok, rfl, rfl, Or.inr (Or.inl ⟨h1, h, rfl⟩)⟩
theorem qOk {Z : ZT} {X : XT} {k kp dr : Nat → Int32} {T : Nat} {P1 P2 : Prop} {r r0 : Int32} (ok : okX kp T) (h1 : P1) (h2 : P2) (e : r = r0) : xPost Z X (qS (vX k kp T) T P1 P2 r0) (some (.int r)) (wX Z X k kp dr (nI T)) := ⟨r, k, kp, dr, T, rfl, rfl, ok, rfl, rfl, Or.inr (Or.inr ⟨h1, h2, rfl, e⟩)⟩
set_option maxRecDepth 100000 in
theorem x_today {l : Launch} {Z : ZT} {X : XT} {k kp dr : Nat → Int32} {T : Nat} : mR l Z yX0_today cX0_today 1 (some .int) (rmk 0 0 0 0) (wX Z X k kp dr (nI T)) [.ref X.1] (.int (nI T)) := by
  refine mA_intro (own := RX0) [(0, .ref X.1)] (by decide +kernel) rfl rfl rfl rfl ?_
  intro p e s m args below meth c A K hr hin
  refine gg_aload_n K (i := 0) dX0_today_0 rfl rfl ?_
  refine gX_today K dX0_today_1 ?_
  exact gg_iret K hr dX0_today_4 (Nat.le_of_ble_eq_true rfl) (Nat.le_of_ble_eq_true rfl) ⟨rfl, rfl⟩
set_option maxRecDepth 100000 in
theorem x_value {l : Launch} {Z : ZT} {X : XT} {k kp dr : Nat → Int32} {T : Nat} (hl0 : l.stackTraces = false) (ok : okX kp T) {t y d q : Int32} : mX l Z.1 (ty3 Z) yX0_value (.code yX0_value cX0_value 5 (some .int)) (rmk 9 200 8 48) (wX Z X k kp dr (nI T)) [.ref X.1, .int t, .int y, .int d, .int q] (xPost Z X ((qS (vX k kp T) T (inR t 2 ∧ inR y 8 ∧ inR d 60 ∧ inR q 60) (q ≤ nI T) (vX k kp T (nN q) (nN t * 8 + nN y) (nN d))))) (xErr Z X ((qS (vX k kp T) T (inR t 2 ∧ inR y 8 ∧ inR d 60 ∧ inR q 60) (q ≤ nI T) (vX k kp T (nN q) (nN t * 8 + nN y) (nN d)))) cAB) := by
  refine mX_intro (own := RX0) [(0, .ref X.1), (1, .int t), (2, .int y), (3, .int d), (4, .int q)] (by decide +kernel) rfl rfl rfl rfl ?_
  intro p e s m args below meth c A K hr T9 htab
  refine gg_iload_n K (i := 1) dX0_value_0 rfl rfl ?_
  refine gg_iload_n K (i := 2) dX0_value_1 rfl rfl ?_
  refine gg_callTS 2 12 K T9 k_X0_X0_needTableAndKey (x_needTK hl0) dX0_value_2 rfl rfl rfl rfl ⟨rfl, rfl⟩ (fun E u h => ?_) (fun v u h => ?_)
  · obtain ⟨rfl, rfl, h⟩ := h
    exact gx_out K htab (Nat.le_of_ble_eq_true rfl) (Nat.le_of_ble_eq_true rfl) (qE1 ok (fun z => h ⟨z.1, z.2.1⟩) (by decide))
  obtain ⟨rfl, rfl, h1⟩ := h
  refine gg_iload_n K (i := 3) dX0_value_5 rfl rfl ?_
  refine gg_bipush K (v := 60) dX0_value_6 (by decide) ?_
  refine gg_callTS 3 18 K T9 k_X0_X0_needRange (x_needRange hl0) dX0_value_8 rfl rfl rfl rfl ⟨rfl, rfl⟩ (fun E u h => ?_) (fun v u h => ?_)
  · obtain ⟨rfl, rfl, h⟩ := h
    exact gx_out K htab (Nat.le_of_ble_eq_true rfl) (Nat.le_of_ble_eq_true rfl) (qE1 ok (fun z => h z.2.2.1) (by decide))
  obtain ⟨rfl, rfl, h2⟩ := h
  refine gg_aload_n K (i := 0) dX0_value_11 rfl rfl ?_
  refine gg_iload K dX0_value_12 rfl ?_
  refine gg_callTX 5 30 K T9 k_X0_X0_needRecord (x_needRecord hl0) dX0_value_14 rfl rfl rfl rfl ⟨rfl, rfl⟩ (fun E u h => ?_) (fun v u h => ?_)
  · obtain ⟨rfl, ⟨rfl, h⟩ | ⟨rfl, h, h'⟩⟩ := h
    · exact gx_out K htab (Nat.le_of_ble_eq_true rfl) (Nat.le_of_ble_eq_true rfl) (qE1 ok (fun z => h z.2.2.2) (by decide))
    · exact gx_out K htab (Nat.le_of_ble_eq_true rfl) (Nat.le_of_ble_eq_true rfl) (qE2 ok ⟨h1.1, h1.2, h2, h⟩ h' (by decide))
  obtain ⟨rfl, rfl, h3, h4⟩ := h
  have ⟨a1, a2⟩ := inR_N (b := 2) h1.1
  have ⟨b1, b2⟩ := inR_N (b := 8) h1.2
  have ⟨d1, d2⟩ := inR_N (b := 60) h2
  have ⟨q1, q2⟩ := inR_N (b := 60) h3
  refine gg_aload_n K (i := 0) dX0_value_17 rfl rfl ?_
  refine gg_iload K dX0_value_18 rfl ?_
  refine gg_iload_n K (i := 1) dX0_value_20 rfl rfl ?_
  refine gg_iload_n K (i := 2) dX0_value_21 rfl rfl ?_
  refine gg_callSR K k_X0_X0_line (x_line (nN t) (nN y) a2 b2) dX0_value_22 rfl rfl rfl rfl ⟨rfl, rfl⟩ ?_
  refine gg_iload_n K (i := 3) dX0_value_25 rfl rfl ?_
  refine gg_callRX K k_X0_X0_knownOn (x_knownOn (nN q) (nN t * 8 + nN y) (nN d) ok (leT q2 q1 ok.1 h4) (by omega) d1 q2 rfl d2) dX0_value_26 rfl rfl rfl rfl ⟨rfl, rfl⟩ ?_
  exact gg_x (gg_iret K hr dX0_value_29 (Nat.le_of_ble_eq_true rfl) (Nat.le_of_ble_eq_true rfl) (qOk ok ⟨h1.1, h1.2, h2, h3⟩ h4 rfl))
def kyF (g : Nat → Int32) : Nat → Int32
  | 0 => 0
  | n + 1 => if g n = -1 then kyF g n else kyF g n ||| (1 <<< (nI n &&& 31))
set_option maxRecDepth 100000 in
theorem x_keys {l : Launch} {Z : ZT} {X : XT} {k kp dr : Nat → Int32} {T : Nat} (hl0 : l.stackTraces = false) (ok : okX kp T) {t d q : Int32} : mX l Z.1 (ty3 Z) yX0_keys (.code yX0_keys cX0_keys 6 (some .int)) (rmk 9 200 8 48) (wX Z X k kp dr (nI T)) [.ref X.1, .int t, .int d, .int q] (xPost Z X ((qS (vX k kp T) T (inR t 2 ∧ inR d 60 ∧ inR q 60) (q ≤ nI T) (kyF (fun i => vX k kp T (nN q) (nN t * 8 + i) (nN d)) 8)))) (xErr Z X ((qS (vX k kp T) T (inR t 2 ∧ inR d 60 ∧ inR q 60) (q ≤ nI T) (kyF (fun i => vX k kp T (nN q) (nN t * 8 + i) (nN d)) 8))) cAB) := by
  refine mX_intro (own := RX0) [(0, .ref X.1), (1, .int t), (2, .int d), (3, .int q)] (by decide +kernel) rfl rfl rfl rfl ?_
  intro p e s m args below meth c A K hr T9 htab
  refine gg_iload_n K (i := 1) dX0_keys_0 rfl rfl ?_
  refine gg_iconst K (v := 2) dX0_keys_1 (by decide) ?_
  refine gg_callTS 1 6 K T9 k_X0_X0_needRange (x_needRange hl0) dX0_keys_2 rfl rfl rfl rfl ⟨rfl, rfl⟩ (fun E u h => ?_) (fun v u h => ?_)
  · obtain ⟨rfl, rfl, h⟩ := h
    exact gx_out K htab (Nat.le_of_ble_eq_true rfl) (Nat.le_of_ble_eq_true rfl) (qE1 ok (fun z => h z.1) (by decide))
  obtain ⟨rfl, rfl, h1⟩ := h
  refine gg_iload_n K (i := 2) dX0_keys_5 rfl rfl ?_
  refine gg_bipush K (v := 60) dX0_keys_6 (by decide) ?_
  refine gg_callTS 2 12 K T9 k_X0_X0_needRange (x_needRange hl0) dX0_keys_8 rfl rfl rfl rfl ⟨rfl, rfl⟩ (fun E u h => ?_) (fun v u h => ?_)
  · obtain ⟨rfl, rfl, h⟩ := h
    exact gx_out K htab (Nat.le_of_ble_eq_true rfl) (Nat.le_of_ble_eq_true rfl) (qE1 ok (fun z => h z.2.1) (by decide))
  obtain ⟨rfl, rfl, h2⟩ := h
  refine gg_aload_n K (i := 0) dX0_keys_11 rfl rfl ?_
  refine gg_iload_n K (i := 3) dX0_keys_12 rfl rfl ?_
  refine gg_callTX 4 24 K T9 k_X0_X0_needRecord (x_needRecord hl0) dX0_keys_13 rfl rfl rfl rfl ⟨rfl, rfl⟩ (fun E u h => ?_) (fun v u h => ?_)
  · obtain ⟨rfl, ⟨rfl, h⟩ | ⟨rfl, h, h'⟩⟩ := h
    · exact gx_out K htab (Nat.le_of_ble_eq_true rfl) (Nat.le_of_ble_eq_true rfl) (qE1 ok (fun z => h z.2.2) (by decide))
    · exact gx_out K htab (Nat.le_of_ble_eq_true rfl) (Nat.le_of_ble_eq_true rfl) (qE2 ok ⟨h1, h2, h⟩ h' (by decide))
  obtain ⟨rfl, rfl, h3, h4⟩ := h
  have ⟨a1, a2⟩ := inR_N (b := 2) h1
  have ⟨d1, d2⟩ := inR_N (b := 60) h2
  have ⟨q1, q2⟩ := inR_N (b := 60) h3
  refine gg_iconst K (v := 0) dX0_keys_16 (by decide) ?_
  refine gg_istore K dX0_keys_17 (by decide) ?_
  refine gg_iconst K (v := 0) dX0_keys_19 (by decide) ?_
  refine gg_istore K dX0_keys_20 (by decide) ?_
  refine gg_sub (L' := [(5, .int (nI 0)), (4, .int 0), (0, .ref X.1), (1, .int t), (2, .int d), (3, .int q)]) ⟨rfl, rfl, rfl, rfl, rfl, rfl, trivial⟩ ?_
  refine gg_loop (fun i w L => ∃ (j : Nat), j + i = 9 ∧ w = wX Z X k kp dr (nI T) ∧ j ≤ 8 ∧ L = [(5, .int (nI j)), (4, .int ((kyF (fun i => vX k kp T (nN q) (nN t * 8 + i) (nN d)) j))), (0, .ref X.1), (1, .int t), (2, .int d), (3, .int q)]) (fun w L h => ?_) (fun i w L h ih => ?_) 9 _ _ ⟨0, rfl, rfl, by omega, rfl⟩
  · obtain ⟨j, hj, -, h2, -⟩ := h
    omega
  · obtain ⟨j, hj, rfl, -, rfl⟩ := h
    refine gg_iload K dX0_keys_22 rfl ?_
    refine gg_bipush K (v := 8) dX0_keys_24 (by decide) ?_
    refine gg_icmp_ge K (tgt := 60) dX0_keys_26 (by decide) (fun h26 => ?_) (fun h26 => ?_)
    · have hj2 := i_le (a := 8) h26
      have hj3 : j = 8 := by omega
      subst hj3
      refine gg_iload K dX0_keys_60 rfl ?_
      exact gg_x (gg_iret K hr dX0_keys_62 (Nat.le_of_ble_eq_true rfl) (Nat.le_of_ble_eq_true rfl) (qOk ok ⟨h1, h2, h3⟩ h4 rfl))
    have hj2 := i_nle (a := 8) h26
    refine gg_aload_n K (i := 0) dX0_keys_29 rfl rfl ?_
    refine gg_iload_n K (i := 3) dX0_keys_30 rfl rfl ?_
    refine gg_iload_n K (i := 1) dX0_keys_31 rfl rfl ?_
    refine gg_iload K dX0_keys_32 rfl ?_
    refine gg_callSR K k_X0_X0_line (x_line (nN t) j a2 rfl) dX0_keys_34 rfl rfl rfl rfl ⟨rfl, rfl⟩ ?_
    refine gg_iload_n K (i := 2) dX0_keys_37 rfl rfl ?_
    refine gg_callRX K k_X0_X0_knownOn (x_knownOn (nN q) (nN t * 8 + j) (nN d) ok (leT q2 q1 ok.1 h4) (by omega) d1 q2 rfl d2) dX0_keys_38 rfl rfl rfl rfl ⟨rfl, rfl⟩ ?_
    refine gg_iconst K (v := (-1)) dX0_keys_41 (by decide) ?_
    refine gg_icmp_eq K (tgt := 54) dX0_keys_42 (by decide) (fun h42 => ?_) (fun h42 => ?_)
    · refine gg_iinc K (v := nI (j + 1)) dX0_keys_54 rfl (nI_inc (j)) (by decide) ?_
      refine gg_goto K (tgt := 22) dX0_keys_57 (by decide) ?_
      refine gg_sub (L' := [(5, .int (nI (j + 1))), (4, .int ((kyF (fun i => vX k kp T (nN q) (nN t * 8 + i) (nN d)) j))), (0, .ref X.1), (1, .int t), (2, .int d), (3, .int q)]) ⟨rfl, rfl, rfl, rfl, rfl, rfl, trivial⟩ ?_
      exact ih _ _ ⟨j + 1, by omega, rfl, by omega, by rw [show kyF (fun i => vX k kp T (nN q) (nN t * 8 + i) (nN d)) (j + 1) = kyF (fun i => vX k kp T (nN q) (nN t * 8 + i) (nN d)) j from if_pos h42]⟩
    · refine gg_iload K dX0_keys_45 rfl ?_
      refine gg_iconst K (v := 1) dX0_keys_47 (by decide) ?_
      refine gg_iload K dX0_keys_48 rfl ?_
      refine gg_ishl K dX0_keys_50 ?_
      refine gg_ior K dX0_keys_51 ?_
      refine gg_istore K dX0_keys_52 (by decide) ?_
      refine gg_iinc K (v := nI (j + 1)) dX0_keys_54 rfl (nI_inc (j)) (by decide) ?_
      refine gg_goto K (tgt := 22) dX0_keys_57 (by decide) ?_
      refine gg_sub (L' := [(5, .int (nI (j + 1))), (4, .int ((kyF (fun i => vX k kp T (nN q) (nN t * 8 + i) (nN d)) j ||| (1 <<< (nI j &&& 31))))), (0, .ref X.1), (1, .int t), (2, .int d), (3, .int q)]) ⟨rfl, rfl, rfl, rfl, rfl, rfl, trivial⟩ ?_
      exact ih _ _ ⟨j + 1, by omega, rfl, by omega, by rw [show kyF (fun i => vX k kp T (nN q) (nN t * 8 + i) (nN d)) (j + 1) = _ from if_neg h42]⟩
set_option maxRecDepth 100000 in
theorem x_joined {l : Launch} {Z : ZT} {X : XT} {k kp dr : Nat → Int32} {T : Nat} (hl0 : l.stackTraces = false) (ok : okX kp T) (hv : valOk (vX k kp T) T) {y d q : Int32} : mX l Z.1 (ty3 Z) yX0_joined (.code yX0_joined cX0_joined 4 (some .int)) (rmk 9 200 8 48) (wX Z X k kp dr (nI T)) [.ref X.1, .int y, .int d, .int q] (xPost Z X ((qS (vX k kp T) T (inR y 8 ∧ inR d 60 ∧ inR q 60) (q ≤ nI T) (jnF (vX k kp T) (nN q) (nN y) (nN d))))) (xErr Z X ((qS (vX k kp T) T (inR y 8 ∧ inR d 60 ∧ inR q 60) (q ≤ nI T) (jnF (vX k kp T) (nN q) (nN y) (nN d)))) cAB) := by
  refine mX_intro (own := RX0) [(0, .ref X.1), (1, .int y), (2, .int d), (3, .int q)] (by decide +kernel) rfl rfl rfl rfl ?_
  intro p e s m args below meth c A K hr T9 htab
  refine gg_iload_n K (i := 1) dX0_joined_0 rfl rfl ?_
  refine gg_bipush K (v := 8) dX0_joined_1 (by decide) ?_
  refine gg_callTS 1 6 K T9 k_X0_X0_needRange (x_needRange hl0) dX0_joined_3 rfl rfl rfl rfl ⟨rfl, rfl⟩ (fun E u h => ?_) (fun v u h => ?_)
  · obtain ⟨rfl, rfl, h⟩ := h
    exact gx_out K htab (Nat.le_of_ble_eq_true rfl) (Nat.le_of_ble_eq_true rfl) (qE1 ok (fun z => h z.1) (by decide))
  obtain ⟨rfl, rfl, h1⟩ := h
  refine gg_iload_n K (i := 2) dX0_joined_6 rfl rfl ?_
  refine gg_bipush K (v := 60) dX0_joined_7 (by decide) ?_
  refine gg_callTS 2 12 K T9 k_X0_X0_needRange (x_needRange hl0) dX0_joined_9 rfl rfl rfl rfl ⟨rfl, rfl⟩ (fun E u h => ?_) (fun v u h => ?_)
  · obtain ⟨rfl, rfl, h⟩ := h
    exact gx_out K htab (Nat.le_of_ble_eq_true rfl) (Nat.le_of_ble_eq_true rfl) (qE1 ok (fun z => h z.2.1) (by decide))
  obtain ⟨rfl, rfl, h2⟩ := h
  refine gg_aload_n K (i := 0) dX0_joined_12 rfl rfl ?_
  refine gg_iload_n K (i := 3) dX0_joined_13 rfl rfl ?_
  refine gg_callTX 4 24 K T9 k_X0_X0_needRecord (x_needRecord hl0) dX0_joined_14 rfl rfl rfl rfl ⟨rfl, rfl⟩ (fun E u h => ?_) (fun v u h => ?_)
  · obtain ⟨rfl, ⟨rfl, h⟩ | ⟨rfl, h, h'⟩⟩ := h
    · exact gx_out K htab (Nat.le_of_ble_eq_true rfl) (Nat.le_of_ble_eq_true rfl) (qE1 ok (fun z => h z.2.2) (by decide))
    · exact gx_out K htab (Nat.le_of_ble_eq_true rfl) (Nat.le_of_ble_eq_true rfl) (qE2 ok ⟨h1, h2, h⟩ h' (by decide))
  obtain ⟨rfl, rfl, h3, h4⟩ := h
  have ⟨a1, a2⟩ := inR_N (b := 8) h1
  have ⟨d1, d2⟩ := inR_N (b := 60) h2
  have ⟨q1, q2⟩ := inR_N (b := 60) h3
  refine gg_aload_n K (i := 0) dX0_joined_17 rfl rfl ?_
  refine gg_iload_n K (i := 3) dX0_joined_18 rfl rfl ?_
  refine gg_iload_n K (i := 1) dX0_joined_19 rfl rfl ?_
  refine gg_iload_n K (i := 2) dX0_joined_20 rfl rfl ?_
  refine gg_callRX K k_X0_X0_joinedOn (x_joinedOn (nN q) (nN y) (nN d) ok hv (leT q2 q1 ok.1 h4) a1 d1 q2 a2 d2) dX0_joined_21 rfl rfl rfl rfl ⟨rfl, rfl⟩ ?_
  exact gg_x (gg_iret K hr dX0_joined_24 (Nat.le_of_ble_eq_true rfl) (Nat.le_of_ble_eq_true rfl) (qOk ok ⟨h1, h2, h3⟩ h4 rfl))
end
section
/-! Twotimes: runs counted, found, the longest; corrections -/
theorem nI_m1 {a : Nat} (h : a < 2 ^ 31) : ¬ nI a = -1 := by
  intro q
  have h1 : (nI a).toInt = (-1 : Int32).toInt := by rw [q]
  rw [nI_toInt h] at h1
  have h2 : (-1 : Int32).toInt = -1 := by decide
  rw [h2] at h1
  omega
theorem fstF_spec (q : Nat → Bool) (run : Int32) : ∀ (n d : Nat), (∃ e, d ≤ e ∧ e < d + n ∧ q e = true ∧ nI (fb_ct q e) = run ∧ fstF q run n d (fb_ct q d) = nI e) ∨ (fstF q run n d (fb_ct q d) = -1 ∧ ∀ e, d ≤ e → e < d + n → q e = true → ¬ nI (fb_ct q e) = run)
  | 0, d => Or.inr ⟨rfl, fun e h1 h2 => absurd h2 (by omega)⟩
  | n + 1, d => by
    unfold fstF
    by_cases hq : q d = true
    · have hs : fb_ct q d + 1 = fb_ct q (d + 1) := by rw [fb_ct_succ, if_pos hq]
      rw [if_pos hq]
      by_cases hb : nI (fb_ct q d) = run
      · rw [if_pos hb]
        exact Or.inl ⟨d, by omega, by omega, hq, hb, rfl⟩
      · rw [if_neg hb, hs]
        rcases fstF_spec q run n (d + 1) with ⟨e, h1, h2, h3, h4, h5⟩ | ⟨h1, h2⟩
        · exact Or.inl ⟨e, by omega, by omega, h3, h4, h5⟩
        · exact Or.inr ⟨h1, fun e h3 h4 h5 => by
            by_cases hed : e = d
            · rw [hed]; exact hb
            · exact h2 e (by omega) (by omega) h5⟩
    · have hs : fb_ct q d = fb_ct q (d + 1) := by rw [fb_ct_succ, if_neg hq]; rfl
      rw [if_neg hq, hs]
      rcases fstF_spec q run n (d + 1) with ⟨e, h1, h2, h3, h4, h5⟩ | ⟨h1, h2⟩
      · exact Or.inl ⟨e, by omega, by omega, h3, h4, h5⟩
      · exact Or.inr ⟨h1, fun e h3 h4 h5 => by
          by_cases hed : e = d
          · exact absurd (hed ▸ h5) hq
          · exact h2 e (by omega) (by omega) h5⟩
/-- the place with j such places ahead of it -/
noncomputable def kthD (q : Nat → Bool) (j : Nat) : Nat → Nat
  | 0 => 0
  | n + 1 => if bP (q n = true ∧ fb_ct q n = j) = true then n else kthD q j n
theorem kthD_eq {q : Nat → Bool} {j e : Nat} (h1 : q e = true) (h2 : fb_ct q e = j) : ∀ {n : Nat}, e < n → kthD q j n = e
  | 0, h => absurd h (by omega)
  | n + 1, h => by
    unfold kthD
    by_cases hq : q n = true ∧ fb_ct q n = j
    · rw [if_pos (bP_t hq)]
      exact fb_ct_kth_one hq.1 h1 (hq.2.trans h2.symm)
    · rw [if_neg (fun z => hq (bP_iff.mp z))]
      exact kthD_eq h1 h2 (by
        by_cases he : e = n
        · exact absurd (by rw [← he]; exact ⟨h1, h2⟩) hq
        · omega)
def lgF (f : Nat → Int32) : Nat → Nat
  | 0 => 0
  | n + 1 => if stF f n = true then (if lgF f n < endF f n - n then endF f n - n else lgF f n) else lgF f n
theorem lgF_le (f : Nat → Int32) : ∀ {n : Nat}, n ≤ 60 → lgF f n ≤ 60
  | 0, _ => Nat.zero_le _
  | n + 1, h => by
    unfold lgF
    have h1 := lgF_le f (n := n) (by omega)
    have h2 := endF_le (f := f) (d := n) (by omega)
    split
    · split <;> omega
    · exact h1
section
variable {p : Program} {l : Launch} {e : Env} {R : Room} {s : State} {m : MethodId} {args : Array Value} {below : List Frame} {meth : Method} {c : Code} {D : va_G} {A : Nat → Prop} {tys : List (ClassId × FieldType)} {cc : ByteArray} {n cells slots pc : Nat} {Q : State → Prop} {ws : va_W} {L : List (Nat × Value)} {st : List Value}
theorem gg_mmax {x y : Int32} (K : kx p s m args meth c D A tys cc RX0 n) (hd : decode cc pc = .ok (.invokestatic 127, 3)) (hR : (Nat.ble 1 R.frames && (Nat.ble 21 R.locals && (Nat.ble cells R.cells && Nat.ble slots R.slots))) = true) (hw : c8 st = true) (k : gg p l e R s m args below meth c D A n cells slots Q ws (pc + 3) L (.int (if x < y then y else x) :: st)) : gg p l e R s m args below meth c D A n cells slots Q ws pc L (.int y :: .int x :: st) := by
  intro H locs ls hP hD hS hl
  simp only [Bool.and_eq_true] at hR
  obtain ⟨r1, r2, r3, r4⟩ := hR
  have r1 := Nat.le_of_ble_eq_true r1
  have r2 := Nat.le_of_ble_eq_true r2
  have r3 := Nat.le_of_ble_eq_true r3
  have r4 := Nat.le_of_ble_eq_true r4
  have hw := Nat.le_of_ble_eq_true hw
  exact va_mmax K.1.1 K.1.2.1 (K.1.2.2.1.trans hl.1.symm) K.1.2.2.2.1 (K.1.2.2.2.2 _ wd_168) (K.1.2.2.2.2 _ wd_169) (K.1.2.2.2.2 _ wd_170) (K.1.2.2.2.2 _ wd_171) r1 (by omega) r3 r4 hd (k H locs ls hP hD hS hl)
end
set_option maxRecDepth 100000 in
theorem x_runs {l : Launch} {Z : ZT} {X : XT} {k kp dr : Nat → Int32} {T : Nat} (hl0 : l.stackTraces = false) (ok : okX kp T) {t y q : Int32} : mX l Z.1 (ty3 Z) yX0_runs (.code yX0_runs cX0_runs 7 (some .int)) (rmk 9 200 8 48) (wX Z X k kp dr (nI T)) [.ref X.1, .int t, .int y, .int q] (xPost Z X ((qS (vX k kp T) T (inR t 2 ∧ inR y 8 ∧ inR q 60) (q ≤ nI T) (nI (fb_ct (stF (vX k kp T (nN q) (nN t * 8 + nN y))) 60))))) (xErr Z X ((qS (vX k kp T) T (inR t 2 ∧ inR y 8 ∧ inR q 60) (q ≤ nI T) (nI (fb_ct (stF (vX k kp T (nN q) (nN t * 8 + nN y))) 60)))) cAB) := by
  refine mX_intro (own := RX0) [(0, .ref X.1), (1, .int t), (2, .int y), (3, .int q)] (by decide +kernel) rfl rfl rfl rfl ?_
  intro p e s m args below meth c A K hr T9 htab
  refine gg_iload_n K (i := 1) dX0_runs_0 rfl rfl ?_
  refine gg_iload_n K (i := 2) dX0_runs_1 rfl rfl ?_
  refine gg_callTS 2 12 K T9 k_X0_X0_needTableAndKey (x_needTK hl0) dX0_runs_2 rfl rfl rfl rfl ⟨rfl, rfl⟩ (fun E u h => ?_) (fun v u h => ?_)
  · obtain ⟨rfl, rfl, h⟩ := h
    exact gx_out K htab (Nat.le_of_ble_eq_true rfl) (Nat.le_of_ble_eq_true rfl) (qE1 ok (fun z => h ⟨z.1, z.2.1⟩) (by decide))
  obtain ⟨rfl, rfl, h1⟩ := h
  refine gg_aload_n K (i := 0) dX0_runs_5 rfl rfl ?_
  refine gg_iload_n K (i := 3) dX0_runs_6 rfl rfl ?_
  refine gg_callTX 4 24 K T9 k_X0_X0_needRecord (x_needRecord hl0) dX0_runs_7 rfl rfl rfl rfl ⟨rfl, rfl⟩ (fun E u h => ?_) (fun v u h => ?_)
  · obtain ⟨rfl, ⟨rfl, h⟩ | ⟨rfl, h, h'⟩⟩ := h
    · exact gx_out K htab (Nat.le_of_ble_eq_true rfl) (Nat.le_of_ble_eq_true rfl) (qE1 ok (fun z => h z.2.2) (by decide))
    · exact gx_out K htab (Nat.le_of_ble_eq_true rfl) (Nat.le_of_ble_eq_true rfl) (qE2 ok ⟨h1.1, h1.2, h⟩ h' (by decide))
  obtain ⟨rfl, rfl, h3, h4⟩ := h
  have ⟨a1, a2⟩ := inR_N (b := 2) h1.1
  have ⟨b1, b2⟩ := inR_N (b := 8) h1.2
  have ⟨q1, q2⟩ := inR_N (b := 60) h3
  refine gg_iload_n K (i := 1) dX0_runs_10 rfl rfl ?_
  refine gg_iload_n K (i := 2) dX0_runs_11 rfl rfl ?_
  refine gg_callSR K k_X0_X0_line (x_line (nN t) (nN y) a2 b2) dX0_runs_12 rfl rfl rfl rfl ⟨rfl, rfl⟩ ?_
  refine gg_istore K dX0_runs_15 (by decide) ?_
  refine gg_iconst K (v := 0) dX0_runs_17 (by decide) ?_
  refine gg_istore K dX0_runs_18 (by decide) ?_
  refine gg_iconst K (v := 0) dX0_runs_20 (by decide) ?_
  refine gg_istore K dX0_runs_21 (by decide) ?_
  refine gg_sub (L' := [(6, .int (nI 0)), (5, .int (nI 0)), (4, .int (nI (nN t * 8 + nN y))), (0, .ref X.1), (1, .int t), (2, .int y), (3, .int q)]) ⟨rfl, rfl, rfl, rfl, rfl, rfl, rfl, trivial⟩ ?_
  refine gg_loop (fun i w L => ∃ (j : Nat), j + i = 61 ∧ w = wX Z X k kp dr (nI T) ∧ j ≤ 60 ∧ L = [(6, .int (nI j)), (5, .int (nI ((fb_ct (stF (vX k kp T (nN q) (nN t * 8 + nN y))) j)))), (4, .int (nI (nN t * 8 + nN y))), (0, .ref X.1), (1, .int t), (2, .int y), (3, .int q)]) (fun w L h => ?_) (fun i w L h ih => ?_) 61 _ _ ⟨0, rfl, rfl, by omega, rfl⟩
  · obtain ⟨j, hj, -, h2, -⟩ := h
    omega
  · obtain ⟨j, hj, rfl, -, rfl⟩ := h
    refine gg_iload K dX0_runs_23 rfl ?_
    refine gg_bipush K (v := 60) dX0_runs_25 (by decide) ?_
    refine gg_icmp_ge K (tgt := 51) dX0_runs_27 (by decide) (fun h27 => ?_) (fun h27 => ?_)
    · have hj2 := i_le (a := 60) h27
      have hj3 : j = 60 := by omega
      subst hj3
      refine gg_iload K dX0_runs_51 rfl ?_
      exact gg_x (gg_iret K hr dX0_runs_53 (Nat.le_of_ble_eq_true rfl) (Nat.le_of_ble_eq_true rfl) (qOk ok ⟨h1.1, h1.2, h3⟩ h4 rfl))
    have hj2 := i_nle (a := 60) h27
    refine gg_aload_n K (i := 0) dX0_runs_30 rfl rfl ?_
    refine gg_iload_n K (i := 3) dX0_runs_31 rfl rfl ?_
    refine gg_iload K dX0_runs_32 rfl ?_
    refine gg_iload K dX0_runs_34 rfl ?_
    refine gg_callRX K k_X0_X0_startsRun (x_startsRun (nN q) (nN t * 8 + nN y) j ok (leT q2 q1 ok.1 h4) (by omega) hj2 q2 rfl rfl) dX0_runs_36 rfl rfl rfl rfl ⟨rfl, rfl⟩ ?_
    refine gg_b_eq K (tgt := 45) dX0_runs_39 (by decide) (fun h39 => ?_) (fun h39 => ?_)
    · refine gg_iinc K (v := nI (j + 1)) dX0_runs_45 rfl (nI_inc (j)) (by decide) ?_
      refine gg_goto K (tgt := 23) dX0_runs_48 (by decide) ?_
      refine gg_sub (L' := [(6, .int (nI (j + 1))), (5, .int (nI ((fb_ct (stF (vX k kp T (nN q) (nN t * 8 + nN y))) j)))), (4, .int (nI (nN t * 8 + nN y))), (0, .ref X.1), (1, .int t), (2, .int y), (3, .int q)]) ⟨rfl, rfl, rfl, rfl, rfl, rfl, rfl, trivial⟩ ?_
      exact ih _ _ ⟨j + 1, by omega, rfl, by omega, by rw [fb_ct_succ, h39]; rfl⟩
    · refine gg_iinc K (v := nI (fb_ct (stF (vX k kp T (nN q) (nN t * 8 + nN y))) j + 1)) dX0_runs_42 rfl (nI_inc (fb_ct (stF (vX k kp T (nN q) (nN t * 8 + nN y))) j)) (by decide) ?_
      refine gg_iinc K (v := nI (j + 1)) dX0_runs_45 rfl (nI_inc (j)) (by decide) ?_
      refine gg_goto K (tgt := 23) dX0_runs_48 (by decide) ?_
      refine gg_sub (L' := [(6, .int (nI (j + 1))), (5, .int (nI ((fb_ct (stF (vX k kp T (nN q) (nN t * 8 + nN y))) j + 1)))), (4, .int (nI (nN t * 8 + nN y))), (0, .ref X.1), (1, .int t), (2, .int y), (3, .int q)]) ⟨rfl, rfl, rfl, rfl, rfl, rfl, rfl, trivial⟩ ?_
      exact ih _ _ ⟨j + 1, by omega, rfl, by omega, by rw [fb_ct_succ, h39]; rfl⟩
set_option maxRecDepth 100000 in
theorem x_run {l : Launch} {Z : ZT} {X : XT} {k kp dr : Nat → Int32} {T : Nat} (hl0 : l.stackTraces = false) (ok : okX kp T) {t y q w9 : Int32} : mX l Z.1 (ty3 Z) yX0_run (.code yX0_run cX0_run 7 (some .int)) (rmk 9 200 8 48) (wX Z X k kp dr (nI T)) [.ref X.1, .int t, .int y, .int q, .int w9] (xPost Z X ((qS (vX k kp T) T (inR t 2 ∧ inR y 8 ∧ inR q 60) (q ≤ nI T ∧ ∃ j, j < fb_ct (stF (vX k kp T (nN q) (nN t * 8 + nN y))) 60 ∧ w9 = nI j) (runN (vX k kp T (nN q) (nN t * 8 + nN y)) (kthD (stF (vX k kp T (nN q) (nN t * 8 + nN y))) (nN w9) 60))))) (xErr Z X ((qS (vX k kp T) T (inR t 2 ∧ inR y 8 ∧ inR q 60) (q ≤ nI T ∧ ∃ j, j < fb_ct (stF (vX k kp T (nN q) (nN t * 8 + nN y))) 60 ∧ w9 = nI j) (runN (vX k kp T (nN q) (nN t * 8 + nN y)) (kthD (stF (vX k kp T (nN q) (nN t * 8 + nN y))) (nN w9) 60)))) cAB) := by
  refine mX_intro (own := RX0) [(0, .ref X.1), (1, .int t), (2, .int y), (3, .int q), (4, .int w9)] (by decide +kernel) rfl rfl rfl rfl ?_
  intro p e s m args below meth c A K hr T9 htab
  refine gg_iload_n K (i := 1) dX0_run_0 rfl rfl ?_
  refine gg_iload_n K (i := 2) dX0_run_1 rfl rfl ?_
  refine gg_callTS 2 12 K T9 k_X0_X0_needTableAndKey (x_needTK hl0) dX0_run_2 rfl rfl rfl rfl ⟨rfl, rfl⟩ (fun E u h => ?_) (fun v u h => ?_)
  · obtain ⟨rfl, rfl, h⟩ := h
    exact gx_out K htab (Nat.le_of_ble_eq_true rfl) (Nat.le_of_ble_eq_true rfl) (qE1 ok (fun z => h ⟨z.1, z.2.1⟩) (by decide))
  obtain ⟨rfl, rfl, h1⟩ := h
  refine gg_aload_n K (i := 0) dX0_run_5 rfl rfl ?_
  refine gg_iload_n K (i := 3) dX0_run_6 rfl rfl ?_
  refine gg_callTX 4 24 K T9 k_X0_X0_needRecord (x_needRecord hl0) dX0_run_7 rfl rfl rfl rfl ⟨rfl, rfl⟩ (fun E u h => ?_) (fun v u h => ?_)
  · obtain ⟨rfl, ⟨rfl, h⟩ | ⟨rfl, h, h'⟩⟩ := h
    · exact gx_out K htab (Nat.le_of_ble_eq_true rfl) (Nat.le_of_ble_eq_true rfl) (qE1 ok (fun z => h z.2.2) (by decide))
    · exact gx_out K htab (Nat.le_of_ble_eq_true rfl) (Nat.le_of_ble_eq_true rfl) (qE2 ok ⟨h1.1, h1.2, h⟩ (fun z => h' z.1) (by decide))
  obtain ⟨rfl, rfl, h3, h4⟩ := h
  have ⟨a1, a2⟩ := inR_N (b := 2) h1.1
  have ⟨b1, b2⟩ := inR_N (b := 8) h1.2
  have ⟨q1, q2⟩ := inR_N (b := 60) h3
  refine gg_iload_n K (i := 1) dX0_run_10 rfl rfl ?_
  refine gg_iload_n K (i := 2) dX0_run_11 rfl rfl ?_
  refine gg_callSR K k_X0_X0_line (x_line (nN t) (nN y) a2 b2) dX0_run_12 rfl rfl rfl rfl ⟨rfl, rfl⟩ ?_
  refine gg_istore K dX0_run_15 (by decide) ?_
  refine gg_aload_n K (i := 0) dX0_run_17 rfl rfl ?_
  refine gg_iload_n K (i := 3) dX0_run_18 rfl rfl ?_
  refine gg_iload K dX0_run_19 rfl ?_
  refine gg_iload K dX0_run_21 rfl ?_
  refine gg_callRX K k_X0_X0_firstDayOfRun (x_firstDayOfRun (nN q) (nN t * 8 + nN y) ok (leT q2 q1 ok.1 h4) (by omega) q2 rfl) dX0_run_23 rfl rfl rfl rfl ⟨rfl, rfl⟩ ?_
  have hsp := fstF_spec (stF (vX k kp T (nN q) (nN t * 8 + nN y))) w9 60 0
  rw [show fb_ct (stF (vX k kp T (nN q) (nN t * 8 + nN y))) 0 = 0 from rfl] at hsp
  rcases hsp with ⟨e9, -, e1, e2, e3, e4⟩ | ⟨e1, e2⟩
  · refine gg_top e4 ?_
    refine gg_istore K dX0_run_26 (by decide) ?_
    refine gg_iload K dX0_run_28 rfl ?_
    refine gg_iconst K (v := (-1)) dX0_run_30 (by decide) ?_
    refine gg_icmp_ne K (tgt := 44) dX0_run_31 (by decide) (fun h31 => ?_) (fun h31 => ?_)
    rotate_left
    · exact absurd h31 (nI_m1 (by omega))
    refine gg_aload_n K (i := 0) dX0_run_44 rfl rfl ?_
    refine gg_iload_n K (i := 3) dX0_run_45 rfl rfl ?_
    refine gg_iload K dX0_run_46 rfl ?_
    refine gg_iload K dX0_run_48 rfl ?_
    refine gg_callRX K k_X0_X0_runNumber (x_runNumber (nN q) (nN t * 8 + nN y) e9 ok (leT q2 q1 ok.1 h4) (by omega) (by omega) q2 rfl rfl) dX0_run_50 rfl rfl rfl rfl ⟨rfl, rfl⟩ ?_
    have hc : fb_ct (stF (vX k kp T (nN q) (nN t * 8 + nN y))) e9 < fb_ct (stF (vX k kp T (nN q) (nN t * 8 + nN y))) 60 := by
      have h6 := fb_ct_mono (stF (vX k kp T (nN q) (nN t * 8 + nN y))) (show e9 + 1 ≤ 60 by omega)
      rw [fb_ct_succ, if_pos e2] at h6
      omega
    have hl6 := fb_ct_le (stF (vX k kp T (nN q) (nN t * 8 + nN y))) 60
    refine gg_x (gg_iret K hr dX0_run_53 (Nat.le_of_ble_eq_true rfl) (Nat.le_of_ble_eq_true rfl) (qOk ok ⟨h1.1, h1.2, h3⟩ ⟨h4, _, hc, e3.symm⟩ ?_))
    rw [kthD_eq e2 (show fb_ct (stF (vX k kp T (nN q) (nN t * 8 + nN y))) e9 = nN w9 by rw [← e3]; exact (nI_clamp (by omega)).symm) (by omega)]
  · refine gg_top e1 ?_
    refine gg_istore K dX0_run_26 (by decide) ?_
    refine gg_iload K dX0_run_28 rfl ?_
    refine gg_iconst K (v := (-1)) dX0_run_30 (by decide) ?_
    refine gg_icmp_ne K (tgt := 44) dX0_run_31 (by decide) (fun h31 => ?_) (fun h31 => ?_)
    · exact absurd rfl h31
    exact gg_throw_eB K T9 hl0 htab (is := 93) (text := "run") (by decide) dX0_run_34 dX0_run_37 dX0_run_38 dX0_run_40 dX0_run_43 rfl rfl (Nat.le_of_ble_eq_true rfl) (Nat.le_of_ble_eq_true rfl) (qE2 ok ⟨h1.1, h1.2, h3⟩ (fun z => by
      obtain ⟨-, j, hj, hj2⟩ := z
      obtain ⟨e9, g1, g2, g3⟩ := fb_ct_kth hj
      exact e2 e9 (by omega) (by omega) g2 (by rw [g3, hj2])) (by decide))
set_option maxRecDepth 100000 in
theorem x_joinedRuns {l : Launch} {Z : ZT} {X : XT} {k kp dr : Nat → Int32} {T : Nat} (hl0 : l.stackTraces = false) (ok : okX kp T) (hv : valOk (vX k kp T) T) {y q : Int32} : mX l Z.1 (ty3 Z) yX0_joinedRuns (.code yX0_joinedRuns cX0_joinedRuns 5 (some .int)) (rmk 9 200 8 48) (wX Z X k kp dr (nI T)) [.ref X.1, .int y, .int q] (xPost Z X ((qS (vX k kp T) T (inR y 8 ∧ inR q 60) (q ≤ nI T) (nI (fb_ct (jsF (vX k kp T) (nN q) (nN y)) 60))))) (xErr Z X ((qS (vX k kp T) T (inR y 8 ∧ inR q 60) (q ≤ nI T) (nI (fb_ct (jsF (vX k kp T) (nN q) (nN y)) 60)))) cAB) := by
  refine mX_intro (own := RX0) [(0, .ref X.1), (1, .int y), (2, .int q)] (by decide +kernel) rfl rfl rfl rfl ?_
  intro p e s m args below meth c A K hr T9 htab
  refine gg_iload_n K (i := 1) dX0_joinedRuns_0 rfl rfl ?_
  refine gg_bipush K (v := 8) dX0_joinedRuns_1 (by decide) ?_
  refine gg_callTS 1 6 K T9 k_X0_X0_needRange (x_needRange hl0) dX0_joinedRuns_3 rfl rfl rfl rfl ⟨rfl, rfl⟩ (fun E u h => ?_) (fun v u h => ?_)
  · obtain ⟨rfl, rfl, h⟩ := h
    exact gx_out K htab (Nat.le_of_ble_eq_true rfl) (Nat.le_of_ble_eq_true rfl) (qE1 ok (fun z => h z.1) (by decide))
  obtain ⟨rfl, rfl, h1⟩ := h
  refine gg_aload_n K (i := 0) dX0_joinedRuns_6 rfl rfl ?_
  refine gg_iload_n K (i := 2) dX0_joinedRuns_7 rfl rfl ?_
  refine gg_callTX 3 18 K T9 k_X0_X0_needRecord (x_needRecord hl0) dX0_joinedRuns_8 rfl rfl rfl rfl ⟨rfl, rfl⟩ (fun E u h => ?_) (fun v u h => ?_)
  · obtain ⟨rfl, ⟨rfl, h⟩ | ⟨rfl, h, h'⟩⟩ := h
    · exact gx_out K htab (Nat.le_of_ble_eq_true rfl) (Nat.le_of_ble_eq_true rfl) (qE1 ok (fun z => h z.2) (by decide))
    · exact gx_out K htab (Nat.le_of_ble_eq_true rfl) (Nat.le_of_ble_eq_true rfl) (qE2 ok ⟨h1, h⟩ h' (by decide))
  obtain ⟨rfl, rfl, h3, h4⟩ := h
  have ⟨b1, b2⟩ := inR_N (b := 8) h1
  have ⟨q1, q2⟩ := inR_N (b := 60) h3
  refine gg_iconst K (v := 0) dX0_joinedRuns_11 (by decide) ?_
  refine gg_istore_n K (i := 3) dX0_joinedRuns_12 rfl (by decide) ?_
  refine gg_iconst K (v := 0) dX0_joinedRuns_13 (by decide) ?_
  refine gg_istore K dX0_joinedRuns_14 (by decide) ?_
  refine gg_sub (L' := [(4, .int (nI 0)), (3, .int (nI 0)), (0, .ref X.1), (1, .int y), (2, .int q)]) ⟨rfl, rfl, rfl, rfl, rfl, trivial⟩ ?_
  refine gg_loop (fun i w L => ∃ (j : Nat), j + i = 61 ∧ w = wX Z X k kp dr (nI T) ∧ j ≤ 60 ∧ L = [(4, .int (nI j)), (3, .int (nI ((fb_ct (jsF (vX k kp T) (nN q) (nN y)) j)))), (0, .ref X.1), (1, .int y), (2, .int q)]) (fun w L h => ?_) (fun i w L h ih => ?_) 61 _ _ ⟨0, rfl, rfl, by omega, rfl⟩
  · obtain ⟨j, hj, -, h2, -⟩ := h
    omega
  · obtain ⟨j, hj, rfl, -, rfl⟩ := h
    refine gg_iload K dX0_joinedRuns_16 rfl ?_
    refine gg_bipush K (v := 60) dX0_joinedRuns_18 (by decide) ?_
    refine gg_icmp_ge K (tgt := 43) dX0_joinedRuns_20 (by decide) (fun h20 => ?_) (fun h20 => ?_)
    · have hj2 := i_le (a := 60) h20
      have hj3 : j = 60 := by omega
      subst hj3
      refine gg_iload_n K (i := 3) dX0_joinedRuns_43 rfl rfl ?_
      exact gg_x (gg_iret K hr dX0_joinedRuns_44 (Nat.le_of_ble_eq_true rfl) (Nat.le_of_ble_eq_true rfl) (qOk ok ⟨h1, h3⟩ h4 rfl))
    have hj2 := i_nle (a := 60) h20
    refine gg_aload_n K (i := 0) dX0_joinedRuns_23 rfl rfl ?_
    refine gg_iload_n K (i := 2) dX0_joinedRuns_24 rfl rfl ?_
    refine gg_iload_n K (i := 1) dX0_joinedRuns_25 rfl rfl ?_
    refine gg_iload K dX0_joinedRuns_26 rfl ?_
    refine gg_callRX K k_X0_X0_startsJoinedRun (x_startsJoinedRun (nN q) (nN y) j ok hv (leT q2 q1 ok.1 h4) b1 hj2 q2 b2 rfl) dX0_joinedRuns_28 rfl rfl rfl rfl ⟨rfl, rfl⟩ ?_
    refine gg_b_eq K (tgt := 37) dX0_joinedRuns_31 (by decide) (fun h31 => ?_) (fun h31 => ?_)
    · refine gg_iinc K (v := nI (j + 1)) dX0_joinedRuns_37 rfl (nI_inc (j)) (by decide) ?_
      refine gg_goto K (tgt := 16) dX0_joinedRuns_40 (by decide) ?_
      refine gg_sub (L' := [(4, .int (nI (j + 1))), (3, .int (nI ((fb_ct (jsF (vX k kp T) (nN q) (nN y)) j)))), (0, .ref X.1), (1, .int y), (2, .int q)]) ⟨rfl, rfl, rfl, rfl, rfl, trivial⟩ ?_
      exact ih _ _ ⟨j + 1, by omega, rfl, by omega, by rw [fb_ct_succ, h31]; rfl⟩
    · refine gg_iinc K (v := nI (fb_ct (jsF (vX k kp T) (nN q) (nN y)) j + 1)) dX0_joinedRuns_34 rfl (nI_inc (fb_ct (jsF (vX k kp T) (nN q) (nN y)) j)) (by decide) ?_
      refine gg_iinc K (v := nI (j + 1)) dX0_joinedRuns_37 rfl (nI_inc (j)) (by decide) ?_
      refine gg_goto K (tgt := 16) dX0_joinedRuns_40 (by decide) ?_
      refine gg_sub (L' := [(4, .int (nI (j + 1))), (3, .int (nI ((fb_ct (jsF (vX k kp T) (nN q) (nN y)) j + 1)))), (0, .ref X.1), (1, .int y), (2, .int q)]) ⟨rfl, rfl, rfl, rfl, rfl, trivial⟩ ?_
      exact ih _ _ ⟨j + 1, by omega, rfl, by omega, by rw [fb_ct_succ, h31]; rfl⟩
set_option maxRecDepth 100000 in
theorem x_longest {l : Launch} {Z : ZT} {X : XT} {k kp dr : Nat → Int32} {T : Nat} (hl0 : l.stackTraces = false) (ok : okX kp T) {t y q : Int32} : mX l Z.1 (ty3 Z) yX0_longest (.code yX0_longest cX0_longest 7 (some .int)) (rmk 9 200 8 48) (wX Z X k kp dr (nI T)) [.ref X.1, .int t, .int y, .int q] (xPost Z X ((qS (vX k kp T) T (inR t 2 ∧ inR y 8 ∧ inR q 60) (q ≤ nI T) (nI (lgF (vX k kp T (nN q) (nN t * 8 + nN y)) 60))))) (xErr Z X ((qS (vX k kp T) T (inR t 2 ∧ inR y 8 ∧ inR q 60) (q ≤ nI T) (nI (lgF (vX k kp T (nN q) (nN t * 8 + nN y)) 60)))) cAB) := by
  refine mX_intro (own := RX0) [(0, .ref X.1), (1, .int t), (2, .int y), (3, .int q)] (by decide +kernel) rfl rfl rfl rfl ?_
  intro p e s m args below meth c A K hr T9 htab
  refine gg_iload_n K (i := 1) dX0_longest_0 rfl rfl ?_
  refine gg_iload_n K (i := 2) dX0_longest_1 rfl rfl ?_
  refine gg_callTS 2 12 K T9 k_X0_X0_needTableAndKey (x_needTK hl0) dX0_longest_2 rfl rfl rfl rfl ⟨rfl, rfl⟩ (fun E u h => ?_) (fun v u h => ?_)
  · obtain ⟨rfl, rfl, h⟩ := h
    exact gx_out K htab (Nat.le_of_ble_eq_true rfl) (Nat.le_of_ble_eq_true rfl) (qE1 ok (fun z => h ⟨z.1, z.2.1⟩) (by decide))
  obtain ⟨rfl, rfl, h1⟩ := h
  refine gg_aload_n K (i := 0) dX0_longest_5 rfl rfl ?_
  refine gg_iload_n K (i := 3) dX0_longest_6 rfl rfl ?_
  refine gg_callTX 4 24 K T9 k_X0_X0_needRecord (x_needRecord hl0) dX0_longest_7 rfl rfl rfl rfl ⟨rfl, rfl⟩ (fun E u h => ?_) (fun v u h => ?_)
  · obtain ⟨rfl, ⟨rfl, h⟩ | ⟨rfl, h, h'⟩⟩ := h
    · exact gx_out K htab (Nat.le_of_ble_eq_true rfl) (Nat.le_of_ble_eq_true rfl) (qE1 ok (fun z => h z.2.2) (by decide))
    · exact gx_out K htab (Nat.le_of_ble_eq_true rfl) (Nat.le_of_ble_eq_true rfl) (qE2 ok ⟨h1.1, h1.2, h⟩ h' (by decide))
  obtain ⟨rfl, rfl, h3, h4⟩ := h
  have ⟨a1, a2⟩ := inR_N (b := 2) h1.1
  have ⟨b1, b2⟩ := inR_N (b := 8) h1.2
  have ⟨q1, q2⟩ := inR_N (b := 60) h3
  refine gg_iload_n K (i := 1) dX0_longest_10 rfl rfl ?_
  refine gg_iload_n K (i := 2) dX0_longest_11 rfl rfl ?_
  refine gg_callSR K k_X0_X0_line (x_line (nN t) (nN y) a2 b2) dX0_longest_12 rfl rfl rfl rfl ⟨rfl, rfl⟩ ?_
  refine gg_istore K dX0_longest_15 (by decide) ?_
  refine gg_iconst K (v := 0) dX0_longest_17 (by decide) ?_
  refine gg_istore K dX0_longest_18 (by decide) ?_
  refine gg_iconst K (v := 0) dX0_longest_20 (by decide) ?_
  refine gg_istore K dX0_longest_21 (by decide) ?_
  refine gg_sub (L' := [(6, .int (nI 0)), (5, .int (nI 0)), (4, .int (nI (nN t * 8 + nN y))), (0, .ref X.1), (1, .int t), (2, .int y), (3, .int q)]) ⟨rfl, rfl, rfl, rfl, rfl, rfl, rfl, trivial⟩ ?_
  refine gg_loop (fun i w L => ∃ (j : Nat), j + i = 61 ∧ w = wX Z X k kp dr (nI T) ∧ j ≤ 60 ∧ L = [(6, .int (nI j)), (5, .int (nI ((lgF (vX k kp T (nN q) (nN t * 8 + nN y)) j)))), (4, .int (nI (nN t * 8 + nN y))), (0, .ref X.1), (1, .int t), (2, .int y), (3, .int q)]) (fun w L h => ?_) (fun i w L h ih => ?_) 61 _ _ ⟨0, rfl, rfl, by omega, rfl⟩
  · obtain ⟨j, hj, -, h2, -⟩ := h
    omega
  · obtain ⟨j, hj, rfl, -, rfl⟩ := h
    refine gg_iload K dX0_longest_23 rfl ?_
    refine gg_bipush K (v := 60) dX0_longest_25 (by decide) ?_
    refine gg_icmp_ge K (tgt := 67) dX0_longest_27 (by decide) (fun h27 => ?_) (fun h27 => ?_)
    · have hj2 := i_le (a := 60) h27
      have hj3 : j = 60 := by omega
      subst hj3
      refine gg_iload K dX0_longest_67 rfl ?_
      exact gg_x (gg_iret K hr dX0_longest_69 (Nat.le_of_ble_eq_true rfl) (Nat.le_of_ble_eq_true rfl) (qOk ok ⟨h1.1, h1.2, h3⟩ h4 rfl))
    have hj2 := i_nle (a := 60) h27
    refine gg_aload_n K (i := 0) dX0_longest_30 rfl rfl ?_
    refine gg_iload_n K (i := 3) dX0_longest_31 rfl rfl ?_
    refine gg_iload K dX0_longest_32 rfl ?_
    refine gg_iload K dX0_longest_34 rfl ?_
    refine gg_callRX K k_X0_X0_startsRun (x_startsRun (nN q) (nN t * 8 + nN y) j ok (leT q2 q1 ok.1 h4) (by omega) hj2 q2 rfl rfl) dX0_longest_36 rfl rfl rfl rfl ⟨rfl, rfl⟩ ?_
    refine gg_b_eq K (tgt := 61) dX0_longest_39 (by decide) (fun h39 => ?_) (fun h39 => ?_)
    · refine gg_iinc K (v := nI (j + 1)) dX0_longest_61 rfl (nI_inc (j)) (by decide) ?_
      refine gg_goto K (tgt := 23) dX0_longest_64 (by decide) ?_
      refine gg_sub (L' := [(6, .int (nI (j + 1))), (5, .int (nI ((lgF (vX k kp T (nN q) (nN t * 8 + nN y)) j)))), (4, .int (nI (nN t * 8 + nN y))), (0, .ref X.1), (1, .int t), (2, .int y), (3, .int q)]) ⟨rfl, rfl, rfl, rfl, rfl, rfl, rfl, trivial⟩ ?_
      exact ih _ _ ⟨j + 1, by omega, rfl, by omega, by rw [show lgF (vX k kp T (nN q) (nN t * 8 + nN y)) (j + 1) = lgF (vX k kp T (nN q) (nN t * 8 + nN y)) j from if_neg (by rw [h39]; decide)]⟩
    · refine gg_iload K dX0_longest_42 rfl ?_
      refine gg_aload_n K (i := 0) dX0_longest_44 rfl rfl ?_
      refine gg_iload_n K (i := 3) dX0_longest_45 rfl rfl ?_
      refine gg_iload K dX0_longest_46 rfl ?_
      refine gg_iload K dX0_longest_48 rfl ?_
      refine gg_callRX K k_X0_X0_endOfRun (x_endOfRun (nN q) (nN t * 8 + nN y) j ok (leT q2 q1 ok.1 h4) (by omega) hj2 q2 rfl rfl) dX0_longest_50 rfl rfl rfl rfl ⟨rfl, rfl⟩ ?_
      refine gg_iload K dX0_longest_53 rfl ?_
      refine gg_isub K dX0_longest_55 ?_
      have e1 := endF_le (f := vX k kp T (nN q) (nN t * 8 + nN y)) hj2
      have e2 := endF_gt (vX k kp T (nN q) (nN t * 8 + nN y)) j
      have e3 := lgF_le (vX k kp T (nN q) (nN t * 8 + nN y)) (n := j) (by omega)
      refine gg_top (pk_sub (by omega)) ?_
      refine gg_mmax K dX0_longest_56 rfl rfl ?_
      refine gg_top (y := nI (lgF (vX k kp T (nN q) (nN t * 8 + nN y)) (j + 1))) ?_ ?_
      · rw [show lgF (vX k kp T (nN q) (nN t * 8 + nN y)) (j + 1) = _ from if_pos h39]
        by_cases hq : lgF (vX k kp T (nN q) (nN t * 8 + nN y)) j < endF (vX k kp T (nN q) (nN t * 8 + nN y)) j - j
        · rw [if_pos hq, if_pos (nI_lt hq (by omega))]
        · rw [if_neg hq, if_neg (nI_nlt (by omega) (by omega))]
      refine gg_istore K dX0_longest_59 (by decide) ?_
      refine gg_iinc K (v := nI (j + 1)) dX0_longest_61 rfl (nI_inc (j)) (by decide) ?_
      refine gg_goto K (tgt := 23) dX0_longest_64 (by decide) ?_
      refine gg_sub (L' := [(6, .int (nI (j + 1))), (5, .int (nI ((lgF (vX k kp T (nN q) (nN t * 8 + nN y)) (j + 1))))), (4, .int (nI (nN t * 8 + nN y))), (0, .ref X.1), (1, .int t), (2, .int y), (3, .int q)]) ⟨rfl, rfl, rfl, rfl, rfl, rfl, rfl, trivial⟩ ?_
      exact ih _ _ ⟨j + 1, by omega, rfl, by omega, rfl⟩
end
section
/-! Twotimes: rows -/
theorem fb_ct_flat {q : Nat → Bool} {a : Nat} : ∀ {n : Nat}, (∀ e, a ≤ e → e < a + n → q e = false) → fb_ct q (a + n) = fb_ct q a
  | 0, _ => rfl
  | n + 1, h => by
    rw [show a + (n + 1) = (a + n) + 1 from rfl, fb_ct_succ, h (a + n) (by omega) (by omega), fb_ct_flat (fun e h1 h2 => h e h1 (by omega))]
    rfl
/-- rows by the number of the day of record and of validity in one -/
noncomputable def rwF (V : VT) (l : Nat) (z : Nat) : Bool := rowF V l (z / 60) (z % 60)
theorem rwF_at (V : VT) (l r d : Nat) (hd : d < 60) : rwF V l (60 * r + d) = rowF V l r d := by
  unfold rwF
  rw [show (60 * r + d) / 60 = r by omega, show (60 * r + d) % 60 = d by omega]
theorem smF_self (f : Nat → Int32) (d : Nat) : smF f f d = true ↔ stF f d = true := ⟨fun h => (bP_iff.mp h).1, fun h => bP_t ⟨h, rfl, rfl⟩⟩
theorem row_off {V : VT} {l r : Nat} (h0 : 0 < r) (h : ∀ d, V r l d = V (r - 1) l d) (d : Nat) : rowF V l r d = false := by
  refine bP_f (fun q => ?_)
  have e : V r l = V (r - 1) l := funext h
  rcases q.2 with h2 | h2
  · omega
  · rw [← e, (smF_self _ _).mpr q.1] at h2
    cases h2
theorem vX_off {k kp : Nat → Int32} {T r : Nat} (ok : okX kp T) (hr : r ≤ T) (h : ¬ kp r = nI r) (l d : Nat) : rowF (vX k kp T) l r d = false := by
  obtain ⟨h1, h2⟩ := ((ok.2.2.2 r hr).2).resolve_left h
  refine row_off h1 (fun d => ?_) d
  unfold vX kq
  rw [← h2]
  by_cases hc : r ≤ T ∧ l < 16 ∧ d < 60
  · rw [if_pos hc, if_pos (by omega)]
  · rw [if_neg hc, if_neg (by omega)]
def reF (q : Nat → Bool) : Nat → Nat → Int32
  | 0, _ => -1
  | n + 1, a => if q a = true then reF q n (a + 1) else nI a
set_option maxRecDepth 100000 in
theorem x_startOfRow {l : Launch} {Z : ZT} {X : XT} {k kp dr : Nat → Int32} {T : Nat} (hl0 : l.stackTraces = false) (ok : okX kp T) (li : Nat) (hli : li < 16) {x w9 : Int32} (hx : x = nI li) : mX l Z.1 (ty3 Z) yX0_startOfRow (.code yX0_startOfRow cX0_startOfRow 6 (some .int)) (rmk 7 150 1 6) (wX Z X k kp dr (nI T)) [.ref X.1, .int x, .int w9] (fun v u => u = wX Z X k kp dr (nI T) ∧ ∃ e9, e9 < 60 * (T + 1) ∧ (rwF (vX k kp T) li) e9 = true ∧ nI (fb_ct (rwF (vX k kp T) li) e9) = w9 ∧ v = some (.int (nI e9))) (fun E u => E = eB ∧ u = wX Z X k kp dr (nI T) ∧ ∀ e9, e9 < 60 * (T + 1) → (rwF (vX k kp T) li) e9 = true → ¬ nI (fb_ct (rwF (vX k kp T) li) e9) = w9) := by
  refine mX_intro (own := RX0) [(0, .ref X.1), (1, .int x), (2, .int w9)] (by decide +kernel) rfl rfl rfl rfl ?_
  intro p e s m args below meth c A K hr T9 htab
  have hT9 := ok.1
  subst hx
  refine gg_iconst K (v := 0) dX0_startOfRow_0 (by decide) ?_
  refine gg_istore_n K (i := 3) dX0_startOfRow_1 rfl (by decide) ?_
  refine gg_iconst K (v := 0) dX0_startOfRow_2 (by decide) ?_
  refine gg_istore K dX0_startOfRow_3 (by decide) ?_
  refine gg_sub (L' := [(4, .int (nI 0)), (3, .int (nI 0)), (0, .ref X.1), (1, .int (nI li)), (2, .int w9)]) ⟨rfl, rfl, rfl, rfl, rfl, trivial⟩ ?_
  refine gg_loop (fun i w L => ∃ (r : Nat), r + i = T + 2 ∧ w = wX Z X k kp dr (nI T) ∧ r ≤ T + 1 ∧ L = [(4, .int (nI r)), (3, .int (nI ((fb_ct (rwF (vX k kp T) li) (60 * r))))), (0, .ref X.1), (1, .int (nI li)), (2, .int w9)] ∧ ∀ e9, e9 < 60 * r → (rwF (vX k kp T) li) e9 = true → ¬ nI (fb_ct (rwF (vX k kp T) li) e9) = w9) (fun w L h => ?_) (fun i w L h ih => ?_) (T + 2) _ _ ⟨0, by omega, rfl, by omega, rfl, fun e9 h => absurd h (by omega)⟩
  · obtain ⟨r, hj, -, h2, -⟩ := h
    omega
  · obtain ⟨r, hj, rfl, hj1, rfl, hno⟩ := h
    refine gg_iload K dX0_startOfRow_5 rfl ?_
    refine gg_aload_n K (i := 0) dX0_startOfRow_7 rfl rfl ?_
    refine gX_today K dX0_startOfRow_8 ?_
    refine gg_icmp_gt K (tgt := 74) dX0_startOfRow_11 (by decide) (fun h11 => ?_) (fun h11 => ?_)
    · have hj2 := i_lt h11
      have hj3 : r = T + 1 := by omega
      subst hj3
      exact gg_throw_eB K T9 hl0 htab (is := 165) (text := "row") (by decide) dX0_startOfRow_74 dX0_startOfRow_77 dX0_startOfRow_78 dX0_startOfRow_80 dX0_startOfRow_83 rfl rfl (Nat.le_of_ble_eq_true rfl) (Nat.le_of_ble_eq_true rfl) ⟨rfl, rfl, hno⟩
    have hj2 := i_nlt h11
    refine gg_iconst K (v := 0) dX0_startOfRow_14 (by decide) ?_
    refine gg_istore K dX0_startOfRow_15 (by decide) ?_
    refine gg_sub (L' := [(5, .int (nI 0)), (4, .int (nI r)), (3, .int (nI ((fb_ct (rwF (vX k kp T) li) (60 * r + 0))))), (0, .ref X.1), (1, .int (nI li)), (2, .int w9)]) ⟨rfl, rfl, rfl, rfl, rfl, rfl, trivial⟩ ?_
    refine gg_loop (fun i w L => ∃ (d : Nat), d + i = 61 ∧ w = wX Z X k kp dr (nI T) ∧ d ≤ 60 ∧ L = [(5, .int (nI d)), (4, .int (nI r)), (3, .int (nI ((fb_ct (rwF (vX k kp T) li) (60 * r + d))))), (0, .ref X.1), (1, .int (nI li)), (2, .int w9)] ∧ ∀ e9, e9 < 60 * r + d → (rwF (vX k kp T) li) e9 = true → ¬ nI (fb_ct (rwF (vX k kp T) li) e9) = w9) (fun w L h => ?_) (fun i w L h ih2 => ?_) 61 _ _ ⟨0, by omega, rfl, by omega, rfl, hno⟩
    · obtain ⟨d, hj, -, h2, -⟩ := h
      omega
    · obtain ⟨d, hd1, rfl, hd2, rfl, hno2⟩ := h
      refine gg_iload K dX0_startOfRow_17 rfl ?_
      refine gg_bipush K (v := 60) dX0_startOfRow_19 (by decide) ?_
      refine gg_icmp_ge K (tgt := 68) dX0_startOfRow_21 (by decide) (fun h21 => ?_) (fun h21 => ?_)
      · have hd3 := i_le (a := 60) h21
        have hd4 : d = 60 := by omega
        subst hd4
        refine gg_iinc K (v := nI (r + 1)) dX0_startOfRow_68 rfl (nI_inc (r)) (by decide) ?_
        refine gg_goto K (tgt := 5) dX0_startOfRow_71 (by decide) ?_
        refine gg_sub (L' := [(4, .int (nI (r + 1))), (3, .int (nI ((fb_ct (rwF (vX k kp T) li) (60 * (r + 1)))))), (0, .ref X.1), (1, .int (nI li)), (2, .int w9)]) ⟨rfl, rfl, rfl, rfl, rfl, trivial⟩ ?_
        exact ih _ _ ⟨r + 1, by omega, rfl, by omega, rfl, hno2⟩
      have hd3 := i_nle (a := 60) h21
      refine gg_aload_n K (i := 0) dX0_startOfRow_24 rfl rfl ?_
      refine gg_iload K dX0_startOfRow_25 rfl ?_
      refine gg_callRX K k_X0_X0_isKept (x_isKept r ok hj2 rfl) dX0_startOfRow_27 rfl rfl rfl rfl ⟨rfl, rfl⟩ ?_
      refine gg_b_eq K (tgt := 68) dX0_startOfRow_30 (by decide) (fun h30 => ?_) (fun h30 => ?_)
      · have hoff := fun d => vX_off (k := k) ok hj2 (of_decide_eq_false h30) li d
        have hfl : ∀ e9, 60 * r + d ≤ e9 → e9 < 60 * r + d + (60 - d) → (rwF (vX k kp T) li) e9 = false := fun e9 g1 g2 => by
          have e := rwF_at (vX k kp T) li r (e9 - 60 * r) (by omega)
          rw [show 60 * r + (e9 - 60 * r) = e9 by omega] at e
          rw [e]
          exact hoff _
        have hc := fb_ct_flat hfl
        rw [show 60 * r + d + (60 - d) = 60 * (r + 1) by omega] at hc
        refine gg_iinc K (v := nI (r + 1)) dX0_startOfRow_68 rfl (nI_inc (r)) (by decide) ?_
        refine gg_goto K (tgt := 5) dX0_startOfRow_71 (by decide) ?_
        refine gg_sub (L' := [(4, .int (nI (r + 1))), (3, .int (nI ((fb_ct (rwF (vX k kp T) li) (60 * r + d))))), (0, .ref X.1), (1, .int (nI li)), (2, .int w9)]) ⟨rfl, rfl, rfl, rfl, rfl, trivial⟩ ?_
        refine ih _ _ ⟨r + 1, by omega, rfl, by omega, by rw [hc], fun e9 g1 g2 => ?_⟩
        by_cases hlt : e9 < 60 * r + d
        · exact hno2 e9 hlt g2
        · rw [hfl e9 (by omega) (by omega)] at g2
          cases g2
      have hat := rwF_at (vX k kp T) li r d hd3
      refine gg_aload_n K (i := 0) dX0_startOfRow_33 rfl rfl ?_
      refine gg_iload K dX0_startOfRow_34 rfl ?_
      refine gg_iload_n K (i := 1) dX0_startOfRow_36 rfl rfl ?_
      refine gg_iload K dX0_startOfRow_37 rfl ?_
      refine gg_callRX K k_X0_X0_startsRow (x_startsRow r li d ok hj2 hli hd3 rfl rfl rfl) dX0_startOfRow_39 rfl rfl rfl rfl ⟨rfl, rfl⟩ ?_
      refine gg_b_eq K (tgt := 62) dX0_startOfRow_42 (by decide) (fun h42 => ?_) (fun h42 => ?_)
      · rw [← hat] at h42
        refine gg_iinc K (v := nI (d + 1)) dX0_startOfRow_62 rfl (nI_inc (d)) (by decide) ?_
        refine gg_goto K (tgt := 17) dX0_startOfRow_65 (by decide) ?_
        refine gg_sub (L' := [(5, .int (nI (d + 1))), (4, .int (nI r)), (3, .int (nI ((fb_ct (rwF (vX k kp T) li) (60 * r + d))))), (0, .ref X.1), (1, .int (nI li)), (2, .int w9)]) ⟨rfl, rfl, rfl, rfl, rfl, rfl, trivial⟩ ?_
        refine ih2 _ _ ⟨d + 1, by omega, rfl, by omega, by rw [show 60 * r + (d + 1) = (60 * r + d) + 1 from rfl, fb_ct_succ, h42]; rfl, fun e9 g1 g2 => ?_⟩
        by_cases hlt : e9 < 60 * r + d
        · exact hno2 e9 hlt g2
        · rw [show e9 = 60 * r + d by omega, h42] at g2
          cases g2
      rw [← hat] at h42
      refine gg_iload_n K (i := 3) dX0_startOfRow_45 rfl rfl ?_
      refine gg_iload_n K (i := 2) dX0_startOfRow_46 rfl rfl ?_
      refine gg_icmp_ne K (tgt := 59) dX0_startOfRow_47 (by decide) (fun h47 => ?_) (fun h47 => ?_)
      · refine gg_iinc K (v := nI (fb_ct (rwF (vX k kp T) li) (60 * r + d) + 1)) dX0_startOfRow_59 rfl (nI_inc (fb_ct (rwF (vX k kp T) li) (60 * r + d))) (by decide) ?_
        refine gg_iinc K (v := nI (d + 1)) dX0_startOfRow_62 rfl (nI_inc (d)) (by decide) ?_
        refine gg_goto K (tgt := 17) dX0_startOfRow_65 (by decide) ?_
        refine gg_sub (L' := [(5, .int (nI (d + 1))), (4, .int (nI r)), (3, .int (nI ((fb_ct (rwF (vX k kp T) li) (60 * r + d) + 1)))), (0, .ref X.1), (1, .int (nI li)), (2, .int w9)]) ⟨rfl, rfl, rfl, rfl, rfl, rfl, trivial⟩ ?_
        refine ih2 _ _ ⟨d + 1, by omega, rfl, by omega, by rw [show 60 * r + (d + 1) = (60 * r + d) + 1 from rfl, fb_ct_succ, h42]; rfl, fun e9 g1 g2 => ?_⟩
        by_cases hlt : e9 < 60 * r + d
        · exact hno2 e9 hlt g2
        · rw [show e9 = 60 * r + d by omega]
          exact h47
      · refine gg_iload K dX0_startOfRow_50 rfl ?_
        refine gg_bipush K (v := 60) dX0_startOfRow_52 (by decide) ?_
        refine gg_imul K dX0_startOfRow_54 ?_
        refine gg_iload K dX0_startOfRow_55 rfl ?_
        refine gg_iadd K dX0_startOfRow_57 ?_
        exact gg_x (gg_iret K hr dX0_startOfRow_58 (Nat.le_of_ble_eq_true rfl) (Nat.le_of_ble_eq_true rfl) ⟨rfl, 60 * r + d, by omega, h42, h47, some_int (by simp only [nI_lit, nI_mul, nI_add]; exact congrArg nI (by omega))⟩)
set_option maxRecDepth 100000 in
theorem x_rows {l : Launch} {Z : ZT} {X : XT} {k kp dr : Nat → Int32} {T : Nat} (hl0 : l.stackTraces = false) (ok : okX kp T) {t y : Int32} : mX l Z.1 (ty3 Z) yX0_rows (.code yX0_rows cX0_rows 7 (some .int)) (rmk 9 200 8 48) (wX Z X k kp dr (nI T)) [.ref X.1, .int t, .int y] (xPost Z X ((qS (vX k kp T) T (inR t 2 ∧ inR y 8) True (nI (fb_ct (rwF (vX k kp T) (nN t * 8 + nN y)) (60 * (T + 1))))))) (xErr Z X ((qS (vX k kp T) T (inR t 2 ∧ inR y 8) True (nI (fb_ct (rwF (vX k kp T) (nN t * 8 + nN y)) (60 * (T + 1)))))) cA1) := by
  refine mX_intro (own := RX0) [(0, .ref X.1), (1, .int t), (2, .int y)] (by decide +kernel) rfl rfl rfl rfl ?_
  intro p e s m args below meth c A K hr T9 htab
  have hT9 := ok.1
  refine gg_iload_n K (i := 1) dX0_rows_0 rfl rfl ?_
  refine gg_iload_n K (i := 2) dX0_rows_1 rfl rfl ?_
  refine gg_callTS 2 12 K T9 k_X0_X0_needTableAndKey (x_needTK hl0) dX0_rows_2 rfl rfl rfl rfl ⟨rfl, rfl⟩ (fun E u h => ?_) (fun v u h => ?_)
  · obtain ⟨rfl, rfl, h⟩ := h
    exact gx_out K htab (Nat.le_of_ble_eq_true rfl) (Nat.le_of_ble_eq_true rfl) (qE1 ok h (by decide))
  obtain ⟨rfl, rfl, h1⟩ := h
  have ⟨a1, a2⟩ := inR_N (b := 2) h1.1
  have ⟨b1, b2⟩ := inR_N (b := 8) h1.2
  refine gg_iload_n K (i := 1) dX0_rows_5 rfl rfl ?_
  refine gg_iload_n K (i := 2) dX0_rows_6 rfl rfl ?_
  refine gg_callSR K k_X0_X0_line (x_line (nN t) (nN y) a2 b2) dX0_rows_7 rfl rfl rfl rfl ⟨rfl, rfl⟩ ?_
  refine gg_istore_n K (i := 3) dX0_rows_10 rfl (by decide) ?_
  refine gg_iconst K (v := 0) dX0_rows_11 (by decide) ?_
  refine gg_istore K dX0_rows_12 (by decide) ?_
  refine gg_iconst K (v := 0) dX0_rows_14 (by decide) ?_
  refine gg_istore K dX0_rows_15 (by decide) ?_
  refine gg_sub (L' := [(5, .int (nI 0)), (4, .int (nI 0)), (3, .int (nI (nN t * 8 + nN y))), (0, .ref X.1), (1, .int t), (2, .int y)]) ⟨rfl, rfl, rfl, rfl, rfl, rfl, trivial⟩ ?_
  refine gg_loop (fun i w L => ∃ (r : Nat), r + i = T + 2 ∧ w = wX Z X k kp dr (nI T) ∧ r ≤ T + 1 ∧ L = [(5, .int (nI r)), (4, .int (nI ((fb_ct (rwF (vX k kp T) (nN t * 8 + nN y)) (60 * r))))), (3, .int (nI (nN t * 8 + nN y))), (0, .ref X.1), (1, .int t), (2, .int y)]) (fun w L h => ?_) (fun i w L h ih => ?_) (T + 2) _ _ ⟨0, by omega, rfl, by omega, rfl⟩
  · obtain ⟨r, hj, -, h2, -⟩ := h
    omega
  · obtain ⟨r, hj, rfl, hj1, rfl⟩ := h
    refine gg_iload K dX0_rows_17 rfl ?_
    refine gg_aload_n K (i := 0) dX0_rows_19 rfl rfl ?_
    refine gX_today K dX0_rows_20 ?_
    refine gg_icmp_gt K (tgt := 72) dX0_rows_23 (by decide) (fun h23 => ?_) (fun h23 => ?_)
    · have hj2 := i_lt h23
      have hj3 : r = T + 1 := by omega
      subst hj3
      refine gg_iload K dX0_rows_72 rfl ?_
      exact gg_x (gg_iret K hr dX0_rows_74 (Nat.le_of_ble_eq_true rfl) (Nat.le_of_ble_eq_true rfl) (qOk ok h1 trivial rfl))
    have hj2 := i_nlt h23
    refine gg_iconst K (v := 0) dX0_rows_26 (by decide) ?_
    refine gg_istore K dX0_rows_27 (by decide) ?_
    refine gg_sub (L' := [(6, .int (nI 0)), (5, .int (nI r)), (4, .int (nI ((fb_ct (rwF (vX k kp T) (nN t * 8 + nN y)) (60 * r + 0))))), (3, .int (nI (nN t * 8 + nN y))), (0, .ref X.1), (1, .int t), (2, .int y)]) ⟨rfl, rfl, rfl, rfl, rfl, rfl, rfl, trivial⟩ ?_
    refine gg_loop (fun i w L => ∃ (d : Nat), d + i = 61 ∧ w = wX Z X k kp dr (nI T) ∧ d ≤ 60 ∧ L = [(6, .int (nI d)), (5, .int (nI r)), (4, .int (nI ((fb_ct (rwF (vX k kp T) (nN t * 8 + nN y)) (60 * r + d))))), (3, .int (nI (nN t * 8 + nN y))), (0, .ref X.1), (1, .int t), (2, .int y)]) (fun w L h => ?_) (fun i w L h ih2 => ?_) 61 _ _ ⟨0, by omega, rfl, by omega, rfl⟩
    · obtain ⟨d, hj, -, h2, -⟩ := h
      omega
    · obtain ⟨d, hd1, rfl, hd2, rfl⟩ := h
      refine gg_iload K dX0_rows_29 rfl ?_
      refine gg_bipush K (v := 60) dX0_rows_31 (by decide) ?_
      refine gg_icmp_ge K (tgt := 66) dX0_rows_33 (by decide) (fun h33 => ?_) (fun h33 => ?_)
      · have hd3 := i_le (a := 60) h33
        have hd4 : d = 60 := by omega
        subst hd4
        refine gg_iinc K (v := nI (r + 1)) dX0_rows_66 rfl (nI_inc (r)) (by decide) ?_
        refine gg_goto K (tgt := 17) dX0_rows_69 (by decide) ?_
        refine gg_sub (L' := [(5, .int (nI (r + 1))), (4, .int (nI ((fb_ct (rwF (vX k kp T) (nN t * 8 + nN y)) (60 * (r + 1)))))), (3, .int (nI (nN t * 8 + nN y))), (0, .ref X.1), (1, .int t), (2, .int y)]) ⟨rfl, rfl, rfl, rfl, rfl, rfl, trivial⟩ ?_
        exact ih _ _ ⟨r + 1, by omega, rfl, by omega, rfl⟩
      have hd3 := i_nle (a := 60) h33
      refine gg_aload_n K (i := 0) dX0_rows_36 rfl rfl ?_
      refine gg_iload K dX0_rows_37 rfl ?_
      refine gg_callRX K k_X0_X0_isKept (x_isKept r ok hj2 rfl) dX0_rows_39 rfl rfl rfl rfl ⟨rfl, rfl⟩ ?_
      refine gg_b_eq K (tgt := 66) dX0_rows_42 (by decide) (fun h42 => ?_) (fun h42 => ?_)
      · have hoff := fun d => vX_off (k := k) ok hj2 (of_decide_eq_false h42) (nN t * 8 + nN y) d
        have hc := fb_ct_flat (q := (rwF (vX k kp T) (nN t * 8 + nN y))) (a := 60 * r + d) (n := 60 - d) (fun e9 g1 g2 => by
          have e := rwF_at (vX k kp T) (nN t * 8 + nN y) r (e9 - 60 * r) (by omega)
          rw [show 60 * r + (e9 - 60 * r) = e9 by omega] at e
          rw [e]
          exact hoff _)
        rw [show 60 * r + d + (60 - d) = 60 * (r + 1) by omega] at hc
        refine gg_iinc K (v := nI (r + 1)) dX0_rows_66 rfl (nI_inc (r)) (by decide) ?_
        refine gg_goto K (tgt := 17) dX0_rows_69 (by decide) ?_
        refine gg_sub (L' := [(5, .int (nI (r + 1))), (4, .int (nI ((fb_ct (rwF (vX k kp T) (nN t * 8 + nN y)) (60 * r + d))))), (3, .int (nI (nN t * 8 + nN y))), (0, .ref X.1), (1, .int t), (2, .int y)]) ⟨rfl, rfl, rfl, rfl, rfl, rfl, trivial⟩ ?_
        exact ih _ _ ⟨r + 1, by omega, rfl, by omega, by rw [hc]⟩
      have hat := rwF_at (vX k kp T) (nN t * 8 + nN y) r d hd3
      refine gg_aload_n K (i := 0) dX0_rows_45 rfl rfl ?_
      refine gg_iload K dX0_rows_46 rfl ?_
      refine gg_iload_n K (i := 3) dX0_rows_48 rfl rfl ?_
      refine gg_iload K dX0_rows_49 rfl ?_
      refine gg_callRX K k_X0_X0_startsRow (x_startsRow r (nN t * 8 + nN y) d ok hj2 (by omega) hd3 rfl rfl rfl) dX0_rows_51 rfl rfl rfl rfl ⟨rfl, rfl⟩ ?_
      refine gg_b_eq K (tgt := 60) dX0_rows_54 (by decide) (fun h54 => ?_) (fun h54 => ?_)
      · rw [← hat] at h54
        refine gg_iinc K (v := nI (d + 1)) dX0_rows_60 rfl (nI_inc (d)) (by decide) ?_
        refine gg_goto K (tgt := 29) dX0_rows_63 (by decide) ?_
        refine gg_sub (L' := [(6, .int (nI (d + 1))), (5, .int (nI r)), (4, .int (nI ((fb_ct (rwF (vX k kp T) (nN t * 8 + nN y)) (60 * r + d))))), (3, .int (nI (nN t * 8 + nN y))), (0, .ref X.1), (1, .int t), (2, .int y)]) ⟨rfl, rfl, rfl, rfl, rfl, rfl, rfl, trivial⟩ ?_
        exact ih2 _ _ ⟨d + 1, by omega, rfl, by omega, by rw [show 60 * r + (d + 1) = (60 * r + d) + 1 from rfl, fb_ct_succ, h54]; rfl⟩
      · rw [← hat] at h54
        refine gg_iinc K (v := nI (fb_ct (rwF (vX k kp T) (nN t * 8 + nN y)) (60 * r + d) + 1)) dX0_rows_57 rfl (nI_inc (fb_ct (rwF (vX k kp T) (nN t * 8 + nN y)) (60 * r + d))) (by decide) ?_
        refine gg_iinc K (v := nI (d + 1)) dX0_rows_60 rfl (nI_inc (d)) (by decide) ?_
        refine gg_goto K (tgt := 29) dX0_rows_63 (by decide) ?_
        refine gg_sub (L' := [(6, .int (nI (d + 1))), (5, .int (nI r)), (4, .int (nI ((fb_ct (rwF (vX k kp T) (nN t * 8 + nN y)) (60 * r + d) + 1)))), (3, .int (nI (nN t * 8 + nN y))), (0, .ref X.1), (1, .int t), (2, .int y)]) ⟨rfl, rfl, rfl, rfl, rfl, rfl, rfl, trivial⟩ ?_
        exact ih2 _ _ ⟨d + 1, by omega, rfl, by omega, by rw [show 60 * r + (d + 1) = (60 * r + d) + 1 from rfl, fb_ct_succ, h54]; rfl⟩
/-- a row found: its number, and that it is the one -/
theorem row_found {q : Nat → Bool} {N e9 : Nat} {w9 : Int32} (h1 : e9 < N) (hN : N < 2 ^ 31) (h2 : q e9 = true) (h3 : nI (fb_ct q e9) = w9) : (∃ j, j < fb_ct q N ∧ w9 = nI j) ∧ kthD q (nN w9) N = e9 := by
  have hl := fb_ct_le q N
  have h6 := fb_ct_mono q (show e9 + 1 ≤ N by omega)
  rw [fb_ct_succ, if_pos h2] at h6
  exact ⟨⟨fb_ct q e9, by omega, h3.symm⟩, kthD_eq h2 (by rw [← h3]; exact (nI_clamp (by omega)).symm) h1⟩
theorem row_none {q : Nat → Bool} {N : Nat} {w9 : Int32} (h : ∀ e9, e9 < N → q e9 = true → ¬ nI (fb_ct q e9) = w9) : ¬ ∃ j, j < fb_ct q N ∧ w9 = nI j := fun ⟨j, hj, hj2⟩ => by
  obtain ⟨e9, g1, g2, g3⟩ := fb_ct_kth hj
  exact h e9 g1 g2 (by rw [g3, hj2])
set_option maxRecDepth 100000 in
theorem x_rowRun {l : Launch} {Z : ZT} {X : XT} {k kp dr : Nat → Int32} {T : Nat} (hl0 : l.stackTraces = false) (ok : okX kp T) {t y w9 : Int32} : mX l Z.1 (ty3 Z) yX0_rowRun (.code yX0_rowRun cX0_rowRun 6 (some .int)) (rmk 9 200 8 48) (wX Z X k kp dr (nI T)) [.ref X.1, .int t, .int y, .int w9] (xPost Z X ((qS (vX k kp T) T (inR t 2 ∧ inR y 8) (∃ j, j < fb_ct (rwF (vX k kp T) (nN t * 8 + nN y)) (60 * (T + 1)) ∧ w9 = nI j) (runN (vX k kp T ((kthD (rwF (vX k kp T) (nN t * 8 + nN y)) (nN w9) (60 * (T + 1))) / 60) (nN t * 8 + nN y)) ((kthD (rwF (vX k kp T) (nN t * 8 + nN y)) (nN w9) (60 * (T + 1))) % 60))))) (xErr Z X ((qS (vX k kp T) T (inR t 2 ∧ inR y 8) (∃ j, j < fb_ct (rwF (vX k kp T) (nN t * 8 + nN y)) (60 * (T + 1)) ∧ w9 = nI j) (runN (vX k kp T ((kthD (rwF (vX k kp T) (nN t * 8 + nN y)) (nN w9) (60 * (T + 1))) / 60) (nN t * 8 + nN y)) ((kthD (rwF (vX k kp T) (nN t * 8 + nN y)) (nN w9) (60 * (T + 1))) % 60)))) cAB) := by
  refine mX_intro (own := RX0) [(0, .ref X.1), (1, .int t), (2, .int y), (3, .int w9)] (by decide +kernel) rfl rfl rfl rfl ?_
  intro p e s m args below meth c A K hr T9 htab
  have hT9 := ok.1
  refine gg_iload_n K (i := 1) dX0_rowRun_0 rfl rfl ?_
  refine gg_iload_n K (i := 2) dX0_rowRun_1 rfl rfl ?_
  refine gg_callTS 2 12 K T9 k_X0_X0_needTableAndKey (x_needTK hl0) dX0_rowRun_2 rfl rfl rfl rfl ⟨rfl, rfl⟩ (fun E u h => ?_) (fun v u h => ?_)
  · obtain ⟨rfl, rfl, h⟩ := h
    exact gx_out K htab (Nat.le_of_ble_eq_true rfl) (Nat.le_of_ble_eq_true rfl) (qE1 ok h (by decide))
  obtain ⟨rfl, rfl, h1⟩ := h
  have ⟨a1, a2⟩ := inR_N (b := 2) h1.1
  have ⟨b1, b2⟩ := inR_N (b := 8) h1.2
  refine gg_iload_n K (i := 1) dX0_rowRun_5 rfl rfl ?_
  refine gg_iload_n K (i := 2) dX0_rowRun_6 rfl rfl ?_
  refine gg_callSR K k_X0_X0_line (x_line (nN t) (nN y) a2 b2) dX0_rowRun_7 rfl rfl rfl rfl ⟨rfl, rfl⟩ ?_
  refine gg_istore K dX0_rowRun_10 (by decide) ?_
  refine gg_aload_n K (i := 0) dX0_rowRun_12 rfl rfl ?_
  refine gg_iload K dX0_rowRun_13 rfl ?_
  refine gg_iload_n K (i := 3) dX0_rowRun_15 rfl rfl ?_
  refine gg_callTX 3 18 K T9 k_X0_X0_startOfRow (x_startOfRow hl0 ok (nN t * 8 + nN y) (by omega) rfl) dX0_rowRun_16 rfl rfl rfl rfl ⟨rfl, rfl⟩ (fun E u h => ?_) (fun v u h => ?_)
  · obtain ⟨rfl, rfl, h⟩ := h
    exact gx_out K htab (Nat.le_of_ble_eq_true rfl) (Nat.le_of_ble_eq_true rfl) (qE2 ok h1 (row_none h) (by decide))
  obtain ⟨rfl, e9, g1, g2, g3, rfl⟩ := h
  obtain ⟨r1, r2⟩ := row_found g1 (by omega) g2 g3
  refine gg_istore K dX0_rowRun_19 (by decide) ?_
  refine gg_aload_n K (i := 0) dX0_rowRun_21 rfl rfl ?_
  refine gg_iload K dX0_rowRun_22 rfl ?_
  refine gg_callSR K k_X0_X0_recordOfStart x_recordOfStart dX0_rowRun_24 rfl rfl rfl rfl ⟨rfl, rfl⟩ ?_
  refine gg_iload K dX0_rowRun_27 rfl ?_
  refine gg_iload K dX0_rowRun_29 rfl ?_
  refine gg_callSR K k_X0_X0_validOfStart x_validOfStart dX0_rowRun_31 rfl rfl rfl rfl ⟨rfl, rfl⟩ ?_
  refine gg_callRX K k_X0_X0_runNumber (x_runNumber (e9 / 60) (nN t * 8 + nN y) (e9 % 60) ok (by omega) (by omega) (by omega) (pk_div (d := 60) (by omega) (by omega) (by omega)) rfl (pk_rem (d := 60) (by omega) (by omega) (by omega))) dX0_rowRun_34 rfl rfl rfl rfl ⟨rfl, rfl⟩ ?_
  exact gg_x (gg_iret K hr dX0_rowRun_37 (Nat.le_of_ble_eq_true rfl) (Nat.le_of_ble_eq_true rfl) (qOk ok h1 r1 (by rw [r2])))
set_option maxRecDepth 100000 in
theorem x_rowFrom {l : Launch} {Z : ZT} {X : XT} {k kp dr : Nat → Int32} {T : Nat} (hl0 : l.stackTraces = false) (ok : okX kp T) {t y w9 : Int32} : mX l Z.1 (ty3 Z) yX0_rowFrom (.code yX0_rowFrom cX0_rowFrom 4 (some .int)) (rmk 9 200 8 48) (wX Z X k kp dr (nI T)) [.ref X.1, .int t, .int y, .int w9] (xPost Z X ((qS (vX k kp T) T (inR t 2 ∧ inR y 8) (∃ j, j < fb_ct (rwF (vX k kp T) (nN t * 8 + nN y)) (60 * (T + 1)) ∧ w9 = nI j) (nI ((kthD (rwF (vX k kp T) (nN t * 8 + nN y)) (nN w9) (60 * (T + 1))) / 60))))) (xErr Z X ((qS (vX k kp T) T (inR t 2 ∧ inR y 8) (∃ j, j < fb_ct (rwF (vX k kp T) (nN t * 8 + nN y)) (60 * (T + 1)) ∧ w9 = nI j) (nI ((kthD (rwF (vX k kp T) (nN t * 8 + nN y)) (nN w9) (60 * (T + 1))) / 60)))) cAB) := by
  refine mX_intro (own := RX0) [(0, .ref X.1), (1, .int t), (2, .int y), (3, .int w9)] (by decide +kernel) rfl rfl rfl rfl ?_
  intro p e s m args below meth c A K hr T9 htab
  have hT9 := ok.1
  refine gg_iload_n K (i := 1) dX0_rowFrom_0 rfl rfl ?_
  refine gg_iload_n K (i := 2) dX0_rowFrom_1 rfl rfl ?_
  refine gg_callTS 2 12 K T9 k_X0_X0_needTableAndKey (x_needTK hl0) dX0_rowFrom_2 rfl rfl rfl rfl ⟨rfl, rfl⟩ (fun E u h => ?_) (fun v u h => ?_)
  · obtain ⟨rfl, rfl, h⟩ := h
    exact gx_out K htab (Nat.le_of_ble_eq_true rfl) (Nat.le_of_ble_eq_true rfl) (qE1 ok h (by decide))
  obtain ⟨rfl, rfl, h1⟩ := h
  have ⟨a1, a2⟩ := inR_N (b := 2) h1.1
  have ⟨b1, b2⟩ := inR_N (b := 8) h1.2
  refine gg_aload_n K (i := 0) dX0_rowFrom_5 rfl rfl ?_
  refine gg_iload_n K (i := 1) dX0_rowFrom_6 rfl rfl ?_
  refine gg_iload_n K (i := 2) dX0_rowFrom_7 rfl rfl ?_
  refine gg_callSR K k_X0_X0_line (x_line (nN t) (nN y) a2 b2) dX0_rowFrom_8 rfl rfl rfl rfl ⟨rfl, rfl⟩ ?_
  refine gg_iload_n K (i := 3) dX0_rowFrom_11 rfl rfl ?_
  refine gg_callTX 3 18 K T9 k_X0_X0_startOfRow (x_startOfRow hl0 ok (nN t * 8 + nN y) (by omega) rfl) dX0_rowFrom_12 rfl rfl rfl rfl ⟨rfl, rfl⟩ (fun E u h => ?_) (fun v u h => ?_)
  · obtain ⟨rfl, rfl, h⟩ := h
    exact gx_out K htab (Nat.le_of_ble_eq_true rfl) (Nat.le_of_ble_eq_true rfl) (qE2 ok h1 (row_none h) (by decide))
  obtain ⟨rfl, e9, g1, g2, g3, rfl⟩ := h
  obtain ⟨r1, r2⟩ := row_found g1 (by omega) g2 g3
  refine gg_callSR K k_X0_X0_recordOfStart x_recordOfStart dX0_rowFrom_15 rfl rfl rfl rfl ⟨rfl, rfl⟩ ?_
  exact gg_x (gg_iret K hr dX0_rowFrom_18 (Nat.le_of_ble_eq_true rfl) (Nat.le_of_ble_eq_true rfl) (qOk ok h1 r1 (by rw [r2]; exact pk_div (d := 60) (by omega) (by omega) (by omega))))
set_option maxRecDepth 100000 in
theorem x_rowTo {l : Launch} {Z : ZT} {X : XT} {k kp dr : Nat → Int32} {T : Nat} (hl0 : l.stackTraces = false) (ok : okX kp T) {t y w9 : Int32} : mX l Z.1 (ty3 Z) yX0_rowTo (.code yX0_rowTo cX0_rowTo 9 (some .int)) (rmk 9 200 8 48) (wX Z X k kp dr (nI T)) [.ref X.1, .int t, .int y, .int w9] (xPost Z X ((qS (vX k kp T) T (inR t 2 ∧ inR y 8) (∃ j, j < fb_ct (rwF (vX k kp T) (nN t * 8 + nN y)) (60 * (T + 1)) ∧ w9 = nI j) (reF (fun a => smF (vX k kp T (((kthD (rwF (vX k kp T) (nN t * 8 + nN y)) (nN w9) (60 * (T + 1)))) / 60) (nN t * 8 + nN y)) (vX k kp T a (nN t * 8 + nN y)) (((kthD (rwF (vX k kp T) (nN t * 8 + nN y)) (nN w9) (60 * (T + 1)))) % 60)) (T - (kthD (rwF (vX k kp T) (nN t * 8 + nN y)) (nN w9) (60 * (T + 1))) / 60) ((kthD (rwF (vX k kp T) (nN t * 8 + nN y)) (nN w9) (60 * (T + 1))) / 60 + 1))))) (xErr Z X ((qS (vX k kp T) T (inR t 2 ∧ inR y 8) (∃ j, j < fb_ct (rwF (vX k kp T) (nN t * 8 + nN y)) (60 * (T + 1)) ∧ w9 = nI j) (reF (fun a => smF (vX k kp T (((kthD (rwF (vX k kp T) (nN t * 8 + nN y)) (nN w9) (60 * (T + 1)))) / 60) (nN t * 8 + nN y)) (vX k kp T a (nN t * 8 + nN y)) (((kthD (rwF (vX k kp T) (nN t * 8 + nN y)) (nN w9) (60 * (T + 1)))) % 60)) (T - (kthD (rwF (vX k kp T) (nN t * 8 + nN y)) (nN w9) (60 * (T + 1))) / 60) ((kthD (rwF (vX k kp T) (nN t * 8 + nN y)) (nN w9) (60 * (T + 1))) / 60 + 1)))) cAB) := by
  refine mX_intro (own := RX0) [(0, .ref X.1), (1, .int t), (2, .int y), (3, .int w9)] (by decide +kernel) rfl rfl rfl rfl ?_
  intro p e s m args below meth c A K hr T9 htab
  have hT9 := ok.1
  refine gg_iload_n K (i := 1) dX0_rowTo_0 rfl rfl ?_
  refine gg_iload_n K (i := 2) dX0_rowTo_1 rfl rfl ?_
  refine gg_callTS 2 12 K T9 k_X0_X0_needTableAndKey (x_needTK hl0) dX0_rowTo_2 rfl rfl rfl rfl ⟨rfl, rfl⟩ (fun E u h => ?_) (fun v u h => ?_)
  · obtain ⟨rfl, rfl, h⟩ := h
    exact gx_out K htab (Nat.le_of_ble_eq_true rfl) (Nat.le_of_ble_eq_true rfl) (qE1 ok h (by decide))
  obtain ⟨rfl, rfl, h1⟩ := h
  have ⟨a1, a2⟩ := inR_N (b := 2) h1.1
  have ⟨b1, b2⟩ := inR_N (b := 8) h1.2
  refine gg_iload_n K (i := 1) dX0_rowTo_5 rfl rfl ?_
  refine gg_iload_n K (i := 2) dX0_rowTo_6 rfl rfl ?_
  refine gg_callSR K k_X0_X0_line (x_line (nN t) (nN y) a2 b2) dX0_rowTo_7 rfl rfl rfl rfl ⟨rfl, rfl⟩ ?_
  refine gg_istore K dX0_rowTo_10 (by decide) ?_
  refine gg_aload_n K (i := 0) dX0_rowTo_12 rfl rfl ?_
  refine gg_iload K dX0_rowTo_13 rfl ?_
  refine gg_iload_n K (i := 3) dX0_rowTo_15 rfl rfl ?_
  refine gg_callTX 3 18 K T9 k_X0_X0_startOfRow (x_startOfRow hl0 ok (nN t * 8 + nN y) (by omega) rfl) dX0_rowTo_16 rfl rfl rfl rfl ⟨rfl, rfl⟩ (fun E u h => ?_) (fun v u h => ?_)
  · obtain ⟨rfl, rfl, h⟩ := h
    exact gx_out K htab (Nat.le_of_ble_eq_true rfl) (Nat.le_of_ble_eq_true rfl) (qE2 ok h1 (row_none h) (by decide))
  obtain ⟨rfl, e9, g1, g2, g3, rfl⟩ := h
  obtain ⟨r1, r2⟩ := row_found g1 (by omega) g2 g3
  rw [r2]
  refine gg_istore K dX0_rowTo_19 (by decide) ?_
  refine gg_iload K dX0_rowTo_21 rfl ?_
  refine gg_callSR K k_X0_X0_recordOfStart x_recordOfStart dX0_rowTo_23 rfl rfl rfl rfl ⟨rfl, rfl⟩ ?_
  refine gg_top (pk_div (d := 60) (by omega) (by omega) (by omega)) ?_
  refine gg_istore K dX0_rowTo_26 (by decide) ?_
  refine gg_iload K dX0_rowTo_28 rfl ?_
  refine gg_callSR K k_X0_X0_validOfStart x_validOfStart dX0_rowTo_30 rfl rfl rfl rfl ⟨rfl, rfl⟩ ?_
  refine gg_top (pk_rem (d := 60) (by omega) (by omega) (by omega)) ?_
  refine gg_istore K dX0_rowTo_33 (by decide) ?_
  refine gg_iload K dX0_rowTo_35 rfl ?_
  refine gg_iconst K (v := 1) dX0_rowTo_37 (by decide) ?_
  refine gg_iadd K dX0_rowTo_38 ?_
  refine gg_top (nI_1 _) ?_
  refine gg_istore K dX0_rowTo_39 (by decide) ?_
  obtain ⟨G, hG⟩ : ∃ G, G = reF (fun a => smF (vX k kp T (e9 / 60) (nN t * 8 + nN y)) (vX k kp T a (nN t * 8 + nN y)) (e9 % 60)) (T - e9 / 60) (e9 / 60 + 1) := ⟨_, rfl⟩
  rw [← hG]
  refine gg_sub (L' := [(8, .int (nI (e9 / 60 + 1))), (7, .int (nI (e9 % 60))), (6, .int (nI (e9 / 60))), (4, .int (nI (nN t * 8 + nN y))), (0, .ref X.1)]) ⟨rfl, rfl, rfl, rfl, rfl, trivial⟩ ?_
  refine gg_loop (fun i w L => ∃ (a : Nat), a + i = T + 2 ∧ w = wX Z X k kp dr (nI T) ∧ a ≤ T + 1 ∧ L = [(8, .int (nI a)), (7, .int (nI (e9 % 60))), (6, .int (nI (e9 / 60))), (4, .int (nI (nN t * 8 + nN y))), (0, .ref X.1)] ∧ G = reF (fun a => smF (vX k kp T (e9 / 60) (nN t * 8 + nN y)) (vX k kp T a (nN t * 8 + nN y)) (e9 % 60)) (T + 1 - a) a) (fun w L h => ?_) (fun i w L h ih => ?_) (T + 1 - e9 / 60) _ _ ⟨e9 / 60 + 1, by omega, rfl, by omega, rfl, by rw [hG, show T + 1 - (e9 / 60 + 1) = T - e9 / 60 by omega]⟩
  · obtain ⟨a, hj, -, h2, -⟩ := h
    omega
  · obtain ⟨a, hj, rfl, hj1, rfl, he⟩ := h
    refine gg_iload K dX0_rowTo_41 rfl ?_
    refine gg_aload_n K (i := 0) dX0_rowTo_43 rfl rfl ?_
    refine gX_today K dX0_rowTo_44 ?_
    refine gg_icmp_gt K (tgt := 74) dX0_rowTo_47 (by decide) (fun h47 => ?_) (fun h47 => ?_)
    · have hj2 := i_lt h47
      refine gg_iconst K (v := (-1)) dX0_rowTo_74 (by decide) ?_
      exact gg_x (gg_iret K hr dX0_rowTo_75 (Nat.le_of_ble_eq_true rfl) (Nat.le_of_ble_eq_true rfl) (qOk ok h1 r1 (by rw [he, show T + 1 - a = 0 by omega]; rfl)))
    have hj2 := i_nlt h47
    rw [show T + 1 - a = (T - a) + 1 by omega] at he
    unfold reF at he
    refine gg_aload_n K (i := 0) dX0_rowTo_50 rfl rfl ?_
    refine gg_iload K dX0_rowTo_51 rfl ?_
    refine gg_iload K dX0_rowTo_53 rfl ?_
    refine gg_iload K dX0_rowTo_55 rfl ?_
    refine gg_iload K dX0_rowTo_57 rfl ?_
    refine gg_callRX K k_X0_X0_sameRun (x_sameRun (e9 / 60) a (nN t * 8 + nN y) (e9 % 60) ok (by omega) hj2 (by omega) (by omega) rfl rfl rfl rfl) dX0_rowTo_59 rfl rfl rfl rfl ⟨rfl, rfl⟩ ?_
    refine gg_b_ne K (tgt := 68) dX0_rowTo_62 (by decide) (fun h62 => ?_) (fun h62 => ?_)
    · rw [if_pos h62] at he
      refine gg_iinc K (v := nI (a + 1)) dX0_rowTo_68 rfl (nI_inc (a)) (by decide) ?_
      refine gg_goto K (tgt := 41) dX0_rowTo_71 (by decide) ?_
      refine gg_sub (L' := [(8, .int (nI (a + 1))), (7, .int (nI (e9 % 60))), (6, .int (nI (e9 / 60))), (4, .int (nI (nN t * 8 + nN y))), (0, .ref X.1)]) ⟨rfl, rfl, rfl, rfl, rfl, trivial⟩ ?_
      exact ih _ _ ⟨a + 1, by omega, rfl, by omega, rfl, by rw [he, show T - a = T + 1 - (a + 1) by omega]⟩
    · rw [if_neg (by rw [h62]; decide)] at he
      refine gg_iload K dX0_rowTo_65 rfl ?_
      exact gg_x (gg_iret K hr dX0_rowTo_67 (Nat.le_of_ble_eq_true rfl) (Nat.le_of_ble_eq_true rfl) (qOk ok h1 r1 he.symm))
end
section
/-! Twotimes: the changes -/
def sSet (V : VT) (T : Nat) (P1 P2 P3 : Prop) (c3 : Int32) (li : Nat) (g : Nat → Int32) : ST := fun c r V' T' => T' = T ∧ ((¬ P1 ∧ c = 1 ∧ V' = V) ∨ (P1 ∧ ¬ P2 ∧ c = 2 ∧ V' = V) ∨ (P1 ∧ P2 ∧ ¬ P3 ∧ c = c3 ∧ V' = V) ∨ (P1 ∧ P2 ∧ P3 ∧ c = 0 ∧ r = nI (fb_ct (fun d => bP (¬ V T li d = g d)) 60) ∧ V' = updR V T li g 0 60))
def spG (V : VT) (T li : Nat) (v f q : Int32) : Nat → Int32 := fun d => if nN f ≤ d ∧ d < nN q then v else V T li d
theorem keepP_cong {V : VT} {T : Nat} {g h : Nat → Int32} {t9 key : Nat} (e : ∀ d, d < 60 → g d = h d) (hk : keepP V T g t9 key) : keepP V T h t9 key := fun d hd => by
  have := hk d hd
  rw [e d hd] at this
  exact this
theorem updR_cong {V : VT} {T li : Nat} {g h : Nat → Int32} (e : ∀ d, d < 60 → g d = h d) : updR V T li g 0 60 = updR V T li h 0 60 := by
  funext r l d
  unfold updR
  by_cases hc : r = T ∧ l = li ∧ 0 ≤ d ∧ d < 60
  · rw [if_pos hc, if_pos hc, e d hc.2.2.2]
  · rw [if_neg hc, if_neg hc]
theorem ct_cong {V : VT} {T li : Nat} {g h : Nat → Int32} (e : ∀ d, d < 60 → g d = h d) : fb_ct (fun d => bP (¬ V T li d = g d)) 60 = fb_ct (fun d => bP (¬ V T li d = h d)) 60 := fb_ct_cong (fun d hd => by rw [e d hd])
theorem spanR_N {f q : Int32} (h : spanR f q) : nN f < 60 ∧ f = nI (nN f) ∧ nN f < nN q ∧ nN q ≤ 60 ∧ q = nI (nN q) := by
  obtain ⟨f1, f2⟩ := inR_N (b := 60) h.1
  have h0 : ¬ q < 0 := fun z => h.2.1 (by
    rw [Int32.lt_iff_toInt_lt] at z
    rw [Int32.le_iff_toInt_le, f2, nI_toInt (by omega)]
    have : (0 : Int32).toInt = 0 := by decide
    omega)
  obtain ⟨j, h1, h2⟩ := nI_of h0
  have e : nN q = j := by rw [h2]; exact nI_clamp (by omega)
  have h3 := h.2.1
  have h4 := h.2.2
  rw [h2, f2] at h3
  rw [h2] at h4
  have h5 := i_nle h3
  have h6 := i_le (b := 60) h4
  exact ⟨f1, f2, by omega, by omega, by rw [e]; exact h2⟩
theorem sE1 {Z : ZT} {X : XT} {k kp dr : Nat → Int32} {T : Nat} {P1 P2 P3 : Prop} {c3 : Int32} {li : Nat} {g : Nat → Int32} {codes : List (String × Int32)} (ok : okX kp T) (h : ¬ P1) (hm : (eA, 1) ∈ codes) : xErr Z X (sSet (vX k kp T) T P1 P2 P3 c3 li g) codes eA (wX Z X k kp dr (nI T)) := ⟨1, k, kp, dr, T, hm, rfl, ok, rfl, Or.inl ⟨h, rfl, rfl⟩⟩
theorem sE2 {Z : ZT} {X : XT} {k kp dr : Nat → Int32} {T : Nat} {P1 P2 P3 : Prop} {c3 : Int32} {li : Nat} {g : Nat → Int32} {codes : List (String × Int32)} {E : String} (ok : okX kp T) (h1 : P1) (h : ¬ P2) (hm : (E, 2) ∈ codes) : xErr Z X (sSet (vX k kp T) T P1 P2 P3 c3 li g) codes E (wX Z X k kp dr (nI T)) := ⟨2, k, kp, dr, T, hm, rfl, ok, rfl, Or.inr (Or.inl ⟨h1, h, rfl, rfl⟩)⟩
theorem sE3 {Z : ZT} {X : XT} {k kp dr : Nat → Int32} {T : Nat} {P1 P2 P3 : Prop} {c3 : Int32} {li : Nat} {g : Nat → Int32} {codes : List (String × Int32)} {E : String} (ok : okX kp T) (h1 : P1) (h2 : P2) (h : ¬ P3) (hm : (E, c3) ∈ codes) : xErr Z X (sSet (vX k kp T) T P1 P2 P3 c3 li g) codes E (wX Z X k kp dr (nI T)) := ⟨c3, k, kp, dr, T, hm, rfl, ok, rfl, Or.inr (Or.inr (Or.inl ⟨h1, h2, h, rfl, rfl⟩))⟩
theorem sOk {Z : ZT} {X : XT} {k k' kp dr : Nat → Int32} {T : Nat} {P1 P2 P3 : Prop} {c3 : Int32} {li : Nat} {g dr' : Nat → Int32} (ok : okX kp T) (h1 : P1) (h2 : P2) (h3 : P3) (e : ∀ d, d < 60 → dr' d = g d) (hv : vX k' kp T = updR (vX k kp T) T li dr' 0 60) : xPost Z X (sSet (vX k kp T) T P1 P2 P3 c3 li g) (some (.int (nI (fb_ct (fun d => bP (¬ vX k kp T T li d = dr' d)) 60)))) (wX Z X k' kp dr (nI T)) := ⟨_, k', kp, dr, T, rfl, rfl, ok, rfl, Or.inr (Or.inr (Or.inr ⟨h1, h2, h3, rfl, by rw [ct_cong e], by rw [hv, updR_cong e]⟩))⟩
set_option maxRecDepth 100000 in
theorem x_put {l : Launch} {Z : ZT} {X : XT} {k kp dr : Nat → Int32} {T : Nat} (hl0 : l.stackTraces = false) (ok : okX kp T) (hv : valOk (vX k kp T) T) {t y v f q : Int32} : mX l Z.1 (ty3 Z) yX0_put (.code yX0_put cX0_put 6 (some .int)) (rmk 9 200 8 48) (wX Z X k kp dr (nI T)) [.ref X.1, .int t, .int y, .int v, .int f, .int q] (xPost Z X ((sSet (vX k kp T) T (inR t 2 ∧ inR y 8 ∧ inR v (if t = 0 then 100 else 8) ∧ spanR f q) True (keepP (vX k kp T) T (spG (vX k kp T) T (nN t * 8 + nN y) v f q) (nN t) (nN y)) 2 (nN t * 8 + nN y) (spG (vX k kp T) T (nN t * 8 + nN y) v f q)))) (xErr Z X ((sSet (vX k kp T) T (inR t 2 ∧ inR y 8 ∧ inR v (if t = 0 then 100 else 8) ∧ spanR f q) True (keepP (vX k kp T) T (spG (vX k kp T) T (nN t * 8 + nN y) v f q) (nN t) (nN y)) 2 (nN t * 8 + nN y) (spG (vX k kp T) T (nN t * 8 + nN y) v f q))) cAS) := by
  refine mX_intro (own := RX0) [(0, .ref X.1), (1, .int t), (2, .int y), (3, .int v), (4, .int f), (5, .int q)] (by decide +kernel) rfl rfl rfl rfl ?_
  intro p e s m args below meth c A K hr T9 htab
  refine gg_iload_n K (i := 1) dX0_put_0 rfl rfl ?_
  refine gg_iload_n K (i := 2) dX0_put_1 rfl rfl ?_
  refine gg_callTS 2 12 K T9 k_X0_X0_needTableAndKey (x_needTK hl0) dX0_put_2 rfl rfl rfl rfl ⟨rfl, rfl⟩ (fun E u h => ?_) (fun v u h => ?_)
  · obtain ⟨rfl, rfl, h⟩ := h
    exact gx_out K htab (Nat.le_of_ble_eq_true rfl) (Nat.le_of_ble_eq_true rfl) (sE1 ok (fun z => h ⟨z.1, z.2.1⟩) (by decide))
  obtain ⟨rfl, rfl, h1⟩ := h
  refine gg_iload_n K (i := 3) dX0_put_5 rfl rfl ?_
  refine gg_iload_n K (i := 1) dX0_put_6 rfl rfl ?_
  refine gg_callSR K k_X0_X0_valuesOf x_valuesOf dX0_put_7 rfl rfl rfl rfl ⟨rfl, rfl⟩ ?_
  refine gg_callTS 3 18 K T9 k_X0_X0_needRange (x_needRange hl0) dX0_put_10 rfl rfl rfl rfl ⟨rfl, rfl⟩ (fun E u h => ?_) (fun v u h => ?_)
  · obtain ⟨rfl, rfl, h⟩ := h
    exact gx_out K htab (Nat.le_of_ble_eq_true rfl) (Nat.le_of_ble_eq_true rfl) (sE1 ok (fun z => h z.2.2.1) (by decide))
  obtain ⟨rfl, rfl, h2⟩ := h
  refine gg_iload K dX0_put_13 rfl ?_
  refine gg_iload K dX0_put_15 rfl ?_
  refine gg_callTS 5 30 K T9 k_X0_X0_needSpan (x_needSpan hl0) dX0_put_17 rfl rfl rfl rfl ⟨rfl, rfl⟩ (fun E u h => ?_) (fun v u h => ?_)
  · obtain ⟨rfl, rfl, h⟩ := h
    exact gx_out K htab (Nat.le_of_ble_eq_true rfl) (Nat.le_of_ble_eq_true rfl) (sE1 ok (fun z => h z.2.2.2) (by decide))
  obtain ⟨rfl, rfl, h3⟩ := h
  have ⟨a1, a2⟩ := inR_N (b := 2) h1.1
  have ⟨b1, b2⟩ := inR_N (b := 8) h1.2
  have ⟨f1, f2, f3, f4, f5⟩ := spanR_N h3
  refine gg_aload_n K (i := 0) dX0_put_20 rfl rfl ?_
  refine gg_iload_n K (i := 1) dX0_put_21 rfl rfl ?_
  refine gg_iload_n K (i := 2) dX0_put_22 rfl rfl ?_
  refine gg_callSR K k_X0_X0_line (x_line (nN t) (nN y) a2 b2) dX0_put_23 rfl rfl rfl rfl ⟨rfl, rfl⟩ ?_
  refine gg_iload K dX0_put_26 rfl ?_
  refine gg_iload K dX0_put_28 rfl ?_
  refine gg_iload_n K (i := 3) dX0_put_30 rfl rfl ?_
  refine gg_callUX K k_X0_X0_draftSpan (x_draftSpan (nN t * 8 + nN y) (nN f) (nN q) ok rfl (by omega) f1 f4 rfl f2 f5) dX0_put_31 rfl rfl rfl rfl ⟨rfl, rfl⟩ (fun v9 u h => ?_)
  obtain ⟨rfl, dr', rfl, hdr⟩ := h
  have he : ∀ d, d < 60 → dr' d = (spG (vX k kp T) T (nN t * 8 + nN y) v f q) d := hdr
  refine gg_aload_n K (i := 0) dX0_put_34 rfl rfl ?_
  refine gg_iload_n K (i := 1) dX0_put_35 rfl rfl ?_
  refine gg_iload_n K (i := 2) dX0_put_36 rfl rfl ?_
  refine gg_callTX 6 36 K T9 k_X0_X0_recordDraft (x_recordDraft hl0 (nN t) (nN y) ok rfl a1 b1 (fun ht d hd => ?_) a2 b2) dX0_put_37 rfl rfl rfl rfl ⟨rfl, rfl⟩ (fun E u h => ?_) (fun v9 u h => ?_)
  · rw [he d hd]
    unfold spG
    split
    · have hne : ¬ t = 0 := fun z => by rw [z] at ht; exact absurd ht (by decide)
      rw [if_neg hne] at h2
      have ⟨c1, c2⟩ := inR_N (b := 8) h2
      exact Or.inr ⟨nN v, c2, c1⟩
    · rcases hv T (nN t * 8 + nN y) d (Nat.le_refl T) (by omega) hd with g | ⟨j, g1, -, g2⟩
      · exact Or.inl g
      · exact Or.inr ⟨j, g1, g2 (by omega)⟩
  · obtain ⟨rfl, rfl, h⟩ := h
    exact gx_out K htab (Nat.le_of_ble_eq_true rfl) (Nat.le_of_ble_eq_true rfl) (sE3 ok ⟨h1.1, h1.2, h2, h3⟩ trivial (fun z => h (keepP_cong (fun d hd => (he d hd).symm) z)) (by decide))
  · obtain ⟨g1, rfl, k', rfl, g2⟩ := h
    exact gg_x (gg_iret K hr dX0_put_40 (Nat.le_of_ble_eq_true rfl) (Nat.le_of_ble_eq_true rfl) (sOk ok ⟨h1.1, h1.2, h2, h3⟩ trivial (keepP_cong he g1) he g2))
set_option maxRecDepth 100000 in
theorem x_erase {l : Launch} {Z : ZT} {X : XT} {k kp dr : Nat → Int32} {T : Nat} (hl0 : l.stackTraces = false) (ok : okX kp T) (hv : valOk (vX k kp T) T) {t y f q : Int32} : mX l Z.1 (ty3 Z) yX0_erase (.code yX0_erase cX0_erase 5 (some .int)) (rmk 9 200 8 48) (wX Z X k kp dr (nI T)) [.ref X.1, .int t, .int y, .int f, .int q] (xPost Z X ((sSet (vX k kp T) T (inR t 2 ∧ inR y 8 ∧ spanR f q) True (keepP (vX k kp T) T (spG (vX k kp T) T (nN t * 8 + nN y) (-1) f q) (nN t) (nN y)) 2 (nN t * 8 + nN y) (spG (vX k kp T) T (nN t * 8 + nN y) (-1) f q)))) (xErr Z X ((sSet (vX k kp T) T (inR t 2 ∧ inR y 8 ∧ spanR f q) True (keepP (vX k kp T) T (spG (vX k kp T) T (nN t * 8 + nN y) (-1) f q) (nN t) (nN y)) 2 (nN t * 8 + nN y) (spG (vX k kp T) T (nN t * 8 + nN y) (-1) f q))) cAS) := by
  refine mX_intro (own := RX0) [(0, .ref X.1), (1, .int t), (2, .int y), (3, .int f), (4, .int q)] (by decide +kernel) rfl rfl rfl rfl ?_
  intro p e s m args below meth c A K hr T9 htab
  refine gg_iload_n K (i := 1) dX0_erase_0 rfl rfl ?_
  refine gg_iload_n K (i := 2) dX0_erase_1 rfl rfl ?_
  refine gg_callTS 2 12 K T9 k_X0_X0_needTableAndKey (x_needTK hl0) dX0_erase_2 rfl rfl rfl rfl ⟨rfl, rfl⟩ (fun E u h => ?_) (fun v u h => ?_)
  · obtain ⟨rfl, rfl, h⟩ := h
    exact gx_out K htab (Nat.le_of_ble_eq_true rfl) (Nat.le_of_ble_eq_true rfl) (sE1 ok (fun z => h ⟨z.1, z.2.1⟩) (by decide))
  obtain ⟨rfl, rfl, h1⟩ := h
  refine gg_iload_n K (i := 3) dX0_erase_5 rfl rfl ?_
  refine gg_iload K dX0_erase_6 rfl ?_
  refine gg_callTS 4 24 K T9 k_X0_X0_needSpan (x_needSpan hl0) dX0_erase_8 rfl rfl rfl rfl ⟨rfl, rfl⟩ (fun E u h => ?_) (fun v u h => ?_)
  · obtain ⟨rfl, rfl, h⟩ := h
    exact gx_out K htab (Nat.le_of_ble_eq_true rfl) (Nat.le_of_ble_eq_true rfl) (sE1 ok (fun z => h z.2.2) (by decide))
  obtain ⟨rfl, rfl, h3⟩ := h
  have ⟨a1, a2⟩ := inR_N (b := 2) h1.1
  have ⟨b1, b2⟩ := inR_N (b := 8) h1.2
  have ⟨f1, f2, f3, f4, f5⟩ := spanR_N h3
  refine gg_aload_n K (i := 0) dX0_erase_11 rfl rfl ?_
  refine gg_iload_n K (i := 1) dX0_erase_12 rfl rfl ?_
  refine gg_iload_n K (i := 2) dX0_erase_13 rfl rfl ?_
  refine gg_callSR K k_X0_X0_line (x_line (nN t) (nN y) a2 b2) dX0_erase_14 rfl rfl rfl rfl ⟨rfl, rfl⟩ ?_
  refine gg_iload_n K (i := 3) dX0_erase_17 rfl rfl ?_
  refine gg_iload K dX0_erase_18 rfl ?_
  refine gg_iconst K (v := (-1)) dX0_erase_20 (by decide) ?_
  refine gg_callUX K k_X0_X0_draftSpan (x_draftSpan (nN t * 8 + nN y) (nN f) (nN q) ok rfl (by omega) f1 f4 rfl f2 f5) dX0_erase_21 rfl rfl rfl rfl ⟨rfl, rfl⟩ (fun v9 u h => ?_)
  obtain ⟨rfl, dr', rfl, hdr⟩ := h
  have he : ∀ d, d < 60 → dr' d = (spG (vX k kp T) T (nN t * 8 + nN y) (-1) f q) d := hdr
  refine gg_aload_n K (i := 0) dX0_erase_24 rfl rfl ?_
  refine gg_iload_n K (i := 1) dX0_erase_25 rfl rfl ?_
  refine gg_iload_n K (i := 2) dX0_erase_26 rfl rfl ?_
  refine gg_callTX 5 30 K T9 k_X0_X0_recordDraft (x_recordDraft hl0 (nN t) (nN y) ok rfl a1 b1 (fun ht d hd => ?_) a2 b2) dX0_erase_27 rfl rfl rfl rfl ⟨rfl, rfl⟩ (fun E u h => ?_) (fun v9 u h => ?_)
  · rw [he d hd]
    unfold spG
    split
    · exact Or.inl rfl
    · rcases hv T (nN t * 8 + nN y) d (Nat.le_refl T) (by omega) hd with g | ⟨j, g1, -, g2⟩
      · exact Or.inl g
      · exact Or.inr ⟨j, g1, g2 (by omega)⟩
  · obtain ⟨rfl, rfl, h⟩ := h
    exact gx_out K htab (Nat.le_of_ble_eq_true rfl) (Nat.le_of_ble_eq_true rfl) (sE3 ok ⟨h1.1, h1.2, h3⟩ trivial (fun z => h (keepP_cong (fun d hd => (he d hd).symm) z)) (by decide))
  · obtain ⟨g1, rfl, k', rfl, g2⟩ := h
    exact gg_x (gg_iret K hr dX0_erase_30 (Nat.le_of_ble_eq_true rfl) (Nat.le_of_ble_eq_true rfl) (sOk ok ⟨h1.1, h1.2, h3⟩ trivial (keepP_cong he g1) he g2))
set_option maxRecDepth 100000 in
theorem x_restore {l : Launch} {Z : ZT} {X : XT} {k kp dr : Nat → Int32} {T : Nat} (hl0 : l.stackTraces = false) (ok : okX kp T) (hv : valOk (vX k kp T) T) {t y q : Int32} : mX l Z.1 (ty3 Z) yX0_restore (.code yX0_restore cX0_restore 4 (some .int)) (rmk 9 200 8 48) (wX Z X k kp dr (nI T)) [.ref X.1, .int t, .int y, .int q] (xPost Z X ((sSet (vX k kp T) T (inR t 2 ∧ inR y 8 ∧ inR q 60) (q ≤ nI T) (keepP (vX k kp T) T (vX k kp T (nN q) (nN t * 8 + nN y)) (nN t) (nN y)) 3 (nN t * 8 + nN y) (vX k kp T (nN q) (nN t * 8 + nN y))))) (xErr Z X ((sSet (vX k kp T) T (inR t 2 ∧ inR y 8 ∧ inR q 60) (q ≤ nI T) (keepP (vX k kp T) T (vX k kp T (nN q) (nN t * 8 + nN y)) (nN t) (nN y)) 3 (nN t * 8 + nN y) (vX k kp T (nN q) (nN t * 8 + nN y)))) cABS) := by
  refine mX_intro (own := RX0) [(0, .ref X.1), (1, .int t), (2, .int y), (3, .int q)] (by decide +kernel) rfl rfl rfl rfl ?_
  intro p e s m args below meth c A K hr T9 htab
  refine gg_iload_n K (i := 1) dX0_restore_0 rfl rfl ?_
  refine gg_iload_n K (i := 2) dX0_restore_1 rfl rfl ?_
  refine gg_callTS 2 12 K T9 k_X0_X0_needTableAndKey (x_needTK hl0) dX0_restore_2 rfl rfl rfl rfl ⟨rfl, rfl⟩ (fun E u h => ?_) (fun v u h => ?_)
  · obtain ⟨rfl, rfl, h⟩ := h
    exact gx_out K htab (Nat.le_of_ble_eq_true rfl) (Nat.le_of_ble_eq_true rfl) (sE1 ok (fun z => h ⟨z.1, z.2.1⟩) (by decide))
  obtain ⟨rfl, rfl, h1⟩ := h
  refine gg_aload_n K (i := 0) dX0_restore_5 rfl rfl ?_
  refine gg_iload_n K (i := 3) dX0_restore_6 rfl rfl ?_
  refine gg_callTX 4 24 K T9 k_X0_X0_needRecord (x_needRecord hl0) dX0_restore_7 rfl rfl rfl rfl ⟨rfl, rfl⟩ (fun E u h => ?_) (fun v u h => ?_)
  · obtain ⟨rfl, ⟨rfl, h⟩ | ⟨rfl, h, h'⟩⟩ := h
    · exact gx_out K htab (Nat.le_of_ble_eq_true rfl) (Nat.le_of_ble_eq_true rfl) (sE1 ok (fun z => h z.2.2) (by decide))
    · exact gx_out K htab (Nat.le_of_ble_eq_true rfl) (Nat.le_of_ble_eq_true rfl) (sE2 ok ⟨h1.1, h1.2, h⟩ h' (by decide))
  obtain ⟨rfl, rfl, h3, h4⟩ := h
  have ⟨a1, a2⟩ := inR_N (b := 2) h1.1
  have ⟨b1, b2⟩ := inR_N (b := 8) h1.2
  have ⟨q1, q2⟩ := inR_N (b := 60) h3
  have hT := leT q2 q1 ok.1 h4
  refine gg_aload_n K (i := 0) dX0_restore_10 rfl rfl ?_
  refine gg_iload_n K (i := 1) dX0_restore_11 rfl rfl ?_
  refine gg_iload_n K (i := 2) dX0_restore_12 rfl rfl ?_
  refine gg_callSR K k_X0_X0_line (x_line (nN t) (nN y) a2 b2) dX0_restore_13 rfl rfl rfl rfl ⟨rfl, rfl⟩ ?_
  refine gg_iload_n K (i := 3) dX0_restore_16 rfl rfl ?_
  refine gg_callUX K k_X0_X0_draftRecord (x_draftRecord (nN t * 8 + nN y) (nN q) ok (by omega) hT rfl q2) dX0_restore_17 rfl rfl rfl rfl ⟨rfl, rfl⟩ (fun v9 u h => ?_)
  obtain ⟨rfl, dr', rfl, he⟩ := h
  refine gg_aload_n K (i := 0) dX0_restore_20 rfl rfl ?_
  refine gg_iload_n K (i := 1) dX0_restore_21 rfl rfl ?_
  refine gg_iload_n K (i := 2) dX0_restore_22 rfl rfl ?_
  refine gg_callTX 5 30 K T9 k_X0_X0_recordDraft (x_recordDraft hl0 (nN t) (nN y) ok rfl a1 b1 (fun ht d hd => ?_) a2 b2) dX0_restore_23 rfl rfl rfl rfl ⟨rfl, rfl⟩ (fun E u h => ?_) (fun v9 u h => ?_)
  · rw [he d hd]
    rcases hv (nN q) (nN t * 8 + nN y) d hT (by omega) hd with g | ⟨j, g1, -, g2⟩
    · exact Or.inl g
    · exact Or.inr ⟨j, g1, g2 (by omega)⟩
  · obtain ⟨rfl, rfl, h⟩ := h
    exact gx_out K htab (Nat.le_of_ble_eq_true rfl) (Nat.le_of_ble_eq_true rfl) (sE3 ok ⟨h1.1, h1.2, h3⟩ h4 (fun z => h (keepP_cong (fun d hd => (he d hd).symm) z)) (by decide))
  · obtain ⟨g1, rfl, k', rfl, g2⟩ := h
    exact gg_x (gg_iret K hr dX0_restore_26 (Nat.le_of_ble_eq_true rfl) (Nat.le_of_ble_eq_true rfl) (sOk ok ⟨h1.1, h1.2, h3⟩ h4 (keepP_cong he g1) he g2))
/-! what is lost with all references -/
def loV (V : VT) (T y d i : Nat) : VT := fun r l d' => if r = T ∧ d' = d ∧ (l = y ∨ (8 ≤ l ∧ l < 8 + i ∧ V T l d = nI y)) then -1 else V r l d'
noncomputable def loN (V : VT) (T y d : Nat) : Nat := (if V T y d = -1 then 0 else 1) + fb_ct (fun i => bP (V T (8 + i) d = nI y)) 8
def eraV (V : VT) (T y a b : Nat) : VT := fun r l d => if r = T ∧ a ≤ d ∧ d < b ∧ (l = y ∨ (8 ≤ l ∧ V T l d = nI y)) then -1 else V r l d
theorem loV_0 (V : VT) (T y d : Nat) : uV V T y d (-1) = loV V T y d 0 := by
  funext r l d'
  unfold uV loV
  by_cases h : r = T ∧ l = y ∧ d' = d
  · rw [if_pos h, if_pos ⟨h.1, h.2.2, Or.inl h.2.1⟩]
  · rw [if_neg h, if_neg (fun q => by
      obtain ⟨q1, q2, q3 | q3⟩ := q
      · exact h ⟨q1, q3, q2⟩
      · omega)]
theorem loV_at {V : VT} {T y d i : Nat} (hy : y < 8) : loV V T y d i T (8 + i) d = V T (8 + i) d := if_neg (fun q => by
  obtain ⟨q1, q2, q3 | q3⟩ := q <;> omega)
theorem loV_hit {V : VT} {T y d i : Nat} (h : V T (8 + i) d = nI y) : uV (loV V T y d i) T (8 + i) d (-1) = loV V T y d (i + 1) := by
  funext r l d'
  unfold uV loV
  by_cases h1 : r = T ∧ l = 8 + i ∧ d' = d
  · obtain ⟨rfl, rfl, rfl⟩ := h1
    rw [if_pos ⟨rfl, rfl, rfl⟩, if_pos ⟨rfl, rfl, Or.inr ⟨by omega, by omega, h⟩⟩]
  · rw [if_neg h1]
    by_cases h2 : r = T ∧ d' = d ∧ (l = y ∨ (8 ≤ l ∧ l < 8 + i ∧ V T l d = nI y))
    · rw [if_pos h2, if_pos ⟨h2.1, h2.2.1, h2.2.2.elim Or.inl (fun z => Or.inr ⟨z.1, by omega, z.2.2⟩)⟩]
    · rw [if_neg h2, if_neg (fun q => by
        obtain ⟨q1, q2, q3 | q3⟩ := q
        · exact h2 ⟨q1, q2, Or.inl q3⟩
        · by_cases hl : l = 8 + i
          · exact h1 ⟨q1, hl, q2⟩
          · exact h2 ⟨q1, q2, Or.inr ⟨q3.1, by omega, q3.2.2⟩⟩)]
theorem loV_miss {V : VT} {T y d i : Nat} (h : ¬ V T (8 + i) d = nI y) : loV V T y d i = loV V T y d (i + 1) := by
  funext r l d'
  unfold loV
  by_cases h2 : r = T ∧ d' = d ∧ (l = y ∨ (8 ≤ l ∧ l < 8 + i ∧ V T l d = nI y))
  · rw [if_pos h2, if_pos ⟨h2.1, h2.2.1, h2.2.2.elim Or.inl (fun z => Or.inr ⟨z.1, by omega, z.2.2⟩)⟩]
  · rw [if_neg h2, if_neg (fun q => by
      obtain ⟨q1, q2, q3 | q3⟩ := q
      · exact h2 ⟨q1, q2, Or.inl q3⟩
      · by_cases hl : l = 8 + i
        · rw [hl] at q3
          exact h q3.2.2
        · exact h2 ⟨q1, q2, Or.inr ⟨q3.1, by omega, q3.2.2⟩⟩)]
set_option maxRecDepth 100000 in
theorem x_loseRefs {l : Launch} {Z : ZT} {X : XT} {k kp dr : Nat → Int32} {T : Nat} (ok : okX kp T) (y9 d : Nat) {x z : Int32} (hy9 : y9 < 8) (hd : d < 60) (hx : x = nI y9) (hz : z = nI d) : mA l Z.1 (ty3 Z) yX0_loseWithReferences cX0_loseWithReferences 5 (some .int) (rmk 3 90 0 0) (wX Z X k kp dr (nI T)) [.ref X.1, .int x, .int z] (fun v u => v = some (.int (nI (loN (vX k kp T) T y9 d))) ∧ ∃ k', u = wX Z X k' kp dr (nI T) ∧ vX k' kp T = loV (vX k kp T) T y9 d 8) := by
  refine mA_intro (own := RX0) [(0, .ref X.1), (1, .int x), (2, .int z)] (by decide +kernel) rfl rfl rfl rfl ?_
  intro p e s m args below meth c A K hr hin
  subst hx hz
  refine gg_aload_n K (i := 0) dX0_loseWithReferences_0 rfl rfl ?_
  refine gg_iconst K (v := 0) dX0_loseWithReferences_1 (by decide) ?_
  refine gg_iload_n K (i := 1) dX0_loseWithReferences_2 rfl rfl ?_
  refine gg_callSR K k_X0_X0_line (x_line 0 y9 rfl rfl) dX0_loseWithReferences_3 rfl rfl rfl rfl ⟨rfl, rfl⟩ ?_
  refine gg_iload_n K (i := 2) dX0_loseWithReferences_6 rfl rfl ?_
  refine gg_callUX K k_X0_X0_lose (x_lose y9 d ok rfl (by omega) hd (congrArg nI (by omega)) rfl) dX0_loseWithReferences_7 rfl rfl rfl rfl ⟨rfl, rfl⟩ (fun v9 u h => ?_)
  obtain ⟨rfl, k', rfl, hk⟩ := h
  rw [loV_0] at hk
  refine gg_top (y := nI ((if vX k kp T T y9 d = -1 then 0 else 1) + fb_ct (fun i => bP (vX k kp T T (8 + i) d = nI y9)) 0)) ?_ ?_
  · by_cases hm : vX k kp T T y9 d = -1
    · rw [bP_f (fun z => z hm), if_pos hm]; rfl
    · rw [bP_t hm, if_neg hm]; rfl
  refine gg_istore_n K (i := 3) dX0_loseWithReferences_10 rfl (by decide) ?_
  refine gg_iconst K (v := 0) dX0_loseWithReferences_11 (by decide) ?_
  refine gg_istore K dX0_loseWithReferences_12 (by decide) ?_
  refine gg_sub (L' := [(4, .int (nI 0)), (3, .int (nI ((if vX k kp T T y9 d = -1 then 0 else 1) + fb_ct (fun i => bP (vX k kp T T (8 + i) d = nI y9)) 0))), (0, .ref X.1), (1, .int (nI y9)), (2, .int (nI d))]) ⟨rfl, rfl, rfl, rfl, rfl, trivial⟩ ?_
  refine gg_loop (fun i w L => ∃ (j : Nat) (k' : Nat → Int32), j + i = 9 ∧ w = wX Z X k' kp dr (nI T) ∧ j ≤ 8 ∧ L = [(4, .int (nI j)), (3, .int (nI ((if vX k kp T T y9 d = -1 then 0 else 1) + fb_ct (fun i => bP (vX k kp T T (8 + i) d = nI y9)) j))), (0, .ref X.1), (1, .int (nI y9)), (2, .int (nI d))] ∧ vX k' kp T = loV (vX k kp T) T y9 d j) (fun w L h => ?_) (fun i w L h ih => ?_) 9 _ _ ⟨0, k', rfl, rfl, by omega, rfl, hk⟩
  · obtain ⟨j, k', hj, -, h2, -⟩ := h
    omega
  · obtain ⟨j, k', hj, rfl, -, rfl, hk⟩ := h
    refine gg_iload K dX0_loseWithReferences_14 rfl ?_
    refine gg_bipush K (v := 8) dX0_loseWithReferences_16 (by decide) ?_
    refine gg_icmp_ge K (tgt := 60) dX0_loseWithReferences_18 (by decide) (fun h18 => ?_) (fun h18 => ?_)
    · have hj2 := i_le (a := 8) h18
      have hj3 : j = 8 := by omega
      subst hj3
      refine gg_iload_n K (i := 3) dX0_loseWithReferences_60 rfl rfl ?_
      exact gg_iret K hr dX0_loseWithReferences_61 (Nat.le_of_ble_eq_true rfl) (Nat.le_of_ble_eq_true rfl) ⟨rfl, k', rfl, hk⟩
    have hj2 := i_nle (a := 8) h18
    refine gg_aload_n K (i := 0) dX0_loseWithReferences_21 rfl rfl ?_
    refine gg_aload_n K (i := 0) dX0_loseWithReferences_22 rfl rfl ?_
    refine gX_today K dX0_loseWithReferences_23 ?_
    refine gg_iconst K (v := 1) dX0_loseWithReferences_26 (by decide) ?_
    refine gg_iload K dX0_loseWithReferences_27 rfl ?_
    refine gg_callSR K k_X0_X0_line (x_line 1 j rfl rfl) dX0_loseWithReferences_29 rfl rfl rfl rfl ⟨rfl, rfl⟩ ?_
    refine gg_iload_n K (i := 2) dX0_loseWithReferences_32 rfl rfl ?_
    refine gg_callRX K k_X0_X0_knownOn (x_knownOn T (8 + j) d ok (Nat.le_refl T) (by omega) hd rfl (congrArg nI (by omega)) rfl) dX0_loseWithReferences_33 rfl rfl rfl rfl ⟨rfl, rfl⟩ ?_
    have hat : vX k' kp T T (8 + j) d = vX k kp T T (8 + j) d := by rw [hk]; exact loV_at hy9
    refine gg_iload_n K (i := 1) dX0_loseWithReferences_36 rfl rfl ?_
    refine gg_icmp_ne K (tgt := 54) dX0_loseWithReferences_37 (by decide) (fun h37 => ?_) (fun h37 => ?_)
    · rw [hat] at h37
      refine gg_iinc K (v := nI (j + 1)) dX0_loseWithReferences_54 rfl (nI_inc (j)) (by decide) ?_
      refine gg_goto K (tgt := 14) dX0_loseWithReferences_57 (by decide) ?_
      refine gg_sub (L' := [(4, .int (nI (j + 1))), (3, .int (nI ((if vX k kp T T y9 d = -1 then 0 else 1) + fb_ct (fun i => bP (vX k kp T T (8 + i) d = nI y9)) j))), (0, .ref X.1), (1, .int (nI y9)), (2, .int (nI d))]) ⟨rfl, rfl, rfl, rfl, rfl, trivial⟩ ?_
      exact ih _ _ ⟨j + 1, k', by omega, rfl, by omega, by rw [fb_ct_succ, bP_f h37]; rfl, by rw [hk]; exact loV_miss h37⟩
    · rw [hat] at h37
      refine gg_iload_n K (i := 3) dX0_loseWithReferences_40 rfl rfl ?_
      refine gg_aload_n K (i := 0) dX0_loseWithReferences_41 rfl rfl ?_
      refine gg_iconst K (v := 1) dX0_loseWithReferences_42 (by decide) ?_
      refine gg_iload K dX0_loseWithReferences_43 rfl ?_
      refine gg_callSR K k_X0_X0_line (x_line 1 j rfl rfl) dX0_loseWithReferences_45 rfl rfl rfl rfl ⟨rfl, rfl⟩ ?_
      refine gg_iload_n K (i := 2) dX0_loseWithReferences_48 rfl rfl ?_
      refine gg_callUX K k_X0_X0_lose (x_lose (8 + j) d ok rfl (by omega) hd (congrArg nI (by omega)) rfl) dX0_loseWithReferences_49 rfl rfl rfl rfl ⟨rfl, rfl⟩ (fun v9 u h => ?_)
      obtain ⟨rfl, k2, rfl, hk2⟩ := h
      rw [hk, loV_hit h37] at hk2
      refine gg_top (y := nI 1) (bI_t (bP_t (by rw [hat, h37]; exact nI_m1 (by omega)))) ?_
      refine gg_iadd K dX0_loseWithReferences_52 ?_
      refine gg_top (nI_add _ _) ?_
      refine gg_istore_n K (i := 3) dX0_loseWithReferences_53 rfl (by decide) ?_
      refine gg_iinc K (v := nI (j + 1)) dX0_loseWithReferences_54 rfl (nI_inc (j)) (by decide) ?_
      refine gg_goto K (tgt := 14) dX0_loseWithReferences_57 (by decide) ?_
      refine gg_sub (L' := [(4, .int (nI (j + 1))), (3, .int (nI ((if vX k kp T T y9 d = -1 then 0 else 1) + fb_ct (fun i => bP (vX k kp T T (8 + i) d = nI y9)) j + 1))), (0, .ref X.1), (1, .int (nI y9)), (2, .int (nI d))]) ⟨rfl, rfl, rfl, rfl, rfl, trivial⟩ ?_
      exact ih _ _ ⟨j + 1, k2, by omega, rfl, by omega, by rw [fb_ct_succ, bP_t h37]; rfl, hk2⟩
theorem eraV_0 (V : VT) (T y a : Nat) : eraV V T y a a = V := by
  funext r l d
  exact if_neg (by omega)
theorem eraV_at {V : VT} {T y a b : Nat} (l d : Nat) (h : b ≤ d) : eraV V T y a b T l d = V T l d := if_neg (by omega)
theorem loN_eraV {V : VT} {T y a b : Nat} : loN (eraV V T y a b) T y b = loN V T y b := by
  unfold loN
  rw [eraV_at y b (Nat.le_refl b)]
  congr 1
  exact fb_ct_cong (fun i _ => by rw [eraV_at (8 + i) b (Nat.le_refl b)])
theorem eraV_step {V : VT} {T y a b : Nat} (hab : a ≤ b) (h16 : ∀ l, 16 ≤ l → V T l b = -1) (hy : y < 8) : loV (eraV V T y a b) T y b 8 = eraV V T y a (b + 1) := by
  funext r l d
  have e : eraV V T y a b T l b = V T l b := eraV_at l b (Nat.le_refl b)
  unfold loV
  rw [e]
  by_cases h1 : r = T ∧ d = b ∧ (l = y ∨ (8 ≤ l ∧ l < 8 + 8 ∧ V T l b = nI y))
  · rw [if_pos h1]
    obtain ⟨rfl, rfl, h1⟩ := h1
    exact (if_pos ⟨rfl, hab, by omega, h1.elim Or.inl (fun z => Or.inr ⟨z.1, z.2.2⟩)⟩).symm
  · rw [if_neg h1]
    unfold eraV
    by_cases h2 : r = T ∧ a ≤ d ∧ d < b ∧ (l = y ∨ (8 ≤ l ∧ V T l d = nI y))
    · rw [if_pos h2, if_pos ⟨h2.1, h2.2.1, by omega, h2.2.2.2⟩]
    · rw [if_neg h2, if_neg (fun q => by
        obtain ⟨q1, q2, q3, q4⟩ := q
        by_cases hd : d = b
        · rw [hd] at q4
          refine h1 ⟨q1, hd, q4.elim Or.inl (fun z => Or.inr ⟨z.1, ?_, z.2⟩)⟩
          by_cases hl : l < 16
          · exact hl
          · have := z.2
            rw [h16 l (by omega)] at this
            exact absurd this.symm (nI_m1 (by omega))
        · exact h2 ⟨q1, q2, by omega, q4⟩)]
def sEra (V : VT) (T : Nat) (P1 : Prop) (y a b : Nat) : ST := fun c r V' T' => T' = T ∧ ((¬ P1 ∧ c = 1 ∧ V' = V) ∨ (P1 ∧ c = 0 ∧ r = nI (fb_sm (fun i => loN V T y (a + i)) (b - a)) ∧ V' = eraV V T y a b))
theorem vX_16 {k kp : Nat → Int32} {T r l d : Nat} (h : 16 ≤ l) : vX k kp T r l d = -1 := if_neg (by omega)
set_option maxRecDepth 100000 in
theorem x_eraseAll {l : Launch} {Z : ZT} {X : XT} {k kp dr : Nat → Int32} {T : Nat} (hl0 : l.stackTraces = false) (ok : okX kp T) {y f q : Int32} : mX l Z.1 (ty3 Z) yX0_eraseAll (.code yX0_eraseAll cX0_eraseAll 6 (some .int)) (rmk 9 200 8 48) (wX Z X k kp dr (nI T)) [.ref X.1, .int y, .int f, .int q] (xPost Z X ((sEra (vX k kp T) T (inR y 8 ∧ spanR f q) (nN y) (nN f) (nN q)))) (xErr Z X ((sEra (vX k kp T) T (inR y 8 ∧ spanR f q) (nN y) (nN f) (nN q))) cA1) := by
  refine mX_intro (own := RX0) [(0, .ref X.1), (1, .int y), (2, .int f), (3, .int q)] (by decide +kernel) rfl rfl rfl rfl ?_
  intro p e s m args below meth c A K hr T9 htab
  refine gg_iload_n K (i := 1) dX0_eraseAll_0 rfl rfl ?_
  refine gg_bipush K (v := 8) dX0_eraseAll_1 (by decide) ?_
  refine gg_callTS 1 6 K T9 k_X0_X0_needRange (x_needRange hl0) dX0_eraseAll_3 rfl rfl rfl rfl ⟨rfl, rfl⟩ (fun E u h => ?_) (fun v u h => ?_)
  · obtain ⟨rfl, rfl, h⟩ := h
    exact gx_out K htab (Nat.le_of_ble_eq_true rfl) (Nat.le_of_ble_eq_true rfl) (⟨1, k, kp, dr, T, by decide, rfl, ok, rfl, Or.inl ⟨fun z => h z.1, rfl, rfl⟩⟩)
  obtain ⟨rfl, rfl, h1⟩ := h
  refine gg_iload_n K (i := 2) dX0_eraseAll_6 rfl rfl ?_
  refine gg_iload_n K (i := 3) dX0_eraseAll_7 rfl rfl ?_
  refine gg_callTS 3 18 K T9 k_X0_X0_needSpan (x_needSpan hl0) dX0_eraseAll_8 rfl rfl rfl rfl ⟨rfl, rfl⟩ (fun E u h => ?_) (fun v u h => ?_)
  · obtain ⟨rfl, rfl, h⟩ := h
    exact gx_out K htab (Nat.le_of_ble_eq_true rfl) (Nat.le_of_ble_eq_true rfl) (⟨1, k, kp, dr, T, by decide, rfl, ok, rfl, Or.inl ⟨fun z => h z.2, rfl, rfl⟩⟩)
  obtain ⟨rfl, rfl, h3⟩ := h
  have ⟨b1, b2⟩ := inR_N (b := 8) h1
  have ⟨f1, f2, f3, f4, f5⟩ := spanR_N h3
  refine gg_iconst K (v := 0) dX0_eraseAll_11 (by decide) ?_
  refine gg_istore K dX0_eraseAll_12 (by decide) ?_
  refine gg_iload_n K (i := 2) dX0_eraseAll_14 rfl rfl ?_
  refine gg_istore K dX0_eraseAll_15 (by decide) ?_
  refine gg_sub (L' := [(5, .int (nI (nN f + 0))), (4, .int (nI ((fb_sm (fun i => loN (vX k kp T) T (nN y) (nN f + i)) (0))))), (0, .ref X.1), (1, .int y), (2, .int f), (3, .int q)]) ⟨by rw [← show f = nI (nN f + 0) from f2]; rfl, rfl, rfl, rfl, rfl, rfl, trivial⟩ ?_
  refine gg_loop (fun i w L => ∃ (j : Nat) (k' : Nat → Int32), j + i = nN q - nN f + 1 ∧ w = wX Z X k' kp dr (nI T) ∧ j ≤ nN q - nN f ∧ L = [(5, .int (nI (nN f + j))), (4, .int (nI ((fb_sm (fun i => loN (vX k kp T) T (nN y) (nN f + i)) (j))))), (0, .ref X.1), (1, .int y), (2, .int f), (3, .int q)] ∧ vX k' kp T = eraV (vX k kp T) T (nN y) (nN f) (nN f + j)) (fun w L h => ?_) (fun i w L h ih => ?_) (nN q - nN f + 1) _ _ ⟨0, k, by omega, rfl, by omega, rfl, (eraV_0 _ _ _ _).symm⟩
  · obtain ⟨j, k', hj, -, h2, -⟩ := h
    omega
  · obtain ⟨j, k', hj, rfl, hj1, rfl, hk⟩ := h
    refine gg_iload K dX0_eraseAll_17 rfl ?_
    refine gg_iload_n K (i := 3) dX0_eraseAll_19 rfl rfl ?_
    refine gg_icmp_ge K (tgt := 41) dX0_eraseAll_20 (by decide) (fun h20 => ?_) (fun h20 => ?_)
    · rw [f5] at h20
      have hj2 := i_le h20
      have hj3 : j = nN q - nN f := by omega
      subst hj3
      rw [show nN f + (nN q - nN f) = nN q by omega] at hk
      refine gg_iload K dX0_eraseAll_41 rfl ?_
      exact gg_x (gg_iret K hr dX0_eraseAll_43 (Nat.le_of_ble_eq_true rfl) (Nat.le_of_ble_eq_true rfl) ⟨_, k', kp, dr, T, rfl, rfl, ok, rfl, Or.inr ⟨⟨h1, h3⟩, rfl, rfl, hk⟩⟩)
    rw [f5] at h20
    have hj2 := i_nle h20
    refine gg_iload K dX0_eraseAll_23 rfl ?_
    refine gg_aload_n K (i := 0) dX0_eraseAll_25 rfl rfl ?_
    refine gg_iload_n K (i := 1) dX0_eraseAll_26 rfl rfl ?_
    refine gg_iload K dX0_eraseAll_27 rfl ?_
    refine gg_callUX K k_X0_X0_loseWithReferences (x_loseRefs ok (nN y) (nN f + j) b1 (by omega) b2 rfl) dX0_eraseAll_29 rfl rfl rfl rfl ⟨rfl, rfl⟩ (fun v9 u h => ?_)
    obtain ⟨rfl, k2, rfl, hk2⟩ := h
    rw [hk, eraV_step (by omega) (fun l hl => vX_16 hl) b1] at hk2
    refine gg_iadd K dX0_eraseAll_32 ?_
    refine gg_top (y := nI (fb_sm (fun i => loN (vX k kp T) T (nN y) (nN f + i)) ((j + 1)))) (by rw [hk, loN_eraV]; exact nI_add _ _) ?_
    refine gg_istore K dX0_eraseAll_33 (by decide) ?_
    refine gg_iinc K (v := nI (nN f + j + 1)) dX0_eraseAll_35 rfl (nI_inc (nN f + j)) (by decide) ?_
    refine gg_goto K (tgt := 17) dX0_eraseAll_38 (by decide) ?_
    refine gg_sub (L' := [(5, .int (nI (nN f + (j + 1)))), (4, .int (nI ((fb_sm (fun i => loN (vX k kp T) T (nN y) (nN f + i)) ((j + 1)))))), (0, .ref X.1), (1, .int y), (2, .int f), (3, .int q)]) ⟨rfl, rfl, rfl, rfl, rfl, rfl, trivial⟩ ?_
    exact ih _ _ ⟨j + 1, k2, by omega, rfl, by omega, rfl, hk2⟩
end
section
/-! floats that are no NaN; Twotimes: days that pass, the average -/
theorem settle_num (f : FP.Core.Fmt) (s : Bool) (c : Nat) (q : Int) : FP.Core.settle f s c q ≠ .nan := by
  unfold FP.Core.settle FP.Core.bound
  split <;> split <;> (intro h; cases h)
theorem ratio_num (f : FP.Core.Fmt) (s : Bool) (a b : Nat) (e : Int) : FP.Core.roundRatio f s a b e ≠ .nan := by
  unfold FP.Core.roundRatio FP.Core.roundAt
  split
  · intro h; cases h
  · exact settle_num _ _ _ _
theorem whole_fin {i : Int} {d : FP.Core.Datum} (h : FP.Core.Whole i d) : ∃ s c q, d = .fin s c q := by
  cases d with
  | nan => exact h.elim
  | inf s => exact h.elim
  | fin s c q => exact ⟨s, c, q, rfl⟩
theorem fdiv_num {a b : Int32} (ha : a.toInt.natAbs ≤ 2 ^ 24) (hb : b.toInt.natAbs ≤ 2 ^ 24) (h0 : b.toInt ≠ 0) : FP.Core.val32 (FP.fdiv (FP.i2f a) (FP.i2f b)) ≠ .nan := by
  have h1 := FP.Core.i2f_int ha
  have h2 := FP.Core.i2f_int hb
  show FP.Core.val32 (FP.Core.fdiv (FP.Core.i2f a) (FP.Core.i2f b)) ≠ .nan
  rw [FP.Core.val32_fdiv]
  unfold FP.Core.FInt at h1 h2
  obtain ⟨s1, c1, q1, e1⟩ := whole_fin h1
  obtain ⟨s2, c2, q2, e2⟩ := whole_fin h2
  rw [e1] at h1 ⊢
  rw [e2] at h2 ⊢
  have hd : ¬ c2 = 0 := fun z => h0 ((FP.Core.whole_zero h2).mp z)
  show (if c2 = 0 then (if c1 = 0 then FP.Core.Datum.nan else .inf (s1 != s2)) else FP.Core.roundRatio FP.Core.b32 (s1 != s2) c1 c2 (q1 - q2)) ≠ .nan
  rw [if_neg hd]
  exact ratio_num _ _ _ _ _
theorem vf_n32_of {a : UInt32} (h : FP.Core.val32 a ≠ .nan) : vf_n32 a := by
  unfold vf_n32
  rw [UInt32.le_iff_toNat_le]
  have e : (a &&& 0x7fffffff).toNat = a.toNat % 2 ^ 31 := by
    rw [UInt32.toNat_and]
    exact Nat.and_two_pow_sub_one_eq_mod _ 31
  rw [e]
  show a.toNat % 2 ^ 31 ≤ 255 * 2 ^ 23
  refine Nat.not_lt.mp (fun q => h ?_)
  have ht : FP.Core.b32.tails = 2 ^ 23 := rfl
  have he : FP.Core.b32.exps = 2 ^ 8 := rfl
  have h1 : FP.Core.fieldE FP.Core.b32 a.toNat = FP.Core.b32.exps - 1 := by
    unfold FP.Core.fieldE
    rw [ht, he]
    omega
  have h2 : ¬ FP.Core.fieldT FP.Core.b32 a.toNat = 0 := by
    unfold FP.Core.fieldT
    rw [ht]
    omega
  unfold FP.Core.val32 FP.Core.decode
  rw [if_pos h1, if_neg h2]
theorem vf_n64_of {a : UInt64} (h : FP.Core.val64 a ≠ .nan) : vf_n64 a := by
  unfold vf_n64
  rw [UInt64.le_iff_toNat_le]
  have e : (a &&& 0x7fffffffffffffff).toNat = a.toNat % 2 ^ 63 := by
    rw [UInt64.toNat_and]
    exact Nat.and_two_pow_sub_one_eq_mod _ 63
  rw [e]
  show a.toNat % 2 ^ 63 ≤ 2047 * 2 ^ 52
  refine Nat.not_lt.mp (fun q => h ?_)
  have ht : FP.Core.b64.tails = 2 ^ 52 := rfl
  have he : FP.Core.b64.exps = 2 ^ 11 := rfl
  have h1 : FP.Core.fieldE FP.Core.b64 a.toNat = FP.Core.b64.exps - 1 := by
    unfold FP.Core.fieldE
    rw [ht, he]
    omega
  have h2 : ¬ FP.Core.fieldT FP.Core.b64 a.toNat = 0 := by
    unfold FP.Core.fieldT
    rw [ht]
    omega
  unfold FP.Core.val64 FP.Core.decode
  rw [if_pos h1, if_neg h2]
theorem f2d_num {a : UInt32} (h : FP.Core.val32 a ≠ .nan) : FP.Core.val64 (FP.f2d a) ≠ .nan := by
  have e : FP.f2d a = FP.Core.f2d a := if_neg (fun z => h ((FP.Core.fIsNaN_iff a).mp z))
  rw [e, FP.Core.val64_f2d]
  cases hd : FP.Core.val32 a with
  | nan => exact absurd hd h
  | inf s => intro q; cases q
  | fin s c q => exact ratio_num _ _ _ _ _
/-- the sum of the values, and how many there are -/
def smV (f : Nat → Int32) : Nat → Int32
  | 0 => 0
  | n + 1 => if f n = -1 then smV f n else smV f n + f n
noncomputable def ctV (f : Nat → Int32) (n : Nat) : Nat := fb_ct (fun d => bP (¬ f d = -1)) n
theorem smV_le {f : Nat → Int32} : ∀ {n : Nat}, (∀ d, d < n → f d = -1 ∨ ∃ j, f d = nI j ∧ j < 100) → n ≤ 60 → ∃ z, smV f n = nI z ∧ z ≤ 100 * n
  | 0, _, _ => ⟨0, rfl, by omega⟩
  | n + 1, h, hn => by
    obtain ⟨z, h1, h2⟩ := smV_le (f := f) (n := n) (fun d hd => h d (by omega)) (by omega)
    unfold smV
    by_cases hm : f n = -1
    · rw [if_pos hm]
      exact ⟨z, h1, by omega⟩
    · obtain ⟨j, g1, g2⟩ := (h n (by omega)).resolve_left hm
      rw [if_neg hm, h1, g1, nI_add]
      exact ⟨z + j, rfl, by omega⟩
def avF (f : Nat → Int32) (n : Nat) : UInt32 := FP.fdiv (FP.i2f (smV f 60)) (FP.i2f (nI n))
theorem avF_num {f : Nat → Int32} (h : ∀ d, d < 60 → f d = -1 ∨ ∃ j, f d = nI j ∧ j < 100) {n : Nat} (h0 : 0 < n) (hn : n ≤ 60) : FP.Core.val32 (avF f n) ≠ .nan := by
  obtain ⟨z, h1, h2⟩ := smV_le h (Nat.le_refl 60)
  unfold avF
  rw [h1]
  refine fdiv_num ?_ ?_ ?_
  · rw [nI_toInt (by omega)]; omega
  · rw [nI_toInt (by omega)]; omega
  · rw [nI_toInt (by omega)]; omega
/-- what a call may answer, a float -/
abbrev STf : Type := Int32 → UInt32 → VT → Nat → Prop
noncomputable def aS (V : VT) (T : Nat) (P1 P2 : Prop) (f : Nat → Int32) : STf := fun c r V' T' => V' = V ∧ T' = T ∧ ((¬ P1 ∧ c = 1) ∨ (P1 ∧ ¬ P2 ∧ c = 2) ∨ (P1 ∧ P2 ∧ ctV f 60 = 0 ∧ c = 3) ∨ (P1 ∧ P2 ∧ ¬ ctV f 60 = 0 ∧ c = 0 ∧ r = avF f (ctV f 60)))
def xPostF (Z : ZT) (X : XT) (S : STf) : Option Value → va_W → Prop := fun ret u => ∃ (r : UInt32) (k' kp' dr' : Nat → Int32) (T' : Nat), ret = some (.float r) ∧ u = wX Z X k' kp' dr' (nI T') ∧ okX kp' T' ∧ S 0 r (vX k' kp' T') T'
def xErrF (Z : ZT) (X : XT) (S : STf) (codes : List (String × Int32)) : String → va_W → Prop := fun E u => ∃ (c : Int32) (k' kp' dr' : Nat → Int32) (T' : Nat), (E, c) ∈ codes ∧ u = wX Z X k' kp' dr' (nI T') ∧ okX kp' T' ∧ S c 0 (vX k' kp' T') T'
set_option maxRecDepth 100000 in
theorem x_average {l : Launch} {Z : ZT} {X : XT} {k kp dr : Nat → Int32} {T : Nat} (hl0 : l.stackTraces = false) (ok : okX kp T) (hv : valOk (vX k kp T) T) {y q : Int32} : mX l Z.1 (ty3 Z) yX0_average (.code yX0_average cX0_average 7 (some .float)) (rmk 9 200 8 48) (wX Z X k kp dr (nI T)) [.ref X.1, .int y, .int q] (xPostF Z X (aS (vX k kp T) T (inR y 8 ∧ inR q 60) (q ≤ nI T) (vX k kp T (nN q) (nN y)))) (xErrF Z X (aS (vX k kp T) T (inR y 8 ∧ inR q 60) (q ≤ nI T) (vX k kp T (nN q) (nN y))) cABS) := by
  refine mX_intro (own := RX0) [(0, .ref X.1), (1, .int y), (2, .int q)] (by decide +kernel) rfl rfl rfl rfl ?_
  intro p e s m args below meth c A K hr T9 htab
  refine gg_iload_n K (i := 1) dX0_average_0 rfl rfl ?_
  refine gg_bipush K (v := 8) dX0_average_1 (by decide) ?_
  refine gg_callTS 1 6 K T9 k_X0_X0_needRange (x_needRange hl0) dX0_average_3 rfl rfl rfl rfl ⟨rfl, rfl⟩ (fun E u h => ?_) (fun v u h => ?_)
  · obtain ⟨rfl, rfl, h⟩ := h
    exact gx_out K htab (Nat.le_of_ble_eq_true rfl) (Nat.le_of_ble_eq_true rfl) (⟨1, k, kp, dr, T, by decide, rfl, ok, rfl, rfl, Or.inl ⟨fun z => h z.1, rfl⟩⟩)
  obtain ⟨rfl, rfl, h1⟩ := h
  refine gg_aload_n K (i := 0) dX0_average_6 rfl rfl ?_
  refine gg_iload_n K (i := 2) dX0_average_7 rfl rfl ?_
  refine gg_callTX 3 18 K T9 k_X0_X0_needRecord (x_needRecord hl0) dX0_average_8 rfl rfl rfl rfl ⟨rfl, rfl⟩ (fun E u h => ?_) (fun v u h => ?_)
  · obtain ⟨rfl, ⟨rfl, h⟩ | ⟨rfl, h, h'⟩⟩ := h
    · exact gx_out K htab (Nat.le_of_ble_eq_true rfl) (Nat.le_of_ble_eq_true rfl) (⟨1, k, kp, dr, T, by decide, rfl, ok, rfl, rfl, Or.inl ⟨fun z => h z.2, rfl⟩⟩)
    · exact gx_out K htab (Nat.le_of_ble_eq_true rfl) (Nat.le_of_ble_eq_true rfl) (⟨2, k, kp, dr, T, by decide, rfl, ok, rfl, rfl, Or.inr (Or.inl ⟨⟨h1, h⟩, h', rfl⟩)⟩)
  obtain ⟨rfl, rfl, h3, h4⟩ := h
  have ⟨b1, b2⟩ := inR_N (b := 8) h1
  have ⟨q1, q2⟩ := inR_N (b := 60) h3
  have hT := leT q2 q1 ok.1 h4
  have hf : ∀ d, d < 60 → (vX k kp T (nN q) (nN y)) d = -1 ∨ ∃ j, (vX k kp T (nN q) (nN y)) d = nI j ∧ j < 100 := fun d hd => (hv (nN q) (nN y) d hT (by omega) hd).elim Or.inl (fun ⟨j, g1, g2, _⟩ => Or.inr ⟨j, g1, g2⟩)
  refine gg_iconst K (v := 0) dX0_average_11 (by decide) ?_
  refine gg_istore_n K (i := 3) dX0_average_12 rfl (by decide) ?_
  refine gg_iconst K (v := 0) dX0_average_13 (by decide) ?_
  refine gg_istore K dX0_average_14 (by decide) ?_
  refine gg_iconst K (v := 0) dX0_average_16 (by decide) ?_
  refine gg_istore K dX0_average_17 (by decide) ?_
  refine gg_sub (L' := [(5, .int (nI 0)), (4, .int (nI (ctV (vX k kp T (nN q) (nN y)) 0))), (3, .int (smV (vX k kp T (nN q) (nN y)) 0)), (0, .ref X.1), (1, .int y), (2, .int q)]) ⟨rfl, rfl, rfl, rfl, rfl, rfl, trivial⟩ ?_
  refine gg_loop (fun i w L => ∃ (j : Nat), j + i = 61 ∧ w = wX Z X k kp dr (nI T) ∧ j ≤ 60 ∧ L = [(5, .int (nI j)), (4, .int (nI (ctV (vX k kp T (nN q) (nN y)) j))), (3, .int (smV (vX k kp T (nN q) (nN y)) j)), (0, .ref X.1), (1, .int y), (2, .int q)]) (fun w L h => ?_) (fun i w L h ih => ?_) 61 _ _ ⟨0, rfl, rfl, by omega, rfl⟩
  · obtain ⟨j, hj, -, h2, -⟩ := h
    omega
  · obtain ⟨j, hj, rfl, -, rfl⟩ := h
    refine gg_iload K dX0_average_19 rfl ?_
    refine gg_bipush K (v := 60) dX0_average_21 (by decide) ?_
    refine gg_icmp_ge K (tgt := 60) dX0_average_23 (by decide) (fun h23 => ?_) (fun h23 => ?_)
    · have hj2 := i_le (a := 60) h23
      have hj3 : j = 60 := by omega
      subst hj3
      have hle := fb_ct_le (fun d => bP (¬ (vX k kp T (nN q) (nN y)) d = -1)) 60
      refine gg_iload K dX0_average_60 rfl ?_
      refine gg_if_ne K (tgt := 75) dX0_average_62 (by decide) (fun h62 => ?_) (fun h62 => ?_)
      · have hn0 : ¬ ctV (vX k kp T (nN q) (nN y)) 60 = 0 := fun z => h62 (by rw [z]; rfl)
        have hnn := avF_num hf (n := ctV (vX k kp T (nN q) (nN y)) 60) (by omega) hle
        refine gg_iload_n K (i := 3) dX0_average_75 rfl rfl ?_
        refine gg_i2f K dX0_average_76 ?_
        refine gg_iload K dX0_average_77 rfl ?_
        refine gg_i2f K dX0_average_79 ?_
        refine gg_fdiv K dX0_average_80 (vf_n32_of hnn) ?_
        exact gg_x (gg_fret K hr dX0_average_81 (Nat.le_of_ble_eq_true rfl) (Nat.le_of_ble_eq_true rfl) ⟨_, k, kp, dr, T, rfl, rfl, ok, rfl, rfl, Or.inr (Or.inr (Or.inr ⟨⟨h1, h3⟩, h4, hn0, rfl, rfl⟩))⟩)
      · have hn0 : ctV (vX k kp T (nN q) (nN y)) 60 = 0 := i_eq (b := 0) h62 (by unfold ctV; omega)
        exact gg_throw_eS K T9 hl0 htab (is := 132) (text := "no values") (by decide) dX0_average_65 dX0_average_68 dX0_average_69 dX0_average_71 dX0_average_74 rfl rfl (Nat.le_of_ble_eq_true rfl) (Nat.le_of_ble_eq_true rfl) ⟨3, k, kp, dr, T, by decide, rfl, ok, rfl, rfl, Or.inr (Or.inr (Or.inl ⟨⟨h1, h3⟩, h4, hn0, rfl⟩))⟩
    have hj2 := i_nle (a := 60) h23
    refine gg_aload_n K (i := 0) dX0_average_26 rfl rfl ?_
    refine gg_iload_n K (i := 2) dX0_average_27 rfl rfl ?_
    refine gg_iconst K (v := 0) dX0_average_28 (by decide) ?_
    refine gg_iload_n K (i := 1) dX0_average_29 rfl rfl ?_
    refine gg_callSR K k_X0_X0_line (x_line 0 (nN y) rfl b2) dX0_average_30 rfl rfl rfl rfl ⟨rfl, rfl⟩ ?_
    refine gg_iload K dX0_average_33 rfl ?_
    refine gg_callRX K k_X0_X0_knownOn (x_knownOn (nN q) (nN y) j ok hT (by omega) hj2 q2 (congrArg nI (by omega)) rfl) dX0_average_35 rfl rfl rfl rfl ⟨rfl, rfl⟩ ?_
    refine gg_istore K dX0_average_38 (by decide) ?_
    refine gg_iload K dX0_average_40 rfl ?_
    refine gg_iconst K (v := (-1)) dX0_average_42 (by decide) ?_
    refine gg_icmp_eq K (tgt := 54) dX0_average_43 (by decide) (fun h43 => ?_) (fun h43 => ?_)
    · refine gg_iinc K (v := nI (j + 1)) dX0_average_54 rfl (nI_inc (j)) (by decide) ?_
      refine gg_goto K (tgt := 19) dX0_average_57 (by decide) ?_
      refine gg_sub (L' := [(5, .int (nI (j + 1))), (4, .int (nI (ctV (vX k kp T (nN q) (nN y)) j))), (3, .int (smV (vX k kp T (nN q) (nN y)) j)), (0, .ref X.1), (1, .int y), (2, .int q)]) ⟨rfl, rfl, rfl, rfl, rfl, rfl, trivial⟩ ?_
      exact ih _ _ ⟨j + 1, by omega, rfl, by omega, by rw [show smV (vX k kp T (nN q) (nN y)) (j + 1) = smV (vX k kp T (nN q) (nN y)) j from if_pos h43, show ctV (vX k kp T (nN q) (nN y)) (j + 1) = ctV (vX k kp T (nN q) (nN y)) j by unfold ctV; rw [fb_ct_succ, bP_f (fun z => z h43)]; rfl]⟩
    · refine gg_iload_n K (i := 3) dX0_average_46 rfl rfl ?_
      refine gg_iload K dX0_average_47 rfl ?_
      refine gg_iadd K dX0_average_49 ?_
      refine gg_istore_n K (i := 3) dX0_average_50 rfl (by decide) ?_
      refine gg_iinc K (v := nI (ctV (vX k kp T (nN q) (nN y)) j + 1)) dX0_average_51 rfl (nI_inc (ctV (vX k kp T (nN q) (nN y)) j)) (by decide) ?_
      refine gg_iinc K (v := nI (j + 1)) dX0_average_54 rfl (nI_inc (j)) (by decide) ?_
      refine gg_goto K (tgt := 19) dX0_average_57 (by decide) ?_
      refine gg_sub (L' := [(5, .int (nI (j + 1))), (4, .int (nI (ctV (vX k kp T (nN q) (nN y)) j + 1))), (3, .int (smV (vX k kp T (nN q) (nN y)) j + (vX k kp T (nN q) (nN y)) j)), (0, .ref X.1), (1, .int y), (2, .int q)]) ⟨rfl, rfl, rfl, rfl, rfl, rfl, trivial⟩ ?_
      exact ih _ _ ⟨j + 1, by omega, rfl, by omega, by rw [show smV (vX k kp T (nN q) (nN y)) (j + 1) = smV (vX k kp T (nN q) (nN y)) j + (vX k kp T (nN q) (nN y)) j from if_neg h43, show ctV (vX k kp T (nN q) (nN y)) (j + 1) = ctV (vX k kp T (nN q) (nN y)) j + 1 by unfold ctV; rw [fb_ct_succ, bP_t h43]; rfl]⟩
/-! days that pass -/
def psV (V : VT) (T n : Nat) : VT := fun r l d => if r ≤ T then V r l d else if r ≤ T + n then V T l d else -1
def sPs (V : VT) (T : Nat) (P1 P2 : Prop) (n : Nat) : ST := fun c r V' T' => (¬ P1 ∧ c = 1 ∧ V' = V ∧ T' = T) ∨ (P1 ∧ ¬ P2 ∧ c = 2 ∧ V' = V ∧ T' = T) ∨ (P1 ∧ P2 ∧ c = 0 ∧ r = nI (T + n) ∧ V' = psV V T n ∧ T' = T + n)
set_option maxRecDepth 100000 in
theorem x_copyDay {l : Launch} {Z : ZT} {X : XT} {k kp dr : Nat → Int32} {td : Int32} (a b : Nat) {x y : Int32} (ha : a < 60) (hb0 : b < 60) (hx : x = nI a) (hy : y = nI b) : mA l Z.1 (ty3 Z) yX0_copyDay cX0_copyDay 3 none (rmk 1 60 0 0) (wX Z X k kp dr td) [.ref X.1, .int x, .int y] (fun v u => v = none ∧ u = wX Z X (va_cpy k k (ix a 0 0) (ix b 0 0) 960) kp dr td) := by
  refine mA_intro (own := RX0) [(0, .ref X.1), (1, .int x), (2, .int y)] (by decide +kernel) rfl rfl rfl rfl ?_
  intro p e s m args below meth c A K hr hin
  subst hx hy
  have g1 : ix a 0 0 + 960 ≤ 57600 := by unfold ix; omega
  have g2 : ix b 0 0 + 960 ≤ 57600 := by unfold ix; omega
  refine gg_iload_n K (i := 1) dX0_copyDay_0 rfl rfl ?_
  refine gg_if_lt K (tgt := 46) dX0_copyDay_1 (by decide) (fun h1 => ?_) (fun h1 => ?_)
  · exact absurd h1 (nI_pos (by omega))
  refine gg_iload_n K (i := 1) dX0_copyDay_4 rfl rfl ?_
  refine gg_bipush K (v := 60) dX0_copyDay_5 (by decide) ?_
  refine gg_icmp_ge K (tgt := 46) dX0_copyDay_7 (by decide) (fun h7 => ?_) (fun h7 => ?_)
  · exact absurd (i_le (a := 60) h7) (by omega)
  refine gg_iload_n K (i := 2) dX0_copyDay_10 rfl rfl ?_
  refine gg_if_lt K (tgt := 46) dX0_copyDay_11 (by decide) (fun h11 => ?_) (fun h11 => ?_)
  · exact absurd h11 (nI_pos (by omega))
  refine gg_iload_n K (i := 2) dX0_copyDay_14 rfl rfl ?_
  refine gg_bipush K (v := 60) dX0_copyDay_15 (by decide) ?_
  refine gg_icmp_ge K (tgt := 46) dX0_copyDay_17 (by decide) (fun h17 => ?_) (fun h17 => ?_)
  · exact absurd (i_le (a := 60) h17) (by omega)
  refine gg_aload_n K (i := 0) dX0_copyDay_20 rfl rfl ?_
  refine gX_known K dX0_copyDay_21 ?_
  refine gg_iload_n K (i := 1) dX0_copyDay_24 rfl rfl ?_
  refine gg_iconst K (v := 0) dX0_copyDay_25 (by decide) ?_
  refine gg_iconst K (v := 0) dX0_copyDay_26 (by decide) ?_
  refine gg_callSR K k_X0_X0_index (x_index a 0 0 rfl rfl rfl) dX0_copyDay_27 rfl rfl rfl rfl ⟨rfl, rfl⟩ ?_
  refine gg_aload_n K (i := 0) dX0_copyDay_30 rfl rfl ?_
  refine gX_known K dX0_copyDay_31 ?_
  refine gg_iload_n K (i := 2) dX0_copyDay_34 rfl rfl ?_
  refine gg_iconst K (v := 0) dX0_copyDay_35 (by decide) ?_
  refine gg_iconst K (v := 0) dX0_copyDay_36 (by decide) ?_
  refine gg_callSR K k_X0_X0_index (x_index b 0 0 rfl rfl rfl) dX0_copyDay_37 rfl rfl rfl rfl ⟨rfl, rfl⟩ ?_
  refine gg_sipush K (v := 960) dX0_copyDay_40 (by decide) ?_
  have e1 : (nI (ix a 0 0)).toNatClampNeg = ix a 0 0 := nI_clamp (by omega)
  have e2 : (nI (ix b 0 0)).toNatClampNeg = ix b 0 0 := nI_clamp (by omega)
  have e3 : (960 : Int32).toNatClampNeg = 960 := by decide
  have main : gg p l e (rmk 1 60 0 0) s m args below meth c Z.1 A 3 0 0 (MQ below (qA Z.1 (ty3 Z) A (fun v u => v = none ∧ u = wX Z X (va_cpy k k (ix a 0 0) (ix b 0 0) 960) kp dr td)) args s (rmk 1 60 0 0).cells (rmk 1 60 0 0).slots A) (wX Z X k kp dr td) 43 [(0, .ref X.1), (1, .int (nI a)), (2, .int (nI b))] [.int 960, .int (nI (ix b 0 0)), .ref X.2.1, .int (nI (ix a 0 0)), .ref X.2.1] := by
    intro H locs ls hP hD hS hl
    refine va_copyi K.1.1 K.1.2.1 (K.1.2.2.1.trans hl.1.symm) K.1.2.2.2.1 (K.1.2.2.2.2 _ wd_125) (K.1.2.2.2.2 _ wd_126) (K.1.2.2.2.2 _ wd_127) (K.1.2.2.2.2 _ wd_128) K.2.1 hP hD hS 1 1 0 0 (c0 := Z.2.1) (c1 := Z.2.1) (n0 := 57600) (n1 := 57600) (f := k) (g := k) (ty := .int) rfl rfl rfl rfl rfl (nI_pos (by omega)) (nI_pos (by omega)) (by decide) (by rw [e1, e3]; exact g1) (by rw [e2, e3]; exact g2) (fun i _ => rfl) (Nat.le_of_ble_eq_true rfl) (Nat.le_of_ble_eq_true (by decide +kernel)) dX0_copyDay_43 (fun H1 locs1 hP hD hS => ?_)
    rw [e1, e2, e3] at hP hD
    exact gg_vret K hr dX0_copyDay_46 (Nat.le_of_ble_eq_true rfl) (Nat.le_of_ble_eq_true rfl) ⟨rfl, rfl⟩ H1 locs1 ls hP hD hS hl
  exact main
theorem ix_lt2 {a b l d : Nat} (h : a < b) (hl : l < 16) (hd : d < 60) : ix a l d < ix b 0 0 := by unfold ix; omega
set_option maxRecDepth 100000 in
theorem x_pass {l : Launch} {Z : ZT} {X : XT} {k kp dr : Nat → Int32} {T : Nat} (hl0 : l.stackTraces = false) (ok : okX kp T) {n9 : Int32} : mX l Z.1 (ty3 Z) yX0_pass (.code yX0_pass cX0_pass 4 (some .int)) (rmk 9 200 8 48) (wX Z X k kp dr (nI T)) [.ref X.1, .int n9] (xPost Z X ((sPs (vX k kp T) T (¬ n9 < 1 ∧ ¬ 60 ≤ n9) (T + nN n9 < 60) (nN n9)))) (xErr Z X ((sPs (vX k kp T) T (¬ n9 < 1 ∧ ¬ 60 ≤ n9) (T + nN n9 < 60) (nN n9))) cAS) := by
  refine mX_intro (own := RX0) [(0, .ref X.1), (1, .int n9)] (by decide +kernel) rfl rfl rfl rfl ?_
  intro p e s m args below meth c A K hr T9 htab
  have hT9 := ok.1
  refine gg_iload_n K (i := 1) dX0_pass_0 rfl rfl ?_
  refine gg_iconst K (v := 1) dX0_pass_1 (by decide) ?_
  refine gg_icmp_lt K (tgt := 11) dX0_pass_2 (by decide) (fun h2 => ?_) (fun h2 => ?_)
  · exact gg_throw_eA K T9 hl0 htab (is := 57) (text := "days") (by decide) dX0_pass_11 dX0_pass_14 dX0_pass_15 dX0_pass_17 dX0_pass_20 rfl rfl (Nat.le_of_ble_eq_true rfl) (Nat.le_of_ble_eq_true rfl) ⟨1, k, kp, dr, T, by decide, rfl, ok, Or.inl ⟨fun z => z.1 h2, rfl, rfl, rfl⟩⟩
  refine gg_iload_n K (i := 1) dX0_pass_5 rfl rfl ?_
  refine gg_bipush K (v := 60) dX0_pass_6 (by decide) ?_
  refine gg_icmp_lt K (tgt := 21) dX0_pass_8 (by decide) (fun h8 => ?_) (fun h8 => ?_)
  rotate_left
  · exact gg_throw_eA K T9 hl0 htab (is := 57) (text := "days") (by decide) dX0_pass_11 dX0_pass_14 dX0_pass_15 dX0_pass_17 dX0_pass_20 rfl rfl (Nat.le_of_ble_eq_true rfl) (Nat.le_of_ble_eq_true rfl) ⟨1, k, kp, dr, T, by decide, rfl, ok, Or.inl ⟨fun z => z.2 (by rw [Int32.le_iff_toInt_le]; rw [Int32.lt_iff_toInt_lt] at h8; omega), rfl, rfl, rfl⟩⟩
  have hP1 : ¬ n9 < 1 ∧ ¬ 60 ≤ n9 := ⟨h2, fun z => by rw [Int32.le_iff_toInt_le] at z; rw [Int32.lt_iff_toInt_lt] at h8; omega⟩
  have hin : inR n9 60 := ⟨fun z => h2 (by
    rw [Int32.lt_iff_toInt_lt] at z ⊢
    have g1 : (0 : Int32).toInt = 0 := by decide
    have g2 : (1 : Int32).toInt = 1 := by decide
    omega), hP1.2⟩
  have ⟨b1, b2⟩ := inR_N (b := 60) hin
  have b3 : 0 < nN n9 := by
    have h2' := h2
    rw [b2] at h2'
    exact i_nlt (b := 1) h2'
  refine gg_aload_n K (i := 0) dX0_pass_21 rfl rfl ?_
  refine gX_today K dX0_pass_22 ?_
  refine gg_iload_n K (i := 1) dX0_pass_25 rfl rfl ?_
  refine gg_iadd K dX0_pass_26 ?_
  refine gg_top (y := nI (T + nN n9)) (by rw [← nI_add, ← b2]) ?_
  refine gg_bipush K (v := 60) dX0_pass_27 (by decide) ?_
  refine gg_icmp_lt K (tgt := 42) dX0_pass_29 (by decide) (fun h29 => ?_) (fun h29 => ?_)
  rotate_left
  · have h9 := i_nlt (b := 60) h29
    exact gg_throw_eS K T9 hl0 htab (is := 68) (text := "the last day") (by decide) dX0_pass_32 dX0_pass_35 dX0_pass_36 dX0_pass_38 dX0_pass_41 rfl rfl (Nat.le_of_ble_eq_true rfl) (Nat.le_of_ble_eq_true rfl) ⟨2, k, kp, dr, T, by decide, rfl, ok, Or.inr (Or.inl ⟨hP1, by omega, rfl, rfl, rfl⟩)⟩
  have h9 := i_lt (b := 60) h29
  refine gg_aload_n K (i := 0) dX0_pass_42 rfl rfl ?_
  refine gX_today K dX0_pass_43 ?_
  refine gg_iload_n K (i := 1) dX0_pass_46 rfl rfl ?_
  refine gg_iadd K dX0_pass_47 ?_
  refine gg_top (y := nI (T + nN n9)) (by rw [← nI_add, ← b2]) ?_
  refine gg_istore_n K (i := 2) dX0_pass_48 rfl (by decide) ?_
  refine gg_aload_n K (i := 0) dX0_pass_49 rfl rfl ?_
  refine gX_today K dX0_pass_50 ?_
  refine gg_iconst K (v := 1) dX0_pass_53 (by decide) ?_
  refine gg_iadd K dX0_pass_54 ?_
  refine gg_top (nI_1 T) ?_
  refine gg_istore_n K (i := 3) dX0_pass_55 rfl (by decide) ?_
  refine gg_sub (L' := [(3, .int (nI (T + 1))), (2, .int (nI (T + nN n9))), (0, .ref X.1), (1, .int n9)]) ⟨rfl, rfl, rfl, rfl, trivial⟩ ?_
  refine gg_loop (fun i w L => ∃ (j : Nat) (kp' : Nat → Int32), j + i = T + nN n9 + 1 ∧ w = wX Z X k kp' dr (nI T) ∧ T < j ∧ j ≤ T + nN n9 ∧ L = [(3, .int (nI j)), (2, .int (nI (T + nN n9))), (0, .ref X.1), (1, .int n9)] ∧ ∀ r, kp' r = if T < r ∧ r < j then nI T else kp r) (fun w L h => ?_) (fun i w L h ih => ?_) (nN n9) _ _ ⟨T + 1, kp, by omega, rfl, by omega, by omega, rfl, fun r => (if_neg (by omega)).symm⟩
  · obtain ⟨j, kp', hj, -, -, h2, -⟩ := h
    omega
  obtain ⟨j, kp', hj, rfl, hj1, hj2, rfl, hkp⟩ := h
  refine gg_iload_n K (i := 3) dX0_pass_56 rfl rfl ?_
  refine gg_iload_n K (i := 2) dX0_pass_57 rfl rfl ?_
  refine gg_icmp_ge K (tgt := 76) dX0_pass_58 (by decide) (fun h58 => ?_) (fun h58 => ?_)
  rotate_left
  · have hj3 := i_nle h58
    refine gg_aload_n K (i := 0) dX0_pass_61 rfl rfl ?_
    refine gg_iload_n K (i := 3) dX0_pass_62 rfl rfl ?_
    refine gg_aload_n K (i := 0) dX0_pass_63 rfl rfl ?_
    refine gX_today K dX0_pass_64 ?_
    refine gg_callUX K k_X0_X0_keepOn (x_keepOn j (by omega) rfl) dX0_pass_67 rfl rfl rfl rfl ⟨rfl, rfl⟩ (fun v9 u h => ?_)
    obtain ⟨rfl, rfl⟩ := h
    refine gg_iinc K (v := nI (j + 1)) dX0_pass_70 rfl (nI_inc (j)) (by decide) ?_
    refine gg_goto K (tgt := 56) dX0_pass_73 (by decide) ?_
    refine gg_sub (L' := [(3, .int (nI (j + 1))), (2, .int (nI (T + nN n9))), (0, .ref X.1), (1, .int n9)]) ⟨rfl, rfl, rfl, rfl, trivial⟩ ?_
    refine ih _ _ ⟨j + 1, _, by omega, rfl, by omega, by omega, rfl, fun r => ?_⟩
    unfold upd
    by_cases hrj : r = j
    · rw [if_pos hrj, if_pos (by omega)]
    · rw [if_neg hrj, hkp r]
      by_cases hc : T < r ∧ r < j
      · rw [if_pos hc, if_pos (by omega)]
      · rw [if_neg hc, if_neg (by omega)]
  have hj3 := i_le h58
  have hj4 : j = T + nN n9 := by omega
  subst hj4
  refine gg_aload_n K (i := 0) dX0_pass_76 rfl rfl ?_
  refine gg_iload_n K (i := 2) dX0_pass_77 rfl rfl ?_
  refine gg_iload_n K (i := 2) dX0_pass_78 rfl rfl ?_
  refine gg_callUX K k_X0_X0_keepOn (x_keepOn (T + nN n9) (by omega) rfl) dX0_pass_79 rfl rfl rfl rfl ⟨rfl, rfl⟩ (fun v9 u h => ?_)
  obtain ⟨rfl, rfl⟩ := h
  refine gg_aload_n K (i := 0) dX0_pass_82 rfl rfl ?_
  refine gg_aload_n K (i := 0) dX0_pass_83 rfl rfl ?_
  refine gX_today K dX0_pass_84 ?_
  refine gg_iload_n K (i := 2) dX0_pass_87 rfl rfl ?_
  refine gg_callUX K k_X0_X0_copyDay (x_copyDay T (T + nN n9) (by omega) (by omega) rfl rfl) dX0_pass_88 rfl rfl rfl rfl ⟨rfl, rfl⟩ (fun v9 u h => ?_)
  obtain ⟨rfl, rfl⟩ := h
  refine gg_aload_n K (i := 0) dX0_pass_91 rfl rfl ?_
  refine gg_iload_n K (i := 2) dX0_pass_92 rfl rfl ?_
  refine gX_ptoday K dX0_pass_93 ?_
  refine gg_aload_n K (i := 0) dX0_pass_96 rfl rfl ?_
  refine gX_today K dX0_pass_97 ?_
  obtain ⟨n8, hn8⟩ : ∃ z, z = nN n9 := ⟨_, rfl⟩
  rw [← hn8] at hkp h9 b3 ⊢
  have hq : ∀ r, upd kp' (T + n8) (nI (T + n8)) r = if r = T + n8 then nI (T + n8) else if T < r ∧ r < T + n8 then nI T else kp r := fun r => by
    unfold upd
    by_cases hr1 : r = T + n8
    · rw [if_pos hr1, if_pos hr1]
    · rw [if_neg hr1, if_neg hr1, hkp r]
  have ok' : okX (upd kp' (T + n8) (nI (T + n8))) (T + n8) := by
    obtain ⟨o1, o2, o3, o4⟩ := ok
    refine ⟨h9, by rw [hq, if_pos rfl], by rw [hq, if_neg (by omega), if_neg (by omega)]; exact o3, fun r hr1 => ?_⟩
    by_cases g1 : r ≤ T
    · have e : upd kp' (T + n8) (nI (T + n8)) r = kp r := by rw [hq, if_neg (by omega), if_neg (by omega)]
      have e2 : upd kp' (T + n8) (nI (T + n8)) (r - 1) = kp (r - 1) := by rw [hq, if_neg (by omega), if_neg (by omega)]
      have := o4 r g1
      unfold kq at this ⊢
      rw [e, e2]
      exact this
    · by_cases g2 : r = T + n8
      · have e : upd kp' (T + n8) (nI (T + n8)) r = nI r := by rw [hq, if_pos g2, g2]
        have e3 := kq_nI e (by omega)
        rw [e3]
        exact ⟨⟨e, by omega⟩, Or.inl e⟩
      · have e : upd kp' (T + n8) (nI (T + n8)) r = nI T := by rw [hq, if_neg g2, if_pos (by omega)]
        have e3 := kq_nI e (by omega)
        rw [e3]
        refine ⟨⟨e, by omega⟩, Or.inr ⟨by omega, ?_⟩⟩
        rw [e, hq, if_neg (by omega)]
        by_cases g3 : T < r - 1
        · rw [if_pos (by omega)]
        · rw [if_neg (by omega), show r - 1 = T by omega]; exact o2.symm
  have hv : vX (va_cpy k k (ix T 0 0) (ix (T + n8) 0 0) 960) (upd kp' (T + n8) (nI (T + n8))) (T + n8) = psV (vX k kp T) T n8 := by
    obtain ⟨o1, o2, o3, o4⟩ := ok
    funext r l9 d
    unfold psV vX
    by_cases hc : l9 < 16 ∧ d < 60
    · by_cases g1 : r ≤ T
      · have e : kq (upd kp' (T + n8) (nI (T + n8))) r = kq kp r := by unfold kq; rw [hq, if_neg (by omega), if_neg (by omega)]
        have g4 := (o4 r g1).1.2
        rw [if_pos ⟨by omega, hc.1, hc.2⟩, if_pos g1, if_pos ⟨g1, hc.1, hc.2⟩, e]
        exact pk_cpy_out (Or.inl (ix_lt2 (by omega) hc.1 hc.2))
      · rw [if_neg g1]
        by_cases g5 : r ≤ T + n8
        · rw [if_pos g5, if_pos ⟨g5, hc.1, hc.2⟩, if_pos ⟨Nat.le_refl T, hc.1, hc.2⟩, kq_nI o2 o1]
          by_cases g2 : r = T + n8
          · have e : kq (upd kp' (T + n8) (nI (T + n8))) r = T + n8 := kq_nI (by rw [hq, if_pos g2]) h9
            rw [e, pk_cpy_in (by unfold ix; omega) (by unfold ix; omega)]
            exact congrArg k (by unfold ix; omega)
          · have e : kq (upd kp' (T + n8) (nI (T + n8))) r = T := kq_nI (by rw [hq, if_neg g2, if_pos (by omega)]) (by omega)
            rw [e]
            exact pk_cpy_out (Or.inl (ix_lt2 (by omega) hc.1 hc.2))
        · rw [if_neg g5, if_neg (by omega)]
    · rw [if_neg (by omega)]
      by_cases g1 : r ≤ T
      · rw [if_pos g1, if_neg (by omega)]
      · rw [if_neg g1]
        by_cases g5 : r ≤ T + n8
        · rw [if_pos g5, if_neg (by omega)]
        · rw [if_neg g5]
  exact gg_x (gg_iret K hr dX0_pass_100 (Nat.le_of_ble_eq_true rfl) (Nat.le_of_ble_eq_true rfl) ⟨_, _, _, dr, T + n8, rfl, rfl, ok', Or.inr (Or.inr ⟨hP1, h9, rfl, rfl, hv, rfl⟩)⟩)
end
section
/-! the two constructors -/
theorem arr_of {U : State} {args : Array Value} {ty : FieldType} (h : (Cond.arrayClass ty).before args U = true) (hs : ∀ C, ty ≠ .object C) : ∃ cA : ClassId, ArrOfT U cA ty ∧ va_RA U cA ty := by
  obtain ⟨cA, kA, comp, h1, h2, h3⟩ := Cond.arrayClass_spec h
  refine ⟨cA, fun n z => ⟨fun k h => (by cases h), kA, h2, comp, h3⟩, ?_⟩
  cases ty with
  | object C => exact absurd rfl (hs C)
  | _ => exact h1
section
variable {p : Program} {l : Launch} {e : Env} {R : Room} {s : State} {m : MethodId} {args : Array Value} {below : List Frame} {meth : Method} {c : Code} {Z : ZT} {A : Nat → Prop} {cc : ByteArray} {own : String} {n cells slots pc : Nat} {Q : State → Prop} {ws : va_W} {L : List (Nat × Value)} {st : List Value} {tys : List (ClassId × FieldType)} {D : va_G}
theorem gg_objInit (K : kx p s m args meth c D A tys cc own n) {idx a : Nat} (h1 : Cond.methodLink own idx objectInit ∈ GW) (hd : decode cc pc = .ok (.invokespecial idx, 3)) (hr : (Nat.ble 1 R.frames && Nat.ble 20 R.locals) = true) (hw : c8 st = true)
    (kk : gg p l e R s m args below meth c D A n cells slots Q ws (pc + 3) L st) : gg p l e R s m args below meth c D A n cells slots Q ws pc L (.ref a :: st) := by
  intro H locs ls hP hD hS hl
  rw [Bool.and_eq_true] at hr
  have e1 := Nat.le_of_ble_eq_true hr.1
  have e2 := Nat.le_of_ble_eq_true hr.2
  have e3 := Nat.le_of_ble_eq_true hw
  refine W.objInit K.1.1 K.1.2.1 K.1.2.2.2.1 (K.1.2.2.2.2 _ h1) (K.1.2.2.2.2 _ wd_8) (K.1.2.2.2.2 _ wd_9) rfl (by rw [K.1.2.2.1]; exact hl.1) rfl hd e1 ?_ (kk H locs ls hP hD hS hl)
  show 2 * 0 + (st.map fun v => v.category).sum + 12 ≤ R.locals
  omega
theorem gg_newI (K : kx p s m args meth c Z.1 A (ty3 Z) cc own n) {x : Int32} (N : Nat) (hx : x = nI N) (hN : Nat.ble N 57600 = true) (hr : (Nat.ble (cells + 1) R.cells && Nat.ble (slots + N) R.slots) = true) (hd : decode cc pc = .ok (.newarray .int, 2))
    (kk : ∀ q : Nat, gg p l e R s m args below meth c Z.1 A n (cells + 1) (slots + N) Q (ws ++ [(q, .inl (Z.2.1, N, .inl (fun _ => 0)))]) (pc + 2) L (.ref q :: st)) : gg p l e R s m args below meth c Z.1 A n cells slots Q ws pc L (.int x :: st) := by
  intro H locs ls hP hD hS hl
  subst hx
  rw [Bool.and_eq_true] at hr
  have hN := Nat.le_of_ble_eq_true hN
  have hb : N * componentBytes .int ≤ 57600 * 4 := Nat.mul_le_mul hN (Nat.le_refl 4)
  refine va_newa (atype := .int) (ty := .int) (N' := N) (a0 := (N, .inl (fun _ => 0))) K.1.1 K.1.2.1 (K.1.2.2.2.2 _ wd_11) rfl K.2.1 hP hD hS K.2.2.1 (fun _ => rfl) (nI_pos (by omega)) (nI_clamp (by omega)) (Nat.le_trans hb (Nat.le_of_ble_eq_true rfl)) (Nat.le_of_ble_eq_true hr.1) (Nat.le_of_ble_eq_true hr.2) hd (fun q cA H1 hK1 hP1 hD1 hS1 => ?_)
  have e1 : s.vm.findClass ("[" ++ FieldType.int.toString) = some cA := (hK1.2 1 _ rfl).2
  have e2 : s.vm.findClass ("[" ++ FieldType.int.toString) = some Z.2.1 := (K.2.1.2 0 _ rfl).2
  have e3 : cA = Z.2.1 := Option.some.inj (e1.symm.trans e2)
  rw [e3] at hP1 hD1
  exact kk q H1 locs ls hP1 hD1 hS1 hl
theorem gX_iknown {x v : Nat} {fs : List Value} {ws' : va_W} (K : kx p s m args meth c Z.1 A (ty3 Z) cc RX0 n) (hin : meth.name = "<init>") (h0 : ws[0]? = some (x, .inr (0, fs))) (hl9 : 0 < fs.length) (hd : decode cc pc = .ok (.putfield 10, 3)) (hw : ws.set 0 (x, .inr (0, fs.set 0 (.ref v))) = ws')
    (kk : gg p l e R s m args below meth c Z.1 A n cells slots Q ws' (pc + 3) L st) : gg p l e R s m args below meth c Z.1 A n cells slots Q ws pc L (.ref v :: .ref x :: st) := by
  intro H locs ls hP hD hS hl
  subst hw
  exact va_putF (D := Z.1) (ci := 0) (v := .ref v) (ty := .array .int) (C := RX0) (T := TX0) (N := 4) K.1.1 K.1.2.1 K.1.2.2.2.2 inX0 tyX0 tyX0_ok nmX0 K.1.2.2.2.1 K.2.1 hP hD hS 0 h0 rfl 0 (by decide) (K.1.2.2.2.2 _ wd_12) (fun _ h9 => h9) rfl hin rfl (by decide +kernel) rfl rfl hl9 hd (fun H1 locs1 hP hD hS => kk H1 locs1 ls hP hD hS hl)
theorem gX_ikept {x v : Nat} {fs : List Value} {ws' : va_W} (K : kx p s m args meth c Z.1 A (ty3 Z) cc RX0 n) (hin : meth.name = "<init>") (h0 : ws[0]? = some (x, .inr (0, fs))) (hl9 : 1 < fs.length) (hd : decode cc pc = .ok (.putfield 14, 3)) (hw : ws.set 0 (x, .inr (0, fs.set 1 (.ref v))) = ws')
    (kk : gg p l e R s m args below meth c Z.1 A n cells slots Q ws' (pc + 3) L st) : gg p l e R s m args below meth c Z.1 A n cells slots Q ws pc L (.ref v :: .ref x :: st) := by
  intro H locs ls hP hD hS hl
  subst hw
  exact va_putF (D := Z.1) (ci := 0) (v := .ref v) (ty := .array .int) (C := RX0) (T := TX0) (N := 4) K.1.1 K.1.2.1 K.1.2.2.2.2 inX0 tyX0 tyX0_ok nmX0 K.1.2.2.2.1 K.2.1 hP hD hS 0 h0 rfl 1 (by decide) (K.1.2.2.2.2 _ wd_13) (fun _ h9 => h9) rfl hin rfl (by decide +kernel) rfl rfl hl9 hd (fun H1 locs1 hP hD hS => kk H1 locs1 ls hP hD hS hl)
theorem gX_idraft {x v : Nat} {fs : List Value} {ws' : va_W} (K : kx p s m args meth c Z.1 A (ty3 Z) cc RX0 n) (hin : meth.name = "<init>") (h0 : ws[0]? = some (x, .inr (0, fs))) (hl9 : 2 < fs.length) (hd : decode cc pc = .ok (.putfield 17, 3)) (hw : ws.set 0 (x, .inr (0, fs.set 2 (.ref v))) = ws')
    (kk : gg p l e R s m args below meth c Z.1 A n cells slots Q ws' (pc + 3) L st) : gg p l e R s m args below meth c Z.1 A n cells slots Q ws pc L (.ref v :: .ref x :: st) := by
  intro H locs ls hP hD hS hl
  subst hw
  exact va_putF (D := Z.1) (ci := 0) (v := .ref v) (ty := .array .int) (C := RX0) (T := TX0) (N := 4) K.1.1 K.1.2.1 K.1.2.2.2.2 inX0 tyX0 tyX0_ok nmX0 K.1.2.2.2.1 K.2.1 hP hD hS 0 h0 rfl 2 (by decide) (K.1.2.2.2.2 _ wd_14) (fun _ h9 => h9) rfl hin rfl (by decide +kernel) rfl rfl hl9 hd (fun H1 locs1 hP hD hS => kk H1 locs1 ls hP hD hS hl)
end
def kI0 (j : Nat) : Nat → Int32 := fun z => if z < j then -1 else 0
theorem kI0_0 : (fun _ => 0 : Nat → Int32) = kI0 0 := funext (fun z => (if_neg (by omega)).symm)
theorem kI0_step (j : Nat) : upd (kI0 j) j (-1) = kI0 (j + 1) := by
  funext z
  unfold upd kI0
  by_cases h : z = j
  · rw [if_pos h, if_pos (by omega)]
  · rw [if_neg h]
    by_cases h2 : z < j
    · rw [if_pos h2, if_pos (by omega)]
    · rw [if_neg h2, if_neg (by omega)]
theorem vX_new : vX (kI0 960) (fun _ => 0) 0 = fun _ _ _ => -1 := by
  funext r l d
  unfold vX
  by_cases h : r ≤ 0 ∧ l < 16 ∧ d < 60
  · rw [if_pos h, show kq (fun _ => 0) r = 0 from rfl]
    exact if_pos (by unfold ix; omega)
  · rw [if_neg h]
theorem okX_new : okX (fun _ => 0) 0 := ⟨by omega, rfl, rfl, fun r hr => by
  have h0 : r = 0 := by omega
  subst h0
  exact ⟨⟨rfl, Nat.le_refl 0⟩, Or.inl rfl⟩⟩
set_option maxRecDepth 100000 in
theorem x_init {l : Launch} {Z : ZT} {x : Nat} : mA l Z.1 (ty3 Z) yX0_init cX0_init 2 none (rmk 2 40 3 57720) [(x, .inr (0, [.null, .null, .null, .int 0]))] [.ref x] (fun v u => v = none ∧ ∃ a b c : Nat, u = wX Z (x, a, b, c) (kI0 960) (fun _ => 0) (fun _ => 0) 0) := by
  refine mA_intro (own := RX0) [(0, .ref x)] (by decide +kernel) rfl rfl rfl rfl ?_
  intro p e s m args below meth c A K hr hin
  have hin := hin rfl
  refine gg_aload_n K (i := 0) dX0_init_0 rfl rfl ?_
  refine gg_objInit K wd_7 dX0_init_1 rfl rfl ?_
  refine gg_aload_n K (i := 0) dX0_init_4 rfl rfl ?_
  refine gg_ldc K wd_10 dX0_init_5 ?_
  refine gg_newI K 57600 rfl rfl rfl dX0_init_7 (fun a => ?_)
  refine gX_iknown (ws' := [(x, .inr (0, [.ref a, .null, .null, .int 0])), (a, .inl (Z.2.1, 57600, .inl (fun _ => 0)))]) K hin rfl (Nat.le_of_ble_eq_true rfl) dX0_init_9 rfl ?_
  refine gg_aload_n K (i := 0) dX0_init_12 rfl rfl ?_
  refine gg_bipush K (v := 60) dX0_init_13 (by decide) ?_
  refine gg_newI K 60 rfl rfl rfl dX0_init_15 (fun b => ?_)
  refine gX_ikept (ws' := [(x, .inr (0, [.ref a, .ref b, .null, .int 0])), (a, .inl (Z.2.1, 57600, .inl (fun _ => 0))), (b, .inl (Z.2.1, 60, .inl (fun _ => 0)))]) K hin rfl (Nat.le_of_ble_eq_true rfl) dX0_init_17 rfl ?_
  refine gg_aload_n K (i := 0) dX0_init_20 rfl rfl ?_
  refine gg_bipush K (v := 60) dX0_init_21 (by decide) ?_
  refine gg_newI K 60 rfl rfl rfl dX0_init_23 (fun d => ?_)
  refine gX_idraft (ws' := (wX Z (x, a, b, d) (fun _ => 0) (fun _ => 0) (fun _ => 0) 0)) K hin rfl (Nat.le_of_ble_eq_true rfl) dX0_init_25 rfl ?_
  refine gg_iconst K (v := 0) dX0_init_28 (by decide) ?_
  refine gg_istore_n K (i := 1) dX0_init_29 rfl (by decide) ?_
  refine gg_sub (L' := [(1, .int (nI 0)), (0, .ref x)]) ⟨rfl, rfl, trivial⟩ ?_
  refine gg_loop (fun i w L => ∃ j : Nat, j + i = 961 ∧ w = wX Z (x, a, b, d) (kI0 j) (fun _ => 0) (fun _ => 0) 0 ∧ j ≤ 960 ∧ L = [(1, .int (nI j)), (0, .ref x)]) (fun w L h => ?_) (fun i w L h ih => ?_) 961 _ _ ⟨0, rfl, by rw [← kI0_0], by omega, rfl⟩
  · obtain ⟨j, hj, -, h2, -⟩ := h
    omega
  obtain ⟨j, hj, rfl, hj1, rfl⟩ := h
  refine gg_iload_n K (i := 1) dX0_init_30 rfl rfl ?_
  refine gg_sipush K (v := 960) dX0_init_31 (by decide) ?_
  refine gg_icmp_ge K (tgt := 50) dX0_init_34 (by decide) (fun h34 => ?_) (fun h34 => ?_)
  · have hj2 := i_le (a := 960) h34
    have hj3 : j = 960 := by omega
    subst hj3
    exact gg_vret K hr dX0_init_50 (Nat.le_of_ble_eq_true rfl) (Nat.le_of_ble_eq_true rfl) ⟨rfl, a, b, d, rfl⟩
  have hj2 := i_nle (a := 960) h34
  refine gg_aload_n K (i := 0) dX0_init_37 rfl rfl ?_
  refine gX_known K dX0_init_38 ?_
  refine gg_iload_n K (i := 1) dX0_init_41 rfl rfl ?_
  refine gg_iconst K (v := (-1)) dX0_init_42 (by decide) ?_
  refine gX_st_known (X := (x, a, b, d)) j K rfl (by omega) dX0_init_43 ?_
  rw [kI0_step]
  refine gg_iinc K (v := nI (j + 1)) dX0_init_44 rfl (nI_inc (j)) (by decide) ?_
  refine gg_goto K (tgt := 30) dX0_init_47 (by decide) ?_
  refine gg_sub (L' := [(1, .int (nI (j + 1))), (0, .ref x)]) ⟨rfl, rfl, trivial⟩ ?_
  exact ih _ _ ⟨j + 1, by omega, rfl, by omega, rfl⟩
end
section
/-! calls over a piece of the world, handlers, methods with a table, the law's own cells -/
def jOk (isC isR : List Nat) : Bool := va_nd isC && (va_nd isR && isR.all (fun i => !isC.contains i))
theorem jOk_spec {isC isR : List Nat} (h : jOk isC isR = true) : va_nd isC = true ∧ va_nd isR = true ∧ ∀ i ∈ isR, i ∉ isC := by
  simp only [jOk, Bool.and_eq_true] at h
  refine ⟨h.1, h.2.1, fun i hi => ?_⟩
  have h3 := List.all_eq_true.mp h.2.2 i hi
  simpa using h3
section
variable {p : Program} {l : Launch} {e : Env} {R : Room} {s : State} {m : MethodId} {args : Array Value} {below : List Frame} {meth : Method} {c : Code} {D : va_G} {A : Nat → Prop} {tys : List (ClassId × FieldType)} {cc : ByteArray} {own : String} {n cells slots pc : Nat} {Q : State → Prop} {ws wc wr : va_W} {L : List (Nat × Value)} {st : List Value}
variable {y : MethodName} {cd : ByteArray} {maxL k9 idx : Nat} {ret : Option FieldType} {rm : Room} {As rest : List Value} {post : Option Value → va_W → Prop} {pe : String → va_W → Prop} {b : Nat} {C : String}
theorem gg_perm (is : List Nat) {ws' : va_W} (hn : va_nd is = true) (h : is.map (fun i => ws[i]?) = ws'.map some) (k : gg p l e R s m args below meth c D A n cells slots Q ws' pc L st) : gg p l e R s m args below meth c D A n cells slots Q ws pc L st :=
  fun H locs ls hP hD hS hl => k H locs ls (hP.sub is (fm_of_map h)) (hD.sub is hn h) hS hl
theorem gg_callJ (isC isR : List Nat) (hj : jOk isC isR = true) (hC : isC.map (fun i => ws[i]?) = wc.map some) (hR : isR.map (fun i => ws[i]?) = wr.map some) (K : kx p s m args meth c D A tys cc own n) (ok : okV own idx C y (.code y cd maxL ret) k9) (hM : mA l D tys y cd maxL ret rm wc (.ref b :: As) post) (q0 : Nat) {ci N : Nat} {fs : List Value} {T : u_T} (hrec : wc[q0]? = some (b, .inr (ci, fs))) (hcl : vwCl[ci]? = some (C, T, N)) (hd : decode cc pc = .ok (.invokevirtual idx, 3)) (hst : st = As.reverse ++ .ref b :: rest) (hAs : As.length = k9) (hr : rOk rm R maxL cells slots = true) (hw : c8 rest = true)
    (kk : ∀ (v : Option Value) (u : va_W), post v u → gg p l e R s m args below meth c D A n (cells + rm.cells) (slots + rm.slots) Q (wr ++ u) (pc + 3) L (v.toList ++ rest)) : gg p l e R s m args below meth c D A n cells slots Q ws pc L st := by
  intro H locs ls hP hD hS hl
  subst hst
  obtain ⟨j1, j2, j3⟩ := jOk_spec hj
  have hPc := hP.sub isC (fm_of_map hC)
  have hDc := hD.sub isC j1 hC
  have hF := va_free hD hS K.2.2.1 isC hC
  refine va_callo (va_runV (As := As) (rest := rest) K.1 (hM H.size) (cwV k9 K.1.2.2.2.2 ok.1 rfl rfl rfl ok.2 (rOk_spec hr).1) ⟨inW_blind, va_recv K.2.1 hPc hcl hrec, fun U hU hW => ⟨rfl, by rw [hU], by rw [hU]; exact hPc, va_K.moved hW.alike K.2.1, hDc.weaken (fun _ _ _ _ => trivial)⟩⟩ rfl hAs hl.1 rfl (lv_room (Nat.le_of_ble_eq_true hw)) hd (rOk_spec hr).2) hS (fun q _ h => hF q h) hF (fun v u t H1 locs1 ht hvm hp hB hz hk hS1 => ?_)
  obtain ⟨hP1, hK1, hD1⟩ := hB
  rw [ht] at hP1
  obtain ⟨hP2, hD2⟩ := va_join hP hD isC isR hC hR j2 j3 hk hF hP1 hD1
  exact kk v u hp H1 locs1 ls hP2 hD2 hS1 hl
theorem gg_callJX (isC isR : List Nat) (hj : jOk isC isR = true) (hC : isC.map (fun i => ws[i]?) = wc.map some) (hR : isR.map (fun i => ws[i]?) = wr.map some) (K : kx p s m args meth c D A tys cc own n) (T9 : te A s s.heap) (ok : okV own idx C y (.code y cd maxL ret) k9) (hM : mX l D tys y (.code y cd maxL ret) rm wc (.ref b :: As) post pe) (q0 : Nat) {ci N : Nat} {fs : List Value} {T : u_T} (hrec : wc[q0]? = some (b, .inr (ci, fs))) (hcl : vwCl[ci]? = some (C, T, N)) (hd : decode cc pc = .ok (.invokevirtual idx, 3)) (hst : st = As.reverse ++ .ref b :: rest) (hAs : As.length = k9) (hr : rOk rm R maxL cells slots = true) (hw : c8 rest = true)
    (kt : ∀ (E : String) (u : va_W), pe E u → gx p l e R s m args below meth c D A n (cells + rm.cells) (slots + rm.slots) Q (wr ++ u) pc L rest E)
    (kk : ∀ (v : Option Value) (u : va_W), post v u → gg p l e R s m args below meth c D A n (cells + rm.cells) (slots + rm.slots) Q (wr ++ u) (pc + 3) L (v.toList ++ rest)) : gg p l e R s m args below meth c D A n cells slots Q ws pc L st := by
  intro H locs ls hP hD hS hl
  subst hst
  obtain ⟨j1, j2, j3⟩ := jOk_spec hj
  have hPc := hP.sub isC (fm_of_map hC)
  have hDc := hD.sub isC j1 hC
  have hF := va_free hD hS K.2.2.1 isC hC
  refine vx_callo (vx_runV (As := As) (rest := rest) K.1 (hM H.size) (cwV k9 K.1.2.2.2.2 ok.1 rfl rfl rfl ok.2 (rOk_spec hr).1) ⟨inX_blind, va_recv K.2.1 hPc hcl hrec, fun U hU hW => ⟨rfl, ⟨by rw [hU], by rw [hU]; exact hPc, va_K.moved hW.alike K.2.1, hDc.weaken (fun _ _ _ _ => trivial)⟩, by rw [hU]; exact T9.go hW hS hF⟩⟩ rfl hAs hl.1 rfl (lv_room (Nat.le_of_ble_eq_true hw)) hd (rOk_spec hr).2) hS (fun q _ h => hF q h) hF (fun E ce q9 u t H1 locs1 ht hvm hp hB hz hk hS1 h1 h2 h3 => ?_) (fun v u t H1 locs1 ht hvm hp hB hz hk hS1 => ?_)
  · obtain ⟨hP1, hK1, hD1⟩ := hB
    rw [ht] at hP1
    obtain ⟨hP2, hD2⟩ := va_join hP hD isC isR hC hR j2 j3 hk hF hP1 hD1
    exact kt E u hp H1 locs1 ls ce q9 hP2 hD2 hS1 hl h1 h2 h3
  · obtain ⟨hP1, hK1, hD1⟩ := hB
    rw [ht] at hP1
    obtain ⟨hP2, hD2⟩ := va_join hP hD isC isR hC hR j2 j3 hk hF hP1 hD1
    exact kk v u hp H1 locs1 ls hP2 hD2 hS1 hl
/-- a static method with a table, that lets no throw out -/
theorem gg_callJH {hh : List (Nat × Nat × Nat × Nat)} (isC isR : List Nat) (hj : jOk isC isR = true) (hC : isC.map (fun i => ws[i]?) = wc.map some) (hR : isR.map (fun i => ws[i]?) = wr.map some) (K : kx p s m args meth c D A tys cc own n) (T9 : te A s s.heap) (ok : okS own idx y (.codeWith y cd maxL ret hh) k9) (hM : mX l D tys y (.codeWith y cd maxL ret hh) rm wc As post (fun _ _ => False)) (hd : decode cc pc = .ok (.invokestatic idx, 3)) (hst : st = As.reverse ++ rest) (hAs : As.length = k9) (hr : rOk rm R maxL cells slots = true) (hw : c8 rest = true)
    (kk : ∀ (v : Option Value) (u : va_W), post v u → gg p l e R s m args below meth c D A n (cells + rm.cells) (slots + rm.slots) Q (wr ++ u) (pc + 3) L (v.toList ++ rest)) : gg p l e R s m args below meth c D A n cells slots Q ws pc L st := by
  intro H locs ls hP hD hS hl
  subst hst
  obtain ⟨j1, j2, j3⟩ := jOk_spec hj
  have hPc := hP.sub isC (fm_of_map hC)
  have hDc := hD.sub isC j1 hC
  have hF := va_free hD hS K.2.2.1 isC hC
  refine vx_callo (vx_runSX (As := As) (rest := rest) K.1 (hM H.size) (vx_cwSW k9 K.1.2.2.2.2 ok.1 rfl rfl rfl ok.2 (rOk_spec hr).1) ⟨inX_blind, fun U hU hW => ⟨rfl, ⟨by rw [hU], by rw [hU]; exact hPc, va_K.moved hW.alike K.2.1, hDc.weaken (fun _ _ _ _ => trivial)⟩, by rw [hU]; exact T9.go hW hS hF⟩⟩ rfl hAs hl.1 rfl (lv_room (Nat.le_of_ble_eq_true hw)) hd (rOk_spec hr).2) hS (fun q _ h => hF q h) hF (fun E ce q9 u t H1 locs1 ht hvm hp hB hz hk hS1 h1 h2 h3 => hp.elim) (fun v u t H1 locs1 ht hvm hp hB hz hk hS1 => ?_)
  obtain ⟨hP1, hK1, hD1⟩ := hB
  rw [ht] at hP1
  obtain ⟨hP2, hD2⟩ := va_join hP hD isC isR hC hR j2 j3 hk hF hP1 hD1
  exact kk v u hp H1 locs1 ls hP2 hD2 hS1 hl
/-- a constructor -/
theorem gg_callJI (isC isR : List Nat) (hj : jOk isC isR = true) (hC : isC.map (fun i => ws[i]?) = wc.map some) (hR : isR.map (fun i => ws[i]?) = wr.map some) (K : kx p s m args meth c D A tys cc own n) (h0 : Cond.code y cd maxL none ∈ GW) (h1 : Cond.methodLink own idx y ∈ GW) (h2 : Cond.instanceMethod y ∈ GW) (h3 : Cond.initialized y.cls ∈ GW) (h4 : y.name = "<init>") (h5 : y.cls ≠ "java/lang/invoke/MethodHandle" ∧ y.cls ≠ "java/lang/invoke/VarHandle" ∧ (parseMethodDescriptor y.desc).map (fun d => d.parameters.length) = some 0) (hM : mA l D tys y cd maxL none rm wc [.ref b] post) (hd : decode cc pc = .ok (.invokespecial idx, 3)) (hr : rOk rm R maxL cells slots = true) (hw : c8 rest = true)
    (kk : ∀ (v : Option Value) (u : va_W), post v u → gg p l e R s m args below meth c D A n (cells + rm.cells) (slots + rm.slots) Q (wr ++ u) (pc + 3) L (v.toList ++ rest)) : gg p l e R s m args below meth c D A n cells slots Q ws pc L (.ref b :: rest) := by
  intro H locs ls hP hD hS hl
  obtain ⟨j1, j2, j3⟩ := jOk_spec hj
  have hPc := hP.sub isC (fm_of_map hC)
  have hDc := hD.sub isC j1 hC
  have hF := va_free hD hS K.2.2.1 isC hC
  refine va_callo (va_runI (As := []) (rest := rest) K.1 (hM H.size) (cwI 0 K.1.2.2.2.2 (gw_cons h0) rfl rfl rfl (K.1.2.2.2.2 _ h3) (K.1.2.2.2.2 _ h1) (K.1.2.2.2.2 _ h2) h4 h5 (rOk_spec hr).1) ⟨inW_blind, fun U hU hW => ⟨rfl, by rw [hU], by rw [hU]; exact hPc, va_K.moved hW.alike K.2.1, hDc.weaken (fun _ _ _ _ => trivial)⟩⟩ rfl rfl hl.1 rfl (lv_room (Nat.le_of_ble_eq_true hw)) hd (rOk_spec hr).2) hS (fun q _ h => hF q h) hF (fun v u t H1 locs1 ht hvm hp hB hz hk hS1 => ?_)
  obtain ⟨hP1, hK1, hD1⟩ := hB
  rw [ht] at hP1
  obtain ⟨hP2, hD2⟩ := va_join hP hD isC isR hC hR j2 j3 hk hF hP1 hD1
  exact kk v u hp H1 locs1 ls hP2 hD2 hS1 hl
/-- the handler x of the table takes the throw -/
theorem gx_catch {hh : List (Nat × Nat × Nat × Nat)} {E : String} (K : kx p s m args meth c D A tys cc own n) (T9 : te A s s.heap) (htab : c.exceptionTable.toList = tableOf hh) (pre : List ExceptionTableEntry) (x : ExceptionTableEntry) (suf : List ExceptionTableEntry) (hsplit : tableOf hh = pre ++ x :: suf) (hpass : ∀ z ∈ pre, z.catchType ≠ 0 ∧ ∃ nm : String, Cond.classLink own z.catchType nm ∈ GW ∧ (E, nm) ∈ teN) (hx : covers x pc = true) (h0 : x.catchType ≠ 0) (hlink : Cond.classLink own x.catchType E ∈ GW) (hcast : Cond.castable E E ∈ teW)
    (kk : ∀ q : Nat, gg p l e R s m args below meth c D A n cells slots Q ws x.handlerPc L [.ref q]) : gx p l e R s m args below meth c D A n cells slots Q ws pc L st E :=
  fun H locs ls ce q hP hD hS hl h1 h2 h3 => vx_catch (own := own) (name := E) K.1.2.2.2.1 pre x suf (htab.trans hsplit) (fun z hz => by
    obtain ⟨g1, nm, g2, g3⟩ := hpass z hz
    exact Or.inr ⟨g1, nm, K.1.2.2.2.2 _ g2, T9.2.2.2.2 _ g3⟩) hx h0 (K.1.2.2.2.2 _ hlink) (va_Nw.use rfl (T9.2.2.2.1 _ hcast)) h1 h2 h3 (kk q H locs ls hP hD hS hl)
end
theorem mH_intro {l : Launch} {D : va_G} {tys : List (ClassId × FieldType)} {y : MethodName} {cd : ByteArray} {maxL : Nat} {ret : Option FieldType} {hh : List (Nat × Nat × Nat × Nat)} {rm : Room} {ws : va_W} {As : List Value} {post : Option Value → va_W → Prop} {pe : String → va_W → Prop} {own : String} (L0 : List (Nat × Value)) (hy : plainName y.cls = true) (hcls : y.cls = own) (hlen : Nat.ble (lg_sl As).length maxL = true) (hL : lv_args 0 As = L0) (hc : L0.all (fun q => q.2.category == 1) = true)
    (body : ∀ (p : Program) (e : Env) (s : State) (m : MethodId) (args : Array Value) (below : List Frame) (meth : Method) (c : Code) (A : Nat → Prop), kx p s m args meth c D A tys cd own maxL → meth.sig.returnType = ret → te A s s.heap → c.exceptionTable.toList = tableOf hh → gg p l e rm s m args below meth c D A maxL 0 0 (vx_MQ below (qA D tys A post) (xA D tys A pe) args s rm.cells rm.slots A) ws 0 L0 []) : mX l D tys y (.codeWith y cd maxL ret hh) rm ws As post pe := by
  intro sz
  refine vx_ofWH (cc := cd) (maxL := maxL) (ret := ret) (hh := hh) hy rfl ?_
  intro p e s m args below meth c s₁ B hml hv
  obtain ⟨rfl, ⟨hsz, hP, hK, hD0⟩, hte⟩ := hv
  subst hsz
  have hts := atoms_spec (ws := .codeWith y cd maxL ret hh :: GW) B.pre
  have htab := vx_table (x := y) B (hts _ List.mem_cons_self)
  have hl := lv_entry As (Nat.le_of_ble_eq_true hlen)
  rw [hL] at hl
  rw [lg_entry_eq]
  exact body p e s m _ below meth c (va_A ws s.heap.size) ⟨⟨B.exec, B.bytes, hml, by rw [← hcls]; exact findClass_of_methodNamed B.named, fun w hw => hts w (List.mem_cons_of_mem _ hw)⟩, hK, fun q h => Or.inr h, B.notSynchronized⟩ B.returns hte htab s.heap [] _ hP hD0.self va_S.rf (lvk_of hl hc)
section
variable {p : Program} {l : Launch} {e : Env} {R : Room} {s : State} {m : MethodId} {args : Array Value} {below : List Frame} {meth : Method} {c : Code} {Z : ZT} {A : Nat → Prop} {cc : ByteArray} {own : String} {n cells slots pc : Nat} {Q : State → Prop} {ws ws' : va_W} {L : List (Nat × Value)} {st : List Value}
end
end
section
/-! the questions, asked within their ranges: they answer, and take no room -/
section
variable {p : Program} {l : Launch} {e : Env} {R : Room} {s : State} {m : MethodId} {args : Array Value} {below : List Frame} {meth : Method} {c : Code} {Z : ZT} {A : Nat → Prop} {cc : ByteArray} {own : String} {n cells slots pc : Nat} {Q : State → Prop} {ws : va_W} {L : List (Nat × Value)} {st : List Value}
variable {y : MethodName} {cd : ByteArray} {maxL k9 idx : Nat} {ret : Option FieldType} {rm : Room} {As rest : List Value}
theorem gg_callS0 {D : va_G} {tys : List (ClassId × FieldType)} (K : kx p s m args meth c D A tys cc own n) (ok : okS own idx y (.code y cd maxL ret) k9) (hM : mA l D tys y cd maxL ret rm [] As (fun r _ => r = none)) (hd : decode cc pc = .ok (.invokestatic idx, 3)) (hst : st = As.reverse ++ rest) (hAs : As.length = k9) (hr : rOk rm R maxL cells slots = true) (hw : c8 rest = true) (hz : rm.cells = 0 ∧ rm.slots = 0)
    (kk : gg p l e R s m args below meth c D A n cells slots Q ws (pc + 3) L rest) : gg p l e R s m args below meth c D A n cells slots Q ws pc L st :=
  gg_callS K ok hM hd hst hAs hr hw (fun v' u h => by subst h; rw [hz.1, hz.2]; exact kk)
theorem gg_call0X {X : XT} {k kp dr : Nat → Int32} {td : Int32} (K : kx p s m args meth c Z.1 A (ty3 Z) cc own n) (ok : okV own idx RX0 y (.code y cd maxL ret) k9) (hM : mA l Z.1 (ty3 Z) y cd maxL ret rm (wX Z X k kp dr td) (.ref X.1 :: As) (fun r u => r = none ∧ u = wX Z X k kp dr td)) (hd : decode cc pc = .ok (.invokevirtual idx, 3)) (hst : st = As.reverse ++ .ref X.1 :: rest) (hAs : As.length = k9) (hr : rOk rm R maxL cells slots = true) (hw : c8 rest = true) (hz : rm.cells = 0 ∧ rm.slots = 0)
    (kk : gg p l e R s m args below meth c Z.1 A n cells slots Q (wX Z X k kp dr td) (pc + 3) L rest) : gg p l e R s m args below meth c Z.1 A n cells slots Q (wX Z X k kp dr td) pc L st :=
  gg_callUX K ok hM hd hst hAs hr hw hz (fun v' u h => by obtain ⟨rfl, rfl⟩ := h; exact kk)
end
set_option maxRecDepth 100000 in
theorem n_needRange {l : Launch} {D : va_G} {tys : List (ClassId × FieldType)} (j b : Nat) {x z : Int32} (h : j < b) (hb : b < 2 ^ 31) (hx : x = nI j) (hz : z = nI b) : mA l D tys yX0_needRange cX0_needRange 2 none (rmk 0 0 0 0) [] [.int x, .int z] (fun r _ => r = none) := by
  refine mA_intro (own := RX0) [(0, .int x), (1, .int z)] (by decide +kernel) rfl rfl rfl rfl ?_
  intro p e s m args below meth c A K hr hin
  subst hx hz
  refine gg_iload_n K (i := 0) dX0_needRange_0 rfl rfl ?_
  refine gg_if_lt K (tgt := 9) dX0_needRange_1 (by decide) (fun h1 => ?_) (fun h1 => ?_)
  · exact absurd h1 (nI_pos (by omega))
  refine gg_iload_n K (i := 0) dX0_needRange_4 rfl rfl ?_
  refine gg_iload_n K (i := 1) dX0_needRange_5 rfl rfl ?_
  refine gg_icmp_lt K (tgt := 19) dX0_needRange_6 (by decide) (fun h6 => ?_) (fun h6 => ?_)
  · exact gg_vret K hr dX0_needRange_19 (Nat.le_of_ble_eq_true rfl) (Nat.le_of_ble_eq_true rfl) rfl
  · exact absurd (nI_lt h hb) h6
set_option maxRecDepth 100000 in
theorem n_needTK {l : Launch} {D : va_G} {tys : List (ClassId × FieldType)} (t' y' : Nat) {t y : Int32} (a1 : t' < 2) (b1 : y' < 8) (a2 : t = nI t') (b2 : y = nI y') : mA l D tys yX0_needTableAndKey cX0_needTableAndKey 2 none (rmk 1 30 0 0) [] [.int t, .int y] (fun r _ => r = none) := by
  refine mA_intro (own := RX0) [(0, .int t), (1, .int y)] (by decide +kernel) rfl rfl rfl rfl ?_
  intro p e s m args below meth c A K hr hin
  refine gg_iload_n K (i := 0) dX0_needTableAndKey_0 rfl rfl ?_
  refine gg_iconst K (v := 2) dX0_needTableAndKey_1 (by decide) ?_
  refine gg_callS0 K k_X0_X0_needRange (n_needRange t' 2 a1 (by omega) a2 rfl) dX0_needTableAndKey_2 rfl rfl rfl rfl ⟨rfl, rfl⟩ ?_
  refine gg_iload_n K (i := 1) dX0_needTableAndKey_5 rfl rfl ?_
  refine gg_bipush K (v := 8) dX0_needTableAndKey_6 (by decide) ?_
  refine gg_callS0 K k_X0_X0_needRange (n_needRange y' 8 b1 (by omega) b2 rfl) dX0_needTableAndKey_8 rfl rfl rfl rfl ⟨rfl, rfl⟩ ?_
  exact gg_vret K hr dX0_needTableAndKey_11 (Nat.le_of_ble_eq_true rfl) (Nat.le_of_ble_eq_true rfl) rfl
set_option maxRecDepth 100000 in
theorem n_needRecord {l : Launch} {Z : ZT} {X : XT} {k kp dr : Nat → Int32} {T : Nat} (ok : okX kp T) (q' : Nat) {q : Int32} (q1 : q' ≤ T) (q2 : q = nI q') : mA l Z.1 (ty3 Z) yX0_needRecord cX0_needRecord 2 none (rmk 1 30 0 0) (wX Z X k kp dr (nI T)) [.ref X.1, .int q] (fun r u => r = none ∧ u = wX Z X k kp dr (nI T)) := by
  have hT9 := ok.1
  refine mA_intro (own := RX0) [(0, .ref X.1), (1, .int q)] (by decide +kernel) rfl rfl rfl rfl ?_
  intro p e s m args below meth c A K hr hin
  refine gg_iload_n K (i := 1) dX0_needRecord_0 rfl rfl ?_
  refine gg_bipush K (v := 60) dX0_needRecord_1 (by decide) ?_
  refine gg_callS0 K k_X0_X0_needRange (n_needRange q' 60 (by omega) (by omega) q2 rfl) dX0_needRecord_3 rfl rfl rfl rfl ⟨rfl, rfl⟩ ?_
  subst q2
  refine gg_iload_n K (i := 1) dX0_needRecord_6 rfl rfl ?_
  refine gg_aload_n K (i := 0) dX0_needRecord_7 rfl rfl ?_
  refine gX_today K dX0_needRecord_8 ?_
  refine gg_icmp_le K (tgt := 24) dX0_needRecord_11 (by decide) (fun h11 => ?_) (fun h11 => ?_)
  · exact gg_vret K hr dX0_needRecord_24 (Nat.le_of_ble_eq_true rfl) (Nat.le_of_ble_eq_true rfl) ⟨rfl, rfl⟩
  · exact absurd (nI_le q1 (by omega)) h11
set_option maxRecDepth 100000 in
theorem n_value {l : Launch} {Z : ZT} {X : XT} {k kp dr : Nat → Int32} {T : Nat} (ok : okX kp T) (t' y' : Nat) {t y : Int32} (a1 : t' < 2) (b1 : y' < 8) (a2 : t = nI t') (b2 : y = nI y') (d' : Nat) {d : Int32} (d1 : d' < 60) (d2 : d = nI d') (q' : Nat) {q : Int32} (q1 : q' ≤ T) (q2 : q = nI q') : mR l Z yX0_value cX0_value 5 (some .int) (rmk 9 200 0 0) (wX Z X k kp dr (nI T)) [.ref X.1, .int t, .int y, .int d, .int q] (.int (vX k kp T (q') (t' * 8 + y') (d'))) := by
  have hT9 := ok.1
  refine mA_intro (own := RX0) [(0, .ref X.1), (1, .int t), (2, .int y), (3, .int d), (4, .int q)] (by decide +kernel) rfl rfl rfl rfl ?_
  intro p e s m args below meth c A K hr hin
  refine gg_iload_n K (i := 1) dX0_value_0 rfl rfl ?_
  refine gg_iload_n K (i := 2) dX0_value_1 rfl rfl ?_
  refine gg_callS0 K k_X0_X0_needTableAndKey (n_needTK t' y' a1 b1 a2 b2) dX0_value_2 rfl rfl rfl rfl ⟨rfl, rfl⟩ ?_
  refine gg_iload_n K (i := 3) dX0_value_5 rfl rfl ?_
  refine gg_bipush K (v := 60) dX0_value_6 (by decide) ?_
  refine gg_callS0 K k_X0_X0_needRange (n_needRange d' 60 d1 (by omega) d2 rfl) dX0_value_8 rfl rfl rfl rfl ⟨rfl, rfl⟩ ?_
  refine gg_aload_n K (i := 0) dX0_value_11 rfl rfl ?_
  refine gg_iload K dX0_value_12 rfl ?_
  refine gg_call0X K k_X0_X0_needRecord (n_needRecord ok q' q1 q2) dX0_value_14 rfl rfl rfl rfl ⟨rfl, rfl⟩ ?_
  refine gg_aload_n K (i := 0) dX0_value_17 rfl rfl ?_
  refine gg_iload K dX0_value_18 rfl ?_
  refine gg_iload_n K (i := 1) dX0_value_20 rfl rfl ?_
  refine gg_iload_n K (i := 2) dX0_value_21 rfl rfl ?_
  refine gg_callSR K k_X0_X0_line (x_line (t') (y') a2 b2) dX0_value_22 rfl rfl rfl rfl ⟨rfl, rfl⟩ ?_
  refine gg_iload_n K (i := 3) dX0_value_25 rfl rfl ?_
  refine gg_callRX K k_X0_X0_knownOn (x_knownOn (q') (t' * 8 + y') (d') ok q1 (by omega) d1 q2 rfl d2) dX0_value_26 rfl rfl rfl rfl ⟨rfl, rfl⟩ ?_
  exact gg_iret K hr dX0_value_29 (Nat.le_of_ble_eq_true rfl) (Nat.le_of_ble_eq_true rfl) ⟨rfl, rfl⟩
set_option maxRecDepth 100000 in
theorem n_keys {l : Launch} {Z : ZT} {X : XT} {k kp dr : Nat → Int32} {T : Nat} (ok : okX kp T) (t' : Nat) {t : Int32} (a1 : t' < 2) (a2 : t = nI t') (d' : Nat) {d : Int32} (d1 : d' < 60) (d2 : d = nI d') (q' : Nat) {q : Int32} (q1 : q' ≤ T) (q2 : q = nI q') : mR l Z yX0_keys cX0_keys 6 (some .int) (rmk 9 200 0 0) (wX Z X k kp dr (nI T)) [.ref X.1, .int t, .int d, .int q] (.int (kyF (fun i => vX k kp T (q') (t' * 8 + i) (d')) 8)) := by
  have hT9 := ok.1
  refine mA_intro (own := RX0) [(0, .ref X.1), (1, .int t), (2, .int d), (3, .int q)] (by decide +kernel) rfl rfl rfl rfl ?_
  intro p e s m args below meth c A K hr hin
  refine gg_iload_n K (i := 1) dX0_keys_0 rfl rfl ?_
  refine gg_iconst K (v := 2) dX0_keys_1 (by decide) ?_
  refine gg_callS0 K k_X0_X0_needRange (n_needRange t' 2 a1 (by omega) a2 rfl) dX0_keys_2 rfl rfl rfl rfl ⟨rfl, rfl⟩ ?_
  refine gg_iload_n K (i := 2) dX0_keys_5 rfl rfl ?_
  refine gg_bipush K (v := 60) dX0_keys_6 (by decide) ?_
  refine gg_callS0 K k_X0_X0_needRange (n_needRange d' 60 d1 (by omega) d2 rfl) dX0_keys_8 rfl rfl rfl rfl ⟨rfl, rfl⟩ ?_
  refine gg_aload_n K (i := 0) dX0_keys_11 rfl rfl ?_
  refine gg_iload_n K (i := 3) dX0_keys_12 rfl rfl ?_
  refine gg_call0X K k_X0_X0_needRecord (n_needRecord ok q' q1 q2) dX0_keys_13 rfl rfl rfl rfl ⟨rfl, rfl⟩ ?_
  refine gg_iconst K (v := 0) dX0_keys_16 (by decide) ?_
  refine gg_istore K dX0_keys_17 (by decide) ?_
  refine gg_iconst K (v := 0) dX0_keys_19 (by decide) ?_
  refine gg_istore K dX0_keys_20 (by decide) ?_
  refine gg_sub (L' := [(5, .int (nI 0)), (4, .int 0), (0, .ref X.1), (1, .int t), (2, .int d), (3, .int q)]) ⟨rfl, rfl, rfl, rfl, rfl, rfl, trivial⟩ ?_
  refine gg_loop (fun i w L => ∃ (j : Nat), j + i = 9 ∧ w = wX Z X k kp dr (nI T) ∧ j ≤ 8 ∧ L = [(5, .int (nI j)), (4, .int ((kyF (fun i => vX k kp T (q') (t' * 8 + i) (d')) j))), (0, .ref X.1), (1, .int t), (2, .int d), (3, .int q)]) (fun w L h => ?_) (fun i w L h ih => ?_) 9 _ _ ⟨0, rfl, rfl, by omega, rfl⟩
  · obtain ⟨j, hj, -, h2, -⟩ := h
    omega
  · obtain ⟨j, hj, rfl, -, rfl⟩ := h
    refine gg_iload K dX0_keys_22 rfl ?_
    refine gg_bipush K (v := 8) dX0_keys_24 (by decide) ?_
    refine gg_icmp_ge K (tgt := 60) dX0_keys_26 (by decide) (fun h26 => ?_) (fun h26 => ?_)
    · have hj2 := i_le (a := 8) h26
      have hj3 : j = 8 := by omega
      subst hj3
      refine gg_iload K dX0_keys_60 rfl ?_
      exact gg_iret K hr dX0_keys_62 (Nat.le_of_ble_eq_true rfl) (Nat.le_of_ble_eq_true rfl) ⟨rfl, rfl⟩
    have hj2 := i_nle (a := 8) h26
    refine gg_aload_n K (i := 0) dX0_keys_29 rfl rfl ?_
    refine gg_iload_n K (i := 3) dX0_keys_30 rfl rfl ?_
    refine gg_iload_n K (i := 1) dX0_keys_31 rfl rfl ?_
    refine gg_iload K dX0_keys_32 rfl ?_
    refine gg_callSR K k_X0_X0_line (x_line (t') j a2 rfl) dX0_keys_34 rfl rfl rfl rfl ⟨rfl, rfl⟩ ?_
    refine gg_iload_n K (i := 2) dX0_keys_37 rfl rfl ?_
    refine gg_callRX K k_X0_X0_knownOn (x_knownOn (q') (t' * 8 + j) (d') ok q1 (by omega) d1 q2 rfl d2) dX0_keys_38 rfl rfl rfl rfl ⟨rfl, rfl⟩ ?_
    refine gg_iconst K (v := (-1)) dX0_keys_41 (by decide) ?_
    refine gg_icmp_eq K (tgt := 54) dX0_keys_42 (by decide) (fun h42 => ?_) (fun h42 => ?_)
    · refine gg_iinc K (v := nI (j + 1)) dX0_keys_54 rfl (nI_inc (j)) (by decide) ?_
      refine gg_goto K (tgt := 22) dX0_keys_57 (by decide) ?_
      refine gg_sub (L' := [(5, .int (nI (j + 1))), (4, .int ((kyF (fun i => vX k kp T (q') (t' * 8 + i) (d')) j))), (0, .ref X.1), (1, .int t), (2, .int d), (3, .int q)]) ⟨rfl, rfl, rfl, rfl, rfl, rfl, trivial⟩ ?_
      exact ih _ _ ⟨j + 1, by omega, rfl, by omega, by rw [show kyF (fun i => vX k kp T (q') (t' * 8 + i) (d')) (j + 1) = kyF (fun i => vX k kp T (q') (t' * 8 + i) (d')) j from if_pos h42]⟩
    · refine gg_iload K dX0_keys_45 rfl ?_
      refine gg_iconst K (v := 1) dX0_keys_47 (by decide) ?_
      refine gg_iload K dX0_keys_48 rfl ?_
      refine gg_ishl K dX0_keys_50 ?_
      refine gg_ior K dX0_keys_51 ?_
      refine gg_istore K dX0_keys_52 (by decide) ?_
      refine gg_iinc K (v := nI (j + 1)) dX0_keys_54 rfl (nI_inc (j)) (by decide) ?_
      refine gg_goto K (tgt := 22) dX0_keys_57 (by decide) ?_
      refine gg_sub (L' := [(5, .int (nI (j + 1))), (4, .int ((kyF (fun i => vX k kp T (q') (t' * 8 + i) (d')) j ||| (1 <<< (nI j &&& 31))))), (0, .ref X.1), (1, .int t), (2, .int d), (3, .int q)]) ⟨rfl, rfl, rfl, rfl, rfl, rfl, trivial⟩ ?_
      exact ih _ _ ⟨j + 1, by omega, rfl, by omega, by rw [show kyF (fun i => vX k kp T (q') (t' * 8 + i) (d')) (j + 1) = _ from if_neg h42]⟩
set_option maxRecDepth 100000 in
theorem n_joined {l : Launch} {Z : ZT} {X : XT} {k kp dr : Nat → Int32} {T : Nat} (ok : okX kp T) (hv : valOk (vX k kp T) T) (y' : Nat) {y : Int32} (a1 : y' < 8) (a2 : y = nI y') (d' : Nat) {d : Int32} (d1 : d' < 60) (d2 : d = nI d') (q' : Nat) {q : Int32} (q1 : q' ≤ T) (q2 : q = nI q') : mR l Z yX0_joined cX0_joined 4 (some .int) (rmk 9 200 0 0) (wX Z X k kp dr (nI T)) [.ref X.1, .int y, .int d, .int q] (.int (jnF (vX k kp T) (q') (y') (d'))) := by
  have hT9 := ok.1
  refine mA_intro (own := RX0) [(0, .ref X.1), (1, .int y), (2, .int d), (3, .int q)] (by decide +kernel) rfl rfl rfl rfl ?_
  intro p e s m args below meth c A K hr hin
  refine gg_iload_n K (i := 1) dX0_joined_0 rfl rfl ?_
  refine gg_bipush K (v := 8) dX0_joined_1 (by decide) ?_
  refine gg_callS0 K k_X0_X0_needRange (n_needRange y' 8 a1 (by omega) a2 rfl) dX0_joined_3 rfl rfl rfl rfl ⟨rfl, rfl⟩ ?_
  refine gg_iload_n K (i := 2) dX0_joined_6 rfl rfl ?_
  refine gg_bipush K (v := 60) dX0_joined_7 (by decide) ?_
  refine gg_callS0 K k_X0_X0_needRange (n_needRange d' 60 d1 (by omega) d2 rfl) dX0_joined_9 rfl rfl rfl rfl ⟨rfl, rfl⟩ ?_
  refine gg_aload_n K (i := 0) dX0_joined_12 rfl rfl ?_
  refine gg_iload_n K (i := 3) dX0_joined_13 rfl rfl ?_
  refine gg_call0X K k_X0_X0_needRecord (n_needRecord ok q' q1 q2) dX0_joined_14 rfl rfl rfl rfl ⟨rfl, rfl⟩ ?_
  refine gg_aload_n K (i := 0) dX0_joined_17 rfl rfl ?_
  refine gg_iload_n K (i := 3) dX0_joined_18 rfl rfl ?_
  refine gg_iload_n K (i := 1) dX0_joined_19 rfl rfl ?_
  refine gg_iload_n K (i := 2) dX0_joined_20 rfl rfl ?_
  refine gg_callRX K k_X0_X0_joinedOn (x_joinedOn (q') (y') (d') ok hv q1 a1 d1 q2 a2 d2) dX0_joined_21 rfl rfl rfl rfl ⟨rfl, rfl⟩ ?_
  exact gg_iret K hr dX0_joined_24 (Nat.le_of_ble_eq_true rfl) (Nat.le_of_ble_eq_true rfl) ⟨rfl, rfl⟩
set_option maxRecDepth 100000 in
theorem n_runs {l : Launch} {Z : ZT} {X : XT} {k kp dr : Nat → Int32} {T : Nat} (ok : okX kp T) (t' y' : Nat) {t y : Int32} (a1 : t' < 2) (b1 : y' < 8) (a2 : t = nI t') (b2 : y = nI y') (q' : Nat) {q : Int32} (q1 : q' ≤ T) (q2 : q = nI q') : mR l Z yX0_runs cX0_runs 7 (some .int) (rmk 9 200 0 0) (wX Z X k kp dr (nI T)) [.ref X.1, .int t, .int y, .int q] (.int (nI (fb_ct (stF (vX k kp T q' (t' * 8 + y'))) 60))) := by
  have hT9 := ok.1
  refine mA_intro (own := RX0) [(0, .ref X.1), (1, .int t), (2, .int y), (3, .int q)] (by decide +kernel) rfl rfl rfl rfl ?_
  intro p e s m args below meth c A K hr hin
  refine gg_iload_n K (i := 1) dX0_runs_0 rfl rfl ?_
  refine gg_iload_n K (i := 2) dX0_runs_1 rfl rfl ?_
  refine gg_callS0 K k_X0_X0_needTableAndKey (n_needTK t' y' a1 b1 a2 b2) dX0_runs_2 rfl rfl rfl rfl ⟨rfl, rfl⟩ ?_
  refine gg_aload_n K (i := 0) dX0_runs_5 rfl rfl ?_
  refine gg_iload_n K (i := 3) dX0_runs_6 rfl rfl ?_
  refine gg_call0X K k_X0_X0_needRecord (n_needRecord ok q' q1 q2) dX0_runs_7 rfl rfl rfl rfl ⟨rfl, rfl⟩ ?_
  refine gg_iload_n K (i := 1) dX0_runs_10 rfl rfl ?_
  refine gg_iload_n K (i := 2) dX0_runs_11 rfl rfl ?_
  refine gg_callSR K k_X0_X0_line (x_line (t') (y') a2 b2) dX0_runs_12 rfl rfl rfl rfl ⟨rfl, rfl⟩ ?_
  refine gg_istore K dX0_runs_15 (by decide) ?_
  refine gg_iconst K (v := 0) dX0_runs_17 (by decide) ?_
  refine gg_istore K dX0_runs_18 (by decide) ?_
  refine gg_iconst K (v := 0) dX0_runs_20 (by decide) ?_
  refine gg_istore K dX0_runs_21 (by decide) ?_
  refine gg_sub (L' := [(6, .int (nI 0)), (5, .int (nI 0)), (4, .int (nI (t' * 8 + y'))), (0, .ref X.1), (1, .int t), (2, .int y), (3, .int q)]) ⟨rfl, rfl, rfl, rfl, rfl, rfl, rfl, trivial⟩ ?_
  refine gg_loop (fun i w L => ∃ (j : Nat), j + i = 61 ∧ w = wX Z X k kp dr (nI T) ∧ j ≤ 60 ∧ L = [(6, .int (nI j)), (5, .int (nI ((fb_ct (stF (vX k kp T q' (t' * 8 + y'))) j)))), (4, .int (nI (t' * 8 + y'))), (0, .ref X.1), (1, .int t), (2, .int y), (3, .int q)]) (fun w L h => ?_) (fun i w L h ih => ?_) 61 _ _ ⟨0, rfl, rfl, by omega, rfl⟩
  · obtain ⟨j, hj, -, h2, -⟩ := h
    omega
  · obtain ⟨j, hj, rfl, -, rfl⟩ := h
    refine gg_iload K dX0_runs_23 rfl ?_
    refine gg_bipush K (v := 60) dX0_runs_25 (by decide) ?_
    refine gg_icmp_ge K (tgt := 51) dX0_runs_27 (by decide) (fun h27 => ?_) (fun h27 => ?_)
    · have hj2 := i_le (a := 60) h27
      have hj3 : j = 60 := by omega
      subst hj3
      refine gg_iload K dX0_runs_51 rfl ?_
      exact gg_iret K hr dX0_runs_53 (Nat.le_of_ble_eq_true rfl) (Nat.le_of_ble_eq_true rfl) ⟨rfl, rfl⟩
    have hj2 := i_nle (a := 60) h27
    refine gg_aload_n K (i := 0) dX0_runs_30 rfl rfl ?_
    refine gg_iload_n K (i := 3) dX0_runs_31 rfl rfl ?_
    refine gg_iload K dX0_runs_32 rfl ?_
    refine gg_iload K dX0_runs_34 rfl ?_
    refine gg_callRX K k_X0_X0_startsRun (x_startsRun (q') (t' * 8 + y') j ok q1 (by omega) hj2 q2 rfl rfl) dX0_runs_36 rfl rfl rfl rfl ⟨rfl, rfl⟩ ?_
    refine gg_b_eq K (tgt := 45) dX0_runs_39 (by decide) (fun h39 => ?_) (fun h39 => ?_)
    · refine gg_iinc K (v := nI (j + 1)) dX0_runs_45 rfl (nI_inc (j)) (by decide) ?_
      refine gg_goto K (tgt := 23) dX0_runs_48 (by decide) ?_
      refine gg_sub (L' := [(6, .int (nI (j + 1))), (5, .int (nI ((fb_ct (stF (vX k kp T q' (t' * 8 + y'))) j)))), (4, .int (nI (t' * 8 + y'))), (0, .ref X.1), (1, .int t), (2, .int y), (3, .int q)]) ⟨rfl, rfl, rfl, rfl, rfl, rfl, rfl, trivial⟩ ?_
      exact ih _ _ ⟨j + 1, by omega, rfl, by omega, by rw [fb_ct_succ, h39]; rfl⟩
    · refine gg_iinc K (v := nI (fb_ct (stF (vX k kp T q' (t' * 8 + y'))) j + 1)) dX0_runs_42 rfl (nI_inc (fb_ct (stF (vX k kp T q' (t' * 8 + y'))) j)) (by decide) ?_
      refine gg_iinc K (v := nI (j + 1)) dX0_runs_45 rfl (nI_inc (j)) (by decide) ?_
      refine gg_goto K (tgt := 23) dX0_runs_48 (by decide) ?_
      refine gg_sub (L' := [(6, .int (nI (j + 1))), (5, .int (nI ((fb_ct (stF (vX k kp T q' (t' * 8 + y'))) j + 1)))), (4, .int (nI (t' * 8 + y'))), (0, .ref X.1), (1, .int t), (2, .int y), (3, .int q)]) ⟨rfl, rfl, rfl, rfl, rfl, rfl, rfl, trivial⟩ ?_
      exact ih _ _ ⟨j + 1, by omega, rfl, by omega, by rw [fb_ct_succ, h39]; rfl⟩
set_option maxRecDepth 100000 in
theorem n_run {l : Launch} {Z : ZT} {X : XT} {k kp dr : Nat → Int32} {T : Nat} (ok : okX kp T) (t' y' : Nat) {t y : Int32} (a1 : t' < 2) (b1 : y' < 8) (a2 : t = nI t') (b2 : y = nI y') (q' : Nat) {q : Int32} (q1 : q' ≤ T) (q2 : q = nI q') (w' : Nat) {w9 : Int32} (w1 : w' < fb_ct (stF (vX k kp T q' (t' * 8 + y'))) 60) (w2 : w9 = nI w') : mR l Z yX0_run cX0_run 7 (some .int) (rmk 9 200 0 0) (wX Z X k kp dr (nI T)) [.ref X.1, .int t, .int y, .int q, .int w9] (.int (runN (vX k kp T q' (t' * 8 + y')) (kthD (stF (vX k kp T q' (t' * 8 + y'))) (w') 60))) := by
  have hT9 := ok.1
  refine mA_intro (own := RX0) [(0, .ref X.1), (1, .int t), (2, .int y), (3, .int q), (4, .int w9)] (by decide +kernel) rfl rfl rfl rfl ?_
  intro p e s m args below meth c A K hr hin
  refine gg_iload_n K (i := 1) dX0_run_0 rfl rfl ?_
  refine gg_iload_n K (i := 2) dX0_run_1 rfl rfl ?_
  refine gg_callS0 K k_X0_X0_needTableAndKey (n_needTK t' y' a1 b1 a2 b2) dX0_run_2 rfl rfl rfl rfl ⟨rfl, rfl⟩ ?_
  refine gg_aload_n K (i := 0) dX0_run_5 rfl rfl ?_
  refine gg_iload_n K (i := 3) dX0_run_6 rfl rfl ?_
  refine gg_call0X K k_X0_X0_needRecord (n_needRecord ok q' q1 q2) dX0_run_7 rfl rfl rfl rfl ⟨rfl, rfl⟩ ?_
  refine gg_iload_n K (i := 1) dX0_run_10 rfl rfl ?_
  refine gg_iload_n K (i := 2) dX0_run_11 rfl rfl ?_
  refine gg_callSR K k_X0_X0_line (x_line (t') (y') a2 b2) dX0_run_12 rfl rfl rfl rfl ⟨rfl, rfl⟩ ?_
  refine gg_istore K dX0_run_15 (by decide) ?_
  refine gg_aload_n K (i := 0) dX0_run_17 rfl rfl ?_
  refine gg_iload_n K (i := 3) dX0_run_18 rfl rfl ?_
  refine gg_iload K dX0_run_19 rfl ?_
  refine gg_iload K dX0_run_21 rfl ?_
  refine gg_callRX K k_X0_X0_firstDayOfRun (x_firstDayOfRun (q') (t' * 8 + y') ok q1 (by omega) q2 rfl) dX0_run_23 rfl rfl rfl rfl ⟨rfl, rfl⟩ ?_
  have hsp := fstF_spec (stF (vX k kp T q' (t' * 8 + y'))) w9 60 0
  rw [show fb_ct (stF (vX k kp T q' (t' * 8 + y'))) 0 = 0 from rfl] at hsp
  rcases hsp with ⟨e9, -, e1, e2, e3, e4⟩ | ⟨e1, e2⟩
  · refine gg_top e4 ?_
    refine gg_istore K dX0_run_26 (by decide) ?_
    refine gg_iload K dX0_run_28 rfl ?_
    refine gg_iconst K (v := (-1)) dX0_run_30 (by decide) ?_
    refine gg_icmp_ne K (tgt := 44) dX0_run_31 (by decide) (fun h31 => ?_) (fun h31 => ?_)
    rotate_left
    · exact absurd h31 (nI_m1 (by omega))
    refine gg_aload_n K (i := 0) dX0_run_44 rfl rfl ?_
    refine gg_iload_n K (i := 3) dX0_run_45 rfl rfl ?_
    refine gg_iload K dX0_run_46 rfl ?_
    refine gg_iload K dX0_run_48 rfl ?_
    refine gg_callRX K k_X0_X0_runNumber (x_runNumber (q') (t' * 8 + y') e9 ok q1 (by omega) (by omega) q2 rfl rfl) dX0_run_50 rfl rfl rfl rfl ⟨rfl, rfl⟩ ?_
    have hc : fb_ct (stF (vX k kp T q' (t' * 8 + y'))) e9 < fb_ct (stF (vX k kp T q' (t' * 8 + y'))) 60 := by
      have h6 := fb_ct_mono (stF (vX k kp T q' (t' * 8 + y'))) (show e9 + 1 ≤ 60 by omega)
      rw [fb_ct_succ, if_pos e2] at h6
      omega
    have hl6 := fb_ct_le (stF (vX k kp T q' (t' * 8 + y'))) 60
    refine gg_iret K hr dX0_run_53 (Nat.le_of_ble_eq_true rfl) (Nat.le_of_ble_eq_true rfl) ⟨some_int ?_, rfl⟩
    rw [kthD_eq e2 (show fb_ct (stF (vX k kp T q' (t' * 8 + y'))) e9 = w' by rw [w2] at e3; exact i_eq e3) (by omega)]
  · refine gg_top e1 ?_
    refine gg_istore K dX0_run_26 (by decide) ?_
    refine gg_iload K dX0_run_28 rfl ?_
    refine gg_iconst K (v := (-1)) dX0_run_30 (by decide) ?_
    refine gg_icmp_ne K (tgt := 44) dX0_run_31 (by decide) (fun h31 => ?_) (fun h31 => ?_)
    · exact absurd rfl h31
    obtain ⟨e9, g1, g2, g3⟩ := fb_ct_kth w1
    exact absurd (by rw [g3, w2]) (e2 e9 (by omega) (by omega) g2)
set_option maxRecDepth 100000 in
theorem n_joinedRuns {l : Launch} {Z : ZT} {X : XT} {k kp dr : Nat → Int32} {T : Nat} (ok : okX kp T) (hv : valOk (vX k kp T) T) (y' : Nat) {y : Int32} (b1 : y' < 8) (b2 : y = nI y') (q' : Nat) {q : Int32} (q1 : q' ≤ T) (q2 : q = nI q') : mR l Z yX0_joinedRuns cX0_joinedRuns 5 (some .int) (rmk 9 200 0 0) (wX Z X k kp dr (nI T)) [.ref X.1, .int y, .int q] (.int (nI (fb_ct (jsF (vX k kp T) (q') (y')) 60))) := by
  have hT9 := ok.1
  refine mA_intro (own := RX0) [(0, .ref X.1), (1, .int y), (2, .int q)] (by decide +kernel) rfl rfl rfl rfl ?_
  intro p e s m args below meth c A K hr hin
  refine gg_iload_n K (i := 1) dX0_joinedRuns_0 rfl rfl ?_
  refine gg_bipush K (v := 8) dX0_joinedRuns_1 (by decide) ?_
  refine gg_callS0 K k_X0_X0_needRange (n_needRange y' 8 b1 (by omega) b2 rfl) dX0_joinedRuns_3 rfl rfl rfl rfl ⟨rfl, rfl⟩ ?_
  refine gg_aload_n K (i := 0) dX0_joinedRuns_6 rfl rfl ?_
  refine gg_iload_n K (i := 2) dX0_joinedRuns_7 rfl rfl ?_
  refine gg_call0X K k_X0_X0_needRecord (n_needRecord ok q' q1 q2) dX0_joinedRuns_8 rfl rfl rfl rfl ⟨rfl, rfl⟩ ?_
  refine gg_iconst K (v := 0) dX0_joinedRuns_11 (by decide) ?_
  refine gg_istore_n K (i := 3) dX0_joinedRuns_12 rfl (by decide) ?_
  refine gg_iconst K (v := 0) dX0_joinedRuns_13 (by decide) ?_
  refine gg_istore K dX0_joinedRuns_14 (by decide) ?_
  refine gg_sub (L' := [(4, .int (nI 0)), (3, .int (nI 0)), (0, .ref X.1), (1, .int y), (2, .int q)]) ⟨rfl, rfl, rfl, rfl, rfl, trivial⟩ ?_
  refine gg_loop (fun i w L => ∃ (j : Nat), j + i = 61 ∧ w = wX Z X k kp dr (nI T) ∧ j ≤ 60 ∧ L = [(4, .int (nI j)), (3, .int (nI ((fb_ct (jsF (vX k kp T) (q') (y')) j)))), (0, .ref X.1), (1, .int y), (2, .int q)]) (fun w L h => ?_) (fun i w L h ih => ?_) 61 _ _ ⟨0, rfl, rfl, by omega, rfl⟩
  · obtain ⟨j, hj, -, h2, -⟩ := h
    omega
  · obtain ⟨j, hj, rfl, -, rfl⟩ := h
    refine gg_iload K dX0_joinedRuns_16 rfl ?_
    refine gg_bipush K (v := 60) dX0_joinedRuns_18 (by decide) ?_
    refine gg_icmp_ge K (tgt := 43) dX0_joinedRuns_20 (by decide) (fun h20 => ?_) (fun h20 => ?_)
    · have hj2 := i_le (a := 60) h20
      have hj3 : j = 60 := by omega
      subst hj3
      refine gg_iload_n K (i := 3) dX0_joinedRuns_43 rfl rfl ?_
      exact gg_iret K hr dX0_joinedRuns_44 (Nat.le_of_ble_eq_true rfl) (Nat.le_of_ble_eq_true rfl) ⟨rfl, rfl⟩
    have hj2 := i_nle (a := 60) h20
    refine gg_aload_n K (i := 0) dX0_joinedRuns_23 rfl rfl ?_
    refine gg_iload_n K (i := 2) dX0_joinedRuns_24 rfl rfl ?_
    refine gg_iload_n K (i := 1) dX0_joinedRuns_25 rfl rfl ?_
    refine gg_iload K dX0_joinedRuns_26 rfl ?_
    refine gg_callRX K k_X0_X0_startsJoinedRun (x_startsJoinedRun (q') (y') j ok hv q1 b1 hj2 q2 b2 rfl) dX0_joinedRuns_28 rfl rfl rfl rfl ⟨rfl, rfl⟩ ?_
    refine gg_b_eq K (tgt := 37) dX0_joinedRuns_31 (by decide) (fun h31 => ?_) (fun h31 => ?_)
    · refine gg_iinc K (v := nI (j + 1)) dX0_joinedRuns_37 rfl (nI_inc (j)) (by decide) ?_
      refine gg_goto K (tgt := 16) dX0_joinedRuns_40 (by decide) ?_
      refine gg_sub (L' := [(4, .int (nI (j + 1))), (3, .int (nI ((fb_ct (jsF (vX k kp T) (q') (y')) j)))), (0, .ref X.1), (1, .int y), (2, .int q)]) ⟨rfl, rfl, rfl, rfl, rfl, trivial⟩ ?_
      exact ih _ _ ⟨j + 1, by omega, rfl, by omega, by rw [fb_ct_succ, h31]; rfl⟩
    · refine gg_iinc K (v := nI (fb_ct (jsF (vX k kp T) (q') (y')) j + 1)) dX0_joinedRuns_34 rfl (nI_inc (fb_ct (jsF (vX k kp T) (q') (y')) j)) (by decide) ?_
      refine gg_iinc K (v := nI (j + 1)) dX0_joinedRuns_37 rfl (nI_inc (j)) (by decide) ?_
      refine gg_goto K (tgt := 16) dX0_joinedRuns_40 (by decide) ?_
      refine gg_sub (L' := [(4, .int (nI (j + 1))), (3, .int (nI ((fb_ct (jsF (vX k kp T) (q') (y')) j + 1)))), (0, .ref X.1), (1, .int y), (2, .int q)]) ⟨rfl, rfl, rfl, rfl, rfl, trivial⟩ ?_
      exact ih _ _ ⟨j + 1, by omega, rfl, by omega, by rw [fb_ct_succ, h31]; rfl⟩
set_option maxRecDepth 100000 in
theorem n_longest {l : Launch} {Z : ZT} {X : XT} {k kp dr : Nat → Int32} {T : Nat} (ok : okX kp T) (t' y' : Nat) {t y : Int32} (a1 : t' < 2) (b1 : y' < 8) (a2 : t = nI t') (b2 : y = nI y') (q' : Nat) {q : Int32} (q1 : q' ≤ T) (q2 : q = nI q') : mR l Z yX0_longest cX0_longest 7 (some .int) (rmk 9 200 0 0) (wX Z X k kp dr (nI T)) [.ref X.1, .int t, .int y, .int q] (.int (nI (lgF (vX k kp T q' (t' * 8 + y')) 60))) := by
  have hT9 := ok.1
  refine mA_intro (own := RX0) [(0, .ref X.1), (1, .int t), (2, .int y), (3, .int q)] (by decide +kernel) rfl rfl rfl rfl ?_
  intro p e s m args below meth c A K hr hin
  refine gg_iload_n K (i := 1) dX0_longest_0 rfl rfl ?_
  refine gg_iload_n K (i := 2) dX0_longest_1 rfl rfl ?_
  refine gg_callS0 K k_X0_X0_needTableAndKey (n_needTK t' y' a1 b1 a2 b2) dX0_longest_2 rfl rfl rfl rfl ⟨rfl, rfl⟩ ?_
  refine gg_aload_n K (i := 0) dX0_longest_5 rfl rfl ?_
  refine gg_iload_n K (i := 3) dX0_longest_6 rfl rfl ?_
  refine gg_call0X K k_X0_X0_needRecord (n_needRecord ok q' q1 q2) dX0_longest_7 rfl rfl rfl rfl ⟨rfl, rfl⟩ ?_
  refine gg_iload_n K (i := 1) dX0_longest_10 rfl rfl ?_
  refine gg_iload_n K (i := 2) dX0_longest_11 rfl rfl ?_
  refine gg_callSR K k_X0_X0_line (x_line (t') (y') a2 b2) dX0_longest_12 rfl rfl rfl rfl ⟨rfl, rfl⟩ ?_
  refine gg_istore K dX0_longest_15 (by decide) ?_
  refine gg_iconst K (v := 0) dX0_longest_17 (by decide) ?_
  refine gg_istore K dX0_longest_18 (by decide) ?_
  refine gg_iconst K (v := 0) dX0_longest_20 (by decide) ?_
  refine gg_istore K dX0_longest_21 (by decide) ?_
  refine gg_sub (L' := [(6, .int (nI 0)), (5, .int (nI 0)), (4, .int (nI (t' * 8 + y'))), (0, .ref X.1), (1, .int t), (2, .int y), (3, .int q)]) ⟨rfl, rfl, rfl, rfl, rfl, rfl, rfl, trivial⟩ ?_
  refine gg_loop (fun i w L => ∃ (j : Nat), j + i = 61 ∧ w = wX Z X k kp dr (nI T) ∧ j ≤ 60 ∧ L = [(6, .int (nI j)), (5, .int (nI ((lgF (vX k kp T q' (t' * 8 + y')) j)))), (4, .int (nI (t' * 8 + y'))), (0, .ref X.1), (1, .int t), (2, .int y), (3, .int q)]) (fun w L h => ?_) (fun i w L h ih => ?_) 61 _ _ ⟨0, rfl, rfl, by omega, rfl⟩
  · obtain ⟨j, hj, -, h2, -⟩ := h
    omega
  · obtain ⟨j, hj, rfl, -, rfl⟩ := h
    refine gg_iload K dX0_longest_23 rfl ?_
    refine gg_bipush K (v := 60) dX0_longest_25 (by decide) ?_
    refine gg_icmp_ge K (tgt := 67) dX0_longest_27 (by decide) (fun h27 => ?_) (fun h27 => ?_)
    · have hj2 := i_le (a := 60) h27
      have hj3 : j = 60 := by omega
      subst hj3
      refine gg_iload K dX0_longest_67 rfl ?_
      exact gg_iret K hr dX0_longest_69 (Nat.le_of_ble_eq_true rfl) (Nat.le_of_ble_eq_true rfl) ⟨rfl, rfl⟩
    have hj2 := i_nle (a := 60) h27
    refine gg_aload_n K (i := 0) dX0_longest_30 rfl rfl ?_
    refine gg_iload_n K (i := 3) dX0_longest_31 rfl rfl ?_
    refine gg_iload K dX0_longest_32 rfl ?_
    refine gg_iload K dX0_longest_34 rfl ?_
    refine gg_callRX K k_X0_X0_startsRun (x_startsRun (q') (t' * 8 + y') j ok q1 (by omega) hj2 q2 rfl rfl) dX0_longest_36 rfl rfl rfl rfl ⟨rfl, rfl⟩ ?_
    refine gg_b_eq K (tgt := 61) dX0_longest_39 (by decide) (fun h39 => ?_) (fun h39 => ?_)
    · refine gg_iinc K (v := nI (j + 1)) dX0_longest_61 rfl (nI_inc (j)) (by decide) ?_
      refine gg_goto K (tgt := 23) dX0_longest_64 (by decide) ?_
      refine gg_sub (L' := [(6, .int (nI (j + 1))), (5, .int (nI ((lgF (vX k kp T q' (t' * 8 + y')) j)))), (4, .int (nI (t' * 8 + y'))), (0, .ref X.1), (1, .int t), (2, .int y), (3, .int q)]) ⟨rfl, rfl, rfl, rfl, rfl, rfl, rfl, trivial⟩ ?_
      exact ih _ _ ⟨j + 1, by omega, rfl, by omega, by rw [show lgF (vX k kp T q' (t' * 8 + y')) (j + 1) = lgF (vX k kp T q' (t' * 8 + y')) j from if_neg (by rw [h39]; decide)]⟩
    · refine gg_iload K dX0_longest_42 rfl ?_
      refine gg_aload_n K (i := 0) dX0_longest_44 rfl rfl ?_
      refine gg_iload_n K (i := 3) dX0_longest_45 rfl rfl ?_
      refine gg_iload K dX0_longest_46 rfl ?_
      refine gg_iload K dX0_longest_48 rfl ?_
      refine gg_callRX K k_X0_X0_endOfRun (x_endOfRun (q') (t' * 8 + y') j ok q1 (by omega) hj2 q2 rfl rfl) dX0_longest_50 rfl rfl rfl rfl ⟨rfl, rfl⟩ ?_
      refine gg_iload K dX0_longest_53 rfl ?_
      refine gg_isub K dX0_longest_55 ?_
      have e1 := endF_le (f := vX k kp T q' (t' * 8 + y')) hj2
      have e2 := endF_gt (vX k kp T q' (t' * 8 + y')) j
      have e3 := lgF_le (vX k kp T q' (t' * 8 + y')) (n := j) (by omega)
      refine gg_top (pk_sub (by omega)) ?_
      refine gg_mmax K dX0_longest_56 rfl rfl ?_
      refine gg_top (y := nI (lgF (vX k kp T q' (t' * 8 + y')) (j + 1))) ?_ ?_
      · rw [show lgF (vX k kp T q' (t' * 8 + y')) (j + 1) = _ from if_pos h39]
        by_cases hq : lgF (vX k kp T q' (t' * 8 + y')) j < endF (vX k kp T q' (t' * 8 + y')) j - j
        · rw [if_pos hq, if_pos (nI_lt hq (by omega))]
        · rw [if_neg hq, if_neg (nI_nlt (by omega) (by omega))]
      refine gg_istore K dX0_longest_59 (by decide) ?_
      refine gg_iinc K (v := nI (j + 1)) dX0_longest_61 rfl (nI_inc (j)) (by decide) ?_
      refine gg_goto K (tgt := 23) dX0_longest_64 (by decide) ?_
      refine gg_sub (L' := [(6, .int (nI (j + 1))), (5, .int (nI ((lgF (vX k kp T q' (t' * 8 + y')) (j + 1))))), (4, .int (nI (t' * 8 + y'))), (0, .ref X.1), (1, .int t), (2, .int y), (3, .int q)]) ⟨rfl, rfl, rfl, rfl, rfl, rfl, rfl, trivial⟩ ?_
      exact ih _ _ ⟨j + 1, by omega, rfl, by omega, rfl⟩
set_option maxRecDepth 100000 in
theorem n_rows {l : Launch} {Z : ZT} {X : XT} {k kp dr : Nat → Int32} {T : Nat} (ok : okX kp T) (t' y' : Nat) {t y : Int32} (a1 : t' < 2) (b1 : y' < 8) (a2 : t = nI t') (b2 : y = nI y') : mR l Z yX0_rows cX0_rows 7 (some .int) (rmk 9 200 0 0) (wX Z X k kp dr (nI T)) [.ref X.1, .int t, .int y] (.int (nI (fb_ct (rwF (vX k kp T) (t' * 8 + y')) (60 * (T + 1))))) := by
  have hT9 := ok.1
  refine mA_intro (own := RX0) [(0, .ref X.1), (1, .int t), (2, .int y)] (by decide +kernel) rfl rfl rfl rfl ?_
  intro p e s m args below meth c A K hr hin
  refine gg_iload_n K (i := 1) dX0_rows_0 rfl rfl ?_
  refine gg_iload_n K (i := 2) dX0_rows_1 rfl rfl ?_
  refine gg_callS0 K k_X0_X0_needTableAndKey (n_needTK t' y' a1 b1 a2 b2) dX0_rows_2 rfl rfl rfl rfl ⟨rfl, rfl⟩ ?_
  refine gg_iload_n K (i := 1) dX0_rows_5 rfl rfl ?_
  refine gg_iload_n K (i := 2) dX0_rows_6 rfl rfl ?_
  refine gg_callSR K k_X0_X0_line (x_line (t') (y') a2 b2) dX0_rows_7 rfl rfl rfl rfl ⟨rfl, rfl⟩ ?_
  refine gg_istore_n K (i := 3) dX0_rows_10 rfl (by decide) ?_
  refine gg_iconst K (v := 0) dX0_rows_11 (by decide) ?_
  refine gg_istore K dX0_rows_12 (by decide) ?_
  refine gg_iconst K (v := 0) dX0_rows_14 (by decide) ?_
  refine gg_istore K dX0_rows_15 (by decide) ?_
  refine gg_sub (L' := [(5, .int (nI 0)), (4, .int (nI 0)), (3, .int (nI (t' * 8 + y'))), (0, .ref X.1), (1, .int t), (2, .int y)]) ⟨rfl, rfl, rfl, rfl, rfl, rfl, trivial⟩ ?_
  refine gg_loop (fun i w L => ∃ (r : Nat), r + i = T + 2 ∧ w = wX Z X k kp dr (nI T) ∧ r ≤ T + 1 ∧ L = [(5, .int (nI r)), (4, .int (nI ((fb_ct (rwF (vX k kp T) (t' * 8 + y')) (60 * r))))), (3, .int (nI (t' * 8 + y'))), (0, .ref X.1), (1, .int t), (2, .int y)]) (fun w L h => ?_) (fun i w L h ih => ?_) (T + 2) _ _ ⟨0, by omega, rfl, by omega, rfl⟩
  · obtain ⟨r, hj, -, h2, -⟩ := h
    omega
  · obtain ⟨r, hj, rfl, hj1, rfl⟩ := h
    refine gg_iload K dX0_rows_17 rfl ?_
    refine gg_aload_n K (i := 0) dX0_rows_19 rfl rfl ?_
    refine gX_today K dX0_rows_20 ?_
    refine gg_icmp_gt K (tgt := 72) dX0_rows_23 (by decide) (fun h23 => ?_) (fun h23 => ?_)
    · have hj2 := i_lt h23
      have hj3 : r = T + 1 := by omega
      subst hj3
      refine gg_iload K dX0_rows_72 rfl ?_
      exact gg_iret K hr dX0_rows_74 (Nat.le_of_ble_eq_true rfl) (Nat.le_of_ble_eq_true rfl) ⟨rfl, rfl⟩
    have hj2 := i_nlt h23
    refine gg_iconst K (v := 0) dX0_rows_26 (by decide) ?_
    refine gg_istore K dX0_rows_27 (by decide) ?_
    refine gg_sub (L' := [(6, .int (nI 0)), (5, .int (nI r)), (4, .int (nI ((fb_ct (rwF (vX k kp T) (t' * 8 + y')) (60 * r + 0))))), (3, .int (nI (t' * 8 + y'))), (0, .ref X.1), (1, .int t), (2, .int y)]) ⟨rfl, rfl, rfl, rfl, rfl, rfl, rfl, trivial⟩ ?_
    refine gg_loop (fun i w L => ∃ (d : Nat), d + i = 61 ∧ w = wX Z X k kp dr (nI T) ∧ d ≤ 60 ∧ L = [(6, .int (nI d)), (5, .int (nI r)), (4, .int (nI ((fb_ct (rwF (vX k kp T) (t' * 8 + y')) (60 * r + d))))), (3, .int (nI (t' * 8 + y'))), (0, .ref X.1), (1, .int t), (2, .int y)]) (fun w L h => ?_) (fun i w L h ih2 => ?_) 61 _ _ ⟨0, by omega, rfl, by omega, rfl⟩
    · obtain ⟨d, hj, -, h2, -⟩ := h
      omega
    · obtain ⟨d, hd1, rfl, hd2, rfl⟩ := h
      refine gg_iload K dX0_rows_29 rfl ?_
      refine gg_bipush K (v := 60) dX0_rows_31 (by decide) ?_
      refine gg_icmp_ge K (tgt := 66) dX0_rows_33 (by decide) (fun h33 => ?_) (fun h33 => ?_)
      · have hd3 := i_le (a := 60) h33
        have hd4 : d = 60 := by omega
        subst hd4
        refine gg_iinc K (v := nI (r + 1)) dX0_rows_66 rfl (nI_inc (r)) (by decide) ?_
        refine gg_goto K (tgt := 17) dX0_rows_69 (by decide) ?_
        refine gg_sub (L' := [(5, .int (nI (r + 1))), (4, .int (nI ((fb_ct (rwF (vX k kp T) (t' * 8 + y')) (60 * (r + 1)))))), (3, .int (nI (t' * 8 + y'))), (0, .ref X.1), (1, .int t), (2, .int y)]) ⟨rfl, rfl, rfl, rfl, rfl, rfl, trivial⟩ ?_
        exact ih _ _ ⟨r + 1, by omega, rfl, by omega, rfl⟩
      have hd3 := i_nle (a := 60) h33
      refine gg_aload_n K (i := 0) dX0_rows_36 rfl rfl ?_
      refine gg_iload K dX0_rows_37 rfl ?_
      refine gg_callRX K k_X0_X0_isKept (x_isKept r ok hj2 rfl) dX0_rows_39 rfl rfl rfl rfl ⟨rfl, rfl⟩ ?_
      refine gg_b_eq K (tgt := 66) dX0_rows_42 (by decide) (fun h42 => ?_) (fun h42 => ?_)
      · have hoff := fun d => vX_off (k := k) ok hj2 (of_decide_eq_false h42) (t' * 8 + y') d
        have hc := fb_ct_flat (q := (rwF (vX k kp T) (t' * 8 + y'))) (a := 60 * r + d) (n := 60 - d) (fun e9 g1 g2 => by
          have e := rwF_at (vX k kp T) (t' * 8 + y') r (e9 - 60 * r) (by omega)
          rw [show 60 * r + (e9 - 60 * r) = e9 by omega] at e
          rw [e]
          exact hoff _)
        rw [show 60 * r + d + (60 - d) = 60 * (r + 1) by omega] at hc
        refine gg_iinc K (v := nI (r + 1)) dX0_rows_66 rfl (nI_inc (r)) (by decide) ?_
        refine gg_goto K (tgt := 17) dX0_rows_69 (by decide) ?_
        refine gg_sub (L' := [(5, .int (nI (r + 1))), (4, .int (nI ((fb_ct (rwF (vX k kp T) (t' * 8 + y')) (60 * r + d))))), (3, .int (nI (t' * 8 + y'))), (0, .ref X.1), (1, .int t), (2, .int y)]) ⟨rfl, rfl, rfl, rfl, rfl, rfl, trivial⟩ ?_
        exact ih _ _ ⟨r + 1, by omega, rfl, by omega, by rw [hc]⟩
      have hat := rwF_at (vX k kp T) (t' * 8 + y') r d hd3
      refine gg_aload_n K (i := 0) dX0_rows_45 rfl rfl ?_
      refine gg_iload K dX0_rows_46 rfl ?_
      refine gg_iload_n K (i := 3) dX0_rows_48 rfl rfl ?_
      refine gg_iload K dX0_rows_49 rfl ?_
      refine gg_callRX K k_X0_X0_startsRow (x_startsRow r (t' * 8 + y') d ok hj2 (by omega) hd3 rfl rfl rfl) dX0_rows_51 rfl rfl rfl rfl ⟨rfl, rfl⟩ ?_
      refine gg_b_eq K (tgt := 60) dX0_rows_54 (by decide) (fun h54 => ?_) (fun h54 => ?_)
      · rw [← hat] at h54
        refine gg_iinc K (v := nI (d + 1)) dX0_rows_60 rfl (nI_inc (d)) (by decide) ?_
        refine gg_goto K (tgt := 29) dX0_rows_63 (by decide) ?_
        refine gg_sub (L' := [(6, .int (nI (d + 1))), (5, .int (nI r)), (4, .int (nI ((fb_ct (rwF (vX k kp T) (t' * 8 + y')) (60 * r + d))))), (3, .int (nI (t' * 8 + y'))), (0, .ref X.1), (1, .int t), (2, .int y)]) ⟨rfl, rfl, rfl, rfl, rfl, rfl, rfl, trivial⟩ ?_
        exact ih2 _ _ ⟨d + 1, by omega, rfl, by omega, by rw [show 60 * r + (d + 1) = (60 * r + d) + 1 from rfl, fb_ct_succ, h54]; rfl⟩
      · rw [← hat] at h54
        refine gg_iinc K (v := nI (fb_ct (rwF (vX k kp T) (t' * 8 + y')) (60 * r + d) + 1)) dX0_rows_57 rfl (nI_inc (fb_ct (rwF (vX k kp T) (t' * 8 + y')) (60 * r + d))) (by decide) ?_
        refine gg_iinc K (v := nI (d + 1)) dX0_rows_60 rfl (nI_inc (d)) (by decide) ?_
        refine gg_goto K (tgt := 29) dX0_rows_63 (by decide) ?_
        refine gg_sub (L' := [(6, .int (nI (d + 1))), (5, .int (nI r)), (4, .int (nI ((fb_ct (rwF (vX k kp T) (t' * 8 + y')) (60 * r + d) + 1)))), (3, .int (nI (t' * 8 + y'))), (0, .ref X.1), (1, .int t), (2, .int y)]) ⟨rfl, rfl, rfl, rfl, rfl, rfl, rfl, trivial⟩ ?_
        exact ih2 _ _ ⟨d + 1, by omega, rfl, by omega, by rw [show 60 * r + (d + 1) = (60 * r + d) + 1 from rfl, fb_ct_succ, h54]; rfl⟩
set_option maxRecDepth 100000 in
theorem n_startOfRow {l : Launch} {Z : ZT} {X : XT} {k kp dr : Nat → Int32} {T : Nat} (ok : okX kp T) (li : Nat) (hli : li < 16) (w' : Nat) {x w9 : Int32} (hx : x = nI li) (w1 : w' < fb_ct (rwF (vX k kp T) li) (60 * (T + 1))) (w2 : w9 = nI w') : mR l Z yX0_startOfRow cX0_startOfRow 6 (some .int) (rmk 7 150 0 0) (wX Z X k kp dr (nI T)) [.ref X.1, .int x, .int w9] (.int (nI (kthD (rwF (vX k kp T) li) w' (60 * (T + 1))))) := by
  refine mA_intro (own := RX0) [(0, .ref X.1), (1, .int x), (2, .int w9)] (by decide +kernel) rfl rfl rfl rfl ?_
  intro p e s m args below meth c A K hr hin
  have hT9 := ok.1
  subst hx
  refine gg_iconst K (v := 0) dX0_startOfRow_0 (by decide) ?_
  refine gg_istore_n K (i := 3) dX0_startOfRow_1 rfl (by decide) ?_
  refine gg_iconst K (v := 0) dX0_startOfRow_2 (by decide) ?_
  refine gg_istore K dX0_startOfRow_3 (by decide) ?_
  refine gg_sub (L' := [(4, .int (nI 0)), (3, .int (nI 0)), (0, .ref X.1), (1, .int (nI li)), (2, .int w9)]) ⟨rfl, rfl, rfl, rfl, rfl, trivial⟩ ?_
  refine gg_loop (fun i w L => ∃ (r : Nat), r + i = T + 2 ∧ w = wX Z X k kp dr (nI T) ∧ r ≤ T + 1 ∧ L = [(4, .int (nI r)), (3, .int (nI ((fb_ct (rwF (vX k kp T) li) (60 * r))))), (0, .ref X.1), (1, .int (nI li)), (2, .int w9)] ∧ ∀ e9, e9 < 60 * r → (rwF (vX k kp T) li) e9 = true → ¬ nI (fb_ct (rwF (vX k kp T) li) e9) = w9) (fun w L h => ?_) (fun i w L h ih => ?_) (T + 2) _ _ ⟨0, by omega, rfl, by omega, rfl, fun e9 h => absurd h (by omega)⟩
  · obtain ⟨r, hj, -, h2, -⟩ := h
    omega
  · obtain ⟨r, hj, rfl, hj1, rfl, hno⟩ := h
    refine gg_iload K dX0_startOfRow_5 rfl ?_
    refine gg_aload_n K (i := 0) dX0_startOfRow_7 rfl rfl ?_
    refine gX_today K dX0_startOfRow_8 ?_
    refine gg_icmp_gt K (tgt := 74) dX0_startOfRow_11 (by decide) (fun h11 => ?_) (fun h11 => ?_)
    · have hj2 := i_lt h11
      have hj3 : r = T + 1 := by omega
      subst hj3
      obtain ⟨e9, g1, g2, g3⟩ := fb_ct_kth w1
      exact absurd (by rw [g3, w2]) (hno e9 g1 g2)
    have hj2 := i_nlt h11
    refine gg_iconst K (v := 0) dX0_startOfRow_14 (by decide) ?_
    refine gg_istore K dX0_startOfRow_15 (by decide) ?_
    refine gg_sub (L' := [(5, .int (nI 0)), (4, .int (nI r)), (3, .int (nI ((fb_ct (rwF (vX k kp T) li) (60 * r + 0))))), (0, .ref X.1), (1, .int (nI li)), (2, .int w9)]) ⟨rfl, rfl, rfl, rfl, rfl, rfl, trivial⟩ ?_
    refine gg_loop (fun i w L => ∃ (d : Nat), d + i = 61 ∧ w = wX Z X k kp dr (nI T) ∧ d ≤ 60 ∧ L = [(5, .int (nI d)), (4, .int (nI r)), (3, .int (nI ((fb_ct (rwF (vX k kp T) li) (60 * r + d))))), (0, .ref X.1), (1, .int (nI li)), (2, .int w9)] ∧ ∀ e9, e9 < 60 * r + d → (rwF (vX k kp T) li) e9 = true → ¬ nI (fb_ct (rwF (vX k kp T) li) e9) = w9) (fun w L h => ?_) (fun i w L h ih2 => ?_) 61 _ _ ⟨0, by omega, rfl, by omega, rfl, hno⟩
    · obtain ⟨d, hj, -, h2, -⟩ := h
      omega
    · obtain ⟨d, hd1, rfl, hd2, rfl, hno2⟩ := h
      refine gg_iload K dX0_startOfRow_17 rfl ?_
      refine gg_bipush K (v := 60) dX0_startOfRow_19 (by decide) ?_
      refine gg_icmp_ge K (tgt := 68) dX0_startOfRow_21 (by decide) (fun h21 => ?_) (fun h21 => ?_)
      · have hd3 := i_le (a := 60) h21
        have hd4 : d = 60 := by omega
        subst hd4
        refine gg_iinc K (v := nI (r + 1)) dX0_startOfRow_68 rfl (nI_inc (r)) (by decide) ?_
        refine gg_goto K (tgt := 5) dX0_startOfRow_71 (by decide) ?_
        refine gg_sub (L' := [(4, .int (nI (r + 1))), (3, .int (nI ((fb_ct (rwF (vX k kp T) li) (60 * (r + 1)))))), (0, .ref X.1), (1, .int (nI li)), (2, .int w9)]) ⟨rfl, rfl, rfl, rfl, rfl, trivial⟩ ?_
        exact ih _ _ ⟨r + 1, by omega, rfl, by omega, rfl, hno2⟩
      have hd3 := i_nle (a := 60) h21
      refine gg_aload_n K (i := 0) dX0_startOfRow_24 rfl rfl ?_
      refine gg_iload K dX0_startOfRow_25 rfl ?_
      refine gg_callRX K k_X0_X0_isKept (x_isKept r ok hj2 rfl) dX0_startOfRow_27 rfl rfl rfl rfl ⟨rfl, rfl⟩ ?_
      refine gg_b_eq K (tgt := 68) dX0_startOfRow_30 (by decide) (fun h30 => ?_) (fun h30 => ?_)
      · have hoff := fun d => vX_off (k := k) ok hj2 (of_decide_eq_false h30) li d
        have hfl : ∀ e9, 60 * r + d ≤ e9 → e9 < 60 * r + d + (60 - d) → (rwF (vX k kp T) li) e9 = false := fun e9 g1 g2 => by
          have e := rwF_at (vX k kp T) li r (e9 - 60 * r) (by omega)
          rw [show 60 * r + (e9 - 60 * r) = e9 by omega] at e
          rw [e]
          exact hoff _
        have hc := fb_ct_flat hfl
        rw [show 60 * r + d + (60 - d) = 60 * (r + 1) by omega] at hc
        refine gg_iinc K (v := nI (r + 1)) dX0_startOfRow_68 rfl (nI_inc (r)) (by decide) ?_
        refine gg_goto K (tgt := 5) dX0_startOfRow_71 (by decide) ?_
        refine gg_sub (L' := [(4, .int (nI (r + 1))), (3, .int (nI ((fb_ct (rwF (vX k kp T) li) (60 * r + d))))), (0, .ref X.1), (1, .int (nI li)), (2, .int w9)]) ⟨rfl, rfl, rfl, rfl, rfl, trivial⟩ ?_
        refine ih _ _ ⟨r + 1, by omega, rfl, by omega, by rw [hc], fun e9 g1 g2 => ?_⟩
        by_cases hlt : e9 < 60 * r + d
        · exact hno2 e9 hlt g2
        · rw [hfl e9 (by omega) (by omega)] at g2
          cases g2
      have hat := rwF_at (vX k kp T) li r d hd3
      refine gg_aload_n K (i := 0) dX0_startOfRow_33 rfl rfl ?_
      refine gg_iload K dX0_startOfRow_34 rfl ?_
      refine gg_iload_n K (i := 1) dX0_startOfRow_36 rfl rfl ?_
      refine gg_iload K dX0_startOfRow_37 rfl ?_
      refine gg_callRX K k_X0_X0_startsRow (x_startsRow r li d ok hj2 hli hd3 rfl rfl rfl) dX0_startOfRow_39 rfl rfl rfl rfl ⟨rfl, rfl⟩ ?_
      refine gg_b_eq K (tgt := 62) dX0_startOfRow_42 (by decide) (fun h42 => ?_) (fun h42 => ?_)
      · rw [← hat] at h42
        refine gg_iinc K (v := nI (d + 1)) dX0_startOfRow_62 rfl (nI_inc (d)) (by decide) ?_
        refine gg_goto K (tgt := 17) dX0_startOfRow_65 (by decide) ?_
        refine gg_sub (L' := [(5, .int (nI (d + 1))), (4, .int (nI r)), (3, .int (nI ((fb_ct (rwF (vX k kp T) li) (60 * r + d))))), (0, .ref X.1), (1, .int (nI li)), (2, .int w9)]) ⟨rfl, rfl, rfl, rfl, rfl, rfl, trivial⟩ ?_
        refine ih2 _ _ ⟨d + 1, by omega, rfl, by omega, by rw [show 60 * r + (d + 1) = (60 * r + d) + 1 from rfl, fb_ct_succ, h42]; rfl, fun e9 g1 g2 => ?_⟩
        by_cases hlt : e9 < 60 * r + d
        · exact hno2 e9 hlt g2
        · rw [show e9 = 60 * r + d by omega, h42] at g2
          cases g2
      rw [← hat] at h42
      refine gg_iload_n K (i := 3) dX0_startOfRow_45 rfl rfl ?_
      refine gg_iload_n K (i := 2) dX0_startOfRow_46 rfl rfl ?_
      refine gg_icmp_ne K (tgt := 59) dX0_startOfRow_47 (by decide) (fun h47 => ?_) (fun h47 => ?_)
      · refine gg_iinc K (v := nI (fb_ct (rwF (vX k kp T) li) (60 * r + d) + 1)) dX0_startOfRow_59 rfl (nI_inc (fb_ct (rwF (vX k kp T) li) (60 * r + d))) (by decide) ?_
        refine gg_iinc K (v := nI (d + 1)) dX0_startOfRow_62 rfl (nI_inc (d)) (by decide) ?_
        refine gg_goto K (tgt := 17) dX0_startOfRow_65 (by decide) ?_
        refine gg_sub (L' := [(5, .int (nI (d + 1))), (4, .int (nI r)), (3, .int (nI ((fb_ct (rwF (vX k kp T) li) (60 * r + d) + 1)))), (0, .ref X.1), (1, .int (nI li)), (2, .int w9)]) ⟨rfl, rfl, rfl, rfl, rfl, rfl, trivial⟩ ?_
        refine ih2 _ _ ⟨d + 1, by omega, rfl, by omega, by rw [show 60 * r + (d + 1) = (60 * r + d) + 1 from rfl, fb_ct_succ, h42]; rfl, fun e9 g1 g2 => ?_⟩
        by_cases hlt : e9 < 60 * r + d
        · exact hno2 e9 hlt g2
        · rw [show e9 = 60 * r + d by omega]
          exact h47
      · refine gg_iload K dX0_startOfRow_50 rfl ?_
        refine gg_bipush K (v := 60) dX0_startOfRow_52 (by decide) ?_
        refine gg_imul K dX0_startOfRow_54 ?_
        refine gg_iload K dX0_startOfRow_55 rfl ?_
        refine gg_iadd K dX0_startOfRow_57 ?_
        have hle := fb_ct_le (rwF (vX k kp T) li) (60 * r + d)
        have hfb := fb_ct_le (rwF (vX k kp T) li) (60 * (T + 1))
        rw [w2] at h47
        exact gg_iret K hr dX0_startOfRow_58 (Nat.le_of_ble_eq_true rfl) (Nat.le_of_ble_eq_true rfl) ⟨some_int (by
          rw [kthD_eq h42 (i_eq h47) (show 60 * r + d < 60 * (T + 1) by omega)]
          simp only [nI_lit, nI_mul, nI_add]; exact congrArg nI (by omega)), rfl⟩
/-- a row's place -/
theorem kthD_at {q : Nat → Bool} {w N : Nat} (h : w < fb_ct q N) : kthD q w N < N ∧ q (kthD q w N) = true ∧ fb_ct q (kthD q w N) = w := by
  obtain ⟨e9, g1, g2, g3⟩ := fb_ct_kth h
  rw [kthD_eq g2 g3 g1]
  exact ⟨g1, g2, g3⟩
set_option maxRecDepth 100000 in
theorem n_rowRun {l : Launch} {Z : ZT} {X : XT} {k kp dr : Nat → Int32} {T : Nat} (ok : okX kp T) (t' y' : Nat) {t y : Int32} (a1 : t' < 2) (b1 : y' < 8) (a2 : t = nI t') (b2 : y = nI y') (w' : Nat) {w9 : Int32} (w1 : w' < fb_ct (rwF (vX k kp T) (t' * 8 + y')) (60 * (T + 1))) (w2 : w9 = nI w') : mR l Z yX0_rowRun cX0_rowRun 6 (some .int) (rmk 9 200 0 0) (wX Z X k kp dr (nI T)) [.ref X.1, .int t, .int y, .int w9] (.int (runN (vX k kp T ((kthD (rwF (vX k kp T) (t' * 8 + y')) w' (60 * (T + 1))) / 60) (t' * 8 + y')) ((kthD (rwF (vX k kp T) (t' * 8 + y')) w' (60 * (T + 1))) % 60))) := by
  have hT9 := ok.1
  refine mA_intro (own := RX0) [(0, .ref X.1), (1, .int t), (2, .int y), (3, .int w9)] (by decide +kernel) rfl rfl rfl rfl ?_
  intro p e s m args below meth c A K hr hin
  refine gg_iload_n K (i := 1) dX0_rowRun_0 rfl rfl ?_
  refine gg_iload_n K (i := 2) dX0_rowRun_1 rfl rfl ?_
  refine gg_callS0 K k_X0_X0_needTableAndKey (n_needTK t' y' a1 b1 a2 b2) dX0_rowRun_2 rfl rfl rfl rfl ⟨rfl, rfl⟩ ?_
  refine gg_iload_n K (i := 1) dX0_rowRun_5 rfl rfl ?_
  refine gg_iload_n K (i := 2) dX0_rowRun_6 rfl rfl ?_
  refine gg_callSR K k_X0_X0_line (x_line t' y' a2 b2) dX0_rowRun_7 rfl rfl rfl rfl ⟨rfl, rfl⟩ ?_
  obtain ⟨g1, g2, g3⟩ := kthD_at w1
  refine gg_istore K dX0_rowRun_10 (by decide) ?_
  refine gg_aload_n K (i := 0) dX0_rowRun_12 rfl rfl ?_
  refine gg_iload K dX0_rowRun_13 rfl ?_
  refine gg_iload_n K (i := 3) dX0_rowRun_15 rfl rfl ?_
  refine gg_callRX K k_X0_X0_startOfRow (n_startOfRow ok (t' * 8 + y') (by omega) w' rfl w1 w2) dX0_rowRun_16 rfl rfl rfl rfl ⟨rfl, rfl⟩ ?_
  refine gg_istore K dX0_rowRun_19 (by decide) ?_
  refine gg_aload_n K (i := 0) dX0_rowRun_21 rfl rfl ?_
  refine gg_iload K dX0_rowRun_22 rfl ?_
  refine gg_callSR K k_X0_X0_recordOfStart x_recordOfStart dX0_rowRun_24 rfl rfl rfl rfl ⟨rfl, rfl⟩ ?_
  refine gg_iload K dX0_rowRun_27 rfl ?_
  refine gg_iload K dX0_rowRun_29 rfl ?_
  refine gg_callSR K k_X0_X0_validOfStart x_validOfStart dX0_rowRun_31 rfl rfl rfl rfl ⟨rfl, rfl⟩ ?_
  refine gg_callRX K k_X0_X0_runNumber (x_runNumber ((kthD (rwF (vX k kp T) (t' * 8 + y')) w' (60 * (T + 1))) / 60) (t' * 8 + y') ((kthD (rwF (vX k kp T) (t' * 8 + y')) w' (60 * (T + 1))) % 60) ok (by omega) (by omega) (by omega) (pk_div (d := 60) (by omega) (by omega) (by omega)) rfl (pk_rem (d := 60) (by omega) (by omega) (by omega))) dX0_rowRun_34 rfl rfl rfl rfl ⟨rfl, rfl⟩ ?_
  exact gg_iret K hr dX0_rowRun_37 (Nat.le_of_ble_eq_true rfl) (Nat.le_of_ble_eq_true rfl) ⟨rfl, rfl⟩
set_option maxRecDepth 100000 in
theorem n_rowFrom {l : Launch} {Z : ZT} {X : XT} {k kp dr : Nat → Int32} {T : Nat} (ok : okX kp T) (t' y' : Nat) {t y : Int32} (a1 : t' < 2) (b1 : y' < 8) (a2 : t = nI t') (b2 : y = nI y') (w' : Nat) {w9 : Int32} (w1 : w' < fb_ct (rwF (vX k kp T) (t' * 8 + y')) (60 * (T + 1))) (w2 : w9 = nI w') : mR l Z yX0_rowFrom cX0_rowFrom 4 (some .int) (rmk 9 200 0 0) (wX Z X k kp dr (nI T)) [.ref X.1, .int t, .int y, .int w9] (.int (nI ((kthD (rwF (vX k kp T) (t' * 8 + y')) w' (60 * (T + 1))) / 60))) := by
  have hT9 := ok.1
  refine mA_intro (own := RX0) [(0, .ref X.1), (1, .int t), (2, .int y), (3, .int w9)] (by decide +kernel) rfl rfl rfl rfl ?_
  intro p e s m args below meth c A K hr hin
  refine gg_iload_n K (i := 1) dX0_rowFrom_0 rfl rfl ?_
  refine gg_iload_n K (i := 2) dX0_rowFrom_1 rfl rfl ?_
  refine gg_callS0 K k_X0_X0_needTableAndKey (n_needTK t' y' a1 b1 a2 b2) dX0_rowFrom_2 rfl rfl rfl rfl ⟨rfl, rfl⟩ ?_
  refine gg_aload_n K (i := 0) dX0_rowFrom_5 rfl rfl ?_
  refine gg_iload_n K (i := 1) dX0_rowFrom_6 rfl rfl ?_
  refine gg_iload_n K (i := 2) dX0_rowFrom_7 rfl rfl ?_
  refine gg_callSR K k_X0_X0_line (x_line t' y' a2 b2) dX0_rowFrom_8 rfl rfl rfl rfl ⟨rfl, rfl⟩ ?_
  obtain ⟨g1, g2, g3⟩ := kthD_at w1
  refine gg_iload_n K (i := 3) dX0_rowFrom_11 rfl rfl ?_
  refine gg_callRX K k_X0_X0_startOfRow (n_startOfRow ok (t' * 8 + y') (by omega) w' rfl w1 w2) dX0_rowFrom_12 rfl rfl rfl rfl ⟨rfl, rfl⟩ ?_
  refine gg_callSR K k_X0_X0_recordOfStart x_recordOfStart dX0_rowFrom_15 rfl rfl rfl rfl ⟨rfl, rfl⟩ ?_
  exact gg_iret K hr dX0_rowFrom_18 (Nat.le_of_ble_eq_true rfl) (Nat.le_of_ble_eq_true rfl) ⟨some_int (pk_div (d := 60) (by omega) (by omega) (by omega)), rfl⟩
set_option maxRecDepth 100000 in
theorem n_rowTo {l : Launch} {Z : ZT} {X : XT} {k kp dr : Nat → Int32} {T : Nat} (ok : okX kp T) (t' y' : Nat) {t y : Int32} (a1 : t' < 2) (b1 : y' < 8) (a2 : t = nI t') (b2 : y = nI y') (w' : Nat) {w9 : Int32} (w1 : w' < fb_ct (rwF (vX k kp T) (t' * 8 + y')) (60 * (T + 1))) (w2 : w9 = nI w') : mR l Z yX0_rowTo cX0_rowTo 9 (some .int) (rmk 9 200 0 0) (wX Z X k kp dr (nI T)) [.ref X.1, .int t, .int y, .int w9] (.int (reF (fun a => smF (vX k kp T (((kthD (rwF (vX k kp T) (t' * 8 + y')) w' (60 * (T + 1)))) / 60) (t' * 8 + y')) (vX k kp T a (t' * 8 + y')) (((kthD (rwF (vX k kp T) (t' * 8 + y')) w' (60 * (T + 1)))) % 60)) (T - (kthD (rwF (vX k kp T) (t' * 8 + y')) w' (60 * (T + 1))) / 60) ((kthD (rwF (vX k kp T) (t' * 8 + y')) w' (60 * (T + 1))) / 60 + 1))) := by
  have hT9 := ok.1
  refine mA_intro (own := RX0) [(0, .ref X.1), (1, .int t), (2, .int y), (3, .int w9)] (by decide +kernel) rfl rfl rfl rfl ?_
  intro p e s m args below meth c A K hr hin
  refine gg_iload_n K (i := 1) dX0_rowTo_0 rfl rfl ?_
  refine gg_iload_n K (i := 2) dX0_rowTo_1 rfl rfl ?_
  refine gg_callS0 K k_X0_X0_needTableAndKey (n_needTK t' y' a1 b1 a2 b2) dX0_rowTo_2 rfl rfl rfl rfl ⟨rfl, rfl⟩ ?_
  refine gg_iload_n K (i := 1) dX0_rowTo_5 rfl rfl ?_
  refine gg_iload_n K (i := 2) dX0_rowTo_6 rfl rfl ?_
  refine gg_callSR K k_X0_X0_line (x_line t' y' a2 b2) dX0_rowTo_7 rfl rfl rfl rfl ⟨rfl, rfl⟩ ?_
  obtain ⟨g1, g2, g3⟩ := kthD_at w1
  refine gg_istore K dX0_rowTo_10 (by decide) ?_
  refine gg_aload_n K (i := 0) dX0_rowTo_12 rfl rfl ?_
  refine gg_iload K dX0_rowTo_13 rfl ?_
  refine gg_iload_n K (i := 3) dX0_rowTo_15 rfl rfl ?_
  refine gg_callRX K k_X0_X0_startOfRow (n_startOfRow ok (t' * 8 + y') (by omega) w' rfl w1 w2) dX0_rowTo_16 rfl rfl rfl rfl ⟨rfl, rfl⟩ ?_
  refine gg_istore K dX0_rowTo_19 (by decide) ?_
  refine gg_iload K dX0_rowTo_21 rfl ?_
  refine gg_callSR K k_X0_X0_recordOfStart x_recordOfStart dX0_rowTo_23 rfl rfl rfl rfl ⟨rfl, rfl⟩ ?_
  refine gg_top (pk_div (d := 60) (by omega) (by omega) (by omega)) ?_
  refine gg_istore K dX0_rowTo_26 (by decide) ?_
  refine gg_iload K dX0_rowTo_28 rfl ?_
  refine gg_callSR K k_X0_X0_validOfStart x_validOfStart dX0_rowTo_30 rfl rfl rfl rfl ⟨rfl, rfl⟩ ?_
  refine gg_top (pk_rem (d := 60) (by omega) (by omega) (by omega)) ?_
  refine gg_istore K dX0_rowTo_33 (by decide) ?_
  refine gg_iload K dX0_rowTo_35 rfl ?_
  refine gg_iconst K (v := 1) dX0_rowTo_37 (by decide) ?_
  refine gg_iadd K dX0_rowTo_38 ?_
  refine gg_top (nI_1 _) ?_
  refine gg_istore K dX0_rowTo_39 (by decide) ?_
  obtain ⟨G, hG⟩ : ∃ G, G = reF (fun a => smF (vX k kp T (((kthD (rwF (vX k kp T) (t' * 8 + y')) w' (60 * (T + 1)))) / 60) (t' * 8 + y')) (vX k kp T a (t' * 8 + y')) (((kthD (rwF (vX k kp T) (t' * 8 + y')) w' (60 * (T + 1)))) % 60)) (T - (kthD (rwF (vX k kp T) (t' * 8 + y')) w' (60 * (T + 1))) / 60) ((kthD (rwF (vX k kp T) (t' * 8 + y')) w' (60 * (T + 1))) / 60 + 1) := ⟨_, rfl⟩
  rw [← hG]
  refine gg_sub (L' := [(8, .int (nI ((kthD (rwF (vX k kp T) (t' * 8 + y')) w' (60 * (T + 1))) / 60 + 1))), (7, .int (nI ((kthD (rwF (vX k kp T) (t' * 8 + y')) w' (60 * (T + 1))) % 60))), (6, .int (nI ((kthD (rwF (vX k kp T) (t' * 8 + y')) w' (60 * (T + 1))) / 60))), (4, .int (nI (t' * 8 + y'))), (0, .ref X.1)]) ⟨rfl, rfl, rfl, rfl, rfl, trivial⟩ ?_
  refine gg_loop (fun i w L => ∃ (a : Nat), a + i = T + 2 ∧ w = wX Z X k kp dr (nI T) ∧ a ≤ T + 1 ∧ L = [(8, .int (nI a)), (7, .int (nI ((kthD (rwF (vX k kp T) (t' * 8 + y')) w' (60 * (T + 1))) % 60))), (6, .int (nI ((kthD (rwF (vX k kp T) (t' * 8 + y')) w' (60 * (T + 1))) / 60))), (4, .int (nI (t' * 8 + y'))), (0, .ref X.1)] ∧ G = reF (fun a => smF (vX k kp T (((kthD (rwF (vX k kp T) (t' * 8 + y')) w' (60 * (T + 1)))) / 60) (t' * 8 + y')) (vX k kp T a (t' * 8 + y')) (((kthD (rwF (vX k kp T) (t' * 8 + y')) w' (60 * (T + 1)))) % 60)) (T + 1 - a) a) (fun w L h => ?_) (fun i w L h ih => ?_) (T + 1 - (kthD (rwF (vX k kp T) (t' * 8 + y')) w' (60 * (T + 1))) / 60) _ _ ⟨(kthD (rwF (vX k kp T) (t' * 8 + y')) w' (60 * (T + 1))) / 60 + 1, by omega, rfl, by omega, rfl, by rw [hG, show T + 1 - ((kthD (rwF (vX k kp T) (t' * 8 + y')) w' (60 * (T + 1))) / 60 + 1) = T - (kthD (rwF (vX k kp T) (t' * 8 + y')) w' (60 * (T + 1))) / 60 by omega]⟩
  · obtain ⟨a, hj, -, h2, -⟩ := h
    omega
  · obtain ⟨a, hj, rfl, hj1, rfl, he⟩ := h
    refine gg_iload K dX0_rowTo_41 rfl ?_
    refine gg_aload_n K (i := 0) dX0_rowTo_43 rfl rfl ?_
    refine gX_today K dX0_rowTo_44 ?_
    refine gg_icmp_gt K (tgt := 74) dX0_rowTo_47 (by decide) (fun h47 => ?_) (fun h47 => ?_)
    · have hj2 := i_lt h47
      refine gg_iconst K (v := (-1)) dX0_rowTo_74 (by decide) ?_
      exact gg_iret K hr dX0_rowTo_75 (Nat.le_of_ble_eq_true rfl) (Nat.le_of_ble_eq_true rfl) ⟨some_int (by rw [he, show T + 1 - a = 0 by omega]; rfl), rfl⟩
    have hj2 := i_nlt h47
    rw [show T + 1 - a = (T - a) + 1 by omega] at he
    unfold reF at he
    refine gg_aload_n K (i := 0) dX0_rowTo_50 rfl rfl ?_
    refine gg_iload K dX0_rowTo_51 rfl ?_
    refine gg_iload K dX0_rowTo_53 rfl ?_
    refine gg_iload K dX0_rowTo_55 rfl ?_
    refine gg_iload K dX0_rowTo_57 rfl ?_
    refine gg_callRX K k_X0_X0_sameRun (x_sameRun ((kthD (rwF (vX k kp T) (t' * 8 + y')) w' (60 * (T + 1))) / 60) a (t' * 8 + y') ((kthD (rwF (vX k kp T) (t' * 8 + y')) w' (60 * (T + 1))) % 60) ok (by omega) hj2 (by omega) (by omega) rfl rfl rfl rfl) dX0_rowTo_59 rfl rfl rfl rfl ⟨rfl, rfl⟩ ?_
    refine gg_b_ne K (tgt := 68) dX0_rowTo_62 (by decide) (fun h62 => ?_) (fun h62 => ?_)
    · rw [if_pos h62] at he
      refine gg_iinc K (v := nI (a + 1)) dX0_rowTo_68 rfl (nI_inc (a)) (by decide) ?_
      refine gg_goto K (tgt := 41) dX0_rowTo_71 (by decide) ?_
      refine gg_sub (L' := [(8, .int (nI (a + 1))), (7, .int (nI ((kthD (rwF (vX k kp T) (t' * 8 + y')) w' (60 * (T + 1))) % 60))), (6, .int (nI ((kthD (rwF (vX k kp T) (t' * 8 + y')) w' (60 * (T + 1))) / 60))), (4, .int (nI (t' * 8 + y'))), (0, .ref X.1)]) ⟨rfl, rfl, rfl, rfl, rfl, trivial⟩ ?_
      exact ih _ _ ⟨a + 1, by omega, rfl, by omega, rfl, by rw [he, show T - a = T + 1 - (a + 1) by omega]⟩
    · rw [if_neg (by rw [h62]; decide)] at he
      refine gg_iload K dX0_rowTo_65 rfl ?_
      exact gg_iret K hr dX0_rowTo_67 (Nat.le_of_ble_eq_true rfl) (Nat.le_of_ble_eq_true rfl) ⟨some_int he.symm, rfl⟩
end
section
/-! the changes as relations on the table of values: the answers are one, what stays true -/
def refOk (V : VT) (T : Nat) : Prop := ∀ i d, i < 8 → d < 60 → V T (8 + i) d = -1 ∨ ∃ j, V T (8 + i) d = nI j ∧ j < 8 ∧ ¬ V T j d = -1
noncomputable def S_put (V : VT) (T : Nat) (t y v f q : Int32) : ST := sSet V T (inR t 2 ∧ inR y 8 ∧ inR v (if t = 0 then 100 else 8) ∧ spanR f q) True (keepP V T (spG V T (nN t * 8 + nN y) v f q) (nN t) (nN y)) 2 (nN t * 8 + nN y) (spG V T (nN t * 8 + nN y) v f q)
noncomputable def S_erase (V : VT) (T : Nat) (t y f q : Int32) : ST := sSet V T (inR t 2 ∧ inR y 8 ∧ spanR f q) True (keepP V T (spG V T (nN t * 8 + nN y) (-1) f q) (nN t) (nN y)) 2 (nN t * 8 + nN y) (spG V T (nN t * 8 + nN y) (-1) f q)
noncomputable def S_eraseAll (V : VT) (T : Nat) (y f q : Int32) : ST := sEra V T (inR y 8 ∧ spanR f q) (nN y) (nN f) (nN q)
noncomputable def S_restore (V : VT) (T : Nat) (t y q : Int32) : ST := sSet V T (inR t 2 ∧ inR y 8 ∧ inR q 60) (q ≤ nI T) (keepP V T (V (nN q) (nN t * 8 + nN y)) (nN t) (nN y)) 3 (nN t * 8 + nN y) (V (nN q) (nN t * 8 + nN y))
noncomputable def S_pass (V : VT) (T : Nat) (n9 : Int32) : ST := sPs V T (¬ n9 < 1 ∧ ¬ 60 ≤ n9) (T + nN n9 < 60) (nN n9)
def sameA (c r : Int32) (V1 : VT) (T1 : Nat) (c2 r2 : Int32) (V2 : VT) (T2 : Nat) : Prop := c = c2 ∧ V1 = V2 ∧ T1 = T2 ∧ (c = 0 → r = r2)
theorem uq_sSet {V V1 V2 : VT} {T T1 T2 : Nat} {P1 P2 P3 : Prop} {c3 c c2 r r2 : Int32} {li : Nat} {gf : Nat → Int32} (h0 : ¬ c3 = 0) (h : sSet V T P1 P2 P3 c3 li gf c r V1 T1) (g : sSet V T P1 P2 P3 c3 li gf c2 r2 V2 T2) : sameA c r V1 T1 c2 r2 V2 T2 := by
  obtain ⟨rfl, h⟩ := h
  obtain ⟨rfl, g⟩ := g
  rcases h with ⟨h1, h2, h3⟩ | ⟨h1, h2, h3, h4⟩ | ⟨h1, h2, h3, h4, h5⟩ | ⟨h1, h2, h3, h4, h5, h6⟩ <;> rcases g with ⟨g1, g2, g3⟩ | ⟨g1, g2, g3, g4⟩ | ⟨g1, g2, g3, g4, g5⟩ | ⟨g1, g2, g3, g4, g5, g6⟩
  · exact ⟨h2.trans g2.symm, h3.trans g3.symm, rfl, fun z => absurd (h2.symm.trans z) (by decide)⟩
  · exact absurd g1 h1
  · exact absurd g1 h1
  · exact absurd g1 h1
  · exact absurd h1 g1
  · exact ⟨h3.trans g3.symm, h4.trans g4.symm, rfl, fun z => absurd (h3.symm.trans z) (by decide)⟩
  · exact absurd g2 h2
  · exact absurd g2 h2
  · exact absurd h1 g1
  · exact absurd h2 g2
  · exact ⟨h4.trans g4.symm, h5.trans g5.symm, rfl, fun z => absurd (h4.symm.trans z) h0⟩
  · exact absurd g3 h3
  · exact absurd h1 g1
  · exact absurd h2 g2
  · exact absurd h3 g3
  · exact ⟨h4.trans g4.symm, h6.trans g6.symm, rfl, fun _ => h5.trans g5.symm⟩
theorem uq_sEra {V V1 V2 : VT} {T T1 T2 : Nat} {P1 : Prop} {c c2 r r2 : Int32} {y a b : Nat} (h : sEra V T P1 y a b c r V1 T1) (g : sEra V T P1 y a b c2 r2 V2 T2) : sameA c r V1 T1 c2 r2 V2 T2 := by
  obtain ⟨rfl, h⟩ := h
  obtain ⟨rfl, g⟩ := g
  rcases h with ⟨h1, h2, h3⟩ | ⟨h1, h2, h3, h4⟩ <;> rcases g with ⟨g1, g2, g3⟩ | ⟨g1, g2, g3, g4⟩
  · exact ⟨h2.trans g2.symm, h3.trans g3.symm, rfl, fun z => absurd (h2.symm.trans z) (by decide)⟩
  · exact absurd g1 h1
  · exact absurd h1 g1
  · exact ⟨h2.trans g2.symm, h4.trans g4.symm, rfl, fun _ => h3.trans g3.symm⟩
theorem uq_sPs {V V1 V2 : VT} {T T1 T2 : Nat} {P1 P2 : Prop} {c c2 r r2 : Int32} {n : Nat} (h : sPs V T P1 P2 n c r V1 T1) (g : sPs V T P1 P2 n c2 r2 V2 T2) : sameA c r V1 T1 c2 r2 V2 T2 := by
  rcases h with ⟨h1, h2, h3, h4⟩ | ⟨h1, h2, h3, h4, h5⟩ | ⟨h1, h2, h3, h4, h5, h6⟩ <;> rcases g with ⟨g1, g2, g3, g4⟩ | ⟨g1, g2, g3, g4, g5⟩ | ⟨g1, g2, g3, g4, g5, g6⟩
  · exact ⟨h2.trans g2.symm, h3.trans g3.symm, h4.trans g4.symm, fun z => absurd (h2.symm.trans z) (by decide)⟩
  · exact absurd g1 h1
  · exact absurd g1 h1
  · exact absurd h1 g1
  · exact ⟨h3.trans g3.symm, h4.trans g4.symm, h5.trans g5.symm, fun z => absurd (h3.symm.trans z) (by decide)⟩
  · exact absurd g2 h2
  · exact absurd h1 g1
  · exact absurd h2 g2
  · exact ⟨h3.trans g3.symm, h5.trans g5.symm, h6.trans g6.symm, fun _ => h4.trans g4.symm⟩
def inv (V : VT) (T : Nat) : Prop := valOk V T ∧ refOk V T
theorem inv_new : inv (fun _ _ _ => -1) 0 := ⟨fun _ _ _ _ _ _ => Or.inl rfl, fun _ _ _ _ => Or.inl rfl⟩
def gOk (g : Nat → Int32) (li : Nat) : Prop := ∀ d, d < 60 → g d = -1 ∨ ∃ j, g d = nI j ∧ j < 100 ∧ (8 ≤ li → j < 8)
theorem inv_sSet {V V1 : VT} {T T1 : Nat} {P1 P2 P3 : Prop} {c3 c r : Int32} {li : Nat} {g : Nat → Int32} (hi : inv V T) (hg : P1 → P2 → gOk g li ∧ ∃ t9 y9, t9 < 2 ∧ y9 < 8 ∧ li = t9 * 8 + y9 ∧ (P3 → keepP V T g t9 y9)) (h : sSet V T P1 P2 P3 c3 li g c r V1 T1) : inv V1 T1 := by
  obtain ⟨rfl, ⟨-, -, rfl⟩ | ⟨-, -, -, rfl⟩ | ⟨-, -, -, -, rfl⟩ | ⟨h1, h2, h3, -, -, rfl⟩⟩ := h
  · exact hi
  · exact hi
  · exact hi
  obtain ⟨hv, hr⟩ := hi
  obtain ⟨h4, t9, y9, ht, hy, rfl, hk⟩ := hg h1 h2
  have hk := hk h3
  refine ⟨fun r l d a1 a2 a3 => ?_, fun i d a1 a2 => ?_⟩
  · unfold updR
    by_cases h : r = T1 ∧ l = t9 * 8 + y9 ∧ 0 ≤ d ∧ d < 60
    · rw [if_pos h]
      have := h4 d a3
      rw [← h.2.1] at this
      exact this
    · rw [if_neg h]
      exact hv r l d a1 a2 a3
  · by_cases ht0 : t9 = 0
    · subst ht0
      have e1 : updR V T1 (0 * 8 + y9) g 0 60 T1 (8 + i) d = V T1 (8 + i) d := if_neg (by omega)
      rw [e1]
      rcases hr i d a1 a2 with z | ⟨j, z1, z2, z3⟩
      · exact Or.inl z
      · refine Or.inr ⟨j, z1, z2, ?_⟩
        unfold updR
        by_cases hj : j = y9
        · subst hj
          rw [if_pos ⟨rfl, by omega, by omega, a2⟩]
          exact fun q => (hk d a2).1 rfl q ⟨i, a1, z1⟩
        · rw [if_neg (by omega)]
          exact z3
    · have ht1 : t9 = 1 := by omega
      subst ht1
      have e2 : ∀ j, j < 8 → updR V T1 (1 * 8 + y9) g 0 60 T1 j d = V T1 j d := fun j hj => if_neg (by omega)
      by_cases hi : i = y9
      · subst hi
        have e1 : updR V T1 (1 * 8 + i) g 0 60 T1 (8 + i) d = g d := if_pos ⟨rfl, by omega, by omega, a2⟩
        rw [e1]
        rcases h4 d a2 with z | ⟨j, z1, z2, z3⟩
        · exact Or.inl z
        · have z4 := z3 (by omega)
          refine Or.inr ⟨j, z1, z4, ?_⟩
          rw [e2 j z4]
          have := (hk d a2).2 rfl (by rw [z1]; exact nI_m1 (by omega))
          rw [z1, nI_clamp (by omega)] at this
          exact this
      · have e1 : updR V T1 (1 * 8 + y9) g 0 60 T1 (8 + i) d = V T1 (8 + i) d := if_neg (by omega)
        rw [e1]
        rcases hr i d a1 a2 with z | ⟨j, z1, z2, z3⟩
        · exact Or.inl z
        · exact Or.inr ⟨j, z1, z2, by rw [e2 j z2]; exact z3⟩
theorem inv_sEra {V V1 : VT} {T T1 : Nat} {P1 : Prop} {c r : Int32} {y a b : Nat} (hy : P1 → y < 8) (hi : inv V T) (h : sEra V T P1 y a b c r V1 T1) : inv V1 T1 := by
  obtain ⟨rfl, ⟨-, -, rfl⟩ | ⟨h1, -, -, rfl⟩⟩ := h
  · exact hi
  have hy := hy h1
  obtain ⟨hv, hr⟩ := hi
  refine ⟨fun r l d a1 a2 a3 => ?_, fun i d a1 a2 => ?_⟩
  · unfold eraV
    by_cases h : r = T1 ∧ a ≤ d ∧ d < b ∧ (l = y ∨ (8 ≤ l ∧ V T1 l d = nI y))
    · rw [if_pos h]
      exact Or.inl rfl
    · rw [if_neg h]
      exact hv r l d a1 a2 a3
  · unfold eraV
    by_cases h : T1 = T1 ∧ a ≤ d ∧ d < b ∧ (8 + i = y ∨ (8 ≤ 8 + i ∧ V T1 (8 + i) d = nI y))
    · rw [if_pos h]
      exact Or.inl rfl
    · rw [if_neg h]
      rcases hr i d a1 a2 with z | ⟨j, z1, z2, z3⟩
      · exact Or.inl z
      · refine Or.inr ⟨j, z1, z2, ?_⟩
        rw [if_neg (fun q => ?_)]
        · exact z3
        · rcases q.2.2.2 with q2 | q2
          · subst q2
            exact h ⟨rfl, q.2.1, q.2.2.1, Or.inr ⟨by omega, z1⟩⟩
          · omega
theorem inv_sPs {V V1 : VT} {T T1 : Nat} {P1 P2 : Prop} {c r : Int32} {n : Nat} (hi : inv V T) (h : sPs V T P1 P2 n c r V1 T1) : inv V1 T1 := by
  obtain ⟨-, -, rfl, rfl⟩ | ⟨-, -, -, rfl, rfl⟩ | ⟨-, -, -, -, rfl, rfl⟩ := h
  · exact hi
  · exact hi
  obtain ⟨hv, hr⟩ := hi
  refine ⟨fun r l d a1 a2 a3 => ?_, fun i d a1 a2 => ?_⟩
  · unfold psV
    by_cases h : r ≤ T
    · rw [if_pos h]
      exact hv r l d h a2 a3
    · rw [if_neg h, if_pos a1]
      exact hv T l d (Nat.le_refl T) a2 a3
  · have e : ∀ l, psV V T n (T + n) l d = V T l d := fun l => by
      unfold psV
      by_cases h : T + n ≤ T
      · rw [if_pos h, show T + n = T by omega]
      · rw [if_neg h, if_pos (Nat.le_refl _)]
    rw [e]
    rcases hr i d a1 a2 with z | ⟨j, z1, z2, z3⟩
    · exact Or.inl z
    · exact Or.inr ⟨j, z1, z2, by rw [e]; exact z3⟩
theorem gOk_span {V : VT} {T t9 y9 : Nat} {v f q : Int32} (hv : valOk V T) (ht : t9 < 2) (hy : y9 < 8) (h : v = -1 ∨ ∃ j, v = nI j ∧ j < 100 ∧ (8 ≤ t9 * 8 + y9 → j < 8)) : gOk (spG V T (t9 * 8 + y9) v f q) (t9 * 8 + y9) := by
  intro d hd
  unfold spG
  by_cases hc : nN f ≤ d ∧ d < nN q
  · rw [if_pos hc]
    exact h
  · rw [if_neg hc]
    exact hv T (t9 * 8 + y9) d (Nat.le_refl T) (by omega) hd
theorem uq_put {V V1 V2 : VT} {T T1 T2 : Nat} {t y v f q c c2 r r2 : Int32} (h : S_put V T t y v f q c r V1 T1) (g : S_put V T t y v f q c2 r2 V2 T2) : sameA c r V1 T1 c2 r2 V2 T2 := uq_sSet (by decide) h g
theorem inv_put {V V1 : VT} {T T1 : Nat} {t y v f q c r : Int32} (hi : inv V T) (h : S_put V T t y v f q c r V1 T1) : inv V1 T1 := by
  refine inv_sSet hi (fun h1 _ => ?_) h
  obtain ⟨g1, g2, g3, g4⟩ := h1
  have ⟨a1, a2⟩ := inR_N (b := 2) g1
  have ⟨b1, b2⟩ := inR_N (b := 8) g2
  refine ⟨gOk_span hi.1 a1 b1 (Or.inr ?_), nN t, nN y, a1, b1, rfl, fun z => z⟩
  by_cases ht : t = 0
  · rw [if_pos ht] at g3
    have ⟨c1, c2⟩ := inR_N (b := 100) g3
    refine ⟨nN v, c2, c1, fun z => ?_⟩
    have e : nN t = 0 := by rw [ht]; rfl
    omega
  · rw [if_neg ht] at g3
    have ⟨c1, c2⟩ := inR_N (b := 8) g3
    exact ⟨nN v, c2, by omega, fun _ => c1⟩
theorem uq_erase {V V1 V2 : VT} {T T1 T2 : Nat} {t y f q c c2 r r2 : Int32} (h : S_erase V T t y f q c r V1 T1) (g : S_erase V T t y f q c2 r2 V2 T2) : sameA c r V1 T1 c2 r2 V2 T2 := uq_sSet (by decide) h g
theorem inv_erase {V V1 : VT} {T T1 : Nat} {t y f q c r : Int32} (hi : inv V T) (h : S_erase V T t y f q c r V1 T1) : inv V1 T1 := by
  refine inv_sSet hi (fun h1 _ => ?_) h
  obtain ⟨g1, g2, g3⟩ := h1
  have ⟨a1, a2⟩ := inR_N (b := 2) g1
  have ⟨b1, b2⟩ := inR_N (b := 8) g2
  exact ⟨gOk_span hi.1 a1 b1 (Or.inl rfl), nN t, nN y, a1, b1, rfl, fun z => z⟩
theorem uq_eraseAll {V V1 V2 : VT} {T T1 T2 : Nat} {y f q c c2 r r2 : Int32} (h : S_eraseAll V T y f q c r V1 T1) (g : S_eraseAll V T y f q c2 r2 V2 T2) : sameA c r V1 T1 c2 r2 V2 T2 := uq_sEra h g
theorem inv_eraseAll {V V1 : VT} {T T1 : Nat} {y f q c r : Int32} (hi : inv V T) (h : S_eraseAll V T y f q c r V1 T1) : inv V1 T1 := inv_sEra (fun h1 => (inR_N (b := 8) h1.1).1) hi h
theorem uq_restore {V V1 V2 : VT} {T T1 T2 : Nat} {t y q c c2 r r2 : Int32} (h : S_restore V T t y q c r V1 T1) (g : S_restore V T t y q c2 r2 V2 T2) : sameA c r V1 T1 c2 r2 V2 T2 := uq_sSet (by decide) h g
theorem inv_restore {V V1 : VT} {T T1 : Nat} {t y q c r : Int32} (hT : T < 60) (hi : inv V T) (h : S_restore V T t y q c r V1 T1) : inv V1 T1 := by
  refine inv_sSet hi (fun h1 h2 => ?_) h
  obtain ⟨g1, g2, g3⟩ := h1
  have ⟨a1, a2⟩ := inR_N (b := 2) g1
  have ⟨b1, b2⟩ := inR_N (b := 8) g2
  have ⟨c1, c2⟩ := inR_N (b := 60) g3
  rw [c2] at h2
  have c3 := i_le (b := T) h2
  exact ⟨fun d hd => hi.1 _ _ d c3 (by omega) hd, nN t, nN y, a1, b1, rfl, fun z => z⟩
theorem uq_pass {V V1 V2 : VT} {T T1 T2 : Nat} {n9 c c2 r r2 : Int32} (h : S_pass V T n9 c r V1 T1) (g : S_pass V T n9 c2 r2 V2 T2) : sameA c r V1 T1 c2 r2 V2 T2 := uq_sPs h g
theorem inv_pass {V V1 : VT} {T T1 : Nat} {n9 c r : Int32} (hi : inv V T) (h : S_pass V T n9 c r V1 T1) : inv V1 T1 := inv_sPs hi h
/-- references hold on all days of record -/
def refA (V : VT) (T : Nat) : Prop := ∀ r i d, r ≤ T → i < 8 → d < 60 → V r (8 + i) d = -1 ∨ ∃ j, V r (8 + i) d = nI j ∧ j < 8 ∧ ¬ V r j d = -1
def INV (V : VT) (T : Nat) : Prop := valOk V T ∧ refA V T
theorem INV.inv {V : VT} {T : Nat} (h : INV V T) : inv V T := ⟨h.1, fun i d a1 a2 => h.2 T i d (Nat.le_refl T) a1 a2⟩
theorem INV_new : INV (fun _ _ _ => -1) 0 := ⟨inv_new.1, fun _ _ _ _ _ _ => Or.inl rfl⟩
theorem INV_of {V V1 : VT} {T : Nat} (h : INV V T) (h1 : inv V1 T) (e : ∀ r l d, r < T → V1 r l d = V r l d) : INV V1 T := ⟨h1.1, fun r i d a0 a1 a2 => by
  by_cases hr : r = T
  · subst hr
    exact h1.2 i d a1 a2
  · rcases h.2 r i d a0 a1 a2 with z | ⟨j, z1, z2, z3⟩
    · exact Or.inl (by rw [e r _ d (by omega)]; exact z)
    · exact Or.inr ⟨j, by rw [e r _ d (by omega)]; exact z1, z2, by rw [e r _ d (by omega)]; exact z3⟩⟩
theorem INV_sSet {V V1 : VT} {T T1 : Nat} {P1 P2 P3 : Prop} {c3 c r : Int32} {li : Nat} {g : Nat → Int32} (hi : INV V T) (h1 : inv V1 T1) (h : sSet V T P1 P2 P3 c3 li g c r V1 T1) : INV V1 T1 := by
  obtain ⟨rfl, ⟨-, -, rfl⟩ | ⟨-, -, -, rfl⟩ | ⟨-, -, -, -, rfl⟩ | ⟨-, -, -, -, -, rfl⟩⟩ := h
  · exact hi
  · exact hi
  · exact hi
  · exact INV_of hi h1 (fun r l d hr => if_neg (by omega))
theorem INV_sEra {V V1 : VT} {T T1 : Nat} {P1 : Prop} {c r : Int32} {y a b : Nat} (hi : INV V T) (h1 : inv V1 T1) (h : sEra V T P1 y a b c r V1 T1) : INV V1 T1 := by
  obtain ⟨rfl, ⟨-, -, rfl⟩ | ⟨-, -, -, rfl⟩⟩ := h
  · exact hi
  · exact INV_of hi h1 (fun r l d hr => if_neg (by omega))
theorem INV_sPs {V V1 : VT} {T T1 : Nat} {P1 P2 : Prop} {c r : Int32} {n : Nat} (hi : INV V T) (h1 : inv V1 T1) (h : sPs V T P1 P2 n c r V1 T1) : INV V1 T1 := by
  obtain ⟨-, -, rfl, rfl⟩ | ⟨-, -, -, rfl, rfl⟩ | ⟨-, -, -, -, rfl, rfl⟩ := h
  · exact hi
  · exact hi
  refine ⟨h1.1, fun r i d a0 a1 a2 => ?_⟩
  by_cases hr : r ≤ T
  · rcases hi.2 r i d hr a1 a2 with z | ⟨j, z1, z2, z3⟩
    · exact Or.inl (by unfold psV; rw [if_pos hr]; exact z)
    · exact Or.inr ⟨j, by unfold psV; rw [if_pos hr]; exact z1, z2, by unfold psV; rw [if_pos hr]; exact z3⟩
  · rcases hi.2 T i d (Nat.le_refl T) a1 a2 with z | ⟨j, z1, z2, z3⟩
    · exact Or.inl (by unfold psV; rw [if_neg hr, if_pos a0]; exact z)
    · exact Or.inr ⟨j, by unfold psV; rw [if_neg hr, if_pos a0]; exact z1, z2, by unfold psV; rw [if_neg hr, if_pos a0]; exact z3⟩
/-- what the law's 'does' does -/
def sDo (V : VT) (T : Nat) (h t y x f q r : Int32) (V' : VT) (T' : Nat) : Prop := ∃ c r0 : Int32, (if h = 0 then S_put V T t y x f q c r0 V' T' else if h = 1 then S_erase V T t y f q c r0 V' T' else if h = 2 then S_eraseAll V T y f q c r0 V' T' else if h = 3 then S_restore V T t y f c r0 V' T' else S_pass V T x c r0 V' T') ∧ r = if c = 0 then r0 else -99999
theorem told_of {c r0 c2 r2 : Int32} {V1 V2 : VT} {T1 T2 : Nat} (h : sameA c r0 V1 T1 c2 r2 V2 T2) : (if c = 0 then r0 else -99999) = (if c2 = 0 then r2 else -99999) ∧ V1 = V2 ∧ T1 = T2 := by
  obtain ⟨rfl, h1, h2, h3⟩ := h
  refine ⟨?_, h1, h2⟩
  by_cases hc : c = 0
  · rw [if_pos hc, if_pos hc, h3 hc]
  · rw [if_neg hc, if_neg hc]
theorem sDo_uq {V : VT} {T : Nat} {h t y x f q r r2 : Int32} {V1 V2 : VT} {T1 T2 : Nat} (h1 : sDo V T h t y x f q r V1 T1) (h2 : sDo V T h t y x f q r2 V2 T2) : r = r2 ∧ V1 = V2 ∧ T1 = T2 := by
  obtain ⟨c, r0, g1, rfl⟩ := h1
  obtain ⟨c2, r02, g2, rfl⟩ := h2
  refine told_of ?_
  by_cases e0 : h = 0
  · rw [if_pos e0] at g1 g2
    exact uq_put g1 g2
  rw [if_neg e0] at g1 g2
  by_cases e1 : h = 1
  · rw [if_pos e1] at g1 g2
    exact uq_erase g1 g2
  rw [if_neg e1] at g1 g2
  by_cases e2 : h = 2
  · rw [if_pos e2] at g1 g2
    exact uq_eraseAll g1 g2
  rw [if_neg e2] at g1 g2
  by_cases e3 : h = 3
  · rw [if_pos e3] at g1 g2
    exact uq_restore g1 g2
  rw [if_neg e3] at g1 g2
  exact uq_pass g1 g2
theorem sDo_inv {V : VT} {T : Nat} {h t y x f q r : Int32} {V1 : VT} {T1 : Nat} (hT : T < 60) (hi : INV V T) (h1 : sDo V T h t y x f q r V1 T1) : INV V1 T1 := by
  obtain ⟨c, r0, g1, rfl⟩ := h1
  by_cases e0 : h = 0
  · rw [if_pos e0] at g1
    exact INV_sSet hi (inv_put hi.inv g1) g1
  rw [if_neg e0] at g1
  by_cases e1 : h = 1
  · rw [if_pos e1] at g1
    exact INV_sSet hi (inv_erase hi.inv g1) g1
  rw [if_neg e1] at g1
  by_cases e2 : h = 2
  · rw [if_pos e2] at g1
    exact INV_sEra hi (inv_eraseAll hi.inv g1) g1
  rw [if_neg e2] at g1
  by_cases e3 : h = 3
  · rw [if_pos e3] at g1
    exact INV_sSet hi (inv_restore hT hi.inv g1) g1
  rw [if_neg e3] at g1
  exact INV_sPs hi (inv_pass hi.inv g1) g1
theorem m9_ne {n : Nat} (h : n < 2 ^ 31) : ¬ nI n = -99999 := fun q => by
  have h1 : (nI n).toInt = (-99999 : Int32).toInt := by rw [q]
  rw [nI_toInt h, show (-99999 : Int32).toInt = -99999 from by decide] at h1
  omega
/-- what throws changes nothing -/
theorem off_sSet {V V1 : VT} {T T1 : Nat} {P1 P2 P3 : Prop} {c3 c r : Int32} {li : Nat} {g : Nat → Int32} (h : sSet V T P1 P2 P3 c3 li g c r V1 T1) (hr : (if c = 0 then r else -99999) = (-99999 : Int32)) : V1 = V ∧ T1 = T := by
  obtain ⟨rfl, ⟨-, -, rfl⟩ | ⟨-, -, -, rfl⟩ | ⟨-, -, -, -, rfl⟩ | ⟨-, -, -, rfl, rfl, rfl⟩⟩ := h
  · exact ⟨rfl, rfl⟩
  · exact ⟨rfl, rfl⟩
  · exact ⟨rfl, rfl⟩
  · have := fb_ct_le (fun d => bP (¬ V T1 li d = g d)) 60
    rw [if_pos rfl] at hr
    exact absurd hr (m9_ne (by omega))
theorem loN_le (V : VT) (T y d : Nat) : loN V T y d ≤ 9 := by
  unfold loN
  have := fb_ct_le (fun i => bP (V T (8 + i) d = nI y)) 8
  split <;> omega
theorem off_sEra {V V1 : VT} {T T1 : Nat} {P1 : Prop} {c r : Int32} {y a b : Nat} (hb : P1 → b ≤ 60) (h : sEra V T P1 y a b c r V1 T1) (hr : (if c = 0 then r else -99999) = (-99999 : Int32)) : V1 = V ∧ T1 = T := by
  obtain ⟨rfl, ⟨-, -, rfl⟩ | ⟨hp, rfl, rfl, rfl⟩⟩ := h
  · exact ⟨rfl, rfl⟩
  · have h1 := fb_sm_bound (f := fun i => loN V T1 y (a + i)) (c := 9) (n := b - a) (fun k _ => loN_le V T1 y (a + k))
    have h2 := hb hp
    rw [if_pos rfl] at hr
    exact absurd hr (m9_ne (by omega))
theorem off_sPs {V V1 : VT} {T T1 : Nat} {P1 P2 : Prop} {c r : Int32} {n : Nat} (hn : P1 → P2 → T + n < 60) (h : sPs V T P1 P2 n c r V1 T1) (hr : (if c = 0 then r else -99999) = (-99999 : Int32)) : V1 = V ∧ T1 = T := by
  obtain ⟨-, -, rfl, rfl⟩ | ⟨-, -, -, rfl, rfl⟩ | ⟨h1, h2, rfl, rfl, rfl, rfl⟩ := h
  · exact ⟨rfl, rfl⟩
  · exact ⟨rfl, rfl⟩
  · have := hn h1 h2
    rw [if_pos rfl] at hr
    exact absurd hr (m9_ne (by omega))
theorem sDo_off {V : VT} {T : Nat} {h t y x f q r : Int32} {V1 : VT} {T1 : Nat} (h1 : sDo V T h t y x f q r V1 T1) (hr : r = -99999) : V1 = V ∧ T1 = T := by
  obtain ⟨c, r0, g1, e⟩ := h1
  rw [e] at hr
  by_cases e0 : h = 0
  · rw [if_pos e0] at g1
    exact off_sSet g1 hr
  rw [if_neg e0] at g1
  by_cases e1 : h = 1
  · rw [if_pos e1] at g1
    exact off_sSet g1 hr
  rw [if_neg e1] at g1
  by_cases e2 : h = 2
  · rw [if_pos e2] at g1
    exact off_sEra (fun z => (spanR_N z.2).2.2.2.1) g1 hr
  rw [if_neg e2] at g1
  by_cases e3 : h = 3
  · rw [if_pos e3] at g1
    exact off_sSet g1 hr
  rw [if_neg e3] at g1
  exact off_sPs (fun _ z => z) g1 hr
/-- a key restored to a day of record -/
theorem restore_so {V : VT} {T t y q : Nat} (ht : t < 2) (hy : y < 8) (hT : T < 60) (hq : q ≤ T) (hi : INV V T) {x z r : Int32} {V1 : VT} {T1 : Nat} (h1 : sDo V T 3 (nI t) (nI y) x (nI q) z r V1 T1) :
    T1 = T ∧ ((r = -99999 ∧ V1 = V ∧ q < T) ∨ ∃ n, n ≤ 60 ∧ r = nI n ∧ (∀ d, d < 60 → V1 T (t * 8 + y) d = V1 q (t * 8 + y) d) ∧ (n = 0 → V1 = V) ∧ (q = T → n = 0)) := by
  obtain ⟨c, r0, g1, rfl⟩ := h1
  rw [if_neg (by decide), if_neg (by decide), if_neg (by decide), if_pos rfl] at g1
  unfold S_restore at g1
  rw [show nN (nI t) = t from nI_clamp (by omega), show nN (nI y) = y from nI_clamp (by omega), show nN (nI q) = q from nI_clamp (by omega)] at g1
  obtain ⟨rfl, ⟨hp, -⟩ | ⟨-, hp, -⟩ | ⟨-, -, hp, rfl, rfl⟩ | ⟨-, -, hp, rfl, rfl, rfl⟩⟩ := g1
  · exact absurd ⟨inR_of (b := 2) ht, inR_of (b := 8) hy, inR_of (b := 60) (by omega)⟩ hp
  · exact absurd (nI_le hq (by omega)) hp
  · refine ⟨rfl, Or.inl ⟨if_neg (by decide), rfl, ?_⟩⟩
    by_cases hqT : q = T1
    · subst hqT
      refine absurd (fun d hd => ⟨fun e1 e2 ⟨i, i1, i2⟩ => ?_, fun e1 e2 => ?_⟩) hp
      · rcases hi.2 q i d (Nat.le_refl _) i1 hd with w | ⟨j, w1, w2, w3⟩
        · rw [i2] at w
          exact nI_m1 (by omega) w
        · rw [i2] at w1
          have w4 := i_eq w1
          subst w4
          subst e1
          rw [show 0 * 8 + y = y by omega] at e2
          exact w3 e2
      · subst e1
        rw [show 1 * 8 + y = 8 + y by omega] at e2 ⊢
        rcases hi.2 q y d (Nat.le_refl _) hy hd with w | ⟨j, w1, w2, w3⟩
        · exact absurd w e2
        · rw [w1, nI_clamp (by omega)]
          exact w3
    · omega
  · refine ⟨rfl, Or.inr ⟨_, fb_ct_le _ 60, if_pos rfl, fun d hd => ?_, fun hn => ?_, fun hqT => ?_⟩⟩
    · unfold updR
      rw [if_pos ⟨rfl, rfl, by omega, hd⟩]
      by_cases hqT : q = T1
      · rw [if_pos ⟨hqT, rfl, by omega, hd⟩]
      · rw [if_neg (fun z => hqT z.1)]
    · funext a l d
      unfold updR
      by_cases hc : a = T1 ∧ l = t * 8 + y ∧ 0 ≤ d ∧ d < 60
      · rw [if_pos hc]
        have w := bP_nf (fb_ct_zero.mp hn d hc.2.2.2)
        obtain ⟨rfl, rfl, -⟩ := hc
        exact (Classical.not_not.mp w).symm
      · rw [if_neg hc]
    · refine fb_ct_zero.mpr (fun d hd => bP_f (fun z => z ?_))
      rw [hqT]
end
section
/-! runs of a line of days: told by their numbers, walked one behind the other -/
def okF (f : Nat → Int32) : Prop := ∀ d, d < 60 → f d = -1 ∨ ∃ j, f d = nI j ∧ j < 100
theorem okF_of {V : VT} {T r l : Nat} (hv : valOk V T) (hr : r ≤ T) (hl : l < 16) : okF (V r l) := fun d hd => by
  rcases hv r l d hr hl hd with z | ⟨j, h1, h2, -⟩
  · exact Or.inl z
  · exact Or.inr ⟨j, h1, h2⟩
theorem stF_iff {f : Nat → Int32} {d : Nat} : stF f d = true ↔ ¬ f d = -1 ∧ (d = 0 ∨ ¬ f (d - 1) = f d) := ⟨fun h => of_decide_eq_true h, fun h => stF_t h.1 h.2⟩
theorem enF_spec (f : Nat → Int32) (v : Int32) : ∀ n d : Nat, (∀ x, d ≤ x → x < enF f v n d → f x = v) ∧ (enF f v n d < d + n → ¬ f (enF f v n d) = v)
  | 0, d => ⟨fun x h1 h2 => absurd h2 (by unfold enF; omega), fun h => absurd h (by unfold enF; omega)⟩
  | n + 1, d => by
    unfold enF
    by_cases h : f d = v
    · rw [if_pos h]
      obtain ⟨h1, h2⟩ := enF_spec f v n (d + 1)
      refine ⟨fun x h3 h4 => ?_, fun h3 => h2 (by omega)⟩
      by_cases hx : x = d
      · rw [hx]; exact h
      · exact h1 x (by omega) h4
    · rw [if_neg h]
      exact ⟨fun x h1 h2 => absurd h2 (by omega), fun _ => h⟩
theorem endF_in {f : Nat → Int32} {d x : Nat} (h1 : d ≤ x) (h2 : x < endF f d) : f x = f d := by
  by_cases hx : x = d
  · rw [hx]
  · exact (enF_spec f (f d) (59 - d) (d + 1)).1 x (by omega) h2
theorem endF_out {f : Nat → Int32} {d : Nat} (hd : d < 60) (h : endF f d < 60) : ¬ f (endF f d) = f d := (enF_spec f (f d) (59 - d) (d + 1)).2 (by unfold endF at h; omega)
/-- a run's number -/
theorem runN_nI {f : Nat → Int32} {d v : Nat} (h : f d = nI v) : runN f d = nI (10000 * d + 100 * endF f d + v) := by
  unfold runN
  rw [h, nI_mul, nI_mul, nI_add, nI_add]
theorem runN_inj {f g : Nat → Int32} {d e v w : Nat} (hd : d < 60) (he : e < 60) (hf : f d = nI v) (hg : g e = nI w) (hv : v < 100) (hw : w < 100) (h : runN f d = runN g e) : d = e ∧ endF f d = endF g e ∧ v = w := by
  rw [runN_nI hf, runN_nI hg] at h
  have h1 := endF_le (f := f) hd
  have h2 := endF_le (f := g) he
  have h3 := i_eq h
  omega
theorem run_from {d e v : Nat} (hd : d < 60) (he : e ≤ 60) (hv : v < 100) : nI (10000 * d + 100 * e + v) / nI 10000 = nI d := by
  rw [pk_div (by omega) (by omega) (by omega)]
  exact congrArg nI (by omega)
theorem run_to {d e v : Nat} (hd : d < 60) (he : e ≤ 60) (hv : v < 100) : nI (10000 * d + 100 * e + v) / nI 100 - nI (10000 * d + 100 * e + v) / nI 100 / nI 100 * nI 100 = nI e := by
  rw [pk_div (a := 10000 * d + 100 * e + v) (d := 100) (by omega) (by omega) (by omega), pk_rem (by omega) (by omega) (by omega)]
  exact congrArg nI (by omega)
theorem run_val {d e v : Nat} (hd : d < 60) (he : e ≤ 60) (hv : v < 100) : nI (10000 * d + 100 * e + v) - nI (10000 * d + 100 * e + v) / nI 100 * nI 100 = nI v := by
  rw [pk_rem (by omega) (by omega) (by omega)]
  exact congrArg nI (by omega)
theorem st_val {f : Nat → Int32} (hf : okF f) {d : Nat} (hd : d < 60) (h : stF f d = true) : ∃ v, f d = nI v ∧ v < 100 := (hf d hd).resolve_left (stF_iff.mp h).1
/-- no run begins from a border on: no values there -/
theorem gap_none {f : Nat → Int32} {a b : Nat} (h0 : a = 0 ∨ ¬ f (a - 1) = f a) (h : ∀ x, a ≤ x → x < b → stF f x = false) : ∀ n x : Nat, x = a + n → x < b → f x = -1
  | 0, x, e, hb => by
    have h1 := h x (by omega) hb
    rw [show a + 0 = a from rfl] at e
    subst e
    by_cases hx : f x = -1
    · exact hx
    · rw [stF_t hx h0] at h1
      cases h1
  | n + 1, x, e, hb => by
    have h1 := h x (by omega) hb
    have ih := gap_none h0 h n (x - 1) (by omega) (by omega)
    by_cases hx : f x = -1
    · exact hx
    · rw [stF_t hx (Or.inr (fun z => hx (by rw [← z]; exact ih)))] at h1
      cases h1
theorem ct_gap {q : Nat → Bool} {a b : Nat} (h : a ≤ b) (e : fb_ct q a = fb_ct q b) : ∀ x, a ≤ x → x < b → q x = false := fun x h1 h2 => by
  cases hq : q x with
  | false => rfl
  | true =>
    have h3 := fb_ct_mono q h1
    have h4 := fb_ct_mono q (show x + 1 ≤ b from h2)
    rw [fb_ct_succ, if_pos hq] at h4
    omega
theorem ct_skip {q : Nat → Bool} {a b : Nat} (h : a ≤ b) (e : ∀ x, a ≤ x → x < b → q x = false) : fb_ct q b = fb_ct q a := by
  have h1 := fb_ct_flat (q := q) (a := a) (n := b - a) (fun x h1 h2 => e x h1 (by omega))
  rwa [show a + (b - a) = b by omega] at h1
theorem lg_skip {f : Nat → Int32} {a : Nat} : ∀ n : Nat, (∀ x, a ≤ x → x < a + n → stF f x = false) → lgF f (a + n) = lgF f a
  | 0, _ => rfl
  | n + 1, h => by
    have h9 : ¬ stF f (a + n) = true := fun z => by
      rw [h (a + n) (by omega) (by omega)] at z
      cases z
    rw [show lgF f (a + (n + 1)) = lgF f (a + n) from if_neg h9]
    exact lg_skip n (fun x h1 h2 => h x h1 (by omega))
theorem sm_skip {f : Nat → Int32} {a : Nat} : ∀ n : Nat, (∀ x, a ≤ x → x < a + n → f x = -1) → smV f (a + n) = smV f a
  | 0, _ => rfl
  | n + 1, h => by
    rw [show smV f (a + (n + 1)) = smV f (a + n) from if_pos (h (a + n) (by omega) (by omega))]
    exact sm_skip n (fun x h1 h2 => h x h1 (by omega))
theorem sm_run {f : Nat → Int32} {a v : Nat} (hv : v < 100) : ∀ n : Nat, (∀ x, a ≤ x → x < a + n → f x = nI v) → smV f (a + n) = smV f a + nI (n * v)
  | 0, _ => by rw [Nat.zero_mul]; exact (Int32.add_zero _).symm
  | n + 1, h => by
    have h1 := h (a + n) (by omega) (by omega)
    have h9 : ¬ f (a + n) = -1 := by
      rw [h1]
      exact nI_m1 (by omega)
    rw [show smV f (a + (n + 1)) = smV f (a + n) + f (a + n) from if_neg h9, sm_run hv n (fun x h1 h2 => h x h1 (by omega)), h1, Int32.add_assoc, nI_add, Nat.succ_mul]
theorem ct_run {f : Nat → Int32} {a v : Nat} (hv : v < 100) : ∀ n : Nat, (∀ x, a ≤ x → x < a + n → f x = nI v) → ctV f (a + n) = ctV f a + n
  | 0, _ => rfl
  | n + 1, h => by
    have h1 := h (a + n) (by omega) (by omega)
    have ih := ct_run hv n (fun x h1 h2 => h x h1 (by omega))
    unfold ctV at ih ⊢
    rw [show a + (n + 1) = (a + n) + 1 from rfl, fb_ct_succ, if_pos (bP_t (by rw [h1]; exact nI_m1 (by omega))), ih]
    omega
theorem ct_skipV {f : Nat → Int32} {a b : Nat} (h : a ≤ b) (e : ∀ x, a ≤ x → x < b → f x = -1) : ctV f b = ctV f a := ct_skip h (fun x h1 h2 => bP_f (fun z => z (e x h1 h2)))
/-- the walk stands behind k runs, at the border en -/
def atR (f : Nat → Int32) (k en : Nat) : Prop := en ≤ 60 ∧ fb_ct (stF f) en = k ∧ (k = 0 → en = 0) ∧ (en = 0 → k = 0) ∧ (en = 0 ∨ en = 60 ∨ ¬ f (en - 1) = f en)
theorem atR_0 (f : Nat → Int32) : atR f 0 0 := ⟨by omega, rfl, fun _ => rfl, fun _ => rfl, Or.inl rfl⟩
/-- the next run: where it begins and ends, and what the walk has then -/
theorem atR_next {f : Nat → Int32} (hf : okF f) {k en : Nat} (h : atR f k en) (hk : k < fb_ct (stF f) 60) :
    ∃ s v, kthD (stF f) k 60 = s ∧ s < 60 ∧ en ≤ s ∧ f s = nI v ∧ v < 100 ∧ s < endF f s ∧ endF f s ≤ 60 ∧ f (endF f s - 1) = nI v ∧ (en < s → f (s - 1) = -1) ∧ (¬ k = 0 → en = s → ¬ f (en - 1) = nI v) ∧ atR f (k + 1) (endF f s) ∧ lgF f (endF f s) = (if lgF f en < endF f s - s then endF f s - s else lgF f en) ∧ ctV f (endF f s) = ctV f en + (endF f s - s) ∧ smV f (endF f s) = smV f en + nI ((endF f s - s) * v) := by
  obtain ⟨h1, h2, h3, h4, h5⟩ := h
  obtain ⟨g1, g2, g3⟩ := kthD_at hk
  generalize kthD (stF f) k 60 = s at g1 g2 g3
  obtain ⟨v, v1, v2⟩ := st_val hf g1 g2
  have e1 := endF_gt f s
  have e2 := endF_le (f := f) g1
  have hen : en ≤ s := by
    apply Nat.not_lt.mp
    intro hlt
    have := fb_ct_mono (stF f) (show s + 1 ≤ en from hlt)
    rw [fb_ct_succ, if_pos g2] at this
    omega
  have hgap := ct_gap hen (h2.trans g3.symm)
  have hb : en < s → (en = 0 ∨ ¬ f (en - 1) = f en) := fun hlt => h5.elim Or.inl (fun z => z.elim (fun z => absurd z (by omega)) Or.inr)
  have hno : ∀ x, en ≤ x → x < s → f x = -1 := fun x x1 x2 => gap_none (hb (by omega)) hgap (x - en) x (by omega) x2
  have hin : ∀ x, s ≤ x → x < endF f s → f x = nI v := fun x x1 x2 => (endF_in x1 x2).trans v1
  have hst : ∀ x, s + 1 ≤ x → x < endF f s → stF f x = false := fun x x1 x2 => stF_f (fun z => by
    rcases z.2 with z1 | z1
    · omega
    · exact z1 ((hin (x - 1) (by omega) (by omega)).trans (hin x (by omega) x2).symm))
  have hlast := hin (endF f s - 1) (by omega) (by omega)
  have c1 : fb_ct (stF f) (endF f s) = k + 1 := by
    rw [ct_skip (show s + 1 ≤ endF f s from e1) hst, fb_ct_succ, if_pos g2, g3]
  refine ⟨s, v, rfl, g1, hen, v1, v2, e1, e2, hlast, fun hlt => hno (s - 1) (by omega) (by omega), fun hk0 he => ?_, ⟨e2, c1, by omega, by omega, ?_⟩, ?_, ?_, ?_⟩
  · subst he
    rcases (stF_iff.mp g2).2 with z | z
    · exact absurd (h4 z) hk0
    · rw [v1] at z; exact z
  · by_cases h60 : endF f s = 60
    · exact Or.inr (Or.inl h60)
    · refine Or.inr (Or.inr (fun z => endF_out (f := f) g1 (by omega) ?_))
      rw [← z, hlast, v1]
  · have l1 : lgF f s = lgF f en := by
      have := lg_skip (f := f) (a := en) (s - en) (fun x x1 x2 => hgap x x1 (by omega))
      rwa [show en + (s - en) = s by omega] at this
    have l2 : lgF f (endF f s) = lgF f (s + 1) := by
      have := lg_skip (f := f) (a := s + 1) (endF f s - (s + 1)) (fun x x1 x2 => hst x x1 (by omega))
      rwa [show s + 1 + (endF f s - (s + 1)) = endF f s by omega] at this
    rw [l2, show lgF f (s + 1) = _ from if_pos g2, l1]
  · have l1 := ct_skipV hen hno
    have l2 := ct_run (f := f) (a := s) v2 (endF f s - s) (fun x x1 x2 => hin x x1 (by omega))
    rw [show s + (endF f s - s) = endF f s by omega] at l2
    omega
  · have l1 := sm_skip (f := f) (a := en) (s - en) (fun x x1 x2 => hno x x1 (by omega))
    rw [show en + (s - en) = s by omega] at l1
    have l2 := sm_run (f := f) (a := s) v2 (endF f s - s) (fun x x1 x2 => hin x x1 (by omega))
    rw [show s + (endF f s - s) = endF f s by omega] at l2
    rw [l2, l1]
/-- behind the last run -/
theorem atR_end {f : Nat → Int32} {k en : Nat} (h : atR f k en) (hk : fb_ct (stF f) 60 ≤ k) : (en = 60 ∨ f en = -1) ∧ lgF f 60 = lgF f en ∧ ctV f 60 = ctV f en ∧ smV f 60 = smV f en := by
  obtain ⟨h1, h2, h3, h4, h5⟩ := h
  have hm := fb_ct_mono (stF f) h1
  have hgap := ct_gap (q := stF f) h1 (by omega)
  by_cases h60 : en = 60
  · subst h60
    exact ⟨Or.inl rfl, rfl, rfl, rfl⟩
  have hb : en = 0 ∨ ¬ f (en - 1) = f en := h5.elim Or.inl (fun z => z.elim (fun z => absurd z h60) Or.inr)
  have hno : ∀ x, en ≤ x → x < 60 → f x = -1 := fun x x1 x2 => gap_none hb hgap (x - en) x (by omega) x2
  refine ⟨Or.inr (hno en (by omega) (by omega)), ?_, ct_skipV h1 hno, ?_⟩
  · have := lg_skip (f := f) (a := en) (60 - en) (fun x x1 x2 => hgap x x1 (by omega))
    rwa [show en + (60 - en) = 60 by omega] at this
  · have := sm_skip (f := f) (a := en) (60 - en) (fun x x1 x2 => hno x x1 (by omega))
    rwa [show en + (60 - en) = 60 by omega] at this
/-- among the runs of a day of record -/
def amongR (f : Nat → Int32) (run : Int32) (k : Nat) : Prop := ∃ i, i < k ∧ runN f (kthD (stF f) i 60) = run
theorem among_iff {f g : Nat → Int32} (hf : okF f) (hg : okF g) {d : Nat} (hd : d < 60) (hs : stF g d = true) : amongR f (runN g d) (fb_ct (stF f) 60) ↔ smF g f d = true := by
  obtain ⟨w, w1, w2⟩ := st_val hg hd hs
  constructor
  · rintro ⟨i, hi, e⟩
    obtain ⟨g1, g2, g3⟩ := kthD_at hi
    obtain ⟨v, v1, v2⟩ := st_val hf g1 g2
    obtain ⟨a, b, cc⟩ := runN_inj g1 hd v1 w1 v2 w2 e
    rw [a] at g2 b v1
    exact bP_t ⟨g2, by rw [v1, w1, cc], b⟩
  · intro h
    obtain ⟨h1, h2, h3⟩ := bP_iff.mp h
    have hc : fb_ct (stF f) d < fb_ct (stF f) 60 := by
      have h6 := fb_ct_mono (stF f) (show d + 1 ≤ 60 by omega)
      rw [fb_ct_succ, if_pos h1] at h6
      omega
    refine ⟨fb_ct (stF f) d, hc, ?_⟩
    rw [kthD_eq h1 rfl hd]
    unfold runN
    rw [h2, h3]
/-- joined runs are no fewer -/
theorem joined_ge {V : VT} {r y : Nat} : fb_ct (stF (V r (8 + y))) 60 ≤ fb_ct (jsF V r y) 60 := fb_ct_sub (fun d _ h => bP_t ⟨(stF_iff.mp h).1, Or.inl h⟩)
/-- the bits of a set of keys -/
def bit8 (b : Bool) (k : Nat) (s : Int32) : Int32 := if b = true then s else s ||| (1 <<< (nI k &&& 31))
theorem bits8 : ∀ b0 b1 b2 b3 b4 b5 b6 b7 : Bool, ∀ j : Fin 8, (bit8 b7 7 (bit8 b6 6 (bit8 b5 5 (bit8 b4 4 (bit8 b3 3 (bit8 b2 2 (bit8 b1 1 (bit8 b0 0 0))))))) >>> (nI j &&& 31)) &&& 1 = (if (match j with | 0 => b0 | 1 => b1 | 2 => b2 | 3 => b3 | 4 => b4 | 5 => b5 | 6 => b6 | 7 => b7) = true then 0 else 1) := by decide +kernel
theorem kyF_8 (g : Nat → Int32) : kyF g 8 = bit8 (decide (g 7 = -1)) 7 (bit8 (decide (g 6 = -1)) 6 (bit8 (decide (g 5 = -1)) 5 (bit8 (decide (g 4 = -1)) 4 (bit8 (decide (g 3 = -1)) 3 (bit8 (decide (g 2 = -1)) 2 (bit8 (decide (g 1 = -1)) 1 (bit8 (decide (g 0 = -1)) 0 0))))))) := by
  simp only [kyF, bit8, decide_eq_true_eq]
theorem kyF_bit (g : Nat → Int32) {j : Nat} (hj : j < 8) : (kyF g 8 >>> (nI j &&& 31)) &&& 1 = if g j = -1 then 0 else 1 := by
  rw [kyF_8]
  rcases (show j = 0 ∨ j = 1 ∨ j = 2 ∨ j = 3 ∨ j = 4 ∨ j = 5 ∨ j = 6 ∨ j = 7 by omega) with rfl | rfl | rfl | rfl | rfl | rfl | rfl | rfl
  · refine (bits8 _ _ _ _ _ _ _ _ 0).trans ?_
    simp only [decide_eq_true_eq]
  · refine (bits8 _ _ _ _ _ _ _ _ 1).trans ?_
    simp only [decide_eq_true_eq]
  · refine (bits8 _ _ _ _ _ _ _ _ 2).trans ?_
    simp only [decide_eq_true_eq]
  · refine (bits8 _ _ _ _ _ _ _ _ 3).trans ?_
    simp only [decide_eq_true_eq]
  · refine (bits8 _ _ _ _ _ _ _ _ 4).trans ?_
    simp only [decide_eq_true_eq]
  · refine (bits8 _ _ _ _ _ _ _ _ 5).trans ?_
    simp only [decide_eq_true_eq]
  · refine (bits8 _ _ _ _ _ _ _ _ 6).trans ?_
    simp only [decide_eq_true_eq]
  · refine (bits8 _ _ _ _ _ _ _ _ 7).trans ?_
    simp only [decide_eq_true_eq]
end
section
/-! rows counted: each run of each day of record stands in one row -/
def reN (q : Nat → Bool) : Nat → Nat → Nat
  | 0, a => a
  | n + 1, a => if q a = true then reN q n (a + 1) else a
theorem reN_spec (q : Nat → Bool) : ∀ n a : Nat, a ≤ reN q n a ∧ reN q n a ≤ a + n ∧ (∀ x, a ≤ x → x < reN q n a → q x = true) ∧ ((reF q n a = -1 ∧ reN q n a = a + n) ∨ (reF q n a = nI (reN q n a) ∧ reN q n a < a + n ∧ q (reN q n a) = false))
  | 0, a => ⟨Nat.le_refl _, Nat.le_refl _, fun x h1 h2 => absurd h2 (by unfold reN; omega), Or.inl ⟨rfl, rfl⟩⟩
  | n + 1, a => by
    unfold reN reF
    by_cases h : q a = true
    · rw [if_pos h, if_pos h]
      obtain ⟨h1, h2, h3, h4⟩ := reN_spec q n (a + 1)
      refine ⟨by omega, by omega, fun x x1 x2 => ?_, ?_⟩
      · by_cases hx : x = a
        · rw [hx]; exact h
        · exact h3 x (by omega) x2
      · rcases h4 with ⟨z1, z2⟩ | ⟨z1, z2, z3⟩
        · exact Or.inl ⟨z1, by omega⟩
        · exact Or.inr ⟨z1, by omega, z3⟩
    · rw [if_neg h, if_neg h]
      exact ⟨Nat.le_refl _, by omega, fun x h1 h2 => absurd h2 (by omega), Or.inr ⟨rfl, by omega, by cases hq : q a with | true => exact absurd hq h | false => rfl⟩⟩
/-- the day of record behind the last one of the row that begins at r, d -/
noncomputable def rEnd (V : VT) (l T r d : Nat) : Nat := reN (fun a => smF (V r l) (V a l) d) (T - r) (r + 1)
theorem rEnd_gt (V : VT) (l T r d : Nat) : r < rEnd V l T r d := (reN_spec (fun a => smF (V r l) (V a l) d) (T - r) (r + 1)).1
theorem rEnd_le {V : VT} {l T r d : Nat} (h : r ≤ T) : rEnd V l T r d ≤ T + 1 := by
  have := (reN_spec (fun a => smF (V r l) (V a l) d) (T - r) (r + 1)).2.1
  unfold rEnd
  omega
theorem rEnd_in {V : VT} {l T r d a : Nat} (h1 : r < a) (h2 : a < rEnd V l T r d) : smF (V r l) (V a l) d = true := (reN_spec (fun a => smF (V r l) (V a l) d) (T - r) (r + 1)).2.2.1 a h1 h2
theorem rEnd_out {V : VT} {l T r d : Nat} (hr : r ≤ T) (h : rEnd V l T r d ≤ T) : smF (V r l) (V (rEnd V l T r d) l) d = false := by
  rcases (reN_spec (fun a => smF (V r l) (V a l) d) (T - r) (r + 1)).2.2.2 with ⟨-, z⟩ | ⟨-, -, z⟩
  · unfold rEnd at h
    omega
  · exact z
theorem sm_iff {f g : Nat → Int32} {d : Nat} : smF f g d = true ↔ stF g d = true ∧ g d = f d ∧ endF g d = endF f d := bP_iff
theorem rw_iff {V : VT} {l r d : Nat} : rowF V l r d = true ↔ stF (V r l) d = true ∧ (r = 0 ∨ smF (V r l) (V (r - 1) l) d = false) := bP_iff
theorem bool_f {b : Bool} (h : ¬ b = true) : b = false := by cases b with | true => exact absurd rfl h | false => rfl
/-- the row at r, d holds the day of record n -/
noncomputable def holdsR (V : VT) (l T n d r : Nat) : Bool := bP (rowF V l r d = true ∧ r ≤ n ∧ n < rEnd V l T r d)
theorem fb_ct_one {q : Nat → Bool} {N r : Nat} (hr : r < N) (hq : q r = true) (hu : ∀ x, x < N → q x = true → x = r) : fb_ct q N = 1 := by
  have h1 : fb_ct q r = 0 := fb_ct_zero.mpr (fun k hk => bool_f (fun z => absurd (hu k (by omega) z) (by omega)))
  have h2 : fb_ct q (r + 1) = 1 := by rw [fb_ct_succ, if_pos hq, h1]
  rw [ct_skip (show r + 1 ≤ N from hr) (fun x x1 x2 => bool_f (fun z => absurd (hu x x2 z) (by omega))), h2]
/-- where the row that holds a run begins -/
theorem row_begin {V : VT} {l d : Nat} : ∀ n : Nat, stF (V n l) d = true → ∃ r, r ≤ n ∧ rowF V l r d = true ∧ ∀ a, r ≤ a → a ≤ n → stF (V a l) d = true ∧ V a l d = V r l d ∧ endF (V a l) d = endF (V r l) d
  | 0, h => ⟨0, Nat.le_refl _, rw_iff.mpr ⟨h, Or.inl rfl⟩, fun a _ h2 => by
      rw [show a = 0 by omega]
      exact ⟨h, rfl, rfl⟩⟩
  | n + 1, h => by
    by_cases hs : smF (V (n + 1) l) (V n l) d = true
    · obtain ⟨h1, h2, h3⟩ := sm_iff.mp hs
      obtain ⟨r, g1, g2, g3⟩ := row_begin n h1
      refine ⟨r, by omega, g2, fun a a1 a2 => ?_⟩
      by_cases ha : a = n + 1
      · subst ha
        obtain ⟨k1, k2, k3⟩ := g3 n g1 (Nat.le_refl n)
        exact ⟨h, h2.symm.trans k2, h3.symm.trans k3⟩
      · exact g3 a a1 (by omega)
    · refine ⟨n + 1, Nat.le_refl _, rw_iff.mpr ⟨h, Or.inr (bool_f hs)⟩, fun a a1 a2 => ?_⟩
      rw [show a = n + 1 by omega]
      exact ⟨h, rfl, rfl⟩
theorem rEnd_past {V : VT} {l T r d n : Nat} (hn : n ≤ T) (hr : r ≤ n) (h : ∀ a, r < a → a ≤ n → smF (V r l) (V a l) d = true) : n < rEnd V l T r d := by
  apply Nat.not_le.mp
  intro hle
  have h1 := rEnd_gt V l T r d
  have h2 := h _ h1 hle
  rw [rEnd_out (by omega) (by omega)] at h2
  cases h2
theorem holds_one {V : VT} {l T n d : Nat} (hn : n ≤ T) : fb_ct (holdsR V l T n d) (T + 1) = if stF (V n l) d = true then 1 else 0 := by
  by_cases h : stF (V n l) d = true
  · rw [if_pos h]
    obtain ⟨r, g1, g2, g3⟩ := row_begin n h
    refine fb_ct_one (r := r) (by omega) (bP_t ⟨g2, g1, rEnd_past hn g1 (fun a a1 a2 => ?_)⟩) (fun x x1 x2 => ?_)
    · obtain ⟨k1, k2, k3⟩ := g3 a (by omega) a2
      exact sm_iff.mpr ⟨k1, k2, k3⟩
    · obtain ⟨y1, y2, y3⟩ := bP_iff.mp x2
      obtain ⟨y4, y5⟩ := rw_iff.mp y1
      obtain ⟨w4, w5⟩ := rw_iff.mp g2
      rcases Nat.lt_trichotomy x r with hlt | heq | hgt
      · -- r lies within the row of x
        exfalso
        have e1 := rEnd_in (V := V) (l := l) (T := T) (d := d) hlt (by omega)
        rcases w5 with z | z
        · omega
        have e2 : smF (V r l) (V (r - 1) l) d = true := by
          obtain ⟨k1, k2, k3⟩ := sm_iff.mp e1
          by_cases hx : x = r - 1
          · subst hx
            exact sm_iff.mpr ⟨y4, k2.symm, k3.symm⟩
          · obtain ⟨m1, m2, m3⟩ := sm_iff.mp (rEnd_in (V := V) (l := l) (T := T) (d := d) (show x < r - 1 by omega) (by omega))
            exact sm_iff.mpr ⟨m1, m2.trans k2.symm, m3.trans k3.symm⟩
        rw [e2] at z
        cases z
      · exact heq
      · exfalso
        rcases y5 with z | z
        · omega
        obtain ⟨k1, k2, k3⟩ := g3 (x - 1) (by omega) (by omega)
        obtain ⟨m1, m2, m3⟩ := g3 x (by omega) y2
        rw [sm_iff.mpr ⟨k1, k2.trans m2.symm, k3.trans m3.symm⟩] at z
        cases z
  · rw [if_neg h]
    refine fb_ct_zero.mpr (fun r hr => bP_f (fun z => h ?_))
    obtain ⟨z1, z2, z3⟩ := z
    by_cases he : r = n
    · rw [← he]
      exact (rw_iff.mp z1).1
    · exact (sm_iff.mp (rEnd_in (V := V) (l := l) (T := T) (d := d) (show r < n by omega) z3)).1
/-! sums -/
theorem fb_sm_swap (g : Nat → Nat → Nat) (B : Nat) : ∀ A : Nat, fb_sm (fun z => fb_sm (g z) B) A = fb_sm (fun n => fb_sm (fun z => g z n) A) B
  | 0 => by
    have := fb_sm_const 0 B
    rw [Nat.mul_zero] at this
    exact this.symm
  | A + 1 => by
    rw [fb_sm_succ, fb_sm_swap g B A, ← fb_sm_add]
    rfl
theorem fb_ct_sm (q : Nat → Bool) : ∀ n : Nat, fb_ct q n = fb_sm (fun k => if q k = true then 1 else 0) n
  | 0 => rfl
  | n + 1 => by rw [fb_ct_succ, fb_sm_succ, fb_ct_sm q n]
theorem fb_ct_grid (p : Nat → Bool) : ∀ M : Nat, fb_ct p (60 * M) = fb_sm (fun d => fb_ct (fun r => p (60 * r + d)) M) 60
  | 0 => by
    have := fb_sm_const 0 60
    rw [Nat.mul_zero] at this
    exact this.symm
  | M + 1 => by
    rw [show 60 * (M + 1) = 60 * M + 60 by omega, fb_ct_split, fb_ct_grid p M, fb_ct_sm (fun k => p (60 * M + k)) 60, ← fb_sm_add]
    rfl
theorem len_sum {r e : Nat} (h1 : r ≤ e) : ∀ N : Nat, e ≤ N → fb_sm (fun n => if r ≤ n ∧ n < e then 1 else 0) N = e - r
  | 0, h => by
    rw [show e - r = 0 by omega]
    rfl
  | N + 1, h => by
    rw [fb_sm_succ]
    by_cases he : e ≤ N
    · rw [len_sum h1 N he, if_neg (by omega)]
      rfl
    · have e9 : e = N + 1 := by omega
      subst e9
      by_cases hr : r ≤ N
      · rw [if_pos ⟨hr, by omega⟩]
        have h2 := len_sum hr N (Nat.le_refl N)
        rw [fb_sm_cong (f := fun n => if r ≤ n ∧ n < N + 1 then 1 else 0) (g := fun n => if r ≤ n ∧ n < N then 1 else 0) (fun k hk => by
          by_cases hc : r ≤ k
          · rw [if_pos ⟨hc, by omega⟩, if_pos ⟨hc, hk⟩]
          · rw [if_neg (fun z => hc z.1), if_neg (fun z => hc z.1)]), h2]
        omega
      · rw [if_neg (fun z => hr z.1), fb_sm_cong (g := fun _ => 0) (fun k hk => if_neg (by omega)), fb_sm_const]
        omega
/-- how many days of record a row has -/
noncomputable def rLen (V : VT) (l T z : Nat) : Nat := rEnd V l T (z / 60) (z % 60) - z / 60
theorem kth_sum {q : Nat → Bool} {N : Nat} (f : Nat → Nat) : ∀ m : Nat, m ≤ N → fb_sm (fun k => f (kthD q k N)) (fb_ct q m) = fb_sm (fun z => if q z = true then f z else 0) m
  | 0, _ => rfl
  | m + 1, h => by
    rw [fb_sm_succ (fun z => if q z = true then f z else 0), ← kth_sum (N := N) f m (by omega), fb_ct_succ]
    by_cases hq : q m = true
    · rw [if_pos hq, if_pos hq, fb_sm_succ, kthD_eq hq rfl (show m < N by omega)]
    · rw [if_neg hq, if_neg hq]
      rfl
/-- the days of all rows together are the runs of all days of record together -/
theorem rows_sum (V : VT) (l T : Nat) : fb_sm (fun k => rLen V l T (kthD (rwF V l) k (60 * (T + 1)))) (fb_ct (rwF V l) (60 * (T + 1))) = fb_sm (fun r => fb_ct (stF (V r l)) 60) (T + 1) := by
  rw [kth_sum (rLen V l T) (60 * (T + 1)) (Nat.le_refl _)]
  have h1 : fb_sm (fun z => if rwF V l z = true then rLen V l T z else 0) (60 * (T + 1)) = fb_sm (fun z => fb_sm (fun n => if bP (rwF V l z = true ∧ z / 60 ≤ n ∧ n < rEnd V l T (z / 60) (z % 60)) = true then 1 else 0) (T + 1)) (60 * (T + 1)) := by
    refine fb_sm_cong (fun z hz => ?_)
    by_cases hq : rwF V l z = true
    · unfold rLen
      rw [if_pos hq, ← len_sum (Nat.le_of_lt (rEnd_gt V l T (z / 60) (z % 60))) (T + 1) (rEnd_le (by omega))]
      refine fb_sm_cong (fun n hn => ?_)
      by_cases hc : z / 60 ≤ n ∧ n < rEnd V l T (z / 60) (z % 60)
      · rw [if_pos hc, if_pos (bP_t ⟨hq, hc⟩)]
      · rw [if_neg hc, if_neg (fun w => hc (bP_iff.mp w).2)]
    · rw [if_neg hq, fb_sm_cong (g := fun _ => 0) (fun n hn => if_neg (fun w => hq (bP_iff.mp w).1)), fb_sm_const]
      omega
  rw [h1, fb_sm_swap]
  refine fb_sm_cong (fun n hn => ?_)
  show fb_sm (fun z => if bP (rwF V l z = true ∧ z / 60 ≤ n ∧ n < rEnd V l T (z / 60) (z % 60)) = true then 1 else 0) (60 * (T + 1)) = _
  rw [← fb_ct_sm (fun z => bP (rwF V l z = true ∧ z / 60 ≤ n ∧ n < rEnd V l T (z / 60) (z % 60))), fb_ct_grid, fb_ct_sm]
  refine fb_sm_cong (fun d hd => ?_)
  rw [← holds_one (V := V) (l := l) (d := d) (show n ≤ T by omega)]
  refine fb_ct_cong (fun r hr => ?_)
  show bP (rwF V l (60 * r + d) = true ∧ (60 * r + d) / 60 ≤ n ∧ n < rEnd V l T ((60 * r + d) / 60) ((60 * r + d) % 60)) = holdsR V l T n d r
  rw [rwF_at V l r d hd, show (60 * r + d) / 60 = r by omega, show (60 * r + d) % 60 = d by omega]
  rfl
theorem rows_le (V : VT) (l T n : Nat) (hT : T < 60) : fb_sm (fun k => rLen V l T (kthD (rwF V l) k (60 * (T + 1)))) n ≤ n * 60 := fb_sm_bound (fun k _ => by
  unfold rLen
  by_cases h : kthD (rwF V l) k (60 * (T + 1)) / 60 ≤ T
  · have := rEnd_le (V := V) (l := l) (d := kthD (rwF V l) k (60 * (T + 1)) % 60) h
    omega
  · have h1 := (reN_spec (fun a => smF (V (kthD (rwF V l) k (60 * (T + 1)) / 60) l) (V a l) (kthD (rwF V l) k (60 * (T + 1)) % 60)) (T - kthD (rwF V l) k (60 * (T + 1)) / 60) (kthD (rwF V l) k (60 * (T + 1)) / 60 + 1)).2.1
    unfold rEnd
    omega)
end
section
/-! rows for the law: shifts, constants, calls over a piece of the world, two objects -/
section
variable {p : Program} {l : Launch} {e : Env} {R : Room} {s : State} {m : MethodId} {args : Array Value} {below : List Frame} {meth : Method} {c : Code} {D : va_G} {A : Nat → Prop} {tys : List (ClassId × FieldType)} {cc : ByteArray} {own : String} {n cells slots pc : Nat} {Q : State → Prop} {ws wc wr : va_W} {L : List (Nat × Value)} {st : List Value}
variable {y : MethodName} {cd : ByteArray} {maxL k9 idx : Nat} {ret : Option FieldType} {rm : Room} {As rest : List Value} {post : Option Value → va_W → Prop} {pe : String → va_W → Prop} {b : Nat} {C : String}
theorem gg_ishr {x z : Int32} (K : kx p s m args meth c D A tys cc own n) (hd : decode cc pc = .ok (.ishr, 1)) (k : gg p l e R s m args below meth c D A n cells slots Q ws (pc + 1) L (.int (x >>> (z &&& 31)) :: st)) : gg p l e R s m args below meth c D A n cells slots Q ws pc L (.int z :: .int x :: st) :=
  fun H locs ls hP hD hS hl => lv_ishr K.1.1 K.1.2.1 hd (k H locs ls hP hD hS hl)
theorem gg_ldcf {index : Nat} {v : UInt32} (K : kx p s m args meth c D A tys cc own n) (hc : (Cond.constantFloat own index v) ∈ GW) (hd : decode cc pc = .ok (.ldc index, 2)) (k : gg p l e R s m args below meth c D A n cells slots Q ws (pc + 2) L (.float v :: st)) : gg p l e R s m args below meth c D A n cells slots Q ws pc L st :=
  fun H locs ls hP hD hS hl => lv_ldcf K.1.1 K.1.2.1 K.1.2.2.2.1 (K.1.2.2.2.2 _ hc) hd (k H locs ls hP hD hS hl)
/-- a static method over a piece of the world -/
theorem gg_callA (isC isR : List Nat) (hj : jOk isC isR = true) (hC : isC.map (fun i => ws[i]?) = wc.map some) (hR : isR.map (fun i => ws[i]?) = wr.map some) (K : kx p s m args meth c D A tys cc own n) (ok : okS own idx y (.code y cd maxL ret) k9) (hM : mA l D tys y cd maxL ret rm wc As post) (hd : decode cc pc = .ok (.invokestatic idx, 3)) (hst : st = As.reverse ++ rest) (hAs : As.length = k9) (hr : rOk rm R maxL cells slots = true) (hw : c8 rest = true)
    (kk : ∀ (v : Option Value) (u : va_W), post v u → gg p l e R s m args below meth c D A n (cells + rm.cells) (slots + rm.slots) Q (wr ++ u) (pc + 3) L (v.toList ++ rest)) : gg p l e R s m args below meth c D A n cells slots Q ws pc L st := by
  intro H locs ls hP hD hS hl
  subst hst
  obtain ⟨j1, j2, j3⟩ := jOk_spec hj
  have hPc := hP.sub isC (fm_of_map hC)
  have hDc := hD.sub isC j1 hC
  have hF := va_free hD hS K.2.2.1 isC hC
  refine va_callo (va_runS (As := As) (rest := rest) K.1 (hM H.size) (va_cwS k9 K.1.2.2.2.2 ok.1 rfl rfl rfl ok.2 (rOk_spec hr).1) ⟨inW_blind, fun U hU hW => ⟨rfl, by rw [hU], by rw [hU]; exact hPc, va_K.moved hW.alike K.2.1, hDc.weaken (fun _ _ _ _ => trivial)⟩⟩ rfl hAs hl.1 rfl (lv_room (Nat.le_of_ble_eq_true hw)) hd (rOk_spec hr).2) hS (fun q _ h => hF q h) hF (fun v u t H1 locs1 ht hvm hp hB hz hk hS1 => ?_)
  obtain ⟨hP1, hK1, hD1⟩ := hB
  rw [ht] at hP1
  obtain ⟨hP2, hD2⟩ := va_join hP hD isC isR hC hR j2 j3 hk hF hP1 hD1
  exact kk v u hp H1 locs1 ls hP2 hD2 hS1 hl
/-- a static method that calls throwing ones, and lets no throw out -/
theorem gg_callAX (isC isR : List Nat) (hj : jOk isC isR = true) (hC : isC.map (fun i => ws[i]?) = wc.map some) (hR : isR.map (fun i => ws[i]?) = wr.map some) (K : kx p s m args meth c D A tys cc own n) (T9 : te A s s.heap) (ok : okS own idx y (.code y cd maxL ret) k9) (hM : mX l D tys y (.code y cd maxL ret) rm wc As post (fun _ _ => False)) (hd : decode cc pc = .ok (.invokestatic idx, 3)) (hst : st = As.reverse ++ rest) (hAs : As.length = k9) (hr : rOk rm R maxL cells slots = true) (hw : c8 rest = true)
    (kk : ∀ (v : Option Value) (u : va_W), post v u → gg p l e R s m args below meth c D A n (cells + rm.cells) (slots + rm.slots) Q (wr ++ u) (pc + 3) L (v.toList ++ rest)) : gg p l e R s m args below meth c D A n cells slots Q ws pc L st := by
  intro H locs ls hP hD hS hl
  subst hst
  obtain ⟨j1, j2, j3⟩ := jOk_spec hj
  have hPc := hP.sub isC (fm_of_map hC)
  have hDc := hD.sub isC j1 hC
  have hF := va_free hD hS K.2.2.1 isC hC
  refine vx_callo (vx_runS (As := As) (rest := rest) K.1 (hM H.size) (va_cwS k9 K.1.2.2.2.2 ok.1 rfl rfl rfl ok.2 (rOk_spec hr).1) ⟨inX_blind, fun U hU hW => ⟨rfl, ⟨by rw [hU], by rw [hU]; exact hPc, va_K.moved hW.alike K.2.1, hDc.weaken (fun _ _ _ _ => trivial)⟩, by rw [hU]; exact T9.go hW hS hF⟩⟩ rfl hAs hl.1 rfl (lv_room (Nat.le_of_ble_eq_true hw)) hd (rOk_spec hr).2) hS (fun q _ h => hF q h) hF (fun E ce q9 u t H1 locs1 ht hvm hp hB hz hk hS1 h1 h2 h3 => hp.elim) (fun v u t H1 locs1 ht hvm hp hB hz hk hS1 => ?_)
  obtain ⟨hP1, hK1, hD1⟩ := hB
  rw [ht] at hP1
  obtain ⟨hP2, hD2⟩ := va_join hP hD isC isR hC hR j2 j3 hk hF hP1 hD1
  exact kk v u hp H1 locs1 ls hP2 hD2 hS1 hl
end
/-- two objects -/
def w2 (Z : ZT) (X Y : XT) (k kp dr : Nat → Int32) (td : Int32) (k2 kp2 dr2 : Nat → Int32) (td2 : Int32) : va_W := wX Z X k kp dr td ++ wX Z Y k2 kp2 dr2 td2
section
variable {p : Program} {l : Launch} {e : Env} {R : Room} {s : State} {m : MethodId} {args : Array Value} {below : List Frame} {meth : Method} {c : Code} {Z : ZT} {A : Nat → Prop} {cc : ByteArray} {own : String} {n cells slots pc : Nat} {Q : State → Prop} {L : List (Nat × Value)} {st : List Value}
variable {y : MethodName} {cd : ByteArray} {maxL k9 idx : Nat} {ret : Option FieldType} {rm : Room} {As rest : List Value} {post : Option Value → va_W → Prop}
variable {X Y : XT} {k kp dr k2 kp2 dr2 : Nat → Int32} {td td2 : Int32} {v : Value}
theorem gg_2V1 (K : kx p s m args meth c Z.1 A (ty3 Z) cc own n) (ok : okV own idx RX0 y (.code y cd maxL ret) k9) (hM : mR l Z y cd maxL ret rm (wX Z X k kp dr td) (.ref X.1 :: As) v) (hd : decode cc pc = .ok (.invokevirtual idx, 3)) (hst : st = As.reverse ++ .ref X.1 :: rest) (hAs : As.length = k9) (hr : rOk rm R maxL cells slots = true) (hw : c8 rest = true) (hz : rm.cells = 0 ∧ rm.slots = 0)
    (kk : gg p l e R s m args below meth c Z.1 A n cells slots Q (w2 Z X Y k kp dr td k2 kp2 dr2 td2) (pc + 3) L (v :: rest)) : gg p l e R s m args below meth c Z.1 A n cells slots Q (w2 Z X Y k kp dr td k2 kp2 dr2 td2) pc L st := by
  refine gg_callJ (wc := wX Z X k kp dr td) (wr := wX Z Y k2 kp2 dr2 td2) [0, 1, 2, 3] [4, 5, 6, 7] rfl rfl rfl K ok hM 0 (ci := 0) (N := 4) (T := TX0) rfl rfl hd hst hAs hr hw (fun v' u h => ?_)
  obtain ⟨rfl, rfl⟩ := h
  rw [hz.1, hz.2]
  exact gg_perm (ws' := w2 Z X Y k kp dr td k2 kp2 dr2 td2) [4, 5, 6, 7, 0, 1, 2, 3] rfl rfl kk
theorem gg_2V2 (K : kx p s m args meth c Z.1 A (ty3 Z) cc own n) (ok : okV own idx RX0 y (.code y cd maxL ret) k9) (hM : mR l Z y cd maxL ret rm (wX Z Y k2 kp2 dr2 td2) (.ref Y.1 :: As) v) (hd : decode cc pc = .ok (.invokevirtual idx, 3)) (hst : st = As.reverse ++ .ref Y.1 :: rest) (hAs : As.length = k9) (hr : rOk rm R maxL cells slots = true) (hw : c8 rest = true) (hz : rm.cells = 0 ∧ rm.slots = 0)
    (kk : gg p l e R s m args below meth c Z.1 A n cells slots Q (w2 Z X Y k kp dr td k2 kp2 dr2 td2) (pc + 3) L (v :: rest)) : gg p l e R s m args below meth c Z.1 A n cells slots Q (w2 Z X Y k kp dr td k2 kp2 dr2 td2) pc L st := by
  refine gg_callJ (wc := wX Z Y k2 kp2 dr2 td2) (wr := wX Z X k kp dr td) [4, 5, 6, 7] [0, 1, 2, 3] rfl rfl rfl K ok hM 0 (ci := 0) (N := 4) (T := TX0) rfl rfl hd hst hAs hr hw (fun v' u h => ?_)
  obtain ⟨rfl, rfl⟩ := h
  rw [hz.1, hz.2]
  exact kk
/-- a static method that reads one object -/
theorem gg_2S1 (K : kx p s m args meth c Z.1 A (ty3 Z) cc own n) (ok : okS own idx y (.code y cd maxL ret) k9) (hM : mR l Z y cd maxL ret rm (wX Z X k kp dr td) As v) (hd : decode cc pc = .ok (.invokestatic idx, 3)) (hst : st = As.reverse ++ rest) (hAs : As.length = k9) (hr : rOk rm R maxL cells slots = true) (hw : c8 rest = true) (hz : rm.cells = 0 ∧ rm.slots = 0)
    (kk : gg p l e R s m args below meth c Z.1 A n cells slots Q (w2 Z X Y k kp dr td k2 kp2 dr2 td2) (pc + 3) L (v :: rest)) : gg p l e R s m args below meth c Z.1 A n cells slots Q (w2 Z X Y k kp dr td k2 kp2 dr2 td2) pc L st := by
  refine gg_callA (wc := wX Z X k kp dr td) (wr := wX Z Y k2 kp2 dr2 td2) [0, 1, 2, 3] [4, 5, 6, 7] rfl rfl rfl K ok hM hd hst hAs hr hw (fun v' u h => ?_)
  obtain ⟨rfl, rfl⟩ := h
  rw [hz.1, hz.2]
  exact gg_perm (ws' := w2 Z X Y k kp dr td k2 kp2 dr2 td2) [4, 5, 6, 7, 0, 1, 2, 3] rfl rfl kk
/-- .. that reads both -/
theorem gg_2S (K : kx p s m args meth c Z.1 A (ty3 Z) cc own n) (ok : okS own idx y (.code y cd maxL ret) k9) (hM : mR l Z y cd maxL ret rm (w2 Z X Y k kp dr td k2 kp2 dr2 td2) As v) (hd : decode cc pc = .ok (.invokestatic idx, 3)) (hst : st = As.reverse ++ rest) (hAs : As.length = k9) (hr : rOk rm R maxL cells slots = true) (hw : c8 rest = true) (hz : rm.cells = 0 ∧ rm.slots = 0)
    (kk : gg p l e R s m args below meth c Z.1 A n cells slots Q (w2 Z X Y k kp dr td k2 kp2 dr2 td2) (pc + 3) L (v :: rest)) : gg p l e R s m args below meth c Z.1 A n cells slots Q (w2 Z X Y k kp dr td k2 kp2 dr2 td2) pc L st := by
  refine gg_callA (wc := w2 Z X Y k kp dr td k2 kp2 dr2 td2) (wr := []) [0, 1, 2, 3, 4, 5, 6, 7] [] rfl rfl rfl K ok hM hd hst hAs hr hw (fun v' u h => ?_)
  obtain ⟨rfl, rfl⟩ := h
  rw [hz.1, hz.2]
  exact kk
/-- a static method over this one object's world -/
theorem gg_1S (K : kx p s m args meth c Z.1 A (ty3 Z) cc own n) (ok : okS own idx y (.code y cd maxL ret) k9) (hM : mR l Z y cd maxL ret rm (wX Z X k kp dr td) As v) (hd : decode cc pc = .ok (.invokestatic idx, 3)) (hst : st = As.reverse ++ rest) (hAs : As.length = k9) (hr : rOk rm R maxL cells slots = true) (hw : c8 rest = true) (hz : rm.cells = 0 ∧ rm.slots = 0)
    (kk : gg p l e R s m args below meth c Z.1 A n cells slots Q (wX Z X k kp dr td) (pc + 3) L (v :: rest)) : gg p l e R s m args below meth c Z.1 A n cells slots Q (wX Z X k kp dr td) pc L st := by
  refine gg_callA (wc := wX Z X k kp dr td) (wr := []) [0, 1, 2, 3] [] rfl rfl rfl K ok hM hd hst hAs hr hw (fun v' u h => ?_)
  obtain ⟨rfl, rfl⟩ := h
  rw [hz.1, hz.2]
  exact kk
end
/-- the law's draws out of a cell -/
def lowF (v n : Int32) : Int32 := (v &&& 2147483647) - (v &&& 2147483647) / n * n
theorem low_nat (v : Int32) : ∃ a : Nat, a < 2 ^ 31 ∧ v &&& 2147483647 = nI a := by
  refine nI_of ?_
  intro h
  have h1 : (v &&& 2147483647).toBitVec.toNat < 2 ^ 31 := by
    rw [show (v &&& 2147483647).toBitVec = v.toBitVec &&& 2147483647#32 from rfl, BitVec.toNat_and]
    exact Nat.lt_of_le_of_lt Nat.and_le_right (by decide)
  rw [Int32.lt_iff_toInt_lt] at h
  have h2 : (v &&& 2147483647).toInt = ((v &&& 2147483647).toBitVec.toNat : Int) := by
    show (v &&& 2147483647).toBitVec.toInt = _
    rw [BitVec.toInt_eq_toNat_of_lt (by omega)]
  rw [h2, show (0 : Int32).toInt = 0 from rfl] at h
  omega
theorem lowF_nI {v : Int32} {n : Nat} (h0 : 0 < n) (h1 : n < 2 ^ 31) : ∃ j, j < n ∧ lowF v (nI n) = nI j := by
  obtain ⟨a, a1, a2⟩ := low_nat v
  unfold lowF
  rw [a2, pk_rem a1 h0 h1]
  exact ⟨a % n, Nat.mod_lt _ h0, rfl⟩
theorem and1 (x : Int32) : ∃ j : Nat, j < 2 ∧ x &&& 1 = nI j := by
  refine ⟨(x &&& 1).toBitVec.toNat, ?_, ?_⟩
  · rw [show (x &&& 1).toBitVec = x.toBitVec &&& 1#32 from rfl, BitVec.toNat_and]
    exact Nat.lt_of_le_of_lt Nat.and_le_right (by decide)
  · refine Int32.toBitVec_inj.mp ?_
    show (x &&& 1).toBitVec = BitVec.ofNat 32 _
    rw [BitVec.ofNat_toNat]
    exact (BitVec.setWidth_eq _).symm
set_option maxRecDepth 100000 in
theorem n_low {l : Launch} {x z : Int32} (h : ¬ z = 0) : mS l yL_low cL_low 2 (some .int) (rmk 0 0 0 0) [.int x, .int z] (.int (lowF x z)) := by
  intro D tys
  refine mA_intro (own := RL) [(0, .int x), (1, .int z)] (by decide +kernel) rfl rfl rfl rfl ?_
  intro p e s m args below meth c A K hr hin
  refine gg_iload_n K (i := 0) dL_low_0 rfl rfl ?_
  refine gg_ldc K wd_25 dL_low_1 ?_
  refine gg_iand K dL_low_3 ?_
  refine gg_iload_n K (i := 1) dL_low_4 rfl rfl ?_
  refine gg_irem K dL_low_5 h ?_
  exact gg_iret K hr dL_low_6 (Nat.le_of_ble_eq_true rfl) (Nat.le_of_ble_eq_true rfl) rfl
end
section
/-! the law's questions of one object: areValuesSo, hasRun -/
theorem gg_cut {p : Program} {l : Launch} {e : Env} {R : Room} {s : State} {m : MethodId} {args : Array Value} {below : List Frame} {meth : Method} {c : Code} {D : va_G} {A : Nat → Prop} {n cells slots pc : Nat} {Q : State → Prop} {ws : va_W} {L : List (Nat × Value)} {st : List Value} (pc' : Nat) (L' : List (Nat × Value)) (st' : List Value) (h : gg p l e R s m args below meth c D A n cells slots Q ws pc' L' st') (k : gg p l e R s m args below meth c D A n cells slots Q ws pc' L' st' → gg p l e R s m args below meth c D A n cells slots Q ws pc L st) : gg p l e R s m args below meth c D A n cells slots Q ws pc L st := k h
theorem gg_top_f {p : Program} {l : Launch} {e : Env} {R : Room} {s : State} {m : MethodId} {args : Array Value} {below : List Frame} {meth : Method} {c : Code} {D : va_G} {A : Nat → Prop} {n cells slots pc : Nat} {Q : State → Prop} {ws : va_W} {L : List (Nat × Value)} {st : List Value} {x z : UInt32} (hxz : x = z) (k : gg p l e R s m args below meth c D A n cells slots Q ws pc L (.float z :: st)) : gg p l e R s m args below meth c D A n cells slots Q ws pc L (.float x :: st) := by rw [hxz]; exact k
theorem neg_lt0 : ¬ (0 : Int32) ≤ -1 := by decide
theorem m1_le {n : Nat} (h : n < 2 ^ 31) : ¬ nI n < -1 := fun q => by
  rw [Int32.lt_iff_toInt_lt, nI_toInt h, show (-1 : Int32).toInt = -1 from by decide] at q
  omega
set_option maxRecDepth 100000 in
theorem c_values {l : Launch} {Z : ZT} {X : XT} {k kp dr : Nat → Int32} {T : Nat} (ok : okX kp T) (hi : INV (vX k kp T) T) (r : Nat) {q : Int32} (hr0 : r ≤ T) (q2 : q = nI r) : mR l Z yL_areValuesSo cL_areValuesSo 9 (some .boolean) (rmk 10 240 0 0) (wX Z X k kp dr (nI T)) [.ref X.1, .int q] (.int 1) := by
  have hT9 := ok.1
  refine mA_intro (own := RL) [(0, .ref X.1), (1, .int q)] (by decide +kernel) rfl rfl rfl rfl ?_
  intro p e s m args below meth c A K hr hin
  subst q2
  refine gg_iconst K (v := 1) dL_areValuesSo_0 (by decide) ?_
  refine gg_istore_n K (i := 2) dL_areValuesSo_1 rfl (by decide) ?_
  refine gg_iconst K (v := 0) dL_areValuesSo_2 (by decide) ?_
  refine gg_istore_n K (i := 3) dL_areValuesSo_3 rfl (by decide) ?_
  refine gg_sub (L' := [(3, .int (nI 0)), (2, .int 1), (0, .ref X.1), (1, .int (nI r))]) ⟨rfl, rfl, rfl, rfl, trivial⟩ ?_
  refine gg_loop (fun i w L => ∃ (d : Nat), d + i = 61 ∧ w = wX Z X k kp dr (nI T) ∧ d ≤ 60 ∧ L = [(3, .int (nI d)), (2, .int 1), (0, .ref X.1), (1, .int (nI r))]) (fun w L h => ?_) (fun i w L h ih => ?_) 61 _ _ ⟨0, by omega, rfl, by omega, rfl⟩
  · obtain ⟨d, hj, -, h2, -⟩ := h
    omega
  obtain ⟨d, hd, rfl, hd1, rfl⟩ := h
  refine gg_iload_n K (i := 3) dL_areValuesSo_4 rfl rfl ?_
  refine gg_bipush K (v := 60) dL_areValuesSo_5 (by decide) ?_
  refine gg_icmp_ge K (tgt := 185) dL_areValuesSo_7 (by decide) (fun h7 => ?_) (fun h7 => ?_)
  · refine gg_iload_n K (i := 2) dL_areValuesSo_185 rfl rfl ?_
    exact gg_zret K hr dL_areValuesSo_186 (Or.inr rfl) (Nat.le_of_ble_eq_true rfl) (Nat.le_of_ble_eq_true rfl) ⟨rfl, rfl⟩
  have hd2 := i_nle (a := 60) h7
  refine gg_iload_n K (i := 2) dL_areValuesSo_10 rfl rfl ?_
  refine gg_if_eq K (tgt := 185) dL_areValuesSo_11 (by decide) (fun h11 => ?_) (fun h11 => ?_)
  · exact absurd h11 (by decide)
  refine gg_aload_n K (i := 0) dL_areValuesSo_14 rfl rfl ?_
  refine gg_iconst K (v := 0) dL_areValuesSo_15 (by decide) ?_
  refine gg_iload_n K (i := 3) dL_areValuesSo_16 rfl rfl ?_
  refine gg_iload_n K (i := 1) dL_areValuesSo_17 rfl rfl ?_
  refine gg_callRX K k_L_X0_keys (n_keys ok 0 (by omega) rfl d hd2 rfl r hr0 rfl) dL_areValuesSo_18 rfl rfl rfl rfl ⟨rfl, rfl⟩ ?_
  refine gg_istore K dL_areValuesSo_21 (by decide) ?_
  refine gg_aload_n K (i := 0) dL_areValuesSo_23 rfl rfl ?_
  refine gg_iconst K (v := 1) dL_areValuesSo_24 (by decide) ?_
  refine gg_iload_n K (i := 3) dL_areValuesSo_25 rfl rfl ?_
  refine gg_iload_n K (i := 1) dL_areValuesSo_26 rfl rfl ?_
  refine gg_callRX K k_L_X0_keys (n_keys ok 1 (by omega) rfl d hd2 rfl r hr0 rfl) dL_areValuesSo_27 rfl rfl rfl rfl ⟨rfl, rfl⟩ ?_
  refine gg_istore K dL_areValuesSo_30 (by decide) ?_
  refine gg_iconst K (v := 0) dL_areValuesSo_32 (by decide) ?_
  refine gg_istore K dL_areValuesSo_33 (by decide) ?_
  refine gg_sub (L' := [(6, .int (nI 0)), (5, .int (kyF (fun i => vX k kp T r (1 * 8 + i) d) 8)), (4, .int (kyF (fun i => vX k kp T r (0 * 8 + i) d) 8)), (3, .int (nI d)), (2, .int 1), (0, .ref X.1), (1, .int (nI r))]) ⟨rfl, rfl, rfl, rfl, rfl, rfl, rfl, trivial⟩ ?_
  refine gg_loop (fun i w L => ∃ (j : Nat), j + i = 9 ∧ w = wX Z X k kp dr (nI T) ∧ j ≤ 8 ∧ L = [(6, .int (nI j)), (5, .int (kyF (fun i => vX k kp T r (1 * 8 + i) d) 8)), (4, .int (kyF (fun i => vX k kp T r (0 * 8 + i) d) 8)), (3, .int (nI d)), (2, .int 1), (0, .ref X.1), (1, .int (nI r))]) (fun w L h => ?_) (fun i w L h ih2 => ?_) 9 _ _ ⟨0, by omega, rfl, by omega, rfl⟩
  · obtain ⟨j, hj, -, h2, -⟩ := h
    omega
  obtain ⟨j, hj, rfl, hj1, rfl⟩ := h
  refine gg_iload K dL_areValuesSo_35 rfl ?_
  refine gg_bipush K (v := 8) dL_areValuesSo_37 (by decide) ?_
  refine gg_icmp_ge K (tgt := 179) dL_areValuesSo_39 (by decide) (fun h39 => ?_) (fun h39 => ?_)
  · refine gg_iinc K (v := nI (d + 1)) dL_areValuesSo_179 rfl (nI_inc (d)) (by decide) ?_
    refine gg_goto K (tgt := 4) dL_areValuesSo_182 (by decide) ?_
    refine gg_sub (L' := [(3, .int (nI (d + 1))), (2, .int 1), (0, .ref X.1), (1, .int (nI r))]) ⟨rfl, rfl, rfl, rfl, trivial⟩ ?_
    exact ih _ _ ⟨d + 1, by omega, rfl, by omega, rfl⟩
  have hj2 := i_nle (a := 8) h39
  refine gg_iload_n K (i := 2) dL_areValuesSo_42 rfl rfl ?_
  refine gg_if_eq K (tgt := 179) dL_areValuesSo_43 (by decide) (fun h43 => ?_) (fun h43 => ?_)
  · exact absurd h43 (by decide)
  refine gg_aload_n K (i := 0) dL_areValuesSo_46 rfl rfl ?_
  refine gg_iconst K (v := 0) dL_areValuesSo_47 (by decide) ?_
  refine gg_iload K dL_areValuesSo_48 rfl ?_
  refine gg_iload_n K (i := 3) dL_areValuesSo_50 rfl rfl ?_
  refine gg_iload_n K (i := 1) dL_areValuesSo_51 rfl rfl ?_
  refine gg_callRX K k_L_X0_value (n_value ok 0 j (by omega) hj2 rfl rfl d hd2 rfl r hr0 rfl) dL_areValuesSo_52 rfl rfl rfl rfl ⟨rfl, rfl⟩ ?_
  refine gg_istore K dL_areValuesSo_55 (by decide) ?_
  refine gg_aload_n K (i := 0) dL_areValuesSo_57 rfl rfl ?_
  refine gg_iconst K (v := 1) dL_areValuesSo_58 (by decide) ?_
  refine gg_iload K dL_areValuesSo_59 rfl ?_
  refine gg_iload_n K (i := 3) dL_areValuesSo_61 rfl rfl ?_
  refine gg_iload_n K (i := 1) dL_areValuesSo_62 rfl rfl ?_
  refine gg_callRX K k_L_X0_value (n_value ok 1 j (by omega) hj2 rfl rfl d hd2 rfl r hr0 rfl) dL_areValuesSo_63 rfl rfl rfl rfl ⟨rfl, rfl⟩ ?_
  refine gg_istore K dL_areValuesSo_66 (by decide) ?_
  refine gg_sub (L' := [(8, .int (vX k kp T r (1 * 8 + j) d)), (7, .int (vX k kp T r (0 * 8 + j) d)), (6, .int (nI j)), (5, .int (kyF (fun i => vX k kp T r (1 * 8 + i) d) 8)), (4, .int (kyF (fun i => vX k kp T r (0 * 8 + i) d) 8)), (3, .int (nI d)), (2, .int 1), (0, .ref X.1), (1, .int (nI r))]) ⟨rfl, rfl, rfl, rfl, rfl, rfl, rfl, rfl, rfl, trivial⟩ ?_
  have e0 := kyF_bit (fun i => vX k kp T r (0 * 8 + i) d) hj2
  have e1 := kyF_bit (fun i => vX k kp T r (1 * 8 + i) d) hj2
  have v0 : vX k kp T r (0 * 8 + j) d = -1 ∨ ∃ i, vX k kp T r (0 * 8 + j) d = nI i ∧ i < 100 := by
    rcases hi.1 r (0 * 8 + j) d hr0 (by omega) hd2 with z | ⟨i, z1, z2, -⟩
    · exact Or.inl z
    · exact Or.inr ⟨i, z1, z2⟩
  have v1 : vX k kp T r (1 * 8 + j) d = -1 ∨ ∃ i, vX k kp T r (1 * 8 + j) d = nI i ∧ i < 8 ∧ ¬ vX k kp T r (0 * 8 + i) d = -1 := by
    rcases hi.2 r j d hr0 hj2 hd2 with z | ⟨i, z1, z2, z3⟩
    · exact Or.inl z
    · exact Or.inr ⟨i, z1, z2, by rw [show 0 * 8 + i = i by omega]; exact z3⟩
  refine gg_iload K dL_areValuesSo_68 rfl ?_
  refine gg_iload K dL_areValuesSo_70 rfl ?_
  refine gg_ishr K dL_areValuesSo_72 ?_
  refine gg_iconst K (v := 1) dL_areValuesSo_73 (by decide) ?_
  refine gg_iand K dL_areValuesSo_74 ?_
  refine gg_iload K dL_areValuesSo_75 rfl ?_
  refine gg_cut 88 [(8, .int (vX k kp T r (1 * 8 + j) d)), (7, .int (vX k kp T r (0 * 8 + j) d)), (6, .int (nI j)), (5, .int (kyF (fun i => vX k kp T r (1 * 8 + i) d) 8)), (4, .int (kyF (fun i => vX k kp T r (0 * 8 + i) d) 8)), (3, .int (nI d)), (2, .int 1), (0, .ref X.1), (1, .int (nI r))] [] ?_ (fun k88 => ?_)
  rotate_left
  · rcases v0 with z | ⟨i, z, zi⟩
    · refine gg_if_ge K (tgt := 84) dL_areValuesSo_77 (by decide) (fun h77 => ?_) (fun h77 => ?_)
      · rw [z] at h77; exact absurd h77 neg_lt0
      refine gg_iconst K (v := 0) dL_areValuesSo_80 (by decide) ?_
      refine gg_goto K (tgt := 85) dL_areValuesSo_81 (by decide) ?_
      refine gg_icmp_ne K (tgt := 171) dL_areValuesSo_85 (by decide) (fun h85 => ?_) (fun h85 => ?_)
      · exact absurd (e0.trans (if_pos z)) h85
      exact k88
    · refine gg_if_ge K (tgt := 84) dL_areValuesSo_77 (by decide) (fun h77 => ?_) (fun h77 => ?_)
      · refine gg_iconst K (v := 1) dL_areValuesSo_84 (by decide) ?_
        refine gg_icmp_ne K (tgt := 171) dL_areValuesSo_85 (by decide) (fun h85 => ?_) (fun h85 => ?_)
        · exact absurd (e0.trans (if_neg (by rw [z]; exact nI_m1 (by omega)))) h85
        exact k88
      · rw [z] at h77; exact absurd (nI_pos' (by omega)) h77
  refine gg_iload K dL_areValuesSo_88 rfl ?_
  refine gg_iload K dL_areValuesSo_90 rfl ?_
  refine gg_ishr K dL_areValuesSo_92 ?_
  refine gg_iconst K (v := 1) dL_areValuesSo_93 (by decide) ?_
  refine gg_iand K dL_areValuesSo_94 ?_
  refine gg_iload K dL_areValuesSo_95 rfl ?_
  refine gg_cut 108 [(8, .int (vX k kp T r (1 * 8 + j) d)), (7, .int (vX k kp T r (0 * 8 + j) d)), (6, .int (nI j)), (5, .int (kyF (fun i => vX k kp T r (1 * 8 + i) d) 8)), (4, .int (kyF (fun i => vX k kp T r (0 * 8 + i) d) 8)), (3, .int (nI d)), (2, .int 1), (0, .ref X.1), (1, .int (nI r))] [] ?_ (fun k108 => ?_)
  rotate_left
  · rcases v1 with z | ⟨i, z, zi, -⟩
    · refine gg_if_ge K (tgt := 104) dL_areValuesSo_97 (by decide) (fun h97 => ?_) (fun h97 => ?_)
      · rw [z] at h97; exact absurd h97 neg_lt0
      refine gg_iconst K (v := 0) dL_areValuesSo_100 (by decide) ?_
      refine gg_goto K (tgt := 105) dL_areValuesSo_101 (by decide) ?_
      refine gg_icmp_ne K (tgt := 171) dL_areValuesSo_105 (by decide) (fun h105 => ?_) (fun h105 => ?_)
      · exact absurd (e1.trans (if_pos z)) h105
      exact k108
    · refine gg_if_ge K (tgt := 104) dL_areValuesSo_97 (by decide) (fun h97 => ?_) (fun h97 => ?_)
      · refine gg_iconst K (v := 1) dL_areValuesSo_104 (by decide) ?_
        refine gg_icmp_ne K (tgt := 171) dL_areValuesSo_105 (by decide) (fun h105 => ?_) (fun h105 => ?_)
        · exact absurd (e1.trans (if_neg (by rw [z]; exact nI_m1 (by omega)))) h105
        exact k108
      · rw [z] at h97; exact absurd (nI_pos' (by omega)) h97
  refine gg_iload K dL_areValuesSo_108 rfl ?_
  refine gg_bipush K (v := 99) dL_areValuesSo_110 (by decide) ?_
  refine gg_icmp_gt K (tgt := 171) dL_areValuesSo_112 (by decide) (fun h112 => ?_) (fun h112 => ?_)
  · rcases v0 with z | ⟨i, z, zi⟩
    · rw [z] at h112; exact absurd h112 (by decide)
    · rw [z] at h112; exact absurd h112 (nI_nlt (a := 99) (b := i) (by omega) (by omega))
  refine gg_iload K dL_areValuesSo_115 rfl ?_
  refine gg_bipush K (v := 7) dL_areValuesSo_117 (by decide) ?_
  refine gg_icmp_gt K (tgt := 171) dL_areValuesSo_119 (by decide) (fun h119 => ?_) (fun h119 => ?_)
  · rcases v1 with z | ⟨i, z, zi, -⟩
    · rw [z] at h119; exact absurd h119 (by decide)
    · rw [z] at h119; exact absurd h119 (nI_nlt (a := 7) (b := i) (by omega) (by omega))
  refine gg_cut 167 [(8, .int (vX k kp T r (1 * 8 + j) d)), (7, .int (vX k kp T r (0 * 8 + j) d)), (6, .int (nI j)), (5, .int (kyF (fun i => vX k kp T r (1 * 8 + i) d) 8)), (4, .int (kyF (fun i => vX k kp T r (0 * 8 + i) d) 8)), (3, .int (nI d)), (2, .int 1), (0, .ref X.1), (1, .int (nI r))] [] ?_ (fun k167 => ?_)
  · refine gg_iconst K (v := 1) dL_areValuesSo_167 (by decide) ?_
    refine gg_goto K (tgt := 172) dL_areValuesSo_168 (by decide) ?_
    refine gg_istore_n K (i := 2) dL_areValuesSo_172 rfl (by decide) ?_
    refine gg_iinc K (v := nI (j + 1)) dL_areValuesSo_173 rfl (nI_inc (j)) (by decide) ?_
    refine gg_goto K (tgt := 35) dL_areValuesSo_176 (by decide) ?_
    refine gg_sub (L' := [(6, .int (nI (j + 1))), (5, .int (kyF (fun i => vX k kp T r (1 * 8 + i) d) 8)), (4, .int (kyF (fun i => vX k kp T r (0 * 8 + i) d) 8)), (3, .int (nI d)), (2, .int 1), (0, .ref X.1), (1, .int (nI r))]) ⟨rfl, rfl, rfl, rfl, rfl, rfl, rfl, trivial⟩ ?_
    exact ih2 _ _ ⟨j + 1, by omega, rfl, by omega, rfl⟩
  rcases v1 with z | ⟨i, z, zi, zn⟩
  · refine gg_iload K dL_areValuesSo_122 rfl ?_
    refine gg_if_lt K (tgt := 138) dL_areValuesSo_124 (by decide) (fun h124 => ?_) (fun h124 => ?_)
    rotate_left
    · rw [z] at h124; exact absurd (show (-1 : Int32) < 0 by decide) h124
    refine gg_aload_n K (i := 0) dL_areValuesSo_138 rfl rfl ?_
    refine gg_iload K dL_areValuesSo_139 rfl ?_
    refine gg_iload_n K (i := 3) dL_areValuesSo_141 rfl rfl ?_
    refine gg_iload_n K (i := 1) dL_areValuesSo_142 rfl rfl ?_
    refine gg_callRX K k_L_X0_joined (n_joined ok hi.1 j hj2 rfl d hd2 rfl r hr0 rfl) dL_areValuesSo_143 rfl rfl rfl rfl ⟨rfl, rfl⟩ ?_
    refine gg_iload K dL_areValuesSo_146 rfl ?_
    refine gg_if_ge K (tgt := 155) dL_areValuesSo_148 (by decide) (fun h148 => ?_) (fun h148 => ?_)
    · rw [z] at h148; exact absurd h148 neg_lt0
    refine gg_iconst K (v := (-1)) dL_areValuesSo_151 (by decide) ?_
    refine gg_goto K (tgt := 164) dL_areValuesSo_152 (by decide) ?_
    refine gg_icmp_ne K (tgt := 171) dL_areValuesSo_164 (by decide) (fun h164 => ?_) (fun h164 => ?_)
    · exact absurd (show jnF (vX k kp T) r j d = -1 from if_pos z) h164
    exact k167
  · have ez : vX k kp T r (8 + j) d = nI i := z
    have hne : ¬ vX k kp T r (8 + j) d = -1 := by rw [ez]; exact nI_m1 (by omega)
    have e3 := kyF_bit (fun i => vX k kp T r (0 * 8 + i) d) zi
    refine gg_iload K dL_areValuesSo_122 rfl ?_
    refine gg_if_lt K (tgt := 138) dL_areValuesSo_124 (by decide) (fun h124 => ?_) (fun h124 => ?_)
    · rw [z] at h124; exact absurd h124 (nI_pos (by omega))
    refine gg_iload K dL_areValuesSo_127 rfl ?_
    refine gg_iload K dL_areValuesSo_129 rfl ?_
    refine gg_ishr K dL_areValuesSo_131 ?_
    refine gg_iconst K (v := 1) dL_areValuesSo_132 (by decide) ?_
    refine gg_iand K dL_areValuesSo_133 ?_
    refine gg_iconst K (v := 1) dL_areValuesSo_134 (by decide) ?_
    refine gg_cut 138 [(8, .int (vX k kp T r (1 * 8 + j) d)), (7, .int (vX k kp T r (0 * 8 + j) d)), (6, .int (nI j)), (5, .int (kyF (fun i => vX k kp T r (1 * 8 + i) d) 8)), (4, .int (kyF (fun i => vX k kp T r (0 * 8 + i) d) 8)), (3, .int (nI d)), (2, .int 1), (0, .ref X.1), (1, .int (nI r))] [] ?_ (fun k138 => ?_)
    rotate_left
    · refine gg_icmp_ne K (tgt := 171) dL_areValuesSo_135 (by decide) (fun h135 => ?_) (fun h135 => ?_)
      · rw [z] at h135; exact absurd (e3.trans (if_neg zn)) h135
      exact k138
    refine gg_aload_n K (i := 0) dL_areValuesSo_138 rfl rfl ?_
    refine gg_iload K dL_areValuesSo_139 rfl ?_
    refine gg_iload_n K (i := 3) dL_areValuesSo_141 rfl rfl ?_
    refine gg_iload_n K (i := 1) dL_areValuesSo_142 rfl rfl ?_
    refine gg_callRX K k_L_X0_joined (n_joined ok hi.1 j hj2 rfl d hd2 rfl r hr0 rfl) dL_areValuesSo_143 rfl rfl rfl rfl ⟨rfl, rfl⟩ ?_
    refine gg_iload K dL_areValuesSo_146 rfl ?_
    refine gg_if_ge K (tgt := 155) dL_areValuesSo_148 (by decide) (fun h148 => ?_) (fun h148 => ?_)
    rotate_left
    · rw [z] at h148; exact absurd (nI_pos' (by omega)) h148
    refine gg_aload_n K (i := 0) dL_areValuesSo_155 rfl rfl ?_
    refine gg_iconst K (v := 0) dL_areValuesSo_156 (by decide) ?_
    refine gg_iload K dL_areValuesSo_157 rfl ?_
    refine gg_iload_n K (i := 3) dL_areValuesSo_159 rfl rfl ?_
    refine gg_iload_n K (i := 1) dL_areValuesSo_160 rfl rfl ?_
    refine gg_callRX K k_L_X0_value (n_value ok 0 i (by omega) (by omega) rfl z d hd2 rfl r hr0 rfl) dL_areValuesSo_161 rfl rfl rfl rfl ⟨rfl, rfl⟩ ?_
    refine gg_icmp_ne K (tgt := 171) dL_areValuesSo_164 (by decide) (fun h164 => ?_) (fun h164 => ?_)
    · refine absurd ?_ h164
      rw [show jnF (vX k kp T) r j d = _ from if_neg hne, ez, nI_clamp (by omega), show 0 * 8 + i = i by omega]
    exact k167
theorem among_0 (f : Nat → Int32) (run : Int32) : ¬ amongR f run 0 := fun ⟨i, h, _⟩ => absurd h (by omega)
theorem among_s {f : Nat → Int32} {run : Int32} {j : Nat} : amongR f run (j + 1) ↔ amongR f run j ∨ runN f (kthD (stF f) j 60) = run := by
  constructor
  · rintro ⟨i, h1, h2⟩
    by_cases hi : i = j
    · exact Or.inr (by rw [← hi]; exact h2)
    · exact Or.inl ⟨i, by omega, h2⟩
  · rintro (⟨i, h1, h2⟩ | h)
    · exact ⟨i, by omega, h2⟩
    · exact ⟨j, by omega, h⟩
set_option maxRecDepth 100000 in
theorem c_hasRun {l : Launch} {Z : ZT} {X : XT} {k kp dr : Nat → Int32} {T : Nat} (ok : okX kp T) (t' y' : Nat) {t y : Int32} (a1 : t' < 2) (b1 : y' < 8) (a2 : t = nI t') (b2 : y = nI y') (r : Nat) {q run fr en : Int32} (hr0 : r ≤ T) (q2 : q = nI r) : mR l Z yL_hasRun cL_hasRun 9 (some .boolean) (rmk 10 240 0 0) (wX Z X k kp dr (nI T)) [.ref X.1, .int t, .int y, .int q, .int run, .int fr, .int en] (.int (bI (bP (fr ≤ nI r ∧ nI r < en ∧ amongR (vX k kp T r (t' * 8 + y')) run (fb_ct (stF (vX k kp T r (t' * 8 + y'))) 60))))) := by
  have hT9 := ok.1
  refine mA_intro (own := RL) [(0, .ref X.1), (1, .int t), (2, .int y), (3, .int q), (4, .int run), (5, .int fr), (6, .int en)] (by decide +kernel) rfl rfl rfl rfl ?_
  intro p e s m args below meth c A K hr hin
  subst q2
  have hfb := fb_ct_le (stF (vX k kp T r (t' * 8 + y'))) 60
  refine gg_iconst K (v := 0) dL_hasRun_0 (by decide) ?_
  refine gg_istore K dL_hasRun_1 (by decide) ?_
  refine gg_iconst K (v := 0) dL_hasRun_3 (by decide) ?_
  refine gg_istore K dL_hasRun_4 (by decide) ?_
  refine gg_sub (L' := [(8, .int (nI 0)), (7, .int 0), (0, .ref X.1), (1, .int t), (2, .int y), (3, .int (nI r)), (4, .int run), (5, .int fr), (6, .int en)]) ⟨rfl, rfl, rfl, rfl, rfl, rfl, rfl, rfl, rfl, trivial⟩ ?_
  refine gg_loop (fun i w L => ∃ (j : Nat), j + i = 62 ∧ w = wX Z X k kp dr (nI T) ∧ j ≤ fb_ct (stF (vX k kp T r (t' * 8 + y'))) 60 ∧ (0 < j → fr ≤ nI r ∧ nI r < en) ∧ L = [(8, .int (nI j)), (7, .int (bI (bP (amongR (vX k kp T r (t' * 8 + y')) run j)))), (0, .ref X.1), (1, .int t), (2, .int y), (3, .int (nI r)), (4, .int run), (5, .int fr), (6, .int en)]) (fun w L h => ?_) (fun i w L h ih => ?_) 62 _ _ ⟨0, by omega, rfl, by omega, fun z => absurd z (by omega), by rw [bP_f (among_0 _ _)]; rfl⟩
  · obtain ⟨j, hj, -, h2, -⟩ := h
    omega
  obtain ⟨j, hj, rfl, hj1, hc, rfl⟩ := h
  refine gg_iload K dL_hasRun_6 rfl ?_
  refine gg_aload_n K (i := 0) dL_hasRun_8 rfl rfl ?_
  refine gg_iload_n K (i := 1) dL_hasRun_9 rfl rfl ?_
  refine gg_iload_n K (i := 2) dL_hasRun_10 rfl rfl ?_
  refine gg_iload_n K (i := 3) dL_hasRun_11 rfl rfl ?_
  refine gg_callRX K k_L_X0_runs (n_runs ok t' y' a1 b1 a2 b2 r hr0 rfl) dL_hasRun_12 rfl rfl rfl rfl ⟨rfl, rfl⟩ ?_
  refine gg_icmp_ge K (tgt := 62) dL_hasRun_15 (by decide) (fun h15 => ?_) (fun h15 => ?_)
  · have hj2 := i_le h15
    refine gg_iload K dL_hasRun_62 rfl ?_
    refine gg_zret K hr dL_hasRun_64 (bI_01 _) (Nat.le_of_ble_eq_true rfl) (Nat.le_of_ble_eq_true rfl) ⟨some_int ?_, rfl⟩
    rw [show j = fb_ct (stF (vX k kp T r (t' * 8 + y'))) 60 by omega]
    by_cases ha : amongR (vX k kp T r (t' * 8 + y')) run (fb_ct (stF (vX k kp T r (t' * 8 + y'))) 60)
    · have h0 : 0 < j := by
        obtain ⟨i9, w1, -⟩ := ha
        omega
      rw [bP_t ha, bP_t ⟨(hc h0).1, (hc h0).2, ha⟩]
    · rw [bP_f ha, bP_f (fun z => ha z.2.2)]
  have hj2 := i_nle h15
  refine gg_iload_n K (i := 3) dL_hasRun_18 rfl rfl ?_
  refine gg_iload K dL_hasRun_19 rfl ?_
  refine gg_icmp_lt K (tgt := 62) dL_hasRun_21 (by decide) (fun h21 => ?_) (fun h21 => ?_)
  · have hlt : ¬ fr ≤ nI r := by
      rw [Int32.lt_iff_toInt_lt] at h21
      rw [Int32.le_iff_toInt_le]
      omega
    have h0 : j = 0 := Nat.eq_zero_of_not_pos (fun z => hlt (hc z).1)
    refine gg_iload K dL_hasRun_62 rfl ?_
    subst h0
    refine gg_zret K hr dL_hasRun_64 (bI_01 _) (Nat.le_of_ble_eq_true rfl) (Nat.le_of_ble_eq_true rfl) ⟨some_int ?_, rfl⟩
    rw [bP_f (among_0 _ _), bP_f (fun z => hlt z.1)]
  have hfr : fr ≤ nI r := by
    rw [Int32.lt_iff_toInt_lt] at h21
    rw [Int32.le_iff_toInt_le]
    omega
  refine gg_iload_n K (i := 3) dL_hasRun_24 rfl rfl ?_
  refine gg_iload K dL_hasRun_25 rfl ?_
  refine gg_icmp_ge K (tgt := 62) dL_hasRun_27 (by decide) (fun h27 => ?_) (fun h27 => ?_)
  · have hlt : ¬ nI r < en := by
      rw [Int32.le_iff_toInt_le] at h27
      rw [Int32.lt_iff_toInt_lt]
      omega
    have h0 : j = 0 := Nat.eq_zero_of_not_pos (fun z => hlt (hc z).2)
    refine gg_iload K dL_hasRun_62 rfl ?_
    subst h0
    refine gg_zret K hr dL_hasRun_64 (bI_01 _) (Nat.le_of_ble_eq_true rfl) (Nat.le_of_ble_eq_true rfl) ⟨some_int ?_, rfl⟩
    rw [bP_f (among_0 _ _), bP_f (fun z => hlt z.2.1)]
  have hen : nI r < en := by
    rw [Int32.le_iff_toInt_le] at h27
    rw [Int32.lt_iff_toInt_lt]
    omega
  refine gg_cut 54 [(8, .int (nI j)), (7, .int (bI (bP (amongR (vX k kp T r (t' * 8 + y')) run j)))), (0, .ref X.1), (1, .int t), (2, .int y), (3, .int (nI r)), (4, .int run), (5, .int fr), (6, .int en)] [.int (bI (bP (amongR (vX k kp T r (t' * 8 + y')) run (j + 1))))] ?_ (fun k54 => ?_)
  · refine gg_istore K dL_hasRun_54 (by decide) ?_
    refine gg_iinc K (v := nI (j + 1)) dL_hasRun_56 rfl (nI_inc (j)) (by decide) ?_
    refine gg_goto K (tgt := 6) dL_hasRun_59 (by decide) ?_
    refine gg_sub (L' := [(8, .int (nI (j + 1))), (7, .int (bI (bP (amongR (vX k kp T r (t' * 8 + y')) run (j + 1))))), (0, .ref X.1), (1, .int t), (2, .int y), (3, .int (nI r)), (4, .int run), (5, .int fr), (6, .int en)]) ⟨rfl, rfl, rfl, rfl, rfl, rfl, rfl, rfl, rfl, trivial⟩ ?_
    exact ih _ _ ⟨j + 1, by omega, rfl, by omega, fun _ => ⟨hfr, hen⟩, rfl⟩
  refine gg_iload K dL_hasRun_30 rfl ?_
  refine gg_b_ne K (tgt := 49) dL_hasRun_32 (by decide) (fun h32 => ?_) (fun h32 => ?_)
  · refine gg_iconst K (v := 1) dL_hasRun_49 (by decide) ?_
    refine gg_goto K (tgt := 54) dL_hasRun_50 (by decide) ?_
    rw [bP_t (among_s.mpr (Or.inl (bP_iff.mp h32)))] at k54
    exact k54
  refine gg_aload_n K (i := 0) dL_hasRun_35 rfl rfl ?_
  refine gg_iload_n K (i := 1) dL_hasRun_36 rfl rfl ?_
  refine gg_iload_n K (i := 2) dL_hasRun_37 rfl rfl ?_
  refine gg_iload_n K (i := 3) dL_hasRun_38 rfl rfl ?_
  refine gg_iload K dL_hasRun_39 rfl ?_
  refine gg_callRX K k_L_X0_run (n_run ok t' y' a1 b1 a2 b2 r hr0 rfl j hj2 rfl) dL_hasRun_41 rfl rfl rfl rfl ⟨rfl, rfl⟩ ?_
  refine gg_iload K dL_hasRun_44 rfl ?_
  refine gg_icmp_ne K (tgt := 53) dL_hasRun_46 (by decide) (fun h46 => ?_) (fun h46 => ?_)
  · refine gg_iconst K (v := 0) dL_hasRun_53 (by decide) ?_
    rw [bP_f (fun z => (among_s.mp z).elim (bP_nf h32) h46)] at k54
    exact k54
  refine gg_iconst K (v := 1) dL_hasRun_49 (by decide) ?_
  refine gg_goto K (tgt := 54) dL_hasRun_50 (by decide) ?_
  rw [bP_t (among_s.mpr (Or.inr h46))] at k54
  exact k54
end
section
/-! the law's questions of one object: averages and rows that may throw; areRunsSo -/
/-- the same table, however it is held -/
def sameW (Z : ZT) (X : XT) (V : VT) (T : Nat) (v : Value) : Option Value → va_W → Prop := fun ret u => ∃ k' kp' dr' : Nat → Int32, ret = some v ∧ u = wX Z X k' kp' dr' (nI T) ∧ okX kp' T ∧ vX k' kp' T = V
noncomputable def avO (f : Nat → Int32) : UInt32 := if ctV f 60 = 0 then 3212836864 else avF f (ctV f 60)
set_option maxRecDepth 100000 in
theorem c_average {l : Launch} {Z : ZT} {X : XT} {k kp dr : Nat → Int32} {T : Nat} (hl0 : l.stackTraces = false) (ok : okX kp T) (hv : valOk (vX k kp T) T) (y' r : Nat) {y q : Int32} (b1 : y' < 8) (b2 : y = nI y') (q1 : r ≤ T) (q2 : q = nI r) : mX l Z.1 (ty3 Z) yL_average (Cond.codeWith yL_average cL_average 4 (some .float) [(0, 6, 7, 34)]) (rmk 10 250 8 48) (wX Z X k kp dr (nI T)) [.ref X.1, .int y, .int q] (sameW Z X (vX k kp T) T (.float (avO (vX k kp T r y')))) (fun _ _ => False) := by
  have hT9 := ok.1
  refine mH_intro (own := RL) [(0, .ref X.1), (1, .int y), (2, .int q)] (by decide +kernel) rfl rfl rfl rfl ?_
  intro p e s m args below meth c A K hr T9 htab
  subst b2 q2
  have p1 : inR (nI y') 8 ∧ inR (nI r) 60 := ⟨inR_of (b := 8) b1, inR_of (b := 60) (by omega)⟩
  have p2 : nI r ≤ nI T := nI_le q1 (by omega)
  have n1 : nN (nI r) = r := nI_clamp (by omega)
  have n2 : nN (nI y') = y' := nI_clamp (by omega)
  refine gg_aload_n K (i := 0) dL_average_0 rfl rfl ?_
  refine gg_iload_n K (i := 1) dL_average_1 rfl rfl ?_
  refine gg_iload_n K (i := 2) dL_average_2 rfl rfl ?_
  refine gg_callJX (wr := []) [0, 1, 2, 3] [] rfl rfl rfl K T9 k_L_X0_average (x_average hl0 ok hv) 0 (ci := 0) (N := 4) (T := TX0) rfl rfl dL_average_3 rfl rfl rfl rfl (fun E u h => ?_) (fun v u h => ?_)
  · obtain ⟨c9, k', kp', dr', T', hm, rfl, ok', e1, e2, hS⟩ := h
    have e2 := e2.symm
    subst e2
    simp only [cABS, List.mem_cons, List.not_mem_nil, or_false, Prod.mk.injEq] at hm
    rcases hS with ⟨z, -⟩ | ⟨-, z, -⟩ | ⟨-, -, z, hc⟩ | ⟨-, -, -, hc, -⟩
    · exact absurd p1 z
    · exact absurd p2 z
    · rcases hm with ⟨rfl, rfl⟩ | ⟨rfl, rfl⟩ | ⟨rfl, rfl⟩
      · exact absurd hc (by decide)
      · exact absurd hc (by decide)
      · refine gx_catch K T9 htab [] ⟨0, 6, 7, 34⟩ [] rfl (fun _ h => absurd h List.not_mem_nil) (by decide) (by decide) wd_31 (List.mem_of_getElem? (i := 1) rfl) (fun q9 => ?_)
        refine gg_astore_n K (i := 3) dL_average_7 rfl (by decide) ?_
        refine gg_ldcf K wd_194 dL_average_8 ?_
        rw [n1, n2] at z
        exact gg_x (gg_fret K hr dL_average_10 (Nat.le_of_ble_eq_true rfl) (Nat.le_of_ble_eq_true rfl) ⟨k', kp', dr', by rw [show avO (vX k kp T r y') = _ from if_pos z], rfl, ok', e1⟩)
    · rcases hm with ⟨rfl, rfl⟩ | ⟨rfl, rfl⟩ | ⟨rfl, rfl⟩ <;> exact absurd hc (by decide)
  obtain ⟨r9, k', kp', dr', T', rfl, rfl, ok', e1, e2, hS⟩ := h
  have e2 := e2.symm
  subst e2
  rcases hS with ⟨-, z⟩ | ⟨-, -, z⟩ | ⟨-, -, -, z⟩ | ⟨-, -, z, -, rfl⟩
  · exact absurd z (by decide)
  · exact absurd z (by decide)
  · exact absurd z (by decide)
  rw [n1, n2] at z ⊢
  exact gg_x (gg_fret K hr dL_average_6 (Nat.le_of_ble_eq_true rfl) (Nat.le_of_ble_eq_true rfl) ⟨k', kp', dr', by rw [show avO (vX k kp T r y') = _ from if_neg z], rfl, ok', e1⟩)
set_option maxRecDepth 100000 in
theorem c_noRow {l : Launch} {Z : ZT} {X : XT} {k kp dr : Nat → Int32} {T : Nat} (hl0 : l.stackTraces = false) (ok : okX kp T) (t' y' : Nat) {t y w9 : Int32} (a1 : t' < 2) (b1 : y' < 8) (a2 : t = nI t') (b2 : y = nI y') (hw : ∀ j, j < fb_ct (rwF (vX k kp T) (t' * 8 + y')) (60 * (T + 1)) → ¬ w9 = nI j) : mX l Z.1 (ty3 Z) yL_rowRun (Cond.codeWith yL_rowRun cL_rowRun 5 (some .int) [(0, 7, 8, 32)]) (rmk 10 250 8 48) (wX Z X k kp dr (nI T)) [.ref X.1, .int t, .int y, .int w9] (sameW Z X (vX k kp T) T (.int (-99999))) (fun _ _ => False) := by
  have hT9 := ok.1
  refine mH_intro (own := RL) [(0, .ref X.1), (1, .int t), (2, .int y), (3, .int w9)] (by decide +kernel) rfl rfl rfl rfl ?_
  intro p e s m args below meth c A K hr T9 htab
  subst a2 b2
  have p1 : inR (nI t') 2 ∧ inR (nI y') 8 := ⟨inR_of (b := 2) a1, inR_of (b := 8) b1⟩
  have n1 : nN (nI t') = t' := nI_clamp (by omega)
  have n2 : nN (nI y') = y' := nI_clamp (by omega)
  refine gg_aload_n K (i := 0) dL_rowRun_0 rfl rfl ?_
  refine gg_iload_n K (i := 1) dL_rowRun_1 rfl rfl ?_
  refine gg_iload_n K (i := 2) dL_rowRun_2 rfl rfl ?_
  refine gg_iload_n K (i := 3) dL_rowRun_3 rfl rfl ?_
  refine gg_callJX (wr := []) [0, 1, 2, 3] [] rfl rfl rfl K T9 k_L_X0_rowRun (x_rowRun hl0 ok) 0 (ci := 0) (N := 4) (T := TX0) rfl rfl dL_rowRun_4 rfl rfl rfl rfl (fun E u h => ?_) (fun v u h => ?_)
  · obtain ⟨c9, k', kp', dr', T', hm, rfl, ok', e1, e2, hS⟩ := h
    have e2 := e2.symm
    subst e2
    simp only [cAB, List.mem_cons, List.not_mem_nil, or_false, Prod.mk.injEq] at hm
    rcases hS with ⟨z, -⟩ | ⟨-, -, hc⟩ | ⟨-, -, hc, -⟩
    · exact absurd p1 z
    · rcases hm with ⟨rfl, rfl⟩ | ⟨rfl, rfl⟩
      · exact absurd hc (by decide)
      · refine gx_catch K T9 htab [] ⟨0, 7, 8, 32⟩ [] rfl (fun _ h => absurd h List.not_mem_nil) (by decide) (by decide) wd_30 (List.mem_of_getElem? (i := 2) rfl) (fun q9 => ?_)
        refine gg_astore K dL_rowRun_8 (by decide) ?_
        refine gg_ldc K wd_3 dL_rowRun_10 ?_
        exact gg_x (gg_iret K hr dL_rowRun_12 (Nat.le_of_ble_eq_true rfl) (Nat.le_of_ble_eq_true rfl) ⟨k', kp', dr', rfl, rfl, ok', e1⟩)
    · rcases hm with ⟨rfl, rfl⟩ | ⟨rfl, rfl⟩ <;> exact absurd hc (by decide)
  obtain ⟨r9, k', kp', dr', T', rfl, rfl, ok', e1, e2, hS⟩ := h
  rcases hS with ⟨-, z⟩ | ⟨-, -, z⟩ | ⟨-, ⟨j, j1, j2⟩, -, -⟩
  · exact absurd z (by decide)
  · exact absurd z (by decide)
  rw [n1, n2] at j1
  exact absurd j2 (hw j j1)
set_option maxRecDepth 100000 in
theorem c_runs {l : Launch} {Z : ZT} {X : XT} {k kp dr : Nat → Int32} {T : Nat} (hl0 : l.stackTraces = false) (ok : okX kp T) (hv : valOk (vX k kp T) T) (t' y' r : Nat) {t y q : Int32} (a1 : t' < 2) (b1 : y' < 8) (a2 : t = nI t') (b2 : y = nI y') (q1 : r ≤ T) (q2 : q = nI r) : mX l Z.1 (ty3 Z) yL_areRunsSo (.code yL_areRunsSo cL_areRunsSo 14 (some .boolean)) (rmk 11 300 8 48) (wX Z X k kp dr (nI T)) [.ref X.1, .int t, .int y, .int q] (sameW Z X (vX k kp T) T (.int 1)) (fun _ _ => False) := by
  have hT9 := ok.1
  have hF : okF (vX k kp T r (t' * 8 + y')) := okF_of hv q1 (by omega)
  have hfb := fb_ct_le (stF (vX k kp T r (t' * 8 + y'))) 60
  refine mX_intro (own := RL) [(0, .ref X.1), (1, .int t), (2, .int y), (3, .int q)] (by decide +kernel) rfl rfl rfl rfl ?_
  intro p e s m args below meth c A K hr T9 htab
  subst a2 b2 q2
  refine gg_iconst K (v := 0) dL_areRunsSo_0 (by decide) ?_
  refine gg_istore K dL_areRunsSo_1 (by decide) ?_
  refine gg_iconst K (v := (-1)) dL_areRunsSo_3 (by decide) ?_
  refine gg_istore K dL_areRunsSo_4 (by decide) ?_
  refine gg_iconst K (v := 0) dL_areRunsSo_6 (by decide) ?_
  refine gg_istore K dL_areRunsSo_7 (by decide) ?_
  refine gg_iconst K (v := 0) dL_areRunsSo_9 (by decide) ?_
  refine gg_istore K dL_areRunsSo_10 (by decide) ?_
  refine gg_iconst K (v := 0) dL_areRunsSo_12 (by decide) ?_
  refine gg_istore K dL_areRunsSo_13 (by decide) ?_
  refine gg_iconst K (v := 1) dL_areRunsSo_15 (by decide) ?_
  refine gg_istore K dL_areRunsSo_16 (by decide) ?_
  refine gg_iconst K (v := 0) dL_areRunsSo_18 (by decide) ?_
  refine gg_istore K dL_areRunsSo_19 (by decide) ?_
  refine gg_sub (L' := [(10, .int (nI 0)), (9, .int 1), (8, .int (smV (vX k kp T r (t' * 8 + y')) 0)), (7, .int (nI (ctV (vX k kp T r (t' * 8 + y')) 0))), (6, .int (nI (lgF (vX k kp T r (t' * 8 + y')) 0))), (5, .int ((-1))), (4, .int (nI 0)), (0, .ref X.1), (1, .int (nI t')), (2, .int (nI y')), (3, .int (nI r))]) ⟨rfl, rfl, rfl, rfl, rfl, rfl, rfl, rfl, rfl, rfl, rfl, trivial⟩ ?_
  refine gg_loop (fun i w L => ∃ (j en : Nat) (val : Int32), j + i = 62 ∧ w = wX Z X k kp dr (nI T) ∧ j ≤ fb_ct (stF (vX k kp T r (t' * 8 + y'))) 60 ∧ atR (vX k kp T r (t' * 8 + y')) j en ∧ (¬ j = 0 → val = (vX k kp T r (t' * 8 + y')) (en - 1)) ∧ L = [(10, .int (nI j)), (9, .int 1), (8, .int (smV (vX k kp T r (t' * 8 + y')) en)), (7, .int (nI (ctV (vX k kp T r (t' * 8 + y')) en))), (6, .int (nI (lgF (vX k kp T r (t' * 8 + y')) en))), (5, .int val), (4, .int (nI en)), (0, .ref X.1), (1, .int (nI t')), (2, .int (nI y')), (3, .int (nI r))]) (fun w L h => ?_) (fun i w L h ih => ?_) 62 _ _ ⟨0, 0, -1, by omega, rfl, by omega, atR_0 _, fun z => absurd rfl z, rfl⟩
  · obtain ⟨j, en, val, hj, -, h2, -⟩ := h
    omega
  obtain ⟨j, en, val, hj, rfl, hj1, hat, hval, rfl⟩ := h
  have hen := hat.1
  refine gg_iload K dL_areRunsSo_21 rfl ?_
  refine gg_aload_n K (i := 0) dL_areRunsSo_23 rfl rfl ?_
  refine gg_iload_n K (i := 1) dL_areRunsSo_24 rfl rfl ?_
  refine gg_iload_n K (i := 2) dL_areRunsSo_25 rfl rfl ?_
  refine gg_iload_n K (i := 3) dL_areRunsSo_26 rfl rfl ?_
  refine gg_callRX K k_L_X0_runs (n_runs ok t' y' a1 b1 rfl rfl r q1 rfl) dL_areRunsSo_27 rfl rfl rfl rfl ⟨rfl, rfl⟩ ?_
  refine gg_icmp_ge K (tgt := 240) dL_areRunsSo_30 (by decide) (fun h30 => ?_) (fun h30 => ?_)
  · have hj2 := i_le h30
    obtain ⟨g1, g2, g3, g4⟩ := atR_end hat hj2
    have hct : ctV (vX k kp T r (t' * 8 + y')) 60 ≤ 60 := fb_ct_le _ 60
    have hcte : ctV (vX k kp T r (t' * 8 + y')) en ≤ en := fb_ct_le _ en
    refine gg_iload K dL_areRunsSo_240 rfl ?_
    refine gg_if_eq K (tgt := 281) dL_areRunsSo_242 (by decide) (fun h242 => ?_) (fun h242 => ?_)
    · exact absurd h242 (by decide)
    refine gg_aload_n K (i := 0) dL_areRunsSo_245 rfl rfl ?_
    refine gg_iload_n K (i := 1) dL_areRunsSo_246 rfl rfl ?_
    refine gg_iload_n K (i := 2) dL_areRunsSo_247 rfl rfl ?_
    refine gg_iload_n K (i := 3) dL_areRunsSo_248 rfl rfl ?_
    refine gg_callRX K k_L_X0_longest (n_longest ok t' y' a1 b1 rfl rfl r q1 rfl) dL_areRunsSo_249 rfl rfl rfl rfl ⟨rfl, rfl⟩ ?_
    refine gg_iload K dL_areRunsSo_252 rfl ?_
    refine gg_icmp_ne K (tgt := 281) dL_areRunsSo_254 (by decide) (fun h254 => ?_) (fun h254 => ?_)
    · exact absurd (congrArg nI g2) h254
    refine gg_cut 277 [(10, .int (nI j)), (9, .int 1), (8, .int (smV (vX k kp T r (t' * 8 + y')) en)), (7, .int (nI (ctV (vX k kp T r (t' * 8 + y')) en))), (6, .int (nI (lgF (vX k kp T r (t' * 8 + y')) en))), (5, .int val), (4, .int (nI en)), (0, .ref X.1), (1, .int (nI t')), (2, .int (nI y')), (3, .int (nI r))] [] ?_ (fun k277 => ?_)
    rotate_left
    · refine gg_iload K dL_areRunsSo_257 rfl ?_
      refine gg_bipush K (v := 60) dL_areRunsSo_259 (by decide) ?_
      refine gg_icmp_eq K (tgt := 277) dL_areRunsSo_261 (by decide) (fun h261 => ?_) (fun h261 => ?_)
      · exact k277
      rcases g1 with z | z
      · exact absurd (by rw [z]; rfl) h261
      have hen2 : en < 60 := by
        apply Nat.not_le.mp
        intro z2
        exact h261 (by rw [show en = 60 by omega]; rfl)
      refine gg_aload_n K (i := 0) dL_areRunsSo_264 rfl rfl ?_
      refine gg_iload_n K (i := 1) dL_areRunsSo_265 rfl rfl ?_
      refine gg_iload_n K (i := 2) dL_areRunsSo_266 rfl rfl ?_
      refine gg_iload K dL_areRunsSo_267 rfl ?_
      refine gg_iload_n K (i := 3) dL_areRunsSo_269 rfl rfl ?_
      refine gg_callRX K k_L_X0_value (n_value ok t' y' a1 b1 rfl rfl en hen2 rfl r q1 rfl) dL_areRunsSo_270 rfl rfl rfl rfl ⟨rfl, rfl⟩ ?_
      refine gg_iconst K (v := (-1)) dL_areRunsSo_273 (by decide) ?_
      refine gg_icmp_ne K (tgt := 281) dL_areRunsSo_274 (by decide) (fun h274 => ?_) (fun h274 => ?_)
      · exact absurd z h274
      exact k277
    refine gg_iconst K (v := 1) dL_areRunsSo_277 (by decide) ?_
    refine gg_goto K (tgt := 282) dL_areRunsSo_278 (by decide) ?_
    refine gg_istore K dL_areRunsSo_282 (by decide) ?_
    refine gg_iload K dL_areRunsSo_284 rfl ?_
    refine gg_if_eq K (tgt := 344) dL_areRunsSo_286 (by decide) (fun h286 => ?_) (fun h286 => ?_)
    · exact absurd h286 (by decide)
    refine gg_iload_n K (i := 1) dL_areRunsSo_289 rfl rfl ?_
    refine gg_iconst K (v := 1) dL_areRunsSo_290 (by decide) ?_
    refine gg_icmp_ne K (tgt := 313) dL_areRunsSo_291 (by decide) (fun h291 => ?_) (fun h291 => ?_)
    · have ht0 : t' = 0 := by
        have : ¬ t' = 1 := fun z => h291 (by rw [z]; rfl)
        omega
      subst ht0
      refine gg_aload_n K (i := 0) dL_areRunsSo_313 rfl rfl ?_
      refine gg_iload_n K (i := 2) dL_areRunsSo_314 rfl rfl ?_
      refine gg_iload_n K (i := 3) dL_areRunsSo_315 rfl rfl ?_
      refine gg_callJH (wc := wX Z X k kp dr (nI T)) (wr := []) [0, 1, 2, 3] [] rfl rfl rfl K T9 k_L_L_average (c_average hl0 ok hv y' r b1 rfl q1 rfl) dL_areRunsSo_316 rfl rfl rfl rfl (fun v u h => ?_)
      obtain ⟨k', kp', dr', rfl, rfl, ok', e'⟩ := h
      have e0 : vX k kp T r y' = vX k kp T r (0 * 8 + y') := by rw [show 0 * 8 + y' = y' by omega]
      rw [e0]
      refine gg_iload K dL_areRunsSo_319 rfl ?_
      refine gg_if_ne K (tgt := 329) dL_areRunsSo_321 (by decide) (fun h321 => ?_) (fun h321 => ?_)
      · have hc : ¬ ctV (vX k kp T r (0 * 8 + y')) 60 = 0 := fun z => by
          have z2 : ctV (vX k kp T r (0 * 8 + y')) en = 0 := g3.symm.trans z
          exact h321 (by rw [z2]; rfl)
        have hnum := avF_num (f := vX k kp T r (0 * 8 + y')) hF (Nat.pos_of_ne_zero hc) hct
        refine gg_top_f (x := avO (vX k kp T r (0 * 8 + y'))) (show avO (vX k kp T r (0 * 8 + y')) = avF (vX k kp T r (0 * 8 + y')) (ctV (vX k kp T r (0 * 8 + y')) 60) from if_neg hc) ?_
        refine gg_iload K dL_areRunsSo_329 rfl ?_
        refine gg_i2f K dL_areRunsSo_331 ?_
        refine gg_iload K dL_areRunsSo_332 rfl ?_
        refine gg_i2f K dL_areRunsSo_334 ?_
        refine gg_fdiv K dL_areRunsSo_335 (vf_n32_of (by rw [← g3, ← g4]; exact hnum)) ?_
        refine gg_fcmp K dL_areRunsSo_336 ?_
        refine gg_if_ne K (tgt := 344) dL_areRunsSo_337 (by decide) (fun h337 => ?_) (fun h337 => ?_)
        · refine absurd ?_ h337
          rw [← g3, ← g4]
          rw [show FP.fcmp (avF (vX k kp T r (0 * 8 + y')) (ctV (vX k kp T r (0 * 8 + y')) 60)) (FP.fdiv (FP.i2f (smV (vX k kp T r (0 * 8 + y')) 60)) (FP.i2f (nI (ctV (vX k kp T r (0 * 8 + y')) 60)))) = some .eq from FP.Core.fcmp_self hnum]
          rfl
        refine gg_iconst K (v := 1) dL_areRunsSo_340 (by decide) ?_
        refine gg_goto K (tgt := 345) dL_areRunsSo_341 (by decide) ?_
        exact gg_x (gg_zret K hr dL_areRunsSo_345 (Or.inr rfl) (Nat.le_of_ble_eq_true rfl) (Nat.le_of_ble_eq_true rfl) ⟨k', kp', dr', rfl, rfl, ok', e'⟩)
      · have hc : ctV (vX k kp T r (0 * 8 + y')) 60 = 0 := g3.trans (i_eq (b := 0) h321)
        refine gg_top_f (x := avO (vX k kp T r (0 * 8 + y'))) (show avO (vX k kp T r (0 * 8 + y')) = 3212836864 from if_pos hc) ?_
        refine gg_ldcf K wd_194 dL_areRunsSo_324 ?_
        refine gg_goto K (tgt := 336) dL_areRunsSo_326 (by decide) ?_
        refine gg_fcmp K dL_areRunsSo_336 ?_
        refine gg_if_ne K (tgt := 344) dL_areRunsSo_337 (by decide) (fun h337 => ?_) (fun h337 => ?_)
        · exact absurd (by decide +kernel) h337
        refine gg_iconst K (v := 1) dL_areRunsSo_340 (by decide) ?_
        refine gg_goto K (tgt := 345) dL_areRunsSo_341 (by decide) ?_
        exact gg_x (gg_zret K hr dL_areRunsSo_345 (Or.inr rfl) (Nat.le_of_ble_eq_true rfl) (Nat.le_of_ble_eq_true rfl) ⟨k', kp', dr', rfl, rfl, ok', e'⟩)
    · have ht1 : t' = 1 := i_eq (b := 1) h291
      subst ht1
      refine gg_aload_n K (i := 0) dL_areRunsSo_294 rfl rfl ?_
      refine gg_iload_n K (i := 2) dL_areRunsSo_295 rfl rfl ?_
      refine gg_iload_n K (i := 3) dL_areRunsSo_296 rfl rfl ?_
      refine gg_callRX K k_L_X0_joinedRuns (n_joinedRuns ok hv y' b1 rfl r q1 rfl) dL_areRunsSo_297 rfl rfl rfl rfl ⟨rfl, rfl⟩ ?_
      refine gg_aload_n K (i := 0) dL_areRunsSo_300 rfl rfl ?_
      refine gg_iconst K (v := 1) dL_areRunsSo_301 (by decide) ?_
      refine gg_iload_n K (i := 2) dL_areRunsSo_302 rfl rfl ?_
      refine gg_iload_n K (i := 3) dL_areRunsSo_303 rfl rfl ?_
      refine gg_callRX K k_L_X0_runs (n_runs ok 1 y' a1 b1 rfl rfl r q1 rfl) dL_areRunsSo_304 rfl rfl rfl rfl ⟨rfl, rfl⟩ ?_
      have hjb := fb_ct_le (jsF (vX k kp T) r y') 60
      refine gg_icmp_lt K (tgt := 344) dL_areRunsSo_307 (by decide) (fun h307 => ?_) (fun h307 => ?_)
      · exact absurd h307 (nI_nlt (joined_ge (V := vX k kp T) (r := r) (y := y')) (by omega))
      refine gg_goto K (tgt := 340) dL_areRunsSo_310 (by decide) ?_
      refine gg_iconst K (v := 1) dL_areRunsSo_340 (by decide) ?_
      refine gg_goto K (tgt := 345) dL_areRunsSo_341 (by decide) ?_
      exact gg_x (gg_zret K hr dL_areRunsSo_345 (Or.inr rfl) (Nat.le_of_ble_eq_true rfl) (Nat.le_of_ble_eq_true rfl) ⟨k, kp, dr, rfl, rfl, ok, rfl⟩)
  have hj2 := i_nle h30
  obtain ⟨d, v9, hs, hd, hle, hfv, hv9, hlt, he6, hlast, hgap, hnew, hat', hlg, hct, hsm⟩ := atR_next hF hat hj2
  have hcle := fb_ct_le (fun d => bP (¬ (vX k kp T r (t' * 8 + y')) d = -1)) en
  have hlgle := lgF_le (vX k kp T r (t' * 8 + y')) (n := en) hen
  refine gg_iload K dL_areRunsSo_33 rfl ?_
  refine gg_if_eq K (tgt := 240) dL_areRunsSo_35 (by decide) (fun h35 => ?_) (fun h35 => ?_)
  · exact absurd h35 (by decide)
  refine gg_aload_n K (i := 0) dL_areRunsSo_38 rfl rfl ?_
  refine gg_iload_n K (i := 1) dL_areRunsSo_39 rfl rfl ?_
  refine gg_iload_n K (i := 2) dL_areRunsSo_40 rfl rfl ?_
  refine gg_iload_n K (i := 3) dL_areRunsSo_41 rfl rfl ?_
  refine gg_iload K dL_areRunsSo_42 rfl ?_
  refine gg_callRX K k_L_X0_run (n_run ok t' y' a1 b1 rfl rfl r q1 rfl j hj2 rfl) dL_areRunsSo_44 rfl rfl rfl rfl ⟨rfl, rfl⟩ ?_
  rw [hs]
  refine gg_top (runN_nI hfv) ?_
  refine gg_istore K dL_areRunsSo_47 (by decide) ?_
  refine gg_iload K dL_areRunsSo_49 rfl ?_
  refine gg_sipush K (v := 10000) dL_areRunsSo_51 (by decide) ?_
  refine gg_idiv K dL_areRunsSo_54 (by decide) ?_
  refine gg_top (run_from hd he6 hv9) ?_
  refine gg_istore K dL_areRunsSo_55 (by decide) ?_
  refine gg_iload K dL_areRunsSo_57 rfl ?_
  refine gg_bipush K (v := 100) dL_areRunsSo_59 (by decide) ?_
  refine gg_idiv K dL_areRunsSo_61 (by decide) ?_
  refine gg_bipush K (v := 100) dL_areRunsSo_62 (by decide) ?_
  refine gg_irem K dL_areRunsSo_64 (by decide) ?_
  refine gg_top (run_to hd he6 hv9) ?_
  refine gg_istore K dL_areRunsSo_65 (by decide) ?_
  refine gg_sub (L' := [(13, .int (nI (endF (vX k kp T r (t' * 8 + y')) d))), (12, .int (nI d)), (11, .int (nI (10000 * d + 100 * endF (vX k kp T r (t' * 8 + y')) d + v9))), (10, .int (nI j)), (9, .int 1), (8, .int (smV (vX k kp T r (t' * 8 + y')) en)), (7, .int (nI (ctV (vX k kp T r (t' * 8 + y')) en))), (6, .int (nI (lgF (vX k kp T r (t' * 8 + y')) en))), (5, .int val), (4, .int (nI en)), (0, .ref X.1), (1, .int (nI t')), (2, .int (nI y')), (3, .int (nI r))]) ⟨rfl, rfl, rfl, rfl, rfl, rfl, rfl, rfl, rfl, rfl, rfl, rfl, rfl, rfl, trivial⟩ ?_
  refine gg_iload K dL_areRunsSo_67 rfl ?_
  refine gg_iload K dL_areRunsSo_69 rfl ?_
  refine gg_icmp_lt K (tgt := 172) dL_areRunsSo_71 (by decide) (fun h71 => ?_) (fun h71 => ?_)
  · exact absurd h71 (nI_nlt hle (by omega))
  refine gg_iload K dL_areRunsSo_74 rfl ?_
  refine gg_iload K dL_areRunsSo_76 rfl ?_
  refine gg_icmp_le K (tgt := 172) dL_areRunsSo_78 (by decide) (fun h78 => ?_) (fun h78 => ?_)
  · exact absurd h78 (nI_ge hlt (by omega))
  refine gg_iload K dL_areRunsSo_81 rfl ?_
  refine gg_bipush K (v := 60) dL_areRunsSo_83 (by decide) ?_
  refine gg_icmp_gt K (tgt := 172) dL_areRunsSo_85 (by decide) (fun h85 => ?_) (fun h85 => ?_)
  · exact absurd h85 (nI_nlt (a := 60) he6 (by omega))
  refine gg_cut 110 [(13, .int (nI (endF (vX k kp T r (t' * 8 + y')) d))), (12, .int (nI d)), (11, .int (nI (10000 * d + 100 * endF (vX k kp T r (t' * 8 + y')) d + v9))), (10, .int (nI j)), (9, .int 1), (8, .int (smV (vX k kp T r (t' * 8 + y')) en)), (7, .int (nI (ctV (vX k kp T r (t' * 8 + y')) en))), (6, .int (nI (lgF (vX k kp T r (t' * 8 + y')) en))), (5, .int val), (4, .int (nI en)), (0, .ref X.1), (1, .int (nI t')), (2, .int (nI y')), (3, .int (nI r))] [] ?_ (fun k110 => ?_)
  rotate_left
  · refine gg_iload K dL_areRunsSo_88 rfl ?_
    refine gg_if_eq K (tgt := 110) dL_areRunsSo_90 (by decide) (fun h90 => ?_) (fun h90 => ?_)
    · exact k110
    have hj0 : ¬ j = 0 := fun z => h90 (by rw [z]; rfl)
    refine gg_iload K dL_areRunsSo_93 rfl ?_
    refine gg_iload K dL_areRunsSo_95 rfl ?_
    refine gg_icmp_gt K (tgt := 110) dL_areRunsSo_97 (by decide) (fun h97 => ?_) (fun h97 => ?_)
    · exact k110
    have hde : en = d := by
      have := i_nlt h97
      omega
    refine gg_iload K dL_areRunsSo_100 rfl ?_
    refine gg_bipush K (v := 100) dL_areRunsSo_102 (by decide) ?_
    refine gg_irem K dL_areRunsSo_104 (by decide) ?_
    refine gg_top (run_val hd he6 hv9) ?_
    refine gg_iload K dL_areRunsSo_105 rfl ?_
    refine gg_icmp_eq K (tgt := 172) dL_areRunsSo_107 (by decide) (fun h107 => ?_) (fun h107 => ?_)
    · exact absurd (h107.trans (hval hj0)).symm (hnew hj0 hde)
    exact k110
  refine gg_aload_n K (i := 0) dL_areRunsSo_110 rfl rfl ?_
  refine gg_iload_n K (i := 1) dL_areRunsSo_111 rfl rfl ?_
  refine gg_iload_n K (i := 2) dL_areRunsSo_112 rfl rfl ?_
  refine gg_iload K dL_areRunsSo_113 rfl ?_
  refine gg_iload_n K (i := 3) dL_areRunsSo_115 rfl rfl ?_
  refine gg_callRX K k_L_X0_value (n_value ok t' y' a1 b1 rfl rfl d hd rfl r q1 rfl) dL_areRunsSo_116 rfl rfl rfl rfl ⟨rfl, rfl⟩ ?_
  refine gg_iload K dL_areRunsSo_119 rfl ?_
  refine gg_bipush K (v := 100) dL_areRunsSo_121 (by decide) ?_
  refine gg_irem K dL_areRunsSo_123 (by decide) ?_
  refine gg_top (run_val hd he6 hv9) ?_
  refine gg_icmp_ne K (tgt := 172) dL_areRunsSo_124 (by decide) (fun h124 => ?_) (fun h124 => ?_)
  · exact absurd hfv h124
  refine gg_aload_n K (i := 0) dL_areRunsSo_127 rfl rfl ?_
  refine gg_iload_n K (i := 1) dL_areRunsSo_128 rfl rfl ?_
  refine gg_iload_n K (i := 2) dL_areRunsSo_129 rfl rfl ?_
  refine gg_iload K dL_areRunsSo_130 rfl ?_
  refine gg_iconst K (v := 1) dL_areRunsSo_132 (by decide) ?_
  refine gg_isub K dL_areRunsSo_133 ?_
  refine gg_iload_n K (i := 3) dL_areRunsSo_134 rfl rfl ?_
  refine gg_callRX K k_L_X0_value (n_value ok t' y' a1 b1 rfl rfl (endF (vX k kp T r (t' * 8 + y')) d - 1) (by omega) (nI_sub1 (by omega)) r q1 rfl) dL_areRunsSo_135 rfl rfl rfl rfl ⟨rfl, rfl⟩ ?_
  refine gg_iload K dL_areRunsSo_138 rfl ?_
  refine gg_bipush K (v := 100) dL_areRunsSo_140 (by decide) ?_
  refine gg_irem K dL_areRunsSo_142 (by decide) ?_
  refine gg_top (run_val hd he6 hv9) ?_
  refine gg_icmp_ne K (tgt := 172) dL_areRunsSo_143 (by decide) (fun h143 => ?_) (fun h143 => ?_)
  · exact absurd hlast h143
  refine gg_cut 168 [(13, .int (nI (endF (vX k kp T r (t' * 8 + y')) d))), (12, .int (nI d)), (11, .int (nI (10000 * d + 100 * endF (vX k kp T r (t' * 8 + y')) d + v9))), (10, .int (nI j)), (9, .int 1), (8, .int (smV (vX k kp T r (t' * 8 + y')) en)), (7, .int (nI (ctV (vX k kp T r (t' * 8 + y')) en))), (6, .int (nI (lgF (vX k kp T r (t' * 8 + y')) en))), (5, .int val), (4, .int (nI en)), (0, .ref X.1), (1, .int (nI t')), (2, .int (nI y')), (3, .int (nI r))] [] ?_ (fun k168 => ?_)
  rotate_left
  · refine gg_iload K dL_areRunsSo_146 rfl ?_
    refine gg_iload K dL_areRunsSo_148 rfl ?_
    refine gg_icmp_eq K (tgt := 168) dL_areRunsSo_150 (by decide) (fun h150 => ?_) (fun h150 => ?_)
    · exact k168
    have hde : en < d := by
      have : ¬ d = en := i_ne h150
      omega
    refine gg_aload_n K (i := 0) dL_areRunsSo_153 rfl rfl ?_
    refine gg_iload_n K (i := 1) dL_areRunsSo_154 rfl rfl ?_
    refine gg_iload_n K (i := 2) dL_areRunsSo_155 rfl rfl ?_
    refine gg_iload K dL_areRunsSo_156 rfl ?_
    refine gg_iconst K (v := 1) dL_areRunsSo_158 (by decide) ?_
    refine gg_isub K dL_areRunsSo_159 ?_
    refine gg_iload_n K (i := 3) dL_areRunsSo_160 rfl rfl ?_
    refine gg_callRX K k_L_X0_value (n_value ok t' y' a1 b1 rfl rfl (d - 1) (by omega) (nI_sub1 (by omega)) r q1 rfl) dL_areRunsSo_161 rfl rfl rfl rfl ⟨rfl, rfl⟩ ?_
    refine gg_iconst K (v := (-1)) dL_areRunsSo_164 (by decide) ?_
    refine gg_icmp_ne K (tgt := 172) dL_areRunsSo_165 (by decide) (fun h165 => ?_) (fun h165 => ?_)
    · exact absurd (hgap hde) h165
    exact k168
  refine gg_iconst K (v := 1) dL_areRunsSo_168 (by decide) ?_
  refine gg_goto K (tgt := 173) dL_areRunsSo_169 (by decide) ?_
  refine gg_istore K dL_areRunsSo_173 (by decide) ?_
  refine gg_sub (L' := [(13, .int (nI (endF (vX k kp T r (t' * 8 + y')) d))), (12, .int (nI d)), (11, .int (nI (10000 * d + 100 * endF (vX k kp T r (t' * 8 + y')) d + v9))), (10, .int (nI j)), (9, .int 1), (8, .int (smV (vX k kp T r (t' * 8 + y')) en)), (7, .int (nI (ctV (vX k kp T r (t' * 8 + y')) en))), (6, .int (nI (lgF (vX k kp T r (t' * 8 + y')) en))), (5, .int val), (4, .int (nI en)), (0, .ref X.1), (1, .int (nI t')), (2, .int (nI y')), (3, .int (nI r))]) ⟨rfl, rfl, rfl, rfl, rfl, rfl, rfl, rfl, rfl, rfl, rfl, rfl, rfl, rfl, trivial⟩ ?_
  refine gg_cut 195 [(13, .int (nI (endF (vX k kp T r (t' * 8 + y')) d))), (12, .int (nI d)), (11, .int (nI (10000 * d + 100 * endF (vX k kp T r (t' * 8 + y')) d + v9))), (10, .int (nI j)), (9, .int 1), (8, .int (smV (vX k kp T r (t' * 8 + y')) en)), (7, .int (nI (ctV (vX k kp T r (t' * 8 + y')) en))), (6, .int (nI (lgF (vX k kp T r (t' * 8 + y')) en))), (5, .int val), (4, .int (nI en)), (0, .ref X.1), (1, .int (nI t')), (2, .int (nI y')), (3, .int (nI r))] [.int (nI (lgF (vX k kp T r (t' * 8 + y')) (endF (vX k kp T r (t' * 8 + y')) d)))] ?_ (fun k195 => ?_)
  rotate_left
  · refine gg_iload K dL_areRunsSo_175 rfl ?_
    refine gg_iload K dL_areRunsSo_177 rfl ?_
    refine gg_isub K dL_areRunsSo_179 ?_
    refine gg_top (pk_sub (Nat.le_of_lt hlt)) ?_
    refine gg_iload K dL_areRunsSo_180 rfl ?_
    refine gg_icmp_le K (tgt := 193) dL_areRunsSo_182 (by decide) (fun h182 => ?_) (fun h182 => ?_)
    · have := i_le h182
      rw [hlg, if_neg (by omega)] at k195
      refine gg_iload K dL_areRunsSo_193 rfl ?_
      exact k195
    · have := i_nle h182
      rw [hlg, if_pos (by omega)] at k195
      refine gg_iload K dL_areRunsSo_185 rfl ?_
      refine gg_iload K dL_areRunsSo_187 rfl ?_
      refine gg_isub K dL_areRunsSo_189 ?_
      refine gg_top (pk_sub (Nat.le_of_lt hlt)) ?_
      refine gg_goto K (tgt := 195) dL_areRunsSo_190 (by decide) ?_
      exact k195
  refine gg_istore K dL_areRunsSo_195 (by decide) ?_
  refine gg_iload K dL_areRunsSo_197 rfl ?_
  refine gg_iload K dL_areRunsSo_199 rfl ?_
  refine gg_iload K dL_areRunsSo_201 rfl ?_
  refine gg_isub K dL_areRunsSo_203 ?_
  refine gg_top (pk_sub (Nat.le_of_lt hlt)) ?_
  refine gg_iadd K dL_areRunsSo_204 ?_
  refine gg_top (show nI (ctV (vX k kp T r (t' * 8 + y')) en) + nI (endF (vX k kp T r (t' * 8 + y')) d - d) = nI (ctV (vX k kp T r (t' * 8 + y')) (endF (vX k kp T r (t' * 8 + y')) d)) by rw [nI_add, hct]) ?_
  refine gg_istore K dL_areRunsSo_205 (by decide) ?_
  refine gg_iload K dL_areRunsSo_207 rfl ?_
  refine gg_iload K dL_areRunsSo_209 rfl ?_
  refine gg_iload K dL_areRunsSo_211 rfl ?_
  refine gg_isub K dL_areRunsSo_213 ?_
  refine gg_top (pk_sub (Nat.le_of_lt hlt)) ?_
  refine gg_iload K dL_areRunsSo_214 rfl ?_
  refine gg_bipush K (v := 100) dL_areRunsSo_216 (by decide) ?_
  refine gg_irem K dL_areRunsSo_218 (by decide) ?_
  refine gg_top (run_val hd he6 hv9) ?_
  refine gg_imul K dL_areRunsSo_219 ?_
  refine gg_top (pk_mul _ _) ?_
  refine gg_iadd K dL_areRunsSo_220 ?_
  refine gg_top hsm.symm ?_
  refine gg_istore K dL_areRunsSo_221 (by decide) ?_
  refine gg_iload K dL_areRunsSo_223 rfl ?_
  refine gg_istore K dL_areRunsSo_225 (by decide) ?_
  refine gg_iload K dL_areRunsSo_227 rfl ?_
  refine gg_bipush K (v := 100) dL_areRunsSo_229 (by decide) ?_
  refine gg_irem K dL_areRunsSo_231 (by decide) ?_
  refine gg_top (run_val hd he6 hv9) ?_
  refine gg_istore K dL_areRunsSo_232 (by decide) ?_
  refine gg_iinc K (v := nI (j + 1)) dL_areRunsSo_234 rfl (nI_inc (j)) (by decide) ?_
  refine gg_goto K (tgt := 21) dL_areRunsSo_237 (by decide) ?_
  refine gg_sub (L' := [(10, .int (nI (j + 1))), (9, .int 1), (8, .int (smV (vX k kp T r (t' * 8 + y')) (endF (vX k kp T r (t' * 8 + y')) d))), (7, .int (nI (ctV (vX k kp T r (t' * 8 + y')) (endF (vX k kp T r (t' * 8 + y')) d)))), (6, .int (nI (lgF (vX k kp T r (t' * 8 + y')) (endF (vX k kp T r (t' * 8 + y')) d)))), (5, .int (nI v9)), (4, .int (nI (endF (vX k kp T r (t' * 8 + y')) d))), (0, .ref X.1), (1, .int (nI t')), (2, .int (nI y')), (3, .int (nI r))]) ⟨rfl, rfl, rfl, rfl, rfl, rfl, rfl, rfl, rfl, rfl, rfl, trivial⟩ ?_
  exact ih _ _ ⟨j + 1, endF (vX k kp T r (t' * 8 + y')) d, nI v9, by omega, rfl, by omega, hat', fun _ => hlast.symm, rfl⟩
end
section
/-! areRowsSo -/
set_option maxRecDepth 100000 in
theorem c_rows {l : Launch} {Z : ZT} {X : XT} {k kp dr : Nat → Int32} {T : Nat} (hl0 : l.stackTraces = false) (ok : okX kp T) (hv : valOk (vX k kp T) T) (t' y' : Nat) {t y : Int32} (a1 : t' < 2) (b1 : y' < 8) (a2 : t = nI t') (b2 : y = nI y') : mX l Z.1 (ty3 Z) yL_areRowsSo (.code yL_areRowsSo cL_areRowsSo 11 (some .boolean)) (rmk 11 300 16 96) (wX Z X k kp dr (nI T)) [.ref X.1, .int t, .int y] (sameW Z X (vX k kp T) T (.int 1)) (fun _ _ => False) := by
  have hT9 := ok.1
  refine mX_intro (own := RL) [(0, .ref X.1), (1, .int t), (2, .int y)] (by decide +kernel) rfl rfl rfl rfl ?_
  intro p e s m args below meth c A K hr T9 htab
  subst a2 b2
  refine gg_aload_n K (i := 0) dL_areRowsSo_0 rfl rfl ?_
  refine gg_iload_n K (i := 1) dL_areRowsSo_1 rfl rfl ?_
  refine gg_iload_n K (i := 2) dL_areRowsSo_2 rfl rfl ?_
  refine gg_callRX K k_L_X0_rows (n_rows ok t' y' a1 b1 rfl rfl) dL_areRowsSo_3 rfl rfl rfl rfl ⟨rfl, rfl⟩ ?_
  refine gg_istore_n K (i := 3) dL_areRowsSo_6 rfl (by decide) ?_
  refine gg_iconst K (v := 0) dL_areRowsSo_7 (by decide) ?_
  refine gg_istore K dL_areRowsSo_8 (by decide) ?_
  refine gg_aload_n K (i := 0) dL_areRowsSo_10 rfl rfl ?_
  refine gg_iload_n K (i := 1) dL_areRowsSo_11 rfl rfl ?_
  refine gg_iload_n K (i := 2) dL_areRowsSo_12 rfl rfl ?_
  refine gg_iload_n K (i := 3) dL_areRowsSo_13 rfl rfl ?_
  refine gg_callJH (wc := wX Z X k kp dr (nI T)) (wr := []) [0, 1, 2, 3] [] rfl rfl rfl K T9 k_L_L_rowRun (c_noRow hl0 ok t' y' a1 b1 rfl rfl (fun j hj => fun z => by
    have hb := fb_ct_le (rwF (vX k kp T) (t' * 8 + y')) (60 * (T + 1))
    have := i_eq z
    omega)) dL_areRowsSo_14 rfl rfl rfl rfl (fun v u h => ?_)
  obtain ⟨k, kp, dr, rfl, rfl, ok, e8⟩ := h
  rw [← e8] at hv ⊢
  clear e8
  refine gg_ldc K wd_3 dL_areRowsSo_17 ?_
  refine gg_icmp_ne K (tgt := 38) dL_areRowsSo_19 (by decide) (fun h19 => ?_) (fun h19 => ?_)
  · exact absurd rfl h19
  refine gg_aload_n K (i := 0) dL_areRowsSo_22 rfl rfl ?_
  refine gg_iload_n K (i := 1) dL_areRowsSo_23 rfl rfl ?_
  refine gg_iload_n K (i := 2) dL_areRowsSo_24 rfl rfl ?_
  refine gg_iconst K (v := (-1)) dL_areRowsSo_25 (by decide) ?_
  refine gg_callJH (wc := wX Z X k kp dr (nI T)) (wr := []) [0, 1, 2, 3] [] rfl rfl rfl K T9 k_L_L_rowRun (c_noRow hl0 ok t' y' a1 b1 rfl rfl (fun j hj => fun z => by
    have hb := fb_ct_le (rwF (vX k kp T) (t' * 8 + y')) (60 * (T + 1))
    exact nI_m1 (a := j) (by omega) z.symm)) dL_areRowsSo_26 rfl rfl rfl rfl (fun v u h => ?_)
  obtain ⟨k, kp, dr, rfl, rfl, ok, e8⟩ := h
  rw [← e8] at hv ⊢
  clear e8
  have hnb := fb_ct_le (rwF (vX k kp T) (t' * 8 + y')) (60 * (T + 1))
  have hrs := rows_sum (vX k kp T) (t' * 8 + y') T
  refine gg_ldc K wd_3 dL_areRowsSo_29 ?_
  refine gg_icmp_ne K (tgt := 38) dL_areRowsSo_31 (by decide) (fun h31 => ?_) (fun h31 => ?_)
  · exact absurd rfl h31
  refine gg_iconst K (v := 1) dL_areRowsSo_34 (by decide) ?_
  refine gg_goto K (tgt := 39) dL_areRowsSo_35 (by decide) ?_
  refine gg_istore K dL_areRowsSo_39 (by decide) ?_
  refine gg_iconst K (v := 0) dL_areRowsSo_41 (by decide) ?_
  refine gg_istore K dL_areRowsSo_42 (by decide) ?_
  refine gg_sub (L' := [(6, .int (nI 0)), (5, .int 1), (4, .int (nI (fb_sm (fun i => rLen (vX k kp T) (t' * 8 + y') T (kthD (rwF (vX k kp T) (t' * 8 + y')) i (60 * (T + 1)))) 0))), (3, .int (nI (fb_ct (rwF (vX k kp T) (t' * 8 + y')) (60 * (T + 1))))), (0, .ref X.1), (1, .int (nI t')), (2, .int (nI y'))]) ⟨rfl, rfl, rfl, rfl, rfl, rfl, rfl, trivial⟩ ?_
  refine gg_loop (fun i w L => ∃ (j : Nat), j + i = (fb_ct (rwF (vX k kp T) (t' * 8 + y')) (60 * (T + 1))) + 1 ∧ w = wX Z X k kp dr (nI T) ∧ j ≤ (fb_ct (rwF (vX k kp T) (t' * 8 + y')) (60 * (T + 1))) ∧ L = [(6, .int (nI j)), (5, .int 1), (4, .int (nI (fb_sm (fun i => rLen (vX k kp T) (t' * 8 + y') T (kthD (rwF (vX k kp T) (t' * 8 + y')) i (60 * (T + 1)))) j))), (3, .int (nI (fb_ct (rwF (vX k kp T) (t' * 8 + y')) (60 * (T + 1))))), (0, .ref X.1), (1, .int (nI t')), (2, .int (nI y'))]) (fun w L h => ?_) (fun i w L h ih => ?_) ((fb_ct (rwF (vX k kp T) (t' * 8 + y')) (60 * (T + 1))) + 1) _ _ ⟨0, by omega, rfl, by omega, rfl⟩
  · obtain ⟨j, hj, -, h2, -⟩ := h
    omega
  obtain ⟨j, hj, rfl, hj1, rfl⟩ := h
  refine gg_iload K dL_areRowsSo_44 rfl ?_
  refine gg_iload_n K (i := 3) dL_areRowsSo_46 rfl rfl ?_
  refine gg_icmp_ge K (tgt := 245) dL_areRowsSo_47 (by decide) (fun h47 => ?_) (fun h47 => ?_)
  · have hj2 := i_le h47
    have hj3 : j = (fb_ct (rwF (vX k kp T) (t' * 8 + y')) (60 * (T + 1))) := by omega
    rw [hj3, hrs]
    refine gg_iconst K (v := 0) dL_areRowsSo_245 (by decide) ?_
    refine gg_istore K dL_areRowsSo_246 (by decide) ?_
    refine gg_sub (L' := [(6, .int (nI 0)), (5, .int 1), (4, .int (nI ((fb_sm (fun r => fb_ct (stF (vX k kp T r (t' * 8 + y'))) 60) (T + 1)) - (fb_sm (fun r => fb_ct (stF (vX k kp T r (t' * 8 + y'))) 60) 0)))), (0, .ref X.1), (1, .int (nI t')), (2, .int (nI y'))]) ⟨rfl, rfl, rfl, rfl, rfl, rfl, trivial⟩ ?_
    refine gg_loop (fun i w L => ∃ (j : Nat), j + i = T + 2 ∧ w = wX Z X k kp dr (nI T) ∧ j ≤ T + 1 ∧ L = [(6, .int (nI j)), (5, .int 1), (4, .int (nI ((fb_sm (fun r => fb_ct (stF (vX k kp T r (t' * 8 + y'))) 60) (T + 1)) - (fb_sm (fun r => fb_ct (stF (vX k kp T r (t' * 8 + y'))) 60) j)))), (0, .ref X.1), (1, .int (nI t')), (2, .int (nI y'))]) (fun w L h => ?_) (fun i w L h ih2 => ?_) (T + 2) _ _ ⟨0, by omega, rfl, by omega, rfl⟩
    · obtain ⟨j, hj, -, h2, -⟩ := h
      omega
    obtain ⟨j, hj, rfl, hj1, rfl⟩ := h
    refine gg_iload K dL_areRowsSo_248 rfl ?_
    refine gg_aload_n K (i := 0) dL_areRowsSo_250 rfl rfl ?_
    refine gg_callRX K k_L_X0_today x_today dL_areRowsSo_251 rfl rfl rfl rfl ⟨rfl, rfl⟩ ?_
    refine gg_icmp_gt K (tgt := 276) dL_areRowsSo_254 (by decide) (fun h254 => ?_) (fun h254 => ?_)
    · have hj2 := i_lt h254
      have hj3 : j = T + 1 := by omega
      subst hj3
      refine gg_iload K dL_areRowsSo_276 rfl ?_
      refine gg_if_eq K (tgt := 290) dL_areRowsSo_278 (by decide) (fun h278 => ?_) (fun h278 => ?_)
      · exact absurd h278 (by decide)
      refine gg_iload K dL_areRowsSo_281 rfl ?_
      refine gg_if_ne K (tgt := 290) dL_areRowsSo_283 (by decide) (fun h283 => ?_) (fun h283 => ?_)
      · exact absurd (by rw [Nat.sub_self]; rfl) h283
      refine gg_iconst K (v := 1) dL_areRowsSo_286 (by decide) ?_
      refine gg_goto K (tgt := 291) dL_areRowsSo_287 (by decide) ?_
      exact gg_x (gg_zret K hr dL_areRowsSo_291 (Or.inr rfl) (Nat.le_of_ble_eq_true rfl) (Nat.le_of_ble_eq_true rfl) ⟨k, kp, dr, rfl, rfl, ok, rfl⟩)
    have hj2 := i_nlt h254
    refine gg_iload K dL_areRowsSo_257 rfl ?_
    refine gg_aload_n K (i := 0) dL_areRowsSo_259 rfl rfl ?_
    refine gg_iload_n K (i := 1) dL_areRowsSo_260 rfl rfl ?_
    refine gg_iload_n K (i := 2) dL_areRowsSo_261 rfl rfl ?_
    refine gg_iload K dL_areRowsSo_262 rfl ?_
    refine gg_callRX K k_L_X0_runs (n_runs ok t' y' a1 b1 rfl rfl j hj2 rfl) dL_areRowsSo_264 rfl rfl rfl rfl ⟨rfl, rfl⟩ ?_
    have hp : (fb_sm (fun r => fb_ct (stF (vX k kp T r (t' * 8 + y'))) 60) j) + fb_ct (stF (vX k kp T j (t' * 8 + y'))) 60 ≤ (fb_sm (fun r => fb_ct (stF (vX k kp T r (t' * 8 + y'))) 60) (T + 1)) := fb_sm_part (fun r => fb_ct (stF (vX k kp T r (t' * 8 + y'))) 60) (i := j) (n := T + 1) (by omega)
    have hsc : (fb_sm (fun r => fb_ct (stF (vX k kp T r (t' * 8 + y'))) 60) (j + 1)) = (fb_sm (fun r => fb_ct (stF (vX k kp T r (t' * 8 + y'))) 60) j) + fb_ct (stF (vX k kp T j (t' * 8 + y'))) 60 := rfl
    refine gg_isub K dL_areRowsSo_267 ?_
    refine gg_top (show nI ((fb_sm (fun r => fb_ct (stF (vX k kp T r (t' * 8 + y'))) 60) (T + 1)) - (fb_sm (fun r => fb_ct (stF (vX k kp T r (t' * 8 + y'))) 60) j)) - nI (fb_ct (stF (vX k kp T j (t' * 8 + y'))) 60) = nI ((fb_sm (fun r => fb_ct (stF (vX k kp T r (t' * 8 + y'))) 60) (T + 1)) - (fb_sm (fun r => fb_ct (stF (vX k kp T r (t' * 8 + y'))) 60) (j + 1))) by rw [pk_sub (by omega)]; exact congrArg nI (by omega)) ?_
    refine gg_istore K dL_areRowsSo_268 (by decide) ?_
    refine gg_iinc K (v := nI (j + 1)) dL_areRowsSo_270 rfl (nI_inc (j)) (by decide) ?_
    refine gg_goto K (tgt := 248) dL_areRowsSo_273 (by decide) ?_
    refine gg_sub (L' := [(6, .int (nI (j + 1))), (5, .int 1), (4, .int (nI ((fb_sm (fun r => fb_ct (stF (vX k kp T r (t' * 8 + y'))) 60) (T + 1)) - (fb_sm (fun r => fb_ct (stF (vX k kp T r (t' * 8 + y'))) 60) ((j + 1)))))), (0, .ref X.1), (1, .int (nI t')), (2, .int (nI y'))]) ⟨rfl, rfl, rfl, rfl, rfl, rfl, trivial⟩ ?_
    exact ih2 _ _ ⟨j + 1, by omega, rfl, by omega, rfl⟩
  have hj2 := i_nle h47
  refine gg_iload K dL_areRowsSo_50 rfl ?_
  refine gg_if_eq K (tgt := 245) dL_areRowsSo_52 (by decide) (fun h52 => ?_) (fun h52 => ?_)
  · exact absurd h52 (by decide)
  refine gg_aload_n K (i := 0) dL_areRowsSo_55 rfl rfl ?_
  refine gg_iload_n K (i := 1) dL_areRowsSo_56 rfl rfl ?_
  refine gg_iload_n K (i := 2) dL_areRowsSo_57 rfl rfl ?_
  refine gg_iload K dL_areRowsSo_58 rfl ?_
  refine gg_callRX K k_L_X0_rowRun (n_rowRun ok t' y' a1 b1 rfl rfl j hj2 rfl) dL_areRowsSo_60 rfl rfl rfl rfl ⟨rfl, rfl⟩ ?_
  refine gg_istore K dL_areRowsSo_63 (by decide) ?_
  refine gg_aload_n K (i := 0) dL_areRowsSo_65 rfl rfl ?_
  refine gg_iload_n K (i := 1) dL_areRowsSo_66 rfl rfl ?_
  refine gg_iload_n K (i := 2) dL_areRowsSo_67 rfl rfl ?_
  refine gg_iload K dL_areRowsSo_68 rfl ?_
  refine gg_callRX K k_L_X0_rowFrom (n_rowFrom ok t' y' a1 b1 rfl rfl j hj2 rfl) dL_areRowsSo_70 rfl rfl rfl rfl ⟨rfl, rfl⟩ ?_
  refine gg_istore K dL_areRowsSo_73 (by decide) ?_
  refine gg_aload_n K (i := 0) dL_areRowsSo_75 rfl rfl ?_
  refine gg_iload_n K (i := 1) dL_areRowsSo_76 rfl rfl ?_
  refine gg_iload_n K (i := 2) dL_areRowsSo_77 rfl rfl ?_
  refine gg_iload K dL_areRowsSo_78 rfl ?_
  refine gg_callRX K k_L_X0_rowTo (n_rowTo ok t' y' a1 b1 rfl rfl j hj2 rfl) dL_areRowsSo_80 rfl rfl rfl rfl ⟨rfl, rfl⟩ ?_
  have hps := rows_le (vX k kp T) (t' * 8 + y') T (j + 1) hT9
  have hps1 : (fb_sm (fun i => rLen (vX k kp T) (t' * 8 + y') T (kthD (rwF (vX k kp T) (t' * 8 + y')) i (60 * (T + 1)))) (j + 1)) = (fb_sm (fun i => rLen (vX k kp T) (t' * 8 + y') T (kthD (rwF (vX k kp T) (t' * 8 + y')) i (60 * (T + 1)))) j) + rLen (vX k kp T) (t' * 8 + y') T (kthD (rwF (vX k kp T) (t' * 8 + y')) j (60 * (T + 1))) := rfl
  obtain ⟨g1, g2, g3⟩ := kthD_at hj2
  generalize hz : kthD (rwF (vX k kp T) (t' * 8 + y')) j (60 * (T + 1)) = z at g1 g2 g3 hps1
  obtain ⟨r, hrz⟩ : ∃ r, r = z / 60 := ⟨_, rfl⟩
  obtain ⟨d, hdz⟩ : ∃ d, d = z % 60 := ⟨_, rfl⟩
  have hlen : rLen (vX k kp T) (t' * 8 + y') T z = rEnd (vX k kp T) (t' * 8 + y') T r d - r := by rw [hrz, hdz]; rfl
  have hrow : rowF (vX k kp T) (t' * 8 + y') r d = true := by rw [hrz, hdz]; exact g2
  rw [← hrz, ← hdz]
  have hr1 : r ≤ T := by omega
  have hd1 : d < 60 := by omega
  obtain ⟨hst, hbe⟩ := rw_iff.mp hrow
  have hF : ∀ a, a ≤ T → okF (vX k kp T a (t' * 8 + y')) := fun a ha => okF_of hv ha (by omega)
  have hgt := rEnd_gt (vX k kp T) (t' * 8 + y') T r d
  have hle := rEnd_le (V := vX k kp T) (l := (t' * 8 + y')) (d := d) hr1
  have hsp := (reN_spec (fun a => smF (vX k kp T r (t' * 8 + y')) (vX k kp T a (t' * 8 + y')) d) (T - r) (r + 1)).2.2.2
  rw [show reN (fun a => smF (vX k kp T r (t' * 8 + y')) (vX k kp T a (t' * 8 + y')) d) (T - r) (r + 1) = rEnd (vX k kp T) (t' * 8 + y') T r d from rfl] at hsp
  have hin := fun a => rEnd_in (V := vX k kp T) (l := (t' * 8 + y')) (T := T) (r := r) (d := d) (a := a)
  generalize rEnd (vX k kp T) (t' * 8 + y') T r d = en at hlen hgt hle hsp hin
  have ham : ∀ a, a ≤ T → (amongR (vX k kp T a (t' * 8 + y')) (runN (vX k kp T r (t' * 8 + y')) d) (fb_ct (stF (vX k kp T a (t' * 8 + y'))) 60) ↔ smF (vX k kp T r (t' * 8 + y')) (vX k kp T a (t' * 8 + y')) d = true) := fun a ha => among_iff (hF a ha) (hF r hr1) hd1 hst
  have hself : smF (vX k kp T r (t' * 8 + y')) (vX k kp T r (t' * 8 + y')) d = true := (smF_self _ _).mpr hst
  generalize reF (fun a => smF (vX k kp T r (t' * 8 + y')) (vX k kp T a (t' * 8 + y')) d) (T - r) (r + 1) = to9 at hsp
  have hto : (to9 = -1 ∧ en = T + 1 ∧ smF (vX k kp T r (t' * 8 + y')) (vX k kp T T (t' * 8 + y')) d = true) ∨ (to9 = nI en ∧ en ≤ T ∧ smF (vX k kp T r (t' * 8 + y')) (vX k kp T en (t' * 8 + y')) d = false) := by
    rcases hsp with ⟨z1, z2⟩ | ⟨z1, z2, z3⟩
    · refine Or.inl ⟨z1, by omega, ?_⟩
      by_cases hrT : r = T
      · rw [hrT] at hself ⊢
        exact hself
      · exact hin T (by omega) (by omega)
    · exact Or.inr ⟨z1, by omega, z3⟩
  clear hsp
  refine gg_istore K dL_areRowsSo_83 (by decide) ?_
  refine gg_sub (L' := [(9, .int to9), (8, .int (nI r)), (7, .int (runN (vX k kp T r (t' * 8 + y')) d)), (6, .int (nI j)), (5, .int 1), (4, .int (nI (fb_sm (fun i => rLen (vX k kp T) (t' * 8 + y') T (kthD (rwF (vX k kp T) (t' * 8 + y')) i (60 * (T + 1)))) j))), (3, .int (nI (fb_ct (rwF (vX k kp T) (t' * 8 + y')) (60 * (T + 1))))), (0, .ref X.1), (1, .int (nI t')), (2, .int (nI y'))]) ⟨rfl, rfl, rfl, rfl, rfl, rfl, rfl, rfl, rfl, rfl, trivial⟩ ?_
  refine gg_cut 101 [(9, .int to9), (8, .int (nI r)), (7, .int (runN (vX k kp T r (t' * 8 + y')) d)), (6, .int (nI j)), (5, .int 1), (4, .int (nI (fb_sm (fun i => rLen (vX k kp T) (t' * 8 + y') T (kthD (rwF (vX k kp T) (t' * 8 + y')) i (60 * (T + 1)))) j))), (3, .int (nI (fb_ct (rwF (vX k kp T) (t' * 8 + y')) (60 * (T + 1))))), (0, .ref X.1), (1, .int (nI t')), (2, .int (nI y'))] [.int (nI en)] ?_ (fun k101 => ?_)
  rotate_left
  · rcases hto with ⟨z1, z2, -⟩ | ⟨z1, z2, -⟩
    · refine gg_iload K dL_areRowsSo_85 rfl ?_
      refine gg_if_ge K (tgt := 99) dL_areRowsSo_87 (by decide) (fun h87 => ?_) (fun h87 => ?_)
      · rw [z1] at h87; exact absurd h87 neg_lt0
      refine gg_aload_n K (i := 0) dL_areRowsSo_90 rfl rfl ?_
      refine gg_callRX K k_L_X0_today x_today dL_areRowsSo_91 rfl rfl rfl rfl ⟨rfl, rfl⟩ ?_
      refine gg_iconst K (v := 1) dL_areRowsSo_94 (by decide) ?_
      refine gg_iadd K dL_areRowsSo_95 ?_
      refine gg_top (show nI T + 1 = nI en by rw [z2]; exact nI_1 T) ?_
      refine gg_goto K (tgt := 101) dL_areRowsSo_96 (by decide) ?_
      exact k101
    · refine gg_iload K dL_areRowsSo_85 rfl ?_
      refine gg_if_ge K (tgt := 99) dL_areRowsSo_87 (by decide) (fun h87 => ?_) (fun h87 => ?_)
      rotate_left
      · rw [z1] at h87; exact absurd (nI_pos' (by omega)) h87
      refine gg_iload K dL_areRowsSo_99 rfl ?_
      refine gg_top z1 ?_
      exact k101
  refine gg_istore K dL_areRowsSo_101 (by decide) ?_
  refine gg_iload K dL_areRowsSo_103 rfl ?_
  refine gg_iload K dL_areRowsSo_105 rfl ?_
  refine gg_iload K dL_areRowsSo_107 rfl ?_
  refine gg_isub K dL_areRowsSo_109 ?_
  refine gg_top (pk_sub (Nat.le_of_lt hgt)) ?_
  refine gg_iadd K dL_areRowsSo_110 ?_
  refine gg_top (show nI (fb_sm (fun i => rLen (vX k kp T) (t' * 8 + y') T (kthD (rwF (vX k kp T) (t' * 8 + y')) i (60 * (T + 1)))) j) + nI (en - r) = nI (fb_sm (fun i => rLen (vX k kp T) (t' * 8 + y') T (kthD (rwF (vX k kp T) (t' * 8 + y')) i (60 * (T + 1)))) (j + 1)) by rw [nI_add, hps1, hlen]) ?_
  refine gg_istore K dL_areRowsSo_111 (by decide) ?_
  obtain ⟨ps, hpse⟩ : ∃ ps, ps = (fb_sm (fun i => rLen (vX k kp T) (t' * 8 + y') T (kthD (rwF (vX k kp T) (t' * 8 + y')) i (60 * (T + 1)))) (j + 1)) := ⟨_, rfl⟩
  rw [← hpse]
  refine gg_sub (L' := [(10, .int (nI en)), (9, .int to9), (8, .int (nI r)), (7, .int (runN (vX k kp T r (t' * 8 + y')) d)), (6, .int (nI j)), (5, .int 1), (4, .int (nI ps)), (3, .int (nI (fb_ct (rwF (vX k kp T) (t' * 8 + y')) (60 * (T + 1))))), (0, .ref X.1), (1, .int (nI t')), (2, .int (nI y'))]) ⟨rfl, rfl, rfl, rfl, rfl, rfl, rfl, rfl, rfl, rfl, rfl, trivial⟩ ?_
  refine gg_iload K dL_areRowsSo_113 rfl ?_
  refine gg_if_lt K (tgt := 236) dL_areRowsSo_115 (by decide) (fun h115 => ?_) (fun h115 => ?_)
  · exact absurd h115 (nI_pos (by omega))
  refine gg_iload K dL_areRowsSo_118 rfl ?_
  refine gg_iload K dL_areRowsSo_120 rfl ?_
  refine gg_icmp_ge K (tgt := 236) dL_areRowsSo_122 (by decide) (fun h122 => ?_) (fun h122 => ?_)
  · exact absurd h122 (nI_ge hgt (by omega))
  refine gg_iload K dL_areRowsSo_125 rfl ?_
  refine gg_aload_n K (i := 0) dL_areRowsSo_127 rfl rfl ?_
  refine gg_callRX K k_L_X0_today x_today dL_areRowsSo_128 rfl rfl rfl rfl ⟨rfl, rfl⟩ ?_
  refine gg_iconst K (v := 1) dL_areRowsSo_131 (by decide) ?_
  refine gg_iadd K dL_areRowsSo_132 ?_
  refine gg_top (nI_1 T) ?_
  refine gg_icmp_gt K (tgt := 236) dL_areRowsSo_133 (by decide) (fun h133 => ?_) (fun h133 => ?_)
  · exact absurd h133 (nI_nlt hle (by omega))
  refine gg_cut 165 [(10, .int (nI en)), (9, .int to9), (8, .int (nI r)), (7, .int (runN (vX k kp T r (t' * 8 + y')) d)), (6, .int (nI j)), (5, .int 1), (4, .int (nI ps)), (3, .int (nI (fb_ct (rwF (vX k kp T) (t' * 8 + y')) (60 * (T + 1))))), (0, .ref X.1), (1, .int (nI t')), (2, .int (nI y'))] [] ?_ (fun k165 => ?_)
  rotate_left
  · rcases hto with ⟨z1, z2, z3⟩ | ⟨z1, z2, z3⟩
    · refine gg_iload K dL_areRowsSo_136 rfl ?_
      refine gg_if_ge K (tgt := 145) dL_areRowsSo_138 (by decide) (fun h138 => ?_) (fun h138 => ?_)
      · rw [z1] at h138; exact absurd h138 neg_lt0
      refine gg_iconst K (v := 1) dL_areRowsSo_141 (by decide) ?_
      refine gg_goto K (tgt := 146) dL_areRowsSo_142 (by decide) ?_
      refine gg_aload_n K (i := 0) dL_areRowsSo_146 rfl rfl ?_
      refine gg_iload_n K (i := 1) dL_areRowsSo_147 rfl rfl ?_
      refine gg_iload_n K (i := 2) dL_areRowsSo_148 rfl rfl ?_
      refine gg_aload_n K (i := 0) dL_areRowsSo_149 rfl rfl ?_
      refine gg_callRX K k_L_X0_today x_today dL_areRowsSo_150 rfl rfl rfl rfl ⟨rfl, rfl⟩ ?_
      refine gg_iload K dL_areRowsSo_153 rfl ?_
      refine gg_iload K dL_areRowsSo_155 rfl ?_
      refine gg_iload K dL_areRowsSo_157 rfl ?_
      refine gg_1S K k_L_L_hasRun (c_hasRun ok t' y' a1 b1 rfl rfl T (Nat.le_refl T) rfl) dL_areRowsSo_159 rfl rfl rfl rfl ⟨rfl, rfl⟩ ?_
      refine gg_icmp_ne K (tgt := 236) dL_areRowsSo_162 (by decide) (fun h162 => ?_) (fun h162 => ?_)
      · refine absurd ?_ h162
        rw [bP_t (show nI r ≤ nI T ∧ nI T < nI en ∧ _ from ⟨nI_le hr1 (by omega), nI_lt (by omega) (by omega), (ham T (Nat.le_refl T)).mpr z3⟩)]
        rfl
      exact k165
    · refine gg_iload K dL_areRowsSo_136 rfl ?_
      refine gg_if_ge K (tgt := 145) dL_areRowsSo_138 (by decide) (fun h138 => ?_) (fun h138 => ?_)
      rotate_left
      · rw [z1] at h138; exact absurd (nI_pos' (by omega)) h138
      refine gg_iconst K (v := 0) dL_areRowsSo_145 (by decide) ?_
      refine gg_aload_n K (i := 0) dL_areRowsSo_146 rfl rfl ?_
      refine gg_iload_n K (i := 1) dL_areRowsSo_147 rfl rfl ?_
      refine gg_iload_n K (i := 2) dL_areRowsSo_148 rfl rfl ?_
      refine gg_aload_n K (i := 0) dL_areRowsSo_149 rfl rfl ?_
      refine gg_callRX K k_L_X0_today x_today dL_areRowsSo_150 rfl rfl rfl rfl ⟨rfl, rfl⟩ ?_
      refine gg_iload K dL_areRowsSo_153 rfl ?_
      refine gg_iload K dL_areRowsSo_155 rfl ?_
      refine gg_iload K dL_areRowsSo_157 rfl ?_
      refine gg_1S K k_L_L_hasRun (c_hasRun ok t' y' a1 b1 rfl rfl T (Nat.le_refl T) rfl) dL_areRowsSo_159 rfl rfl rfl rfl ⟨rfl, rfl⟩ ?_
      refine gg_icmp_ne K (tgt := 236) dL_areRowsSo_162 (by decide) (fun h162 => ?_) (fun h162 => ?_)
      · refine absurd ?_ h162
        rw [bP_f (fun z => absurd z.2.1 (nI_nlt z2 (by omega)))]
        rfl
      exact k165
  refine gg_aload_n K (i := 0) dL_areRowsSo_165 rfl rfl ?_
  refine gg_iload_n K (i := 1) dL_areRowsSo_166 rfl rfl ?_
  refine gg_iload_n K (i := 2) dL_areRowsSo_167 rfl rfl ?_
  refine gg_iload K dL_areRowsSo_168 rfl ?_
  refine gg_iload K dL_areRowsSo_170 rfl ?_
  refine gg_iload K dL_areRowsSo_172 rfl ?_
  refine gg_iload K dL_areRowsSo_174 rfl ?_
  refine gg_1S K k_L_L_hasRun (c_hasRun ok t' y' a1 b1 rfl rfl r hr1 rfl) dL_areRowsSo_176 rfl rfl rfl rfl ⟨rfl, rfl⟩ ?_
  refine gg_b_eq K (tgt := 236) dL_areRowsSo_179 (by decide) (fun h179 => ?_) (fun h179 => ?_)
  · exact absurd ⟨nI_le (Nat.le_refl r) (by omega), nI_lt hgt (by omega), (ham r hr1).mpr hself⟩ (bP_nf h179)
  refine gg_cut 208 [(10, .int (nI en)), (9, .int to9), (8, .int (nI r)), (7, .int (runN (vX k kp T r (t' * 8 + y')) d)), (6, .int (nI j)), (5, .int 1), (4, .int (nI ps)), (3, .int (nI (fb_ct (rwF (vX k kp T) (t' * 8 + y')) (60 * (T + 1))))), (0, .ref X.1), (1, .int (nI t')), (2, .int (nI y'))] [] ?_ (fun k208 => ?_)
  rotate_left
  · refine gg_iload K dL_areRowsSo_182 rfl ?_
    refine gg_if_le K (tgt := 208) dL_areRowsSo_184 (by decide) (fun h184 => ?_) (fun h184 => ?_)
    · exact k208
    have hr0 : 0 < r := Nat.pos_of_ne_zero (fun z => h184 (by rw [z]; decide))
    refine gg_aload_n K (i := 0) dL_areRowsSo_187 rfl rfl ?_
    refine gg_iload_n K (i := 1) dL_areRowsSo_188 rfl rfl ?_
    refine gg_iload_n K (i := 2) dL_areRowsSo_189 rfl rfl ?_
    refine gg_iload K dL_areRowsSo_190 rfl ?_
    refine gg_iconst K (v := 1) dL_areRowsSo_192 (by decide) ?_
    refine gg_isub K dL_areRowsSo_193 ?_
    refine gg_iload K dL_areRowsSo_194 rfl ?_
    refine gg_iload K dL_areRowsSo_196 rfl ?_
    refine gg_iconst K (v := 1) dL_areRowsSo_198 (by decide) ?_
    refine gg_isub K dL_areRowsSo_199 ?_
    refine gg_iload K dL_areRowsSo_200 rfl ?_
    refine gg_1S K k_L_L_hasRun (c_hasRun ok t' y' a1 b1 rfl rfl (r - 1) (by omega) (nI_sub1 hr0)) dL_areRowsSo_202 rfl rfl rfl rfl ⟨rfl, rfl⟩ ?_
    refine gg_b_ne K (tgt := 236) dL_areRowsSo_205 (by decide) (fun h205 => ?_) (fun h205 => ?_)
    · have w := (ham (r - 1) (by omega)).mp (bP_iff.mp h205).2.2
      rcases hbe with z | z
      · omega
      · rw [z] at w; cases w
    exact k208
  refine gg_cut 232 [(10, .int (nI en)), (9, .int to9), (8, .int (nI r)), (7, .int (runN (vX k kp T r (t' * 8 + y')) d)), (6, .int (nI j)), (5, .int 1), (4, .int (nI ps)), (3, .int (nI (fb_ct (rwF (vX k kp T) (t' * 8 + y')) (60 * (T + 1))))), (0, .ref X.1), (1, .int (nI t')), (2, .int (nI y'))] [] ?_ (fun k232 => ?_)
  rotate_left
  · rcases hto with ⟨z1, z2, z3⟩ | ⟨z1, z2, z3⟩
    · refine gg_iload K dL_areRowsSo_208 rfl ?_
      refine gg_if_lt K (tgt := 232) dL_areRowsSo_210 (by decide) (fun h210 => ?_) (fun h210 => ?_)
      · exact k232
      · rw [z1] at h210; exact absurd (show (-1 : Int32) < 0 by decide) h210
    · refine gg_iload K dL_areRowsSo_208 rfl ?_
      refine gg_if_lt K (tgt := 232) dL_areRowsSo_210 (by decide) (fun h210 => ?_) (fun h210 => ?_)
      · rw [z1] at h210; exact absurd h210 (nI_pos (by omega))
      refine gg_aload_n K (i := 0) dL_areRowsSo_213 rfl rfl ?_
      refine gg_iload_n K (i := 1) dL_areRowsSo_214 rfl rfl ?_
      refine gg_iload_n K (i := 2) dL_areRowsSo_215 rfl rfl ?_
      refine gg_iload K dL_areRowsSo_216 rfl ?_
      refine gg_iload K dL_areRowsSo_218 rfl ?_
      refine gg_iload K dL_areRowsSo_220 rfl ?_
      refine gg_iload K dL_areRowsSo_222 rfl ?_
      refine gg_iconst K (v := 1) dL_areRowsSo_224 (by decide) ?_
      refine gg_iadd K dL_areRowsSo_225 ?_
      refine gg_1S K k_L_L_hasRun (c_hasRun ok t' y' a1 b1 rfl rfl en z2 z1) dL_areRowsSo_226 rfl rfl rfl rfl ⟨rfl, rfl⟩ ?_
      refine gg_b_ne K (tgt := 236) dL_areRowsSo_229 (by decide) (fun h229 => ?_) (fun h229 => ?_)
      · have w := (ham en z2).mp (bP_iff.mp h229).2.2
        rw [z3] at w; cases w
      exact k232
  refine gg_iconst K (v := 1) dL_areRowsSo_232 (by decide) ?_
  refine gg_goto K (tgt := 237) dL_areRowsSo_233 (by decide) ?_
  refine gg_istore K dL_areRowsSo_237 (by decide) ?_
  refine gg_iinc K (v := nI (j + 1)) dL_areRowsSo_239 rfl (nI_inc (j)) (by decide) ?_
  refine gg_goto K (tgt := 44) dL_areRowsSo_242 (by decide) ?_
  refine gg_sub (L' := [(6, .int (nI (j + 1))), (5, .int 1), (4, .int (nI (fb_sm (fun i => rLen (vX k kp T) (t' * 8 + y') T (kthD (rwF (vX k kp T) (t' * 8 + y')) i (60 * (T + 1)))) ((j + 1))))), (3, .int (nI (fb_ct (rwF (vX k kp T) (t' * 8 + y')) (60 * (T + 1))))), (0, .ref X.1), (1, .int (nI t')), (2, .int (nI y'))]) ⟨rfl, rfl, by rw [hpse]; rfl, rfl, rfl, rfl, rfl, trivial⟩ ?_
  exact ih _ _ ⟨j + 1, by omega, rfl, by omega, rfl⟩
end
section
/-! areAlike; does; act; isRestoredSo -/
set_option maxRecDepth 100000 in
theorem c_alike {l : Launch} {Z : ZT} {X Y : XT} {k kp dr k2 kp2 dr2 : Nat → Int32} {T : Nat} (ok : okX kp T) (ok2 : okX kp2 T) (hV : vX k2 kp2 T = vX k kp T) : mR l Z yL_areAlike cL_areAlike 5 (some .boolean) (rmk 10 240 0 0) (w2 Z X Y k kp dr (nI T) k2 kp2 dr2 (nI T)) [.ref X.1, .ref Y.1] (.int 1) := by
  have hT9 := ok.1
  refine mA_intro (own := RL) [(0, .ref X.1), (1, .ref Y.1)] (by decide +kernel) rfl rfl rfl rfl ?_
  intro p e s m args below meth c A K hr hin
  refine gg_aload_n K (i := 0) dL_areAlike_0 rfl rfl ?_
  refine gg_2V1 K k_L_X0_today x_today dL_areAlike_1 rfl rfl rfl rfl ⟨rfl, rfl⟩ ?_
  refine gg_aload_n K (i := 1) dL_areAlike_4 rfl rfl ?_
  refine gg_2V2 K k_L_X0_today x_today dL_areAlike_5 rfl rfl rfl rfl ⟨rfl, rfl⟩ ?_
  refine gg_icmp_ne K (tgt := 15) dL_areAlike_8 (by decide) (fun h8 => ?_) (fun h8 => ?_)
  · exact absurd rfl h8
  refine gg_iconst K (v := 1) dL_areAlike_11 (by decide) ?_
  refine gg_goto K (tgt := 16) dL_areAlike_12 (by decide) ?_
  refine gg_istore_n K (i := 2) dL_areAlike_16 rfl (by decide) ?_
  refine gg_iconst K (v := 0) dL_areAlike_17 (by decide) ?_
  refine gg_istore_n K (i := 3) dL_areAlike_18 rfl (by decide) ?_
  refine gg_sub (L' := [(3, .int (nI 0)), (2, .int 1), (0, .ref X.1), (1, .ref Y.1)]) ⟨rfl, rfl, rfl, rfl, trivial⟩ ?_
  refine gg_loop (fun i w L => ∃ (j : Nat), j + i = 9 ∧ w = (w2 Z X Y k kp dr (nI T) k2 kp2 dr2 (nI T)) ∧ j ≤ 8 ∧ L = [(3, .int (nI j)), (2, .int 1), (0, .ref X.1), (1, .ref Y.1)]) (fun w L h => ?_) (fun i w L h ih => ?_) 9 _ _ ⟨0, by omega, rfl, by omega, rfl⟩
  · obtain ⟨j, hj, -, h2, -⟩ := h
    omega
  obtain ⟨j, hj, rfl, hj1, rfl⟩ := h
  refine gg_iload_n K (i := 3) dL_areAlike_19 rfl rfl ?_
  refine gg_bipush K (v := 8) dL_areAlike_20 (by decide) ?_
  refine gg_icmp_ge K (tgt := 201) dL_areAlike_22 (by decide) (fun h22 => ?_) (fun h22 => ?_)
  · refine gg_iload_n K (i := 2) dL_areAlike_201 rfl rfl ?_
    exact gg_zret K hr dL_areAlike_202 (Or.inr rfl) (Nat.le_of_ble_eq_true rfl) (Nat.le_of_ble_eq_true rfl) ⟨rfl, rfl⟩
  have hj2 := i_nle (a := 8) h22
  refine gg_iload_n K (i := 2) dL_areAlike_25 rfl rfl ?_
  refine gg_if_eq K (tgt := 201) dL_areAlike_26 (by decide) (fun h26 => ?_) (fun h26 => ?_)
  · exact absurd h26 (by decide)
  refine gg_aload_n K (i := 0) dL_areAlike_29 rfl rfl ?_
  refine gg_iconst K (v := 0) dL_areAlike_30 (by decide) ?_
  refine gg_iload_n K (i := 3) dL_areAlike_31 rfl rfl ?_
  refine gg_2V1 K k_L_X0_rows (n_rows ok 0 j (by omega) hj2 rfl rfl) dL_areAlike_32 rfl rfl rfl rfl ⟨rfl, rfl⟩ ?_
  refine gg_aload_n K (i := 1) dL_areAlike_35 rfl rfl ?_
  refine gg_iconst K (v := 0) dL_areAlike_36 (by decide) ?_
  refine gg_iload_n K (i := 3) dL_areAlike_37 rfl rfl ?_
  refine gg_2V2 K k_L_X0_rows (n_rows ok2 0 j (by omega) hj2 rfl rfl) dL_areAlike_38 rfl rfl rfl rfl ⟨rfl, rfl⟩ ?_
  refine gg_icmp_ne K (tgt := 109) dL_areAlike_41 (by decide) (fun h41 => ?_) (fun h41 => ?_)
  · exact absurd (by rw [hV]) h41
  refine gg_aload_n K (i := 0) dL_areAlike_44 rfl rfl ?_
  refine gg_iconst K (v := 1) dL_areAlike_45 (by decide) ?_
  refine gg_iload_n K (i := 3) dL_areAlike_46 rfl rfl ?_
  refine gg_2V1 K k_L_X0_rows (n_rows ok 1 j (by omega) hj2 rfl rfl) dL_areAlike_47 rfl rfl rfl rfl ⟨rfl, rfl⟩ ?_
  refine gg_aload_n K (i := 1) dL_areAlike_50 rfl rfl ?_
  refine gg_iconst K (v := 1) dL_areAlike_51 (by decide) ?_
  refine gg_iload_n K (i := 3) dL_areAlike_52 rfl rfl ?_
  refine gg_2V2 K k_L_X0_rows (n_rows ok2 1 j (by omega) hj2 rfl rfl) dL_areAlike_53 rfl rfl rfl rfl ⟨rfl, rfl⟩ ?_
  refine gg_icmp_ne K (tgt := 109) dL_areAlike_56 (by decide) (fun h56 => ?_) (fun h56 => ?_)
  · exact absurd (by rw [hV]) h56
  refine gg_aload_n K (i := 0) dL_areAlike_59 rfl rfl ?_
  refine gg_iconst K (v := 0) dL_areAlike_60 (by decide) ?_
  refine gg_iload_n K (i := 3) dL_areAlike_61 rfl rfl ?_
  refine gg_aload_n K (i := 0) dL_areAlike_62 rfl rfl ?_
  refine gg_2V1 K k_L_X0_today x_today dL_areAlike_63 rfl rfl rfl rfl ⟨rfl, rfl⟩ ?_
  refine gg_2V1 K k_L_X0_runs (n_runs ok 0 j (by omega) hj2 rfl rfl T (Nat.le_refl T) rfl) dL_areAlike_66 rfl rfl rfl rfl ⟨rfl, rfl⟩ ?_
  refine gg_aload_n K (i := 1) dL_areAlike_69 rfl rfl ?_
  refine gg_iconst K (v := 0) dL_areAlike_70 (by decide) ?_
  refine gg_iload_n K (i := 3) dL_areAlike_71 rfl rfl ?_
  refine gg_aload_n K (i := 1) dL_areAlike_72 rfl rfl ?_
  refine gg_2V2 K k_L_X0_today x_today dL_areAlike_73 rfl rfl rfl rfl ⟨rfl, rfl⟩ ?_
  refine gg_2V2 K k_L_X0_runs (n_runs ok2 0 j (by omega) hj2 rfl rfl T (Nat.le_refl T) rfl) dL_areAlike_76 rfl rfl rfl rfl ⟨rfl, rfl⟩ ?_
  refine gg_icmp_ne K (tgt := 109) dL_areAlike_79 (by decide) (fun h79 => ?_) (fun h79 => ?_)
  · exact absurd (by rw [hV]) h79
  refine gg_aload_n K (i := 0) dL_areAlike_82 rfl rfl ?_
  refine gg_iconst K (v := 1) dL_areAlike_83 (by decide) ?_
  refine gg_iload_n K (i := 3) dL_areAlike_84 rfl rfl ?_
  refine gg_aload_n K (i := 0) dL_areAlike_85 rfl rfl ?_
  refine gg_2V1 K k_L_X0_today x_today dL_areAlike_86 rfl rfl rfl rfl ⟨rfl, rfl⟩ ?_
  refine gg_2V1 K k_L_X0_longest (n_longest ok 1 j (by omega) hj2 rfl rfl T (Nat.le_refl T) rfl) dL_areAlike_89 rfl rfl rfl rfl ⟨rfl, rfl⟩ ?_
  refine gg_aload_n K (i := 1) dL_areAlike_92 rfl rfl ?_
  refine gg_iconst K (v := 1) dL_areAlike_93 (by decide) ?_
  refine gg_iload_n K (i := 3) dL_areAlike_94 rfl rfl ?_
  refine gg_aload_n K (i := 1) dL_areAlike_95 rfl rfl ?_
  refine gg_2V2 K k_L_X0_today x_today dL_areAlike_96 rfl rfl rfl rfl ⟨rfl, rfl⟩ ?_
  refine gg_2V2 K k_L_X0_longest (n_longest ok2 1 j (by omega) hj2 rfl rfl T (Nat.le_refl T) rfl) dL_areAlike_99 rfl rfl rfl rfl ⟨rfl, rfl⟩ ?_
  refine gg_icmp_ne K (tgt := 109) dL_areAlike_102 (by decide) (fun h102 => ?_) (fun h102 => ?_)
  · exact absurd (by rw [hV]) h102
  refine gg_iconst K (v := 1) dL_areAlike_105 (by decide) ?_
  refine gg_goto K (tgt := 110) dL_areAlike_106 (by decide) ?_
  refine gg_istore_n K (i := 2) dL_areAlike_110 rfl (by decide) ?_
  refine gg_iconst K (v := 0) dL_areAlike_111 (by decide) ?_
  refine gg_istore K dL_areAlike_112 (by decide) ?_
  refine gg_sub (L' := [(4, .int (nI (4 * 0))), (3, .int (nI j)), (2, .int 1), (0, .ref X.1), (1, .ref Y.1)]) ⟨rfl, rfl, rfl, rfl, rfl, trivial⟩ ?_
  refine gg_loop (fun i w L => ∃ (z : Nat), z + i = 16 ∧ w = (w2 Z X Y k kp dr (nI T) k2 kp2 dr2 (nI T)) ∧ z ≤ 15 ∧ L = [(4, .int (nI (4 * z))), (3, .int (nI j)), (2, .int 1), (0, .ref X.1), (1, .ref Y.1)]) (fun w L h => ?_) (fun i w L h ih2 => ?_) 16 _ _ ⟨0, by omega, rfl, by omega, rfl⟩
  · obtain ⟨z, hz, -, h2, -⟩ := h
    omega
  obtain ⟨z, hz, rfl, hz1, rfl⟩ := h
  refine gg_iload K dL_areAlike_114 rfl ?_
  refine gg_bipush K (v := 60) dL_areAlike_116 (by decide) ?_
  refine gg_icmp_ge K (tgt := 195) dL_areAlike_118 (by decide) (fun h118 => ?_) (fun h118 => ?_)
  · refine gg_iinc K (v := nI (j + 1)) dL_areAlike_195 rfl (nI_inc (j)) (by decide) ?_
    refine gg_goto K (tgt := 19) dL_areAlike_198 (by decide) ?_
    refine gg_sub (L' := [(3, .int (nI (j + 1))), (2, .int 1), (0, .ref X.1), (1, .ref Y.1)]) ⟨rfl, rfl, rfl, rfl, trivial⟩ ?_
    exact ih _ _ ⟨j + 1, by omega, rfl, by omega, rfl⟩
  have hz2 := i_nle (a := 60) h118
  refine gg_iload_n K (i := 2) dL_areAlike_121 rfl rfl ?_
  refine gg_if_eq K (tgt := 195) dL_areAlike_122 (by decide) (fun h122 => ?_) (fun h122 => ?_)
  · exact absurd h122 (by decide)
  refine gg_aload_n K (i := 0) dL_areAlike_125 rfl rfl ?_
  refine gg_iconst K (v := 0) dL_areAlike_126 (by decide) ?_
  refine gg_iload_n K (i := 3) dL_areAlike_127 rfl rfl ?_
  refine gg_iload K dL_areAlike_128 rfl ?_
  refine gg_aload_n K (i := 0) dL_areAlike_130 rfl rfl ?_
  refine gg_2V1 K k_L_X0_today x_today dL_areAlike_131 rfl rfl rfl rfl ⟨rfl, rfl⟩ ?_
  refine gg_2V1 K k_L_X0_value (n_value ok 0 j (by omega) hj2 rfl rfl (4 * z) hz2 rfl T (Nat.le_refl T) rfl) dL_areAlike_134 rfl rfl rfl rfl ⟨rfl, rfl⟩ ?_
  refine gg_aload_n K (i := 1) dL_areAlike_137 rfl rfl ?_
  refine gg_iconst K (v := 0) dL_areAlike_138 (by decide) ?_
  refine gg_iload_n K (i := 3) dL_areAlike_139 rfl rfl ?_
  refine gg_iload K dL_areAlike_140 rfl ?_
  refine gg_aload_n K (i := 1) dL_areAlike_142 rfl rfl ?_
  refine gg_2V2 K k_L_X0_today x_today dL_areAlike_143 rfl rfl rfl rfl ⟨rfl, rfl⟩ ?_
  refine gg_2V2 K k_L_X0_value (n_value ok2 0 j (by omega) hj2 rfl rfl (4 * z) hz2 rfl T (Nat.le_refl T) rfl) dL_areAlike_146 rfl rfl rfl rfl ⟨rfl, rfl⟩ ?_
  refine gg_icmp_ne K (tgt := 187) dL_areAlike_149 (by decide) (fun h149 => ?_) (fun h149 => ?_)
  · exact absurd (by rw [hV]) h149
  refine gg_aload_n K (i := 0) dL_areAlike_152 rfl rfl ?_
  refine gg_iconst K (v := 1) dL_areAlike_153 (by decide) ?_
  refine gg_iload_n K (i := 3) dL_areAlike_154 rfl rfl ?_
  refine gg_iload K dL_areAlike_155 rfl ?_
  refine gg_aload_n K (i := 0) dL_areAlike_157 rfl rfl ?_
  refine gg_2V1 K k_L_X0_today x_today dL_areAlike_158 rfl rfl rfl rfl ⟨rfl, rfl⟩ ?_
  refine gg_iconst K (v := 2) dL_areAlike_161 (by decide) ?_
  refine gg_idiv K dL_areAlike_162 (by decide) ?_
  refine gg_2V1 K k_L_X0_value (n_value ok 1 j (by omega) hj2 rfl rfl (4 * z) hz2 rfl (T / 2) (by omega) (pk_div (a := T) (d := 2) (by omega) (by omega) (by omega))) dL_areAlike_163 rfl rfl rfl rfl ⟨rfl, rfl⟩ ?_
  refine gg_aload_n K (i := 1) dL_areAlike_166 rfl rfl ?_
  refine gg_iconst K (v := 1) dL_areAlike_167 (by decide) ?_
  refine gg_iload_n K (i := 3) dL_areAlike_168 rfl rfl ?_
  refine gg_iload K dL_areAlike_169 rfl ?_
  refine gg_aload_n K (i := 1) dL_areAlike_171 rfl rfl ?_
  refine gg_2V2 K k_L_X0_today x_today dL_areAlike_172 rfl rfl rfl rfl ⟨rfl, rfl⟩ ?_
  refine gg_iconst K (v := 2) dL_areAlike_175 (by decide) ?_
  refine gg_idiv K dL_areAlike_176 (by decide) ?_
  refine gg_2V2 K k_L_X0_value (n_value ok2 1 j (by omega) hj2 rfl rfl (4 * z) hz2 rfl (T / 2) (by omega) (pk_div (a := T) (d := 2) (by omega) (by omega) (by omega))) dL_areAlike_177 rfl rfl rfl rfl ⟨rfl, rfl⟩ ?_
  refine gg_icmp_ne K (tgt := 187) dL_areAlike_180 (by decide) (fun h180 => ?_) (fun h180 => ?_)
  · exact absurd (by rw [hV]) h180
  refine gg_iconst K (v := 1) dL_areAlike_183 (by decide) ?_
  refine gg_goto K (tgt := 188) dL_areAlike_184 (by decide) ?_
  refine gg_istore_n K (i := 2) dL_areAlike_188 rfl (by decide) ?_
  refine gg_iinc K (v := nI (4 * (z + 1))) dL_areAlike_189 rfl (nI_add (4 * z) 4) (by decide) ?_
  refine gg_goto K (tgt := 114) dL_areAlike_192 (by decide) ?_
  refine gg_sub (L' := [(4, .int (nI (4 * (z + 1)))), (3, .int (nI j)), (2, .int 1), (0, .ref X.1), (1, .ref Y.1)]) ⟨rfl, rfl, rfl, rfl, rfl, trivial⟩ ?_
  exact ih2 _ _ ⟨z + 1, by omega, rfl, by omega, rfl⟩
/-- a change, told -/
def toldW (Z : ZT) (X : XT) (S : Int32 → VT → Nat → Prop) : Option Value → va_W → Prop := fun ret u => ∃ (r : Int32) (k' kp' dr' : Nat → Int32) (T' : Nat), ret = some (.int r) ∧ u = wX Z X k' kp' dr' (nI T') ∧ okX kp' T' ∧ S r (vX k' kp' T') T'
set_option maxRecDepth 100000 in
theorem c_does {l : Launch} {Z : ZT} {X : XT} {k kp dr : Nat → Int32} {T : Nat} (hl0 : l.stackTraces = false) (ok : okX kp T) (hv : valOk (vX k kp T) T) {h9 t y x f q : Int32} : mX l Z.1 (ty3 Z) yL_does (Cond.codeWith yL_does cL_does 8 (some .int) [(0, 76, 77, 29), (0, 76, 82, 32), (0, 76, 87, 34)]) (rmk 10 250 8 48) (wX Z X k kp dr (nI T)) [.ref X.1, .int h9, .int t, .int y, .int x, .int f, .int q] (toldW Z X (sDo (vX k kp T) T h9 t y x f q)) (fun _ _ => False) := by
  refine mH_intro (own := RL) [(0, .ref X.1), (1, .int h9), (2, .int t), (3, .int y), (4, .int x), (5, .int f), (6, .int q)] (by decide +kernel) rfl rfl rfl rfl ?_
  intro p e s m args below meth c A K hr T9 htab
  refine gg_iload_n K (i := 1) dL_does_0 rfl rfl ?_
  refine gg_if_ne K (tgt := 19) dL_does_1 (by decide) (fun h1 => ?_) (fun h1 => ?_)
  rotate_left
  · have e0 : h9 = 0 := h1
    refine gg_aload_n K (i := 0) dL_does_4 rfl rfl ?_
    refine gg_iload_n K (i := 2) dL_does_5 rfl rfl ?_
    refine gg_iload_n K (i := 3) dL_does_6 rfl rfl ?_
    refine gg_iload K dL_does_7 rfl ?_
    refine gg_iload K dL_does_9 rfl ?_
    refine gg_iload K dL_does_11 rfl ?_
    refine gg_callJX (wr := []) [0, 1, 2, 3] [] rfl rfl rfl K T9 k_L_X0_put (x_put hl0 ok hv) 0 (ci := 0) (N := 4) (T := TX0) rfl rfl dL_does_13 rfl rfl rfl rfl (fun E u h => ?_) (fun v u h => ?_)
    · obtain ⟨c9, k', kp', dr', T', hm, rfl, ok', hS⟩ := h
      simp only [cAS, List.mem_cons, List.not_mem_nil, or_false, Prod.mk.injEq] at hm
      rcases hm with ⟨rfl, rfl⟩ | ⟨rfl, rfl⟩
      · refine gx_catch K T9 htab [] ⟨0, 76, 77, 29⟩ [⟨0, 76, 82, 32⟩, ⟨0, 76, 87, 34⟩] rfl (fun _ h => absurd h List.not_mem_nil) (by decide) (by decide) wd_29 (List.mem_of_getElem? (i := 0) rfl) (fun q9 => ?_)
        refine gg_astore K dL_does_77 (by decide) ?_
        refine gg_ldc K wd_3 dL_does_79 ?_
        exact gg_x (gg_iret K hr dL_does_81 (Nat.le_of_ble_eq_true rfl) (Nat.le_of_ble_eq_true rfl) ⟨-99999, k', kp', dr', T', rfl, rfl, ok', _, 0, by rw [if_pos e0]; exact hS, rfl⟩)
      · refine gx_catch K T9 htab [⟨0, 76, 77, 29⟩, ⟨0, 76, 82, 32⟩] ⟨0, 76, 87, 34⟩ [] rfl (List.forall_mem_cons.mpr ⟨⟨by decide, eA, wd_29, List.mem_of_getElem? (i := 2) rfl⟩, (List.forall_mem_cons.mpr ⟨⟨by decide, eB, wd_30, List.mem_of_getElem? (i := 3) rfl⟩, (fun _ h => absurd h List.not_mem_nil)⟩)⟩) (by decide) (by decide) wd_31 (List.mem_of_getElem? (i := 1) rfl) (fun q9 => ?_)
        refine gg_astore K dL_does_87 (by decide) ?_
        refine gg_ldc K wd_3 dL_does_89 ?_
        exact gg_x (gg_iret K hr dL_does_91 (Nat.le_of_ble_eq_true rfl) (Nat.le_of_ble_eq_true rfl) ⟨-99999, k', kp', dr', T', rfl, rfl, ok', _, 0, by rw [if_pos e0]; exact hS, rfl⟩)
    obtain ⟨r, k', kp', dr', T', rfl, rfl, ok', hS⟩ := h
    refine gg_goto K (tgt := 76) dL_does_16 (by decide) ?_
    exact gg_x (gg_iret K hr dL_does_76 (Nat.le_of_ble_eq_true rfl) (Nat.le_of_ble_eq_true rfl) ⟨r, k', kp', dr', T', rfl, rfl, ok', 0, r, by rw [if_pos e0]; exact hS, rfl⟩)
  have e0 : ¬ h9 = 0 := h1
  refine gg_iload_n K (i := 1) dL_does_19 rfl rfl ?_
  refine gg_iconst K (v := 1) dL_does_20 (by decide) ?_
  refine gg_icmp_ne K (tgt := 37) dL_does_21 (by decide) (fun h21 => ?_) (fun h21 => ?_)
  rotate_left
  · have e1 : h9 = 1 := h21
    refine gg_aload_n K (i := 0) dL_does_24 rfl rfl ?_
    refine gg_iload_n K (i := 2) dL_does_25 rfl rfl ?_
    refine gg_iload_n K (i := 3) dL_does_26 rfl rfl ?_
    refine gg_iload K dL_does_27 rfl ?_
    refine gg_iload K dL_does_29 rfl ?_
    refine gg_callJX (wr := []) [0, 1, 2, 3] [] rfl rfl rfl K T9 k_L_X0_erase (x_erase hl0 ok hv) 0 (ci := 0) (N := 4) (T := TX0) rfl rfl dL_does_31 rfl rfl rfl rfl (fun E u h => ?_) (fun v u h => ?_)
    · obtain ⟨c9, k', kp', dr', T', hm, rfl, ok', hS⟩ := h
      simp only [cAS, List.mem_cons, List.not_mem_nil, or_false, Prod.mk.injEq] at hm
      rcases hm with ⟨rfl, rfl⟩ | ⟨rfl, rfl⟩
      · refine gx_catch K T9 htab [] ⟨0, 76, 77, 29⟩ [⟨0, 76, 82, 32⟩, ⟨0, 76, 87, 34⟩] rfl (fun _ h => absurd h List.not_mem_nil) (by decide) (by decide) wd_29 (List.mem_of_getElem? (i := 0) rfl) (fun q9 => ?_)
        refine gg_astore K dL_does_77 (by decide) ?_
        refine gg_ldc K wd_3 dL_does_79 ?_
        exact gg_x (gg_iret K hr dL_does_81 (Nat.le_of_ble_eq_true rfl) (Nat.le_of_ble_eq_true rfl) ⟨-99999, k', kp', dr', T', rfl, rfl, ok', _, 0, by rw [if_neg e0, if_pos e1]; exact hS, rfl⟩)
      · refine gx_catch K T9 htab [⟨0, 76, 77, 29⟩, ⟨0, 76, 82, 32⟩] ⟨0, 76, 87, 34⟩ [] rfl (List.forall_mem_cons.mpr ⟨⟨by decide, eA, wd_29, List.mem_of_getElem? (i := 2) rfl⟩, (List.forall_mem_cons.mpr ⟨⟨by decide, eB, wd_30, List.mem_of_getElem? (i := 3) rfl⟩, (fun _ h => absurd h List.not_mem_nil)⟩)⟩) (by decide) (by decide) wd_31 (List.mem_of_getElem? (i := 1) rfl) (fun q9 => ?_)
        refine gg_astore K dL_does_87 (by decide) ?_
        refine gg_ldc K wd_3 dL_does_89 ?_
        exact gg_x (gg_iret K hr dL_does_91 (Nat.le_of_ble_eq_true rfl) (Nat.le_of_ble_eq_true rfl) ⟨-99999, k', kp', dr', T', rfl, rfl, ok', _, 0, by rw [if_neg e0, if_pos e1]; exact hS, rfl⟩)
    obtain ⟨r, k', kp', dr', T', rfl, rfl, ok', hS⟩ := h
    refine gg_goto K (tgt := 76) dL_does_34 (by decide) ?_
    exact gg_x (gg_iret K hr dL_does_76 (Nat.le_of_ble_eq_true rfl) (Nat.le_of_ble_eq_true rfl) ⟨r, k', kp', dr', T', rfl, rfl, ok', 0, r, by rw [if_neg e0, if_pos e1]; exact hS, rfl⟩)
  have e1 : ¬ h9 = 1 := h21
  refine gg_iload_n K (i := 1) dL_does_37 rfl rfl ?_
  refine gg_iconst K (v := 2) dL_does_38 (by decide) ?_
  refine gg_icmp_ne K (tgt := 54) dL_does_39 (by decide) (fun h39 => ?_) (fun h39 => ?_)
  rotate_left
  · have e2 : h9 = 2 := h39
    refine gg_aload_n K (i := 0) dL_does_42 rfl rfl ?_
    refine gg_iload_n K (i := 3) dL_does_43 rfl rfl ?_
    refine gg_iload K dL_does_44 rfl ?_
    refine gg_iload K dL_does_46 rfl ?_
    refine gg_callJX (wr := []) [0, 1, 2, 3] [] rfl rfl rfl K T9 k_L_X0_eraseAll (x_eraseAll hl0 ok) 0 (ci := 0) (N := 4) (T := TX0) rfl rfl dL_does_48 rfl rfl rfl rfl (fun E u h => ?_) (fun v u h => ?_)
    · obtain ⟨c9, k', kp', dr', T', hm, rfl, ok', hS⟩ := h
      simp only [cA1, List.mem_cons, List.not_mem_nil, or_false, Prod.mk.injEq] at hm
      obtain ⟨rfl, rfl⟩ := hm
      refine gx_catch K T9 htab [] ⟨0, 76, 77, 29⟩ [⟨0, 76, 82, 32⟩, ⟨0, 76, 87, 34⟩] rfl (fun _ h => absurd h List.not_mem_nil) (by decide) (by decide) wd_29 (List.mem_of_getElem? (i := 0) rfl) (fun q9 => ?_)
      refine gg_astore K dL_does_77 (by decide) ?_
      refine gg_ldc K wd_3 dL_does_79 ?_
      exact gg_x (gg_iret K hr dL_does_81 (Nat.le_of_ble_eq_true rfl) (Nat.le_of_ble_eq_true rfl) ⟨-99999, k', kp', dr', T', rfl, rfl, ok', _, 0, by rw [if_neg e0, if_neg e1, if_pos e2]; exact hS, rfl⟩)
    obtain ⟨r, k', kp', dr', T', rfl, rfl, ok', hS⟩ := h
    refine gg_goto K (tgt := 76) dL_does_51 (by decide) ?_
    exact gg_x (gg_iret K hr dL_does_76 (Nat.le_of_ble_eq_true rfl) (Nat.le_of_ble_eq_true rfl) ⟨r, k', kp', dr', T', rfl, rfl, ok', 0, r, by rw [if_neg e0, if_neg e1, if_pos e2]; exact hS, rfl⟩)
  have e2 : ¬ h9 = 2 := h39
  refine gg_iload_n K (i := 1) dL_does_54 rfl rfl ?_
  refine gg_iconst K (v := 3) dL_does_55 (by decide) ?_
  refine gg_icmp_ne K (tgt := 70) dL_does_56 (by decide) (fun h56 => ?_) (fun h56 => ?_)
  rotate_left
  · have e3 : h9 = 3 := h56
    refine gg_aload_n K (i := 0) dL_does_59 rfl rfl ?_
    refine gg_iload_n K (i := 2) dL_does_60 rfl rfl ?_
    refine gg_iload_n K (i := 3) dL_does_61 rfl rfl ?_
    refine gg_iload K dL_does_62 rfl ?_
    refine gg_callJX (wr := []) [0, 1, 2, 3] [] rfl rfl rfl K T9 k_L_X0_restore (x_restore hl0 ok hv) 0 (ci := 0) (N := 4) (T := TX0) rfl rfl dL_does_64 rfl rfl rfl rfl (fun E u h => ?_) (fun v u h => ?_)
    · obtain ⟨c9, k', kp', dr', T', hm, rfl, ok', hS⟩ := h
      simp only [cABS, List.mem_cons, List.not_mem_nil, or_false, Prod.mk.injEq] at hm
      rcases hm with ⟨rfl, rfl⟩ | ⟨rfl, rfl⟩ | ⟨rfl, rfl⟩
      · refine gx_catch K T9 htab [] ⟨0, 76, 77, 29⟩ [⟨0, 76, 82, 32⟩, ⟨0, 76, 87, 34⟩] rfl (fun _ h => absurd h List.not_mem_nil) (by decide) (by decide) wd_29 (List.mem_of_getElem? (i := 0) rfl) (fun q9 => ?_)
        refine gg_astore K dL_does_77 (by decide) ?_
        refine gg_ldc K wd_3 dL_does_79 ?_
        exact gg_x (gg_iret K hr dL_does_81 (Nat.le_of_ble_eq_true rfl) (Nat.le_of_ble_eq_true rfl) ⟨-99999, k', kp', dr', T', rfl, rfl, ok', _, 0, by rw [if_neg e0, if_neg e1, if_neg e2, if_pos e3]; exact hS, rfl⟩)
      · refine gx_catch K T9 htab [⟨0, 76, 77, 29⟩] ⟨0, 76, 82, 32⟩ [⟨0, 76, 87, 34⟩] rfl (List.forall_mem_cons.mpr ⟨⟨by decide, eA, wd_29, List.mem_of_getElem? (i := 4) rfl⟩, (fun _ h => absurd h List.not_mem_nil)⟩) (by decide) (by decide) wd_30 (List.mem_of_getElem? (i := 2) rfl) (fun q9 => ?_)
        refine gg_astore K dL_does_82 (by decide) ?_
        refine gg_ldc K wd_3 dL_does_84 ?_
        exact gg_x (gg_iret K hr dL_does_86 (Nat.le_of_ble_eq_true rfl) (Nat.le_of_ble_eq_true rfl) ⟨-99999, k', kp', dr', T', rfl, rfl, ok', _, 0, by rw [if_neg e0, if_neg e1, if_neg e2, if_pos e3]; exact hS, rfl⟩)
      · refine gx_catch K T9 htab [⟨0, 76, 77, 29⟩, ⟨0, 76, 82, 32⟩] ⟨0, 76, 87, 34⟩ [] rfl (List.forall_mem_cons.mpr ⟨⟨by decide, eA, wd_29, List.mem_of_getElem? (i := 2) rfl⟩, (List.forall_mem_cons.mpr ⟨⟨by decide, eB, wd_30, List.mem_of_getElem? (i := 3) rfl⟩, (fun _ h => absurd h List.not_mem_nil)⟩)⟩) (by decide) (by decide) wd_31 (List.mem_of_getElem? (i := 1) rfl) (fun q9 => ?_)
        refine gg_astore K dL_does_87 (by decide) ?_
        refine gg_ldc K wd_3 dL_does_89 ?_
        exact gg_x (gg_iret K hr dL_does_91 (Nat.le_of_ble_eq_true rfl) (Nat.le_of_ble_eq_true rfl) ⟨-99999, k', kp', dr', T', rfl, rfl, ok', _, 0, by rw [if_neg e0, if_neg e1, if_neg e2, if_pos e3]; exact hS, rfl⟩)
    obtain ⟨r, k', kp', dr', T', rfl, rfl, ok', hS⟩ := h
    refine gg_goto K (tgt := 76) dL_does_67 (by decide) ?_
    exact gg_x (gg_iret K hr dL_does_76 (Nat.le_of_ble_eq_true rfl) (Nat.le_of_ble_eq_true rfl) ⟨r, k', kp', dr', T', rfl, rfl, ok', 0, r, by rw [if_neg e0, if_neg e1, if_neg e2, if_pos e3]; exact hS, rfl⟩)
  have e3 : ¬ h9 = 3 := h56
  refine gg_aload_n K (i := 0) dL_does_70 rfl rfl ?_
  refine gg_iload K dL_does_71 rfl ?_
  refine gg_callJX (wr := []) [0, 1, 2, 3] [] rfl rfl rfl K T9 k_L_X0_pass (x_pass hl0 ok) 0 (ci := 0) (N := 4) (T := TX0) rfl rfl dL_does_73 rfl rfl rfl rfl (fun E u h => ?_) (fun v u h => ?_)
  · obtain ⟨c9, k', kp', dr', T', hm, rfl, ok', hS⟩ := h
    simp only [cAS, List.mem_cons, List.not_mem_nil, or_false, Prod.mk.injEq] at hm
    rcases hm with ⟨rfl, rfl⟩ | ⟨rfl, rfl⟩
    · refine gx_catch K T9 htab [] ⟨0, 76, 77, 29⟩ [⟨0, 76, 82, 32⟩, ⟨0, 76, 87, 34⟩] rfl (fun _ h => absurd h List.not_mem_nil) (by decide) (by decide) wd_29 (List.mem_of_getElem? (i := 0) rfl) (fun q9 => ?_)
      refine gg_astore K dL_does_77 (by decide) ?_
      refine gg_ldc K wd_3 dL_does_79 ?_
      exact gg_x (gg_iret K hr dL_does_81 (Nat.le_of_ble_eq_true rfl) (Nat.le_of_ble_eq_true rfl) ⟨-99999, k', kp', dr', T', rfl, rfl, ok', _, 0, by rw [if_neg e0, if_neg e1, if_neg e2, if_neg e3]; exact hS, rfl⟩)
    · refine gx_catch K T9 htab [⟨0, 76, 77, 29⟩, ⟨0, 76, 82, 32⟩] ⟨0, 76, 87, 34⟩ [] rfl (List.forall_mem_cons.mpr ⟨⟨by decide, eA, wd_29, List.mem_of_getElem? (i := 2) rfl⟩, (List.forall_mem_cons.mpr ⟨⟨by decide, eB, wd_30, List.mem_of_getElem? (i := 3) rfl⟩, (fun _ h => absurd h List.not_mem_nil)⟩)⟩) (by decide) (by decide) wd_31 (List.mem_of_getElem? (i := 1) rfl) (fun q9 => ?_)
      refine gg_astore K dL_does_87 (by decide) ?_
      refine gg_ldc K wd_3 dL_does_89 ?_
      exact gg_x (gg_iret K hr dL_does_91 (Nat.le_of_ble_eq_true rfl) (Nat.le_of_ble_eq_true rfl) ⟨-99999, k', kp', dr', T', rfl, rfl, ok', _, 0, by rw [if_neg e0, if_neg e1, if_neg e2, if_neg e3]; exact hS, rfl⟩)
  obtain ⟨r, k', kp', dr', T', rfl, rfl, ok', hS⟩ := h
  exact gg_x (gg_iret K hr dL_does_76 (Nat.le_of_ble_eq_true rfl) (Nat.le_of_ble_eq_true rfl) ⟨r, k', kp', dr', T', rfl, rfl, ok', 0, r, by rw [if_neg e0, if_neg e1, if_neg e2, if_neg e3]; exact hS, rfl⟩)
end
section
/-! act; isRestoredSo -/
abbrev shF (v n : Int32) : Int32 := v >>> (n &&& 31)
/-- what the law's 'act' draws out of a cell -/
abbrev oddP (v : Int32) : Prop := lowF (shF v 24) 8 = 0
def dOb (v : Int32) : Int32 := if oddP v then 1 else 0
def dT (v : Int32) : Int32 := if oddP v then lowF (shF v 4) 4 - 1 else shF v 4 &&& 1
def dY (v : Int32) : Int32 := if oddP v then lowF (shF v 5) 11 else lowF (shF v 5) 4
def dF (v : Int32) : Int32 := if oddP v then lowF (shF v 3) 64 - 2 else lowF (shF v 3) 60
def dW (v : Int32) : Int32 := if shF v 15 &&& 1 = 0 then 60 - dF v else if 60 - dF v < 12 then 60 - dF v else 12
def dQ (v : Int32) : Int32 := if oddP v then lowF (shF v 8) 66 else dF v + 1 + lowF (shF v 8) (dW v)
def dX (v : Int32) : Int32 := if oddP v then 110 else if dT v = 0 then 6 else 4
def dR (v : Int32) (T : Nat) : Int32 := if oddP v then dF v else lowF (shF v 9) (nI T + 1)
def dP (v : Int32) : Int32 := if oddP v then lowF (shF v 6) 70 else 1 + lowF (shF v 6) 5
def sAct (V : VT) (T : Nat) (v : Int32) (r : Int32) (V' : VT) (T' : Nat) : Prop :=
  if 9 ≤ lowF v 20 then (if 13 ≤ lowF v 20 then (if 16 ≤ lowF v 20 then sDo V T 4 0 0 (dP v) 0 0 r V' T' else sDo V T 3 (dT v) (dY v) 0 (dR v T) 0 r V' T') else sDo V T (if 12 ≤ lowF v 20 then 2 else 1) (dT v) (dY v) 0 (dF v) (dQ v) r V' T') else sDo V T 0 (dT v) (dY v) (lowF (shF v 10) (dX v)) (dF v) (dQ v) r V' T'
/-- an act is one change -/
theorem sAct_one (V : VT) (T : Nat) (v : Int32) : ∃ h t y x f q : Int32, ∀ (r : Int32) (V' : VT) (T' : Nat), sAct V T v r V' T' ↔ sDo V T h t y x f q r V' T' := by
  by_cases h1 : 9 ≤ lowF v 20
  · by_cases h2 : 13 ≤ lowF v 20
    · by_cases h3 : 16 ≤ lowF v 20
      · exact ⟨4, 0, 0, dP v, 0, 0, fun r V' T' => by unfold sAct; rw [if_pos h1, if_pos h2, if_pos h3]⟩
      · exact ⟨3, dT v, dY v, 0, dR v T, 0, fun r V' T' => by unfold sAct; rw [if_pos h1, if_pos h2, if_neg h3]⟩
    · exact ⟨if 12 ≤ lowF v 20 then 2 else 1, dT v, dY v, 0, dF v, dQ v, fun r V' T' => by unfold sAct; rw [if_pos h1, if_neg h2]⟩
  · exact ⟨0, dT v, dY v, lowF (shF v 10) (dX v), dF v, dQ v, fun r V' T' => by unfold sAct; rw [if_neg h1]⟩
theorem sAct_uq {V : VT} {T : Nat} {v r r2 : Int32} {V1 V2 : VT} {T1 T2 : Nat} (h1 : sAct V T v r V1 T1) (h2 : sAct V T v r2 V2 T2) : r = r2 ∧ V1 = V2 ∧ T1 = T2 := by
  obtain ⟨h, t, y, x, f, q, e⟩ := sAct_one V T v
  exact sDo_uq ((e _ _ _).mp h1) ((e _ _ _).mp h2)
theorem sAct_inv {V : VT} {T : Nat} {v r : Int32} {V1 : VT} {T1 : Nat} (hT : T < 60) (hi : INV V T) (h1 : sAct V T v r V1 T1) : INV V1 T1 := by
  obtain ⟨h, t, y, x, f, q, e⟩ := sAct_one V T v
  exact sDo_inv hT hi ((e _ _ _).mp h1)
theorem sAct_off {V : VT} {T : Nat} {v r : Int32} {V1 : VT} {T1 : Nat} (h1 : sAct V T v r V1 T1) (hr : r = -99999) : V1 = V ∧ T1 = T := by
  obtain ⟨h, t, y, x, f, q, e⟩ := sAct_one V T v
  exact sDo_off ((e _ _ _).mp h1) hr
theorem dW_ne {v : Int32} (ho : ¬ oddP v) : ¬ dW v = 0 := by
  obtain ⟨a, a1, a2⟩ := lowF_nI (v := shF v 3) (n := 60) (by omega) (by omega)
  have e : dF v = nI a := (if_neg ho).trans a2
  unfold dW
  rw [e, show (60 : Int32) - nI a = nI (60 - a) from pk_sub (a := 60) (by omega)]
  have h1 : ¬ nI (60 - a) = 0 := fun z => by
    have := i_eq (b := 0) z
    omega
  split
  · exact h1
  · split
    · exact h1
    · decide
theorem dX_ne (v : Int32) : ¬ dX v = 0 := by
  unfold dX
  split
  · decide
  · split <;> decide
set_option maxRecDepth 100000 in
theorem c_act {l : Launch} {Z : ZT} {X : XT} {k kp dr : Nat → Int32} {T : Nat} (hl0 : l.stackTraces = false) (ok : okX kp T) (hv : valOk (vX k kp T) T) {v : Int32} : mX l Z.1 (ty3 Z) yL_act (.code yL_act cL_act 8 (some .int)) (rmk 11 300 8 48) (wX Z X k kp dr (nI T)) [.ref X.1, .int v] (toldW Z X (sAct (vX k kp T) T v)) (fun _ _ => False) := by
  have hT9 := ok.1
  refine mX_intro (own := RL) [(0, .ref X.1), (1, .int v)] (by decide +kernel) rfl rfl rfl rfl ?_
  intro p e s m args below meth c A K hr T9 htab
  refine gg_cut 160 [(7, .int (dQ v)), (6, .int (dF v)), (5, .int (dY v)), (4, .int (dT v)), (3, .int (lowF v 20)), (2, .int (dOb v)), (0, .ref X.1), (1, .int v)] [] ?_ (fun k160 => ?_)
  rotate_left
  · by_cases ho : oddP v
    · have e1 : dOb v = 1 := if_pos ho
      have e2 : dT v = _ := if_pos ho
      have e3 : dY v = _ := if_pos ho
      have e4 : dF v = _ := if_pos ho
      have e5 : dQ v = _ := if_pos ho
      refine gg_iload_n K (i := 1) dL_act_0 rfl rfl ?_
      refine gg_bipush K (v := 24) dL_act_1 (by decide) ?_
      refine gg_ishr K dL_act_3 ?_
      refine gg_bipush K (v := 8) dL_act_4 (by decide) ?_
      refine gg_callSR K k_L_L_low (n_low (by decide)) dL_act_6 rfl rfl rfl rfl ⟨rfl, rfl⟩ ?_
      refine gg_if_ne K (tgt := 16) dL_act_9 (by decide) (fun h9 => ?_) (fun h9 => ?_)
      · exact absurd ho h9
      refine gg_iconst K (v := 1) dL_act_12 (by decide) ?_
      refine gg_goto K (tgt := 17) dL_act_13 (by decide) ?_
      refine gg_istore_n K (i := 2) dL_act_17 rfl (by decide) ?_
      refine gg_iload_n K (i := 1) dL_act_18 rfl rfl ?_
      refine gg_bipush K (v := 20) dL_act_19 (by decide) ?_
      refine gg_callSR K k_L_L_low (n_low (by decide)) dL_act_21 rfl rfl rfl rfl ⟨rfl, rfl⟩ ?_
      refine gg_istore_n K (i := 3) dL_act_24 rfl (by decide) ?_
      refine gg_iload_n K (i := 2) dL_act_25 rfl rfl ?_
      refine gg_if_eq K (tgt := 41) dL_act_26 (by decide) (fun h26 => ?_) (fun h26 => ?_)
      · exact absurd h26 (by decide)
      refine gg_iload_n K (i := 1) dL_act_29 rfl rfl ?_
      refine gg_iconst K (v := 4) dL_act_30 (by decide) ?_
      refine gg_ishr K dL_act_31 ?_
      refine gg_iconst K (v := 4) dL_act_32 (by decide) ?_
      refine gg_callSR K k_L_L_low (n_low (by decide)) dL_act_33 rfl rfl rfl rfl ⟨rfl, rfl⟩ ?_
      refine gg_iconst K (v := 1) dL_act_36 (by decide) ?_
      refine gg_isub K dL_act_37 ?_
      refine gg_goto K (tgt := 46) dL_act_38 (by decide) ?_
      refine gg_istore K dL_act_46 (by decide) ?_
      refine gg_iload_n K (i := 1) dL_act_48 rfl rfl ?_
      refine gg_iconst K (v := 5) dL_act_49 (by decide) ?_
      refine gg_ishr K dL_act_50 ?_
      refine gg_iload_n K (i := 2) dL_act_51 rfl rfl ?_
      refine gg_if_eq K (tgt := 60) dL_act_52 (by decide) (fun h52 => ?_) (fun h52 => ?_)
      · exact absurd h52 (by decide)
      refine gg_bipush K (v := 11) dL_act_55 (by decide) ?_
      refine gg_goto K (tgt := 61) dL_act_57 (by decide) ?_
      refine gg_callSR K k_L_L_low (n_low (by decide)) dL_act_61 rfl rfl rfl rfl ⟨rfl, rfl⟩ ?_
      refine gg_istore K dL_act_64 (by decide) ?_
      refine gg_iload_n K (i := 2) dL_act_66 rfl rfl ?_
      refine gg_if_eq K (tgt := 83) dL_act_67 (by decide) (fun h67 => ?_) (fun h67 => ?_)
      · exact absurd h67 (by decide)
      refine gg_iload_n K (i := 1) dL_act_70 rfl rfl ?_
      refine gg_iconst K (v := 3) dL_act_71 (by decide) ?_
      refine gg_ishr K dL_act_72 ?_
      refine gg_bipush K (v := 64) dL_act_73 (by decide) ?_
      refine gg_callSR K k_L_L_low (n_low (by decide)) dL_act_75 rfl rfl rfl rfl ⟨rfl, rfl⟩ ?_
      refine gg_iconst K (v := 2) dL_act_78 (by decide) ?_
      refine gg_isub K dL_act_79 ?_
      refine gg_goto K (tgt := 91) dL_act_80 (by decide) ?_
      refine gg_istore K dL_act_91 (by decide) ?_
      refine gg_iload_n K (i := 2) dL_act_93 rfl rfl ?_
      refine gg_if_eq K (tgt := 109) dL_act_94 (by decide) (fun h94 => ?_) (fun h94 => ?_)
      · exact absurd h94 (by decide)
      refine gg_iload_n K (i := 1) dL_act_97 rfl rfl ?_
      refine gg_bipush K (v := 8) dL_act_98 (by decide) ?_
      refine gg_ishr K dL_act_100 ?_
      refine gg_bipush K (v := 66) dL_act_101 (by decide) ?_
      refine gg_callSR K k_L_L_low (n_low (by decide)) dL_act_103 rfl rfl rfl rfl ⟨rfl, rfl⟩ ?_
      refine gg_goto K (tgt := 158) dL_act_106 (by decide) ?_
      refine gg_istore K dL_act_158 (by decide) ?_
      refine gg_sub (L' := [(7, .int (dQ v)), (6, .int (dF v)), (5, .int (dY v)), (4, .int (dT v)), (3, .int (lowF v 20)), (2, .int (dOb v)), (0, .ref X.1), (1, .int v)]) ⟨by rw [e5]; rfl, by rw [e4]; rfl, by rw [e3]; rfl, by rw [e2]; rfl, rfl, by rw [e1]; rfl, rfl, rfl, trivial⟩ ?_
      exact k160
    · have e1 : dOb v = 0 := if_neg ho
      have e2 : dT v = _ := if_neg ho
      have e3 : dY v = _ := if_neg ho
      have e4 : dF v = _ := if_neg ho
      have e5 : dQ v = _ := if_neg ho
      refine gg_iload_n K (i := 1) dL_act_0 rfl rfl ?_
      refine gg_bipush K (v := 24) dL_act_1 (by decide) ?_
      refine gg_ishr K dL_act_3 ?_
      refine gg_bipush K (v := 8) dL_act_4 (by decide) ?_
      refine gg_callSR K k_L_L_low (n_low (by decide)) dL_act_6 rfl rfl rfl rfl ⟨rfl, rfl⟩ ?_
      refine gg_if_ne K (tgt := 16) dL_act_9 (by decide) (fun h9 => ?_) (fun h9 => ?_)
      rotate_left
      · exact absurd h9 ho
      refine gg_iconst K (v := 0) dL_act_16 (by decide) ?_
      refine gg_istore_n K (i := 2) dL_act_17 rfl (by decide) ?_
      refine gg_iload_n K (i := 1) dL_act_18 rfl rfl ?_
      refine gg_bipush K (v := 20) dL_act_19 (by decide) ?_
      refine gg_callSR K k_L_L_low (n_low (by decide)) dL_act_21 rfl rfl rfl rfl ⟨rfl, rfl⟩ ?_
      refine gg_istore_n K (i := 3) dL_act_24 rfl (by decide) ?_
      refine gg_iload_n K (i := 2) dL_act_25 rfl rfl ?_
      refine gg_if_eq K (tgt := 41) dL_act_26 (by decide) (fun h26 => ?_) (fun h26 => ?_)
      rotate_left
      · exact absurd rfl h26
      refine gg_iload_n K (i := 1) dL_act_41 rfl rfl ?_
      refine gg_iconst K (v := 4) dL_act_42 (by decide) ?_
      refine gg_ishr K dL_act_43 ?_
      refine gg_iconst K (v := 1) dL_act_44 (by decide) ?_
      refine gg_iand K dL_act_45 ?_
      refine gg_istore K dL_act_46 (by decide) ?_
      refine gg_iload_n K (i := 1) dL_act_48 rfl rfl ?_
      refine gg_iconst K (v := 5) dL_act_49 (by decide) ?_
      refine gg_ishr K dL_act_50 ?_
      refine gg_iload_n K (i := 2) dL_act_51 rfl rfl ?_
      refine gg_if_eq K (tgt := 60) dL_act_52 (by decide) (fun h52 => ?_) (fun h52 => ?_)
      rotate_left
      · exact absurd rfl h52
      refine gg_iconst K (v := 4) dL_act_60 (by decide) ?_
      refine gg_callSR K k_L_L_low (n_low (by decide)) dL_act_61 rfl rfl rfl rfl ⟨rfl, rfl⟩ ?_
      refine gg_istore K dL_act_64 (by decide) ?_
      refine gg_iload_n K (i := 2) dL_act_66 rfl rfl ?_
      refine gg_if_eq K (tgt := 83) dL_act_67 (by decide) (fun h67 => ?_) (fun h67 => ?_)
      rotate_left
      · exact absurd rfl h67
      refine gg_iload_n K (i := 1) dL_act_83 rfl rfl ?_
      refine gg_iconst K (v := 3) dL_act_84 (by decide) ?_
      refine gg_ishr K dL_act_85 ?_
      refine gg_bipush K (v := 60) dL_act_86 (by decide) ?_
      refine gg_callSR K k_L_L_low (n_low (by decide)) dL_act_88 rfl rfl rfl rfl ⟨rfl, rfl⟩ ?_
      refine gg_top (y := dF v) e4.symm ?_
      refine gg_istore K dL_act_91 (by decide) ?_
      refine gg_iload_n K (i := 2) dL_act_93 rfl rfl ?_
      refine gg_if_eq K (tgt := 109) dL_act_94 (by decide) (fun h94 => ?_) (fun h94 => ?_)
      rotate_left
      · exact absurd rfl h94
      refine gg_iload K dL_act_109 rfl ?_
      refine gg_iconst K (v := 1) dL_act_111 (by decide) ?_
      refine gg_iadd K dL_act_112 ?_
      refine gg_iload_n K (i := 1) dL_act_113 rfl rfl ?_
      refine gg_bipush K (v := 8) dL_act_114 (by decide) ?_
      refine gg_ishr K dL_act_116 ?_
      refine gg_iload_n K (i := 1) dL_act_117 rfl rfl ?_
      refine gg_bipush K (v := 15) dL_act_118 (by decide) ?_
      refine gg_ishr K dL_act_120 ?_
      refine gg_iconst K (v := 1) dL_act_121 (by decide) ?_
      refine gg_iand K dL_act_122 ?_
      refine gg_cut 154 [(6, .int (dF v)), (5, .int (dY v)), (4, .int (dT v)), (3, .int (lowF v 20)), (2, .int (dOb v)), (0, .ref X.1), (1, .int v)] [.int (dW v), .int (shF v 8), .int (dF v + 1)] ?_ (fun k154 => ?_)
      · refine gg_callSR K k_L_L_low (n_low (dW_ne ho)) dL_act_154 rfl rfl rfl rfl ⟨rfl, rfl⟩ ?_
        refine gg_iadd K dL_act_157 ?_
        refine gg_top (y := dQ v) e5.symm ?_
        refine gg_istore K dL_act_158 (by decide) ?_
        exact k160
      · refine gg_if_ne K (tgt := 134) dL_act_123 (by decide) (fun h123 => ?_) (fun h123 => ?_)
        · have w : dW v = (if 60 - dF v < 12 then 60 - dF v else 12) := if_neg h123
          refine gg_bipush K (v := 60) dL_act_134 (by decide) ?_
          refine gg_iload K dL_act_136 rfl ?_
          refine gg_isub K dL_act_138 ?_
          refine gg_bipush K (v := 12) dL_act_139 (by decide) ?_
          refine gg_icmp_ge K (tgt := 152) dL_act_141 (by decide) (fun h141 => ?_) (fun h141 => ?_)
          · have w2 : (if 60 - dF v < 12 then 60 - dF v else (12 : Int32)) = 12 := if_neg (show ¬ 60 - dF v < 12 from fun z => by
              rw [Int32.le_iff_toInt_le] at h141
              rw [Int32.lt_iff_toInt_lt] at z
              omega)
            refine gg_bipush K (v := 12) dL_act_152 (by decide) ?_
            refine gg_sub (L' := [(6, .int (dF v)), (5, .int (dY v)), (4, .int (dT v)), (3, .int (lowF v 20)), (2, .int (dOb v)), (0, .ref X.1), (1, .int v)]) ⟨rfl, by rw [e3]; rfl, by rw [e2]; rfl, rfl, by rw [e1]; rfl, rfl, rfl, trivial⟩ ?_
            refine gg_top (y := dW v) (w.trans w2).symm ?_
            exact k154
          · have w2 : (if 60 - dF v < 12 then 60 - dF v else (12 : Int32)) = 60 - dF v := if_pos (show 60 - dF v < 12 by
              rw [Int32.le_iff_toInt_le] at h141
              rw [Int32.lt_iff_toInt_lt]
              omega)
            refine gg_bipush K (v := 60) dL_act_144 (by decide) ?_
            refine gg_iload K dL_act_146 rfl ?_
            refine gg_isub K dL_act_148 ?_
            refine gg_goto K (tgt := 154) dL_act_149 (by decide) ?_
            refine gg_sub (L' := [(6, .int (dF v)), (5, .int (dY v)), (4, .int (dT v)), (3, .int (lowF v 20)), (2, .int (dOb v)), (0, .ref X.1), (1, .int v)]) ⟨rfl, by rw [e3]; rfl, by rw [e2]; rfl, rfl, by rw [e1]; rfl, rfl, rfl, trivial⟩ ?_
            refine gg_top (y := dW v) (w.trans w2).symm ?_
            exact k154
        · have w : dW v = 60 - dF v := if_pos h123
          refine gg_bipush K (v := 60) dL_act_126 (by decide) ?_
          refine gg_iload K dL_act_128 rfl ?_
          refine gg_isub K dL_act_130 ?_
          refine gg_goto K (tgt := 154) dL_act_131 (by decide) ?_
          refine gg_sub (L' := [(6, .int (dF v)), (5, .int (dY v)), (4, .int (dT v)), (3, .int (lowF v 20)), (2, .int (dOb v)), (0, .ref X.1), (1, .int v)]) ⟨rfl, by rw [e3]; rfl, by rw [e2]; rfl, rfl, by rw [e1]; rfl, rfl, rfl, trivial⟩ ?_
          refine gg_top (y := dW v) w.symm ?_
          exact k154
  refine gg_iload_n K (i := 3) dL_act_160 rfl rfl ?_
  refine gg_bipush K (v := 9) dL_act_161 (by decide) ?_
  refine gg_icmp_ge K (tgt := 207) dL_act_163 (by decide) (fun h163 => ?_) (fun h163 => ?_)
  rotate_left
  · -- put
    refine gg_aload_n K (i := 0) dL_act_166 rfl rfl ?_
    refine gg_iconst K (v := 0) dL_act_167 (by decide) ?_
    refine gg_iload K dL_act_168 rfl ?_
    refine gg_iload K dL_act_170 rfl ?_
    refine gg_iload_n K (i := 1) dL_act_172 rfl rfl ?_
    refine gg_bipush K (v := 10) dL_act_173 (by decide) ?_
    refine gg_ishr K dL_act_175 ?_
    refine gg_cut 196 [(7, .int (dQ v)), (6, .int (dF v)), (5, .int (dY v)), (4, .int (dT v)), (3, .int (lowF v 20)), (2, .int (dOb v)), (0, .ref X.1), (1, .int v)] [.int (dX v), .int (shF v 10), .int (dY v), .int (dT v), .int 0, .ref X.1] ?_ (fun k196 => ?_)
    rotate_left
    · by_cases ho : oddP v
      · have e1 : dOb v = 1 := if_pos ho
        refine gg_iload_n K (i := 2) dL_act_176 rfl rfl ?_
        refine gg_if_eq K (tgt := 185) dL_act_177 (by decide) (fun h177 => ?_) (fun h177 => ?_)
        · exact absurd (e1.symm.trans h177) (by decide)
        refine gg_bipush K (v := 110) dL_act_180 (by decide) ?_
        refine gg_goto K (tgt := 196) dL_act_182 (by decide) ?_
        refine gg_top (y := dX v) (show dX v = 110 from if_pos ho).symm ?_
        exact k196
      · have e1 : dOb v = 0 := if_neg ho
        refine gg_iload_n K (i := 2) dL_act_176 rfl rfl ?_
        refine gg_if_eq K (tgt := 185) dL_act_177 (by decide) (fun h177 => ?_) (fun h177 => ?_)
        rotate_left
        · exact absurd e1 h177
        have w : dX v = _ := if_neg ho
        refine gg_iload K dL_act_185 rfl ?_
        refine gg_if_ne K (tgt := 195) dL_act_187 (by decide) (fun h187 => ?_) (fun h187 => ?_)
        · refine gg_iconst K (v := 4) dL_act_195 (by decide) ?_
          refine gg_top (y := dX v) (w.trans (if_neg h187)).symm ?_
          exact k196
        · refine gg_bipush K (v := 6) dL_act_190 (by decide) ?_
          refine gg_goto K (tgt := 196) dL_act_192 (by decide) ?_
          refine gg_top (y := dX v) (w.trans (if_pos h187)).symm ?_
          exact k196
    refine gg_callSR K k_L_L_low (n_low (dX_ne v)) dL_act_196 rfl rfl rfl rfl ⟨rfl, rfl⟩ ?_
    refine gg_iload K dL_act_199 rfl ?_
    refine gg_iload K dL_act_201 rfl ?_
    refine gg_callJH (wc := wX Z X k kp dr (nI T)) (wr := []) [0, 1, 2, 3] [] rfl rfl rfl K T9 k_L_L_does (c_does hl0 ok hv) dL_act_203 rfl rfl rfl rfl (fun v0 u h => ?_)
    obtain ⟨r, k', kp', dr', T', rfl, rfl, ok', hS⟩ := h
    exact gg_x (gg_iret K hr dL_act_206 (Nat.le_of_ble_eq_true rfl) (Nat.le_of_ble_eq_true rfl) ⟨r, k', kp', dr', T', rfl, rfl, ok', by unfold sAct; rw [if_neg h163]; exact hS⟩)
  refine gg_iload_n K (i := 3) dL_act_207 rfl rfl ?_
  refine gg_bipush K (v := 13) dL_act_208 (by decide) ?_
  refine gg_icmp_ge K (tgt := 238) dL_act_210 (by decide) (fun h210 => ?_) (fun h210 => ?_)
  rotate_left
  · -- erase, eraseAll
    refine gg_aload_n K (i := 0) dL_act_213 rfl rfl ?_
    refine gg_cut 225 [(7, .int (dQ v)), (6, .int (dF v)), (5, .int (dY v)), (4, .int (dT v)), (3, .int (lowF v 20)), (2, .int (dOb v)), (0, .ref X.1), (1, .int v)] [.int (if 12 ≤ lowF v 20 then 2 else 1), .ref X.1] ?_ (fun k225 => ?_)
    rotate_left
    · refine gg_iload_n K (i := 3) dL_act_214 rfl rfl ?_
      refine gg_bipush K (v := 12) dL_act_215 (by decide) ?_
      refine gg_icmp_ge K (tgt := 224) dL_act_217 (by decide) (fun h217 => ?_) (fun h217 => ?_)
      · refine gg_iconst K (v := 2) dL_act_224 (by decide) ?_
        rw [if_pos h217] at k225
        exact k225
      · refine gg_iconst K (v := 1) dL_act_220 (by decide) ?_
        refine gg_goto K (tgt := 225) dL_act_221 (by decide) ?_
        rw [if_neg h217] at k225
        exact k225
    refine gg_iload K dL_act_225 rfl ?_
    refine gg_iload K dL_act_227 rfl ?_
    refine gg_iconst K (v := 0) dL_act_229 (by decide) ?_
    refine gg_iload K dL_act_230 rfl ?_
    refine gg_iload K dL_act_232 rfl ?_
    refine gg_callJH (wc := wX Z X k kp dr (nI T)) (wr := []) [0, 1, 2, 3] [] rfl rfl rfl K T9 k_L_L_does (c_does hl0 ok hv) dL_act_234 rfl rfl rfl rfl (fun v0 u h => ?_)
    obtain ⟨r, k', kp', dr', T', rfl, rfl, ok', hS⟩ := h
    exact gg_x (gg_iret K hr dL_act_237 (Nat.le_of_ble_eq_true rfl) (Nat.le_of_ble_eq_true rfl) ⟨r, k', kp', dr', T', rfl, rfl, ok', by unfold sAct; rw [if_pos h163, if_neg h210]; exact hS⟩)
  refine gg_iload_n K (i := 3) dL_act_238 rfl rfl ?_
  refine gg_bipush K (v := 16) dL_act_239 (by decide) ?_
  refine gg_icmp_ge K (tgt := 280) dL_act_241 (by decide) (fun h241 => ?_) (fun h241 => ?_)
  rotate_left
  · -- restore
    refine gg_aload_n K (i := 0) dL_act_244 rfl rfl ?_
    refine gg_iconst K (v := 3) dL_act_245 (by decide) ?_
    refine gg_iload K dL_act_246 rfl ?_
    refine gg_iload K dL_act_248 rfl ?_
    refine gg_iconst K (v := 0) dL_act_250 (by decide) ?_
    refine gg_cut 273 [(7, .int (dQ v)), (6, .int (dF v)), (5, .int (dY v)), (4, .int (dT v)), (3, .int (lowF v 20)), (2, .int (dOb v)), (0, .ref X.1), (1, .int v)] [.int (dR v T), .int 0, .int (dY v), .int (dT v), .int 3, .ref X.1] ?_ (fun k273 => ?_)
    rotate_left
    · by_cases ho : oddP v
      · have e1 : dOb v = 1 := if_pos ho
        refine gg_iload_n K (i := 2) dL_act_251 rfl rfl ?_
        refine gg_if_eq K (tgt := 260) dL_act_252 (by decide) (fun h252 => ?_) (fun h252 => ?_)
        · exact absurd (e1.symm.trans h252) (by decide)
        refine gg_iload K dL_act_255 rfl ?_
        refine gg_goto K (tgt := 273) dL_act_257 (by decide) ?_
        refine gg_top (y := dR v T) (show dR v T = dF v from if_pos ho).symm ?_
        exact k273
      · have e1 : dOb v = 0 := if_neg ho
        refine gg_iload_n K (i := 2) dL_act_251 rfl rfl ?_
        refine gg_if_eq K (tgt := 260) dL_act_252 (by decide) (fun h252 => ?_) (fun h252 => ?_)
        rotate_left
        · exact absurd e1 h252
        refine gg_iload_n K (i := 1) dL_act_260 rfl rfl ?_
        refine gg_bipush K (v := 9) dL_act_261 (by decide) ?_
        refine gg_ishr K dL_act_263 ?_
        refine gg_aload_n K (i := 0) dL_act_264 rfl rfl ?_
        refine gg_callRX K k_L_X0_today x_today dL_act_265 rfl rfl rfl rfl ⟨rfl, rfl⟩ ?_
        refine gg_iconst K (v := 1) dL_act_268 (by decide) ?_
        refine gg_iadd K dL_act_269 ?_
        refine gg_callSR K k_L_L_low (n_low (fun z => by
          rw [nI_1] at z
          have := i_eq (b := 0) z
          omega)) dL_act_270 rfl rfl rfl rfl ⟨rfl, rfl⟩ ?_
        refine gg_top (y := dR v T) (show dR v T = _ from if_neg ho).symm ?_
        exact k273
    refine gg_iconst K (v := 0) dL_act_273 (by decide) ?_
    refine gg_callJH (wc := wX Z X k kp dr (nI T)) (wr := []) [0, 1, 2, 3] [] rfl rfl rfl K T9 k_L_L_does (c_does hl0 ok hv) dL_act_274 rfl rfl rfl rfl (fun v0 u h => ?_)
    obtain ⟨r, k', kp', dr', T', rfl, rfl, ok', hS⟩ := h
    refine gg_goto K (tgt := 315) dL_act_277 (by decide) ?_
    exact gg_x (gg_iret K hr dL_act_315 (Nat.le_of_ble_eq_true rfl) (Nat.le_of_ble_eq_true rfl) ⟨r, k', kp', dr', T', rfl, rfl, ok', by unfold sAct; rw [if_pos h163, if_pos h210, if_neg h241]; exact hS⟩)
  refine gg_aload_n K (i := 0) dL_act_280 rfl rfl ?_
  refine gg_iconst K (v := 4) dL_act_281 (by decide) ?_
  refine gg_iconst K (v := 0) dL_act_282 (by decide) ?_
  refine gg_iconst K (v := 0) dL_act_283 (by decide) ?_
  refine gg_cut 310 [(7, .int (dQ v)), (6, .int (dF v)), (5, .int (dY v)), (4, .int (dT v)), (3, .int (lowF v 20)), (2, .int (dOb v)), (0, .ref X.1), (1, .int v)] [.int (dP v), .int 0, .int 0, .int 4, .ref X.1] ?_ (fun k310 => ?_)
  rotate_left
  · by_cases ho : oddP v
    · have e1 : dOb v = 1 := if_pos ho
      refine gg_iload_n K (i := 2) dL_act_284 rfl rfl ?_
      refine gg_if_eq K (tgt := 300) dL_act_285 (by decide) (fun h285 => ?_) (fun h285 => ?_)
      · exact absurd (e1.symm.trans h285) (by decide)
      refine gg_iload_n K (i := 1) dL_act_288 rfl rfl ?_
      refine gg_bipush K (v := 6) dL_act_289 (by decide) ?_
      refine gg_ishr K dL_act_291 ?_
      refine gg_bipush K (v := 70) dL_act_292 (by decide) ?_
      refine gg_callSR K k_L_L_low (n_low (by decide)) dL_act_294 rfl rfl rfl rfl ⟨rfl, rfl⟩ ?_
      refine gg_goto K (tgt := 310) dL_act_297 (by decide) ?_
      refine gg_top (y := dP v) (show dP v = _ from if_pos ho).symm ?_
      exact k310
    · have e1 : dOb v = 0 := if_neg ho
      refine gg_iload_n K (i := 2) dL_act_284 rfl rfl ?_
      refine gg_if_eq K (tgt := 300) dL_act_285 (by decide) (fun h285 => ?_) (fun h285 => ?_)
      rotate_left
      · exact absurd e1 h285
      refine gg_iconst K (v := 1) dL_act_300 (by decide) ?_
      refine gg_iload_n K (i := 1) dL_act_301 rfl rfl ?_
      refine gg_bipush K (v := 6) dL_act_302 (by decide) ?_
      refine gg_ishr K dL_act_304 ?_
      refine gg_iconst K (v := 5) dL_act_305 (by decide) ?_
      refine gg_callSR K k_L_L_low (n_low (by decide)) dL_act_306 rfl rfl rfl rfl ⟨rfl, rfl⟩ ?_
      refine gg_iadd K dL_act_309 ?_
      refine gg_top (y := dP v) (show dP v = _ from if_neg ho).symm ?_
      exact k310
  refine gg_iconst K (v := 0) dL_act_310 (by decide) ?_
  refine gg_iconst K (v := 0) dL_act_311 (by decide) ?_
  refine gg_callJH (wc := wX Z X k kp dr (nI T)) (wr := []) [0, 1, 2, 3] [] rfl rfl rfl K T9 k_L_L_does (c_does hl0 ok hv) dL_act_312 rfl rfl rfl rfl (fun v0 u h => ?_)
  obtain ⟨r, k', kp', dr', T', rfl, rfl, ok', hS⟩ := h
  exact gg_x (gg_iret K hr dL_act_315 (Nat.le_of_ble_eq_true rfl) (Nat.le_of_ble_eq_true rfl) ⟨r, k', kp', dr', T', rfl, rfl, ok', by unfold sAct; rw [if_pos h163, if_pos h210, if_pos h241]; exact hS⟩)
end
section
/-! isRestoredSo -/
/-- two objects with the same table -/
def lInv (k kp k2 kp2 : Nat → Int32) (T : Nat) : Prop := okX kp T ∧ okX kp2 T ∧ vX k2 kp2 T = vX k kp T ∧ INV (vX k kp T) T
def bothW (Z : ZT) (X Y : XT) (T : Nat) (v : Value) : Option Value → va_W → Prop := fun ret u => ∃ k kp dr k2 kp2 dr2 : Nat → Int32, ret = some v ∧ u = w2 Z X Y k kp dr (nI T) k2 kp2 dr2 (nI T) ∧ lInv k kp k2 kp2 T
set_option maxRecDepth 100000 in
theorem c_restored {l : Launch} {Z : ZT} {X Y : XT} {k kp dr k2 kp2 dr2 : Nat → Int32} {T : Nat} (hl0 : l.stackTraces = false) (hI : lInv k kp k2 kp2 T) (t' y' q' : Nat) {t y q : Int32} (a1 : t' < 2) (b1 : y' < 8) (q1 : q' ≤ T) (a2 : t = nI t') (b2 : y = nI y') (q2 : q = nI q') : mX l Z.1 (ty3 Z) yL_isRestoredSo (.code yL_isRestoredSo cL_isRestoredSo 10 (some .boolean)) (rmk 11 300 16 96) (w2 Z X Y k kp dr (nI T) k2 kp2 dr2 (nI T)) [.ref X.1, .ref Y.1, .int t, .int y, .int q] (bothW Z X Y T (.int 1)) (fun _ _ => False) := by
  obtain ⟨ok, ok2, hV, hi⟩ := hI
  have hT9 := ok.1
  refine mX_intro (own := RL) [(0, .ref X.1), (1, .ref Y.1), (2, .int t), (3, .int y), (4, .int q)] (by decide +kernel) rfl rfl rfl rfl ?_
  intro p e s m args below meth c A K hr T9 htab
  subst a2 b2 q2
  refine gg_aload_n K (i := 0) dL_isRestoredSo_0 rfl rfl ?_
  refine gg_2V1 K k_L_X0_today x_today dL_isRestoredSo_1 rfl rfl rfl rfl ⟨rfl, rfl⟩ ?_
  refine gg_istore K dL_isRestoredSo_4 (by decide) ?_
  refine gg_aload_n K (i := 0) dL_isRestoredSo_6 rfl rfl ?_
  refine gg_iload_n K (i := 2) dL_isRestoredSo_7 rfl rfl ?_
  refine gg_iload_n K (i := 3) dL_isRestoredSo_8 rfl rfl ?_
  refine gg_2V1 K k_L_X0_rows (n_rows ok t' y' a1 b1 rfl rfl) dL_isRestoredSo_9 rfl rfl rfl rfl ⟨rfl, rfl⟩ ?_
  obtain ⟨rw9, hrw⟩ : ∃ rw9, rw9 = nI (fb_ct (rwF (vX k kp T) (t' * 8 + y')) (60 * (T + 1))) := ⟨_, rfl⟩
  rw [← hrw]
  refine gg_istore K dL_isRestoredSo_12 (by decide) ?_
  refine gg_aload_n K (i := 0) dL_isRestoredSo_14 rfl rfl ?_
  refine gg_iconst K (v := 3) dL_isRestoredSo_15 (by decide) ?_
  refine gg_iload_n K (i := 2) dL_isRestoredSo_16 rfl rfl ?_
  refine gg_iload_n K (i := 3) dL_isRestoredSo_17 rfl rfl ?_
  refine gg_iconst K (v := 0) dL_isRestoredSo_18 (by decide) ?_
  refine gg_iload K dL_isRestoredSo_19 rfl ?_
  refine gg_iconst K (v := 0) dL_isRestoredSo_21 (by decide) ?_
  refine gg_callJH (wc := wX Z X k kp dr (nI T)) (wr := wX Z Y k2 kp2 dr2 (nI T)) [0, 1, 2, 3] [4, 5, 6, 7] rfl rfl rfl K T9 k_L_L_does (c_does hl0 ok hi.1) dL_isRestoredSo_22 rfl rfl rfl rfl (fun v0 u h => ?_)
  obtain ⟨r, k3, kp3, dr3, T3, rfl, rfl, ok3, hS⟩ := h
  obtain ⟨e3, hcase⟩ := restore_so a1 b1 hT9 q1 hi hS
  subst e3
  refine gg_perm (ws' := w2 Z X Y k3 kp3 dr3 (nI T3) k2 kp2 dr2 (nI T3)) [4, 5, 6, 7, 0, 1, 2, 3] rfl rfl ?_
  refine gg_istore K dL_isRestoredSo_25 (by decide) ?_
  refine gg_aload_n K (i := 1) dL_isRestoredSo_27 rfl rfl ?_
  refine gg_iconst K (v := 3) dL_isRestoredSo_28 (by decide) ?_
  refine gg_iload_n K (i := 2) dL_isRestoredSo_29 rfl rfl ?_
  refine gg_iload_n K (i := 3) dL_isRestoredSo_30 rfl rfl ?_
  refine gg_iconst K (v := 0) dL_isRestoredSo_31 (by decide) ?_
  refine gg_iload K dL_isRestoredSo_32 rfl ?_
  refine gg_iconst K (v := 0) dL_isRestoredSo_34 (by decide) ?_
  refine gg_callJH (wc := wX Z Y k2 kp2 dr2 (nI T3)) (wr := wX Z X k3 kp3 dr3 (nI T3)) [4, 5, 6, 7] [0, 1, 2, 3] rfl rfl rfl K T9 k_L_L_does (c_does hl0 ok2 (by rw [hV]; exact hi.1)) dL_isRestoredSo_35 rfl rfl rfl rfl (fun v0 u h => ?_)
  obtain ⟨r4, k4, kp4, dr4, T4, rfl, rfl, ok4, hS4⟩ := h
  rw [hV] at hS4
  obtain ⟨e4, e5, e6⟩ := sDo_uq hS4 hS
  subst e4 e6
  refine gg_wsE (ws' := w2 Z X Y k3 kp3 dr3 (nI T4) k4 kp4 dr4 (nI T4)) rfl ?_
  have hi' := sDo_inv hT9 hi hS
  have hI' : lInv k3 kp3 k4 kp4 T4 := ⟨ok3, ok4, e5, hi'⟩
  clear hS hS4
  have hend : ∀ j, (0 ≤ r4 → j ≤ 60) → gg p l e (rmk 11 300 16 96) s m args below meth c Z.1 A 10 16 96 (vx_MQ below (qA Z.1 (ty3 Z) A (bothW Z X Y T4 (.int 1))) (xA Z.1 (ty3 Z) A fun _ _ => False) args s (rmk 11 300 16 96).cells (rmk 11 300 16 96).slots A) (w2 Z X Y k3 kp3 dr3 (nI T4) k4 kp4 dr4 (nI T4)) 118 [(9, .int (nI j)), (8, .int 1), (7, .int r4), (6, .int rw9), (5, .int (nI T4)), (0, .ref X.1), (1, .ref Y.1), (2, .int (nI t')), (3, .int (nI y')), (4, .int (nI q'))] [] := by
    intro j _
    refine gg_iload K dL_isRestoredSo_118 rfl ?_
    refine gg_if_eq K (tgt := 150) dL_isRestoredSo_120 (by decide) (fun h120 => ?_) (fun h120 => ?_)
    · exact absurd h120 (by decide)
    refine gg_cut 139 [(9, .int (nI j)), (8, .int 1), (7, .int r4), (6, .int rw9), (5, .int (nI T4)), (0, .ref X.1), (1, .ref Y.1), (2, .int (nI t')), (3, .int (nI y')), (4, .int (nI q'))] [] ?_ (fun k139 => ?_)
    · refine gg_iload K dL_isRestoredSo_139 rfl ?_
      refine gg_bipush K (v := 60) dL_isRestoredSo_141 (by decide) ?_
      refine gg_icmp_gt K (tgt := 150) dL_isRestoredSo_143 (by decide) (fun h143 => ?_) (fun h143 => ?_)
      · rcases hcase with ⟨z, -⟩ | ⟨n, n1, z, -⟩
        · rw [z] at h143; exact absurd h143 (by decide)
        · rw [z] at h143; exact absurd h143 (nI_nlt (a := 60) n1 (by omega))
      refine gg_iconst K (v := 1) dL_isRestoredSo_146 (by decide) ?_
      refine gg_goto K (tgt := 151) dL_isRestoredSo_147 (by decide) ?_
      exact gg_x (gg_zret K hr dL_isRestoredSo_151 (Or.inr rfl) (Nat.le_refl _) (Nat.le_refl _) ⟨k3, kp3, dr3, k4, kp4, dr4, rfl, rfl, hI'⟩)
    refine gg_iload K dL_isRestoredSo_123 rfl ?_
    refine gg_if_ne K (tgt := 139) dL_isRestoredSo_125 (by decide) (fun h125 => ?_) (fun h125 => ?_)
    · exact k139
    refine gg_aload_n K (i := 0) dL_isRestoredSo_128 rfl rfl ?_
    refine gg_iload_n K (i := 2) dL_isRestoredSo_129 rfl rfl ?_
    refine gg_iload_n K (i := 3) dL_isRestoredSo_130 rfl rfl ?_
    refine gg_2V1 K k_L_X0_rows (n_rows ok3 t' y' a1 b1 rfl rfl) dL_isRestoredSo_131 rfl rfl rfl rfl ⟨rfl, rfl⟩ ?_
    refine gg_iload K dL_isRestoredSo_134 rfl ?_
    refine gg_icmp_ne K (tgt := 150) dL_isRestoredSo_136 (by decide) (fun h136 => ?_) (fun h136 => ?_)
    · refine absurd ?_ h136
      rcases hcase with ⟨z, -⟩ | ⟨n, n1, z, -, z2, -⟩
      · rw [z] at h125; exact absurd h125 (by decide)
      · rw [z] at h125
        rw [z2 (i_eq (b := 0) h125), hrw]
    exact k139
  refine gg_iload K dL_isRestoredSo_38 rfl ?_
  refine gg_icmp_ne K (tgt := 59) dL_isRestoredSo_40 (by decide) (fun h40 => ?_) (fun h40 => ?_)
  · exact absurd rfl h40
  refine gg_cut 55 [(7, .int r4), (6, .int rw9), (5, .int (nI T4)), (0, .ref X.1), (1, .ref Y.1), (2, .int (nI t')), (3, .int (nI y')), (4, .int (nI q'))] [] ?_ (fun k55 => ?_)
  rotate_left
  · refine gg_iload K dL_isRestoredSo_43 rfl ?_
    refine gg_iload K dL_isRestoredSo_45 rfl ?_
    refine gg_icmp_lt K (tgt := 55) dL_isRestoredSo_47 (by decide) (fun h47 => ?_) (fun h47 => ?_)
    · exact k55
    have hqT : q' = T4 := by
      have := i_nlt h47
      omega
    refine gg_iload K dL_isRestoredSo_50 rfl ?_
    refine gg_if_ne K (tgt := 59) dL_isRestoredSo_52 (by decide) (fun h52 => ?_) (fun h52 => ?_)
    · refine absurd ?_ h52
      rcases hcase with ⟨-, -, z⟩ | ⟨n, n1, z, -, -, z2⟩
      · omega
      · rw [z, z2 hqT]; rfl
    exact k55
  refine gg_iconst K (v := 1) dL_isRestoredSo_55 (by decide) ?_
  refine gg_goto K (tgt := 60) dL_isRestoredSo_56 (by decide) ?_
  refine gg_istore K dL_isRestoredSo_60 (by decide) ?_
  refine gg_iconst K (v := 0) dL_isRestoredSo_62 (by decide) ?_
  refine gg_istore K dL_isRestoredSo_63 (by decide) ?_
  refine gg_sub (L' := [(9, .int (nI 0)), (8, .int 1), (7, .int r4), (6, .int rw9), (5, .int (nI T4)), (0, .ref X.1), (1, .ref Y.1), (2, .int (nI t')), (3, .int (nI y')), (4, .int (nI q'))]) ⟨rfl, rfl, rfl, rfl, rfl, rfl, rfl, rfl, rfl, rfl, trivial⟩ ?_
  refine gg_wid (Nat.le_refl 16) (Nat.le_refl 96) ?_
  refine gg_loop (fun i w L => ∃ (j : Nat), j + i = 61 ∧ w = w2 Z X Y k3 kp3 dr3 (nI T4) k4 kp4 dr4 (nI T4) ∧ j ≤ 60 ∧ L = [(9, .int (nI j)), (8, .int 1), (7, .int r4), (6, .int rw9), (5, .int (nI T4)), (0, .ref X.1), (1, .ref Y.1), (2, .int (nI t')), (3, .int (nI y')), (4, .int (nI q'))]) (fun w L h => ?_) (fun i w L h ih => ?_) 61 _ _ ⟨0, by omega, rfl, by omega, rfl⟩
  · obtain ⟨j, hj, -, h2, -⟩ := h
    omega
  obtain ⟨j, hj, rfl, hj1, rfl⟩ := h
  refine gg_iload K dL_isRestoredSo_65 rfl ?_
  refine gg_bipush K (v := 60) dL_isRestoredSo_67 (by decide) ?_
  refine gg_icmp_ge K (tgt := 118) dL_isRestoredSo_69 (by decide) (fun h69 => ?_) (fun h69 => ?_)
  · exact hend j (fun _ => hj1)
  have hj2 := i_nle (a := 60) h69
  refine gg_iload K dL_isRestoredSo_72 rfl ?_
  refine gg_if_lt K (tgt := 118) dL_isRestoredSo_74 (by decide) (fun h74 => ?_) (fun h74 => ?_)
  · exact hend j (fun _ => hj1)
  refine gg_iload K dL_isRestoredSo_77 rfl ?_
  refine gg_if_eq K (tgt := 118) dL_isRestoredSo_79 (by decide) (fun h79 => ?_) (fun h79 => ?_)
  · exact absurd h79 (by decide)
  have hd : vX k3 kp3 T4 T4 (t' * 8 + y') j = vX k3 kp3 T4 q' (t' * 8 + y') j := by
    rcases hcase with ⟨z, -⟩ | ⟨n, n1, z, z2, -⟩
    · rw [z] at h74; exact absurd (show (-99999 : Int32) < 0 by decide) h74
    · exact z2 j hj2
  refine gg_aload_n K (i := 0) dL_isRestoredSo_82 rfl rfl ?_
  refine gg_iload_n K (i := 2) dL_isRestoredSo_83 rfl rfl ?_
  refine gg_iload_n K (i := 3) dL_isRestoredSo_84 rfl rfl ?_
  refine gg_iload K dL_isRestoredSo_85 rfl ?_
  refine gg_iload K dL_isRestoredSo_87 rfl ?_
  refine gg_2V1 K k_L_X0_value (n_value ok3 t' y' a1 b1 rfl rfl j hj2 rfl T4 (Nat.le_refl T4) rfl) dL_isRestoredSo_89 rfl rfl rfl rfl ⟨rfl, rfl⟩ ?_
  refine gg_aload_n K (i := 0) dL_isRestoredSo_92 rfl rfl ?_
  refine gg_iload_n K (i := 2) dL_isRestoredSo_93 rfl rfl ?_
  refine gg_iload_n K (i := 3) dL_isRestoredSo_94 rfl rfl ?_
  refine gg_iload K dL_isRestoredSo_95 rfl ?_
  refine gg_iload K dL_isRestoredSo_97 rfl ?_
  refine gg_2V1 K k_L_X0_value (n_value ok3 t' y' a1 b1 rfl rfl j hj2 rfl q' q1 rfl) dL_isRestoredSo_99 rfl rfl rfl rfl ⟨rfl, rfl⟩ ?_
  refine gg_icmp_ne K (tgt := 109) dL_isRestoredSo_102 (by decide) (fun h102 => ?_) (fun h102 => ?_)
  · exact absurd hd h102
  refine gg_iconst K (v := 1) dL_isRestoredSo_105 (by decide) ?_
  refine gg_goto K (tgt := 110) dL_isRestoredSo_106 (by decide) ?_
  refine gg_istore K dL_isRestoredSo_110 (by decide) ?_
  refine gg_iinc K (v := nI (j + 1)) dL_isRestoredSo_112 rfl (nI_inc (j)) (by decide) ?_
  refine gg_goto K (tgt := 65) dL_isRestoredSo_115 (by decide) ?_
  refine gg_sub (L' := [(9, .int (nI (j + 1))), (8, .int 1), (7, .int r4), (6, .int rw9), (5, .int (nI T4)), (0, .ref X.1), (1, .ref Y.1), (2, .int (nI t')), (3, .int (nI y')), (4, .int (nI q'))]) ⟨rfl, rfl, rfl, rfl, rfl, rfl, rfl, rfl, rfl, rfl, trivial⟩ ?_
  exact ih _ _ ⟨j + 1, by omega, rfl, by omega, rfl⟩
end
section
/-! the law: a cell of the script, the loop's pieces -/
section
variable {p : Program} {l : Launch} {e : Env} {R : Room} {s : State} {m : MethodId} {args : Array Value} {below : List Frame} {meth : Method} {c : Code} {D : va_G} {A : Nat → Prop} {tys : List (ClassId × FieldType)} {cc : ByteArray} {own : String} {n cells slots pc : Nat} {Q : State → Prop} {ws : va_W} {L : List (Nat × Value)} {st rest : List Value} {b Ln : Nat} {xs : Nat → Int32}
theorem gg_sld (K : kx p s m args meth c D A tys cc own n) (hX : va_X b Ln xs s s.heap) (hbl : b < s.heap.size) (hbA : ¬ A b) {x : Int32} (j : Nat) (hx : x = nI j) (hj : j < Ln) (hL : Ln ≤ 3072) (hd : decode cc pc = .ok (.iaload, 1)) (kk : gg p l e R s m args below meth c D A n cells slots Q ws (pc + 1) L (.int (xs j) :: st)) : gg p l e R s m args below meth c D A n cells slots Q ws pc L (.int x :: .ref b :: st) := by
  intro H locs ls hP hD hS hl
  subst hx
  refine va_sld K.1.1 K.1.2.1 hX hbl hbA hS (vp_in_nI hj (by omega)) hd ?_
  rw [nI_clamp (by omega)]
  exact kk H locs ls hP hD hS hl
theorem gg_slen (K : kx p s m args meth c D A tys cc own n) (hX : va_X b Ln xs s s.heap) (hbl : b < s.heap.size) (hbA : ¬ A b) (hd : decode cc pc = .ok (.arraylength, 1)) (kk : gg p l e R s m args below meth c D A n cells slots Q ws (pc + 1) L (.int (nI Ln) :: st)) : gg p l e R s m args below meth c D A n cells slots Q ws pc L (.ref b :: st) :=
  fun H locs ls hP hD hS hl => va_slen K.1.1 K.1.2.1 hX hbl hbA hS hd (kk H locs ls hP hD hS hl)
/-- with the script at hand -/
def inC (D : va_G) (tys : List (ClassId × FieldType)) (b Ln : Nat) (xs : Nat → Int32) (sz : Nat) (U : State) : Prop := inW D tys [] sz U ∧ b < U.heap.size ∧ va_X b Ln xs U U.heap
theorem inC_blind {As : List Value} {sz : Nat} : FrameBlind (va_Pc As (inC D tys b Ln xs sz)) := fun a U g mk q => by
  obtain ⟨q0, q1, q2, q3⟩ := q
  exact ⟨q0, (inW_blind (As := As) a U g mk ⟨q0, q1⟩).2, q2, va_X.moved (u := U) (U := U.calling g mk a) (Vm.Alike.refl U.vm) q3⟩
def mC (l : Launch) (D : va_G) (tys : List (ClassId × FieldType)) (b Ln : Nat) (xs : Nat → Int32) (As : List Value) : Prop := ∀ sz : Nat, Met l yL_cell (.code yL_cell cL_cell 2 (some .int) :: GW) (rmk 0 0 0 0) (va_Pc As (inC D tys b Ln xs sz)) (qA D tys (va_A [] sz) (fun r _ => ∃ v : Int32, r = some (.int v))) 0 0 (va_A [] sz)
set_option maxRecDepth 100000 in
theorem c_cell {j : Nat} (hj : j < 2 ^ 31) (hL : Ln ≤ 3072) : mC l D tys b Ln xs [.ref b, .int (nI j)] := by
  intro sz
  refine Met.ofW (cc := cL_cell) (maxL := 2) (ret := some .int) (by decide +kernel) rfl ?_
  intro p e s m args below meth c s₁ B hml hv
  obtain ⟨rfl, ⟨hsz, hP, hK, hD0⟩, hbl, hX⟩ := hv
  subst hsz
  have hts := atoms_spec (ws := .code yL_cell cL_cell 2 (some .int) :: GW) B.pre
  have hl := lv_entry [.ref b, .int (nI j)] (n := 2) (Nat.le_of_ble_eq_true rfl)
  rw [lg_entry_eq]
  have hbA : ¬ va_A [] s.heap.size b := fun z => z.elim (fun ⟨k, e, z⟩ => by simp at z) (fun z => absurd hbl (Nat.not_lt.mpr z))
  have hr := B.returns
  have K : kx p s m _ meth c D (va_A [] s.heap.size) tys cL_cell RL 2 := ⟨⟨B.exec, B.bytes, hml, findClass_of_methodNamed B.named, fun w hw => hts w (List.mem_cons_of_mem _ hw)⟩, hK, fun q h => Or.inr h, B.notSynchronized⟩
  suffices hg : gg p l e (rmk 0 0 0 0) s m _ below meth c D (va_A [] s.heap.size) 2 0 0 (MQ below (qA D tys (va_A [] s.heap.size) (fun r _ => ∃ v : Int32, r = some (.int v))) _ s 0 0 (va_A [] s.heap.size)) [] 0 [(0, .ref b), (1, .int (nI j))] [] from hg s.heap [] _ hP hD0.self va_S.rf (lvk_of hl rfl)
  refine gg_iload_n K (i := 1) dL_cell_0 rfl rfl ?_
  refine gg_aload_n K (i := 0) dL_cell_1 rfl rfl ?_
  refine gg_slen K hX hbl hbA dL_cell_2 ?_
  refine gg_icmp_ge K (tgt := 12) dL_cell_3 (by decide) (fun h3 => ?_) (fun h3 => ?_)
  · refine gg_sipush K (v := 7919) dL_cell_12 (by decide) ?_
    refine gg_iload_n K (i := 1) dL_cell_15 rfl rfl ?_
    refine gg_sipush K (v := 359) dL_cell_16 (by decide) ?_
    refine gg_iadd K dL_cell_19 ?_
    refine gg_imul K dL_cell_20 ?_
    refine gg_iload_n K (i := 1) dL_cell_21 rfl rfl ?_
    refine gg_sipush K (v := 2657) dL_cell_22 (by decide) ?_
    refine gg_iadd K dL_cell_25 ?_
    refine gg_imul K dL_cell_26 ?_
    exact gg_iret K hr dL_cell_27 (Nat.le_refl _) (Nat.le_refl _) ⟨_, rfl⟩
  have hj2 := i_nle h3
  refine gg_aload_n K (i := 0) dL_cell_6 rfl rfl ?_
  refine gg_iload_n K (i := 1) dL_cell_7 rfl rfl ?_
  refine gg_sld K hX hbl hbA j rfl hj2 hL dL_cell_8 ?_
  refine gg_goto K (tgt := 27) dL_cell_9 (by decide) ?_
  exact gg_iret K hr dL_cell_27 (Nat.le_refl _) (Nat.le_refl _) ⟨_, rfl⟩
theorem gg_callC {As : List Value} (K : kx p s m args meth c D A tys cc own n) (hX : va_X b Ln xs s s.heap) (hbl : b < s.heap.size) (hbA : ¬ A b) {idx : Nat} (ok : okS own idx yL_cell (.code yL_cell cL_cell 2 (some .int)) 2) (hM : mC l D tys b Ln xs As) (hd : decode cc pc = .ok (.invokestatic idx, 3)) (hst : st = As.reverse ++ rest) (hAs : As.length = 2) (hr : rOk (rmk 0 0 0 0) R 2 cells slots = true) (hw : c8 rest = true)
    (kk : ∀ v : Int32, gg p l e R s m args below meth c D A n cells slots Q ws (pc + 3) L (.int v :: rest)) : gg p l e R s m args below meth c D A n cells slots Q ws pc L st := by
  intro H locs ls hP hD hS hl
  subst hst
  have hF := nil_free hS K.2.2.1
  refine va_callo (va_runS (As := As) (rest := rest) K.1 (hM H.size) (va_cwS 2 K.1.2.2.2.2 ok.1 rfl rfl rfl ok.2 (rOk_spec hr).1) ⟨inC_blind, fun U hU hW => ⟨rfl, ⟨by rw [hU], nil_P, va_K.moved hW.alike K.2.1, nil_D⟩, by rw [hU]; exact Nat.lt_of_lt_of_le hbl hS.1, by rw [hU]; exact (hX.kept (hS.2.1 b hbl hbA)).moved hW.alike⟩⟩ rfl hAs hl.1 rfl (lv_room (Nat.le_of_ble_eq_true hw)) hd (rOk_spec hr).2) hS (fun q _ h => hF q h) hF (fun v u t H1 locs1 ht hvm hp hB hz hk hS1 => ?_)
  obtain ⟨v9, rfl⟩ := hp
  exact kk v9 H1 locs1 ls (nil_kept hP hk) hD hS1 hl
end
theorem rOk_law {f lo mc ms maxL cells slots : Nat} (hf : (Nat.ble f 12 && (Nat.ble maxL 20 && Nat.ble lo 400)) = true) (h1 : cells + mc ≤ 600086) (h2 : slots + ms ≤ 7301442) : rOk (rmk f lo mc ms) room_1 maxL cells slots = true := by
  simp only [Bool.and_eq_true] at hf
  have g1 := Nat.le_of_ble_eq_true hf.1
  have g2 := Nat.le_of_ble_eq_true hf.2.1
  have g3 := Nat.le_of_ble_eq_true hf.2.2
  unfold rOk
  simp only [Bool.and_eq_true]
  refine ⟨Nat.ble_eq_true_of_le ?_, Nat.ble_eq_true_of_le ?_, Nat.ble_eq_true_of_le h1, Nat.ble_eq_true_of_le h2⟩
  · show f + 1 ≤ 13
    omega
  · show 8 + (maxL + 11) + lo ≤ 502
    omega
/-- from a place of the law's loop on, whatever the two objects hold -/
def lSt (p : Program) (l : Launch) (e : Env) (s : State) (m : MethodId) (args : Array Value) (below : List Frame) (meth : Method) (c : Code) (Z : ZT) (A : Nat → Prop) (Q : State → Prop) (X Y : XT) (cells slots pc : Nat) (L : List (Nat × Value)) : Prop := ∀ (k kp dr k2 kp2 dr2 : Nat → Int32) (T : Nat), lInv k kp k2 kp2 T → gg p l e room_1 s m args below meth c Z.1 A 6 cells slots Q (w2 Z X Y k kp dr (nI T) k2 kp2 dr2 (nI T)) pc L []
section
variable {p : Program} {l : Launch} {e : Env} {s : State} {m : MethodId} {args : Array Value} {below : List Frame} {meth : Method} {c : Code} {Z : ZT} {A : Nat → Prop} {Q : State → Prop} {X Y : XT} {cells slots b Ln : Nat} {xs : Nat → Int32}
theorem lSt.wid {k9 n9 pc : Nat} {L : List (Nat × Value)} (h1 : cells ≤ k9) (h2 : slots ≤ n9) (h : lSt p l e s m args below meth c Z A Q X Y k9 n9 pc L) : lSt p l e s m args below meth c Z A Q X Y cells slots pc L := fun k kp dr k2 kp2 dr2 T hI => gg_wid h1 h2 (h k kp dr k2 kp2 dr2 T hI)
set_option maxRecDepth 100000 in
theorem l_147 (K : kx p s m args meth c Z.1 A (ty3 Z) cL_law RL 6) (T9 : te A s s.heap) (hl0 : l.stackTraces = false) (hc : cells + 16 ≤ 600086) (hs : slots + 96 ≤ 7301442) {j : Nat} {v r : Int32} (kk : lSt p l e s m args below meth c Z A Q X Y ((cells + 16)) ((slots + 96)) (194) (([(5, .int r), (4, .int v), (3, .int (nI j)), (0, .ref b), (1, .ref X.1), (2, .ref Y.1)]))) : lSt p l e s m args below meth c Z A Q X Y (cells) (slots) (147) (([(5, .int r), (4, .int v), (3, .int (nI j)), (0, .ref b), (1, .ref X.1), (2, .ref Y.1)])) := by
  intro k kp dr k2 kp2 dr2 T hI
  have hT9 := hI.1.1
  refine gg_iload_n K (i := 3) dL_law_147 rfl rfl ?_
  refine gg_bipush K (v := 9) dL_law_148 (by decide) ?_
  refine gg_irem K dL_law_150 (by decide) ?_
  refine gg_iconst K (v := 4) dL_law_151 (by decide) ?_
  refine gg_icmp_ne K (tgt := 194) dL_law_152 (by decide) (fun h152 => ?_) (fun h152 => ?_)
  · exact gg_wid (Nat.le_add_right _ _) (Nat.le_add_right _ _) (kk k kp dr k2 kp2 dr2 T hI)
  refine gg_aload_n K (i := 1) dL_law_155 rfl rfl ?_
  refine gg_aload_n K (i := 2) dL_law_156 rfl rfl ?_
  refine gg_iload K dL_law_157 rfl ?_
  refine gg_iconst K (v := 5) dL_law_159 (by decide) ?_
  refine gg_ishr K dL_law_160 ?_
  refine gg_iconst K (v := 1) dL_law_161 (by decide) ?_
  refine gg_iand K dL_law_162 ?_
  obtain ⟨t', ht, et⟩ := and1 (v >>> (5 &&& 31))
  refine gg_top et ?_
  refine gg_iload K dL_law_163 rfl ?_
  refine gg_bipush K (v := 8) dL_law_165 (by decide) ?_
  refine gg_ishr K dL_law_167 ?_
  refine gg_iconst K (v := 4) dL_law_168 (by decide) ?_
  refine gg_callSR K k_L_L_low (n_low (by decide)) dL_law_169 rfl rfl (rOk_law rfl (by omega) (by omega)) rfl ⟨rfl, rfl⟩ ?_
  obtain ⟨y', hy, ey⟩ := lowF_nI (v := v >>> (8 &&& 31)) (n := 4) (by omega) (by omega)
  refine gg_top ey ?_
  refine gg_iload K dL_law_172 rfl ?_
  refine gg_bipush K (v := 10) dL_law_174 (by decide) ?_
  refine gg_ishr K dL_law_176 ?_
  refine gg_aload_n K (i := 1) dL_law_177 rfl rfl ?_
  refine gg_2V1 K k_L_X0_today x_today dL_law_178 rfl rfl (rOk_law rfl (by omega) (by omega)) rfl ⟨rfl, rfl⟩ ?_
  refine gg_iconst K (v := 1) dL_law_181 (by decide) ?_
  refine gg_iadd K dL_law_182 ?_
  refine gg_top (nI_1 T) ?_
  obtain ⟨q', hq, eq⟩ := lowF_nI (v := v >>> (10 &&& 31)) (n := T + 1) (by omega) (by omega)
  refine gg_callSR K k_L_L_low (n_low (fun z => by
    have := i_eq (b := 0) z
    omega)) dL_law_183 rfl rfl (rOk_law rfl (by omega) (by omega)) rfl ⟨rfl, rfl⟩ ?_
  refine gg_top eq ?_
  refine gg_callAX (wc := w2 Z X Y k kp dr (nI T) k2 kp2 dr2 (nI T)) (wr := []) [0, 1, 2, 3, 4, 5, 6, 7] [] rfl rfl rfl K T9 k_L_L_isRestoredSo (c_restored hl0 hI t' y' q' ht (by omega) (by omega) rfl rfl rfl) dL_law_186 rfl rfl (rOk_law rfl (by omega) (by omega)) rfl (fun v0 u h => ?_)
  obtain ⟨k3, kp3, dr3, k4, kp4, dr4, rfl, rfl, hI'⟩ := h
  refine gg_if_ne K (tgt := 194) dL_law_189 (by decide) (fun h189 => ?_) (fun h189 => ?_)
  · exact kk k3 kp3 dr3 k4 kp4 dr4 T hI'
  · exact absurd h189 (by decide)
set_option maxRecDepth 100000 in
theorem l_103 (K : kx p s m args meth c Z.1 A (ty3 Z) cL_law RL 6) (T9 : te A s s.heap) (hl0 : l.stackTraces = false) (hc : cells + 8 ≤ 600086) (hs : slots + 48 ≤ 7301442) {j : Nat} {v r : Int32} (kk : lSt p l e s m args below meth c Z A Q X Y ((cells + 8)) ((slots + 48)) (147) (([(5, .int r), (4, .int v), (3, .int (nI j)), (0, .ref b), (1, .ref X.1), (2, .ref Y.1)]))) : lSt p l e s m args below meth c Z A Q X Y (cells) (slots) (103) (([(5, .int r), (4, .int v), (3, .int (nI j)), (0, .ref b), (1, .ref X.1), (2, .ref Y.1)])) := by
  intro k kp dr k2 kp2 dr2 T hI
  have hT9 := hI.1.1
  refine gg_iload_n K (i := 3) dL_law_103 rfl rfl ?_
  refine gg_iconst K (v := 3) dL_law_104 (by decide) ?_
  refine gg_irem K dL_law_105 (by decide) ?_
  refine gg_iconst K (v := 1) dL_law_106 (by decide) ?_
  refine gg_icmp_ne K (tgt := 147) dL_law_107 (by decide) (fun h107 => ?_) (fun h107 => ?_)
  · exact gg_wid (Nat.le_add_right _ _) (Nat.le_add_right _ _) (kk k kp dr k2 kp2 dr2 T hI)
  refine gg_aload_n K (i := 1) dL_law_110 rfl rfl ?_
  refine gg_iload K dL_law_111 rfl ?_
  refine gg_bipush K (v := 6) dL_law_113 (by decide) ?_
  refine gg_ishr K dL_law_115 ?_
  refine gg_iconst K (v := 1) dL_law_116 (by decide) ?_
  refine gg_iand K dL_law_117 ?_
  obtain ⟨t', ht, et⟩ := and1 (v >>> (6 &&& 31))
  refine gg_top et ?_
  refine gg_iload K dL_law_118 rfl ?_
  refine gg_bipush K (v := 9) dL_law_120 (by decide) ?_
  refine gg_ishr K dL_law_122 ?_
  refine gg_iconst K (v := 4) dL_law_123 (by decide) ?_
  refine gg_callSR K k_L_L_low (n_low (by decide)) dL_law_124 rfl rfl (rOk_law rfl (by omega) (by omega)) rfl ⟨rfl, rfl⟩ ?_
  obtain ⟨y', hy, ey⟩ := lowF_nI (v := v >>> (9 &&& 31)) (n := 4) (by omega) (by omega)
  refine gg_top ey ?_
  refine gg_iload K dL_law_127 rfl ?_
  refine gg_bipush K (v := 11) dL_law_129 (by decide) ?_
  refine gg_ishr K dL_law_131 ?_
  refine gg_aload_n K (i := 1) dL_law_132 rfl rfl ?_
  refine gg_2V1 K k_L_X0_today x_today dL_law_133 rfl rfl (rOk_law rfl (by omega) (by omega)) rfl ⟨rfl, rfl⟩ ?_
  refine gg_iconst K (v := 1) dL_law_136 (by decide) ?_
  refine gg_iadd K dL_law_137 ?_
  refine gg_top (nI_1 T) ?_
  obtain ⟨q', hq, eq⟩ := lowF_nI (v := v >>> (11 &&& 31)) (n := T + 1) (by omega) (by omega)
  refine gg_callSR K k_L_L_low (n_low (fun z => by
    have := i_eq (b := 0) z
    omega)) dL_law_138 rfl rfl (rOk_law rfl (by omega) (by omega)) rfl ⟨rfl, rfl⟩ ?_
  refine gg_top eq ?_
  obtain ⟨ok, ok2, hV, hi⟩ := hI
  refine gg_callAX (wc := wX Z X k kp dr (nI T)) (wr := wX Z Y k2 kp2 dr2 (nI T)) [0, 1, 2, 3] [4, 5, 6, 7] rfl rfl rfl K T9 k_L_L_areRunsSo (c_runs hl0 ok hi.1 t' y' q' ht (by omega) rfl rfl (by omega) rfl) dL_law_141 rfl rfl (rOk_law rfl (by omega) (by omega)) rfl (fun v0 u h => ?_)
  obtain ⟨k3, kp3, dr3, rfl, rfl, ok3, e3⟩ := h
  refine gg_perm (ws' := w2 Z X Y k3 kp3 dr3 (nI T) k2 kp2 dr2 (nI T)) [4, 5, 6, 7, 0, 1, 2, 3] rfl rfl ?_
  refine gg_if_eq K (tgt := 192) dL_law_144 (by decide) (fun h144 => ?_) (fun h144 => ?_)
  · exact absurd h144 (by decide)
  exact kk k3 kp3 dr3 k2 kp2 dr2 T ⟨ok3, ok2, hV.trans e3.symm, by rw [e3]; exact hi⟩
set_option maxRecDepth 100000 in
theorem l_57 (K : kx p s m args meth c Z.1 A (ty3 Z) cL_law RL 6) (hc : cells ≤ 600086) (hs : slots ≤ 7301442) {j : Nat} {v r : Int32} (kk : lSt p l e s m args below meth c Z A Q X Y (cells) (slots) (103) (([(5, .int r), (4, .int v), (3, .int (nI j)), (0, .ref b), (1, .ref X.1), (2, .ref Y.1)]))) : lSt p l e s m args below meth c Z A Q X Y (cells) (slots) (57) (([(5, .int r), (4, .int v), (3, .int (nI j)), (0, .ref b), (1, .ref X.1), (2, .ref Y.1)])) := by
  intro k kp dr k2 kp2 dr2 T hI
  have kk := kk k kp dr k2 kp2 dr2 T hI
  obtain ⟨ok, ok2, hV, hi⟩ := hI
  have hT9 := ok.1
  refine gg_cut 73 [(5, .int r), (4, .int v), (3, .int (nI j)), (0, .ref b), (1, .ref X.1), (2, .ref Y.1)] [] ?_ (fun k73 => ?_)
  rotate_left
  · refine gg_iload_n K (i := 3) dL_law_57 rfl rfl ?_
    refine gg_bipush K (v := 6) dL_law_58 (by decide) ?_
    refine gg_irem K dL_law_60 (by decide) ?_
    refine gg_iconst K (v := 3) dL_law_61 (by decide) ?_
    refine gg_icmp_ne K (tgt := 73) dL_law_62 (by decide) (fun h62 => ?_) (fun h62 => ?_)
    · exact k73
    refine gg_aload_n K (i := 1) dL_law_65 rfl rfl ?_
    refine gg_aload_n K (i := 2) dL_law_66 rfl rfl ?_
    refine gg_2S K k_L_L_areAlike (c_alike ok ok2 hV) dL_law_67 rfl rfl (rOk_law rfl (by omega) (by omega)) rfl ⟨rfl, rfl⟩ ?_
    refine gg_if_eq K (tgt := 101) dL_law_70 (by decide) (fun h70 => ?_) (fun h70 => ?_)
    · exact absurd h70 (by decide)
    exact k73
  refine gg_iload_n K (i := 3) dL_law_73 rfl rfl ?_
  refine gg_iconst K (v := 5) dL_law_74 (by decide) ?_
  refine gg_irem K dL_law_75 (by decide) ?_
  refine gg_iconst K (v := 2) dL_law_76 (by decide) ?_
  refine gg_icmp_ne K (tgt := 103) dL_law_77 (by decide) (fun h77 => ?_) (fun h77 => ?_)
  · exact kk
  refine gg_aload_n K (i := 1) dL_law_80 rfl rfl ?_
  refine gg_iload K dL_law_81 rfl ?_
  refine gg_bipush K (v := 7) dL_law_83 (by decide) ?_
  refine gg_ishr K dL_law_85 ?_
  refine gg_aload_n K (i := 1) dL_law_86 rfl rfl ?_
  refine gg_2V1 K k_L_X0_today x_today dL_law_87 rfl rfl (rOk_law rfl (by omega) (by omega)) rfl ⟨rfl, rfl⟩ ?_
  refine gg_iconst K (v := 1) dL_law_90 (by decide) ?_
  refine gg_iadd K dL_law_91 ?_
  refine gg_top (nI_1 T) ?_
  obtain ⟨q', hq, eq⟩ := lowF_nI (v := v >>> (7 &&& 31)) (n := T + 1) (by omega) (by omega)
  refine gg_callSR K k_L_L_low (n_low (fun z => by
    have := i_eq (b := 0) z
    omega)) dL_law_92 rfl rfl (rOk_law rfl (by omega) (by omega)) rfl ⟨rfl, rfl⟩ ?_
  refine gg_top eq ?_
  refine gg_2S1 K k_L_L_areValuesSo (c_values ok hi q' (by omega) rfl) dL_law_95 rfl rfl (rOk_law rfl (by omega) (by omega)) rfl ⟨rfl, rfl⟩ ?_
  refine gg_if_ne K (tgt := 103) dL_law_98 (by decide) (fun h98 => ?_) (fun h98 => ?_)
  · exact kk
  · exact absurd h98 (by decide)
set_option maxRecDepth 100000 in
theorem l_24 (K : kx p s m args meth c Z.1 A (ty3 Z) cL_law RL 6) (T9 : te A s s.heap) (hl0 : l.stackTraces = false) (hX : va_X b Ln xs s s.heap) (hbl : b < s.heap.size) (hbA : ¬ A b) (hLn : Ln ≤ 3072) (hc : cells + 16 ≤ 600086) (hs : slots + 96 ≤ 7301442) {j : Nat} (hj : j < 64) (kk : ∀ v r : Int32, lSt p l e s m args below meth c Z A Q X Y ((cells + 16)) ((slots + 96)) (57) (([(5, .int r), (4, .int v), (3, .int (nI j)), (0, .ref b), (1, .ref X.1), (2, .ref Y.1)]))) : lSt p l e s m args below meth c Z A Q X Y (cells) (slots) (24) (([(3, .int (nI j)), (0, .ref b), (1, .ref X.1), (2, .ref Y.1)])) := by
  intro k kp dr k2 kp2 dr2 T hI
  obtain ⟨ok, ok2, hV, hi⟩ := hI
  have hT9 := ok.1
  refine gg_aload_n K (i := 0) dL_law_24 rfl rfl ?_
  refine gg_iload_n K (i := 3) dL_law_25 rfl rfl ?_
  refine gg_callC K hX hbl hbA k_L_L_cell (c_cell (by omega) hLn) dL_law_26 rfl rfl (rOk_law rfl (by omega) (by omega)) rfl (fun v => ?_)
  refine gg_istore K dL_law_29 (by decide) ?_
  refine gg_aload_n K (i := 1) dL_law_31 rfl rfl ?_
  refine gg_iload K dL_law_32 rfl ?_
  refine gg_callAX (wc := wX Z X k kp dr (nI T)) (wr := wX Z Y k2 kp2 dr2 (nI T)) [0, 1, 2, 3] [4, 5, 6, 7] rfl rfl rfl K T9 k_L_L_act (c_act hl0 ok hi.1) dL_law_34 rfl rfl (rOk_law rfl (by omega) (by omega)) rfl (fun v0 u h => ?_)
  obtain ⟨r, k3, kp3, dr3, T3, rfl, rfl, ok3, hS⟩ := h
  refine gg_perm (ws' := w2 Z X Y k3 kp3 dr3 (nI T3) k2 kp2 dr2 (nI T)) [4, 5, 6, 7, 0, 1, 2, 3] rfl rfl ?_
  have hi3 := sAct_inv hT9 hi hS
  refine gg_istore K dL_law_37 (by decide) ?_
  refine gg_iload K dL_law_39 rfl ?_
  refine gg_ldc K wd_3 dL_law_41 ?_
  refine gg_icmp_eq K (tgt := 57) dL_law_43 (by decide) (fun h43 => ?_) (fun h43 => ?_)
  · obtain ⟨e1, e2⟩ := sAct_off hS h43
    subst e2
    refine gg_sub (L' := [(5, .int r), (4, .int v), (3, .int (nI j)), (0, .ref b), (1, .ref X.1), (2, .ref Y.1)]) ⟨rfl, rfl, rfl, rfl, rfl, rfl, trivial⟩ ?_
    exact gg_wid (k9 := cells + 16) (n9 := slots + 96) (by show cells + 8 ≤ _; omega) (by show slots + 48 ≤ _; omega) (kk v r k3 kp3 dr3 k2 kp2 dr2 T3 ⟨ok3, ok2, hV.trans e1.symm, hi3⟩)
  refine gg_aload_n K (i := 2) dL_law_46 rfl rfl ?_
  refine gg_iload K dL_law_47 rfl ?_
  refine gg_callAX (wc := wX Z Y k2 kp2 dr2 (nI T)) (wr := wX Z X k3 kp3 dr3 (nI T3)) [4, 5, 6, 7] [0, 1, 2, 3] rfl rfl rfl K T9 k_L_L_act (c_act hl0 ok2 (by rw [hV]; exact hi.1)) dL_law_49 rfl rfl (rOk_law rfl (by omega) (by omega)) rfl (fun v0 u h => ?_)
  obtain ⟨r4, k4, kp4, dr4, T4, rfl, rfl, ok4, hS4⟩ := h
  rw [hV] at hS4
  obtain ⟨e4, e5, e6⟩ := sAct_uq hS4 hS
  subst e4 e6
  refine gg_wsE (ws' := w2 Z X Y k3 kp3 dr3 (nI T4) k4 kp4 dr4 (nI T4)) rfl ?_
  refine gg_iload K dL_law_52 rfl ?_
  refine gg_icmp_ne K (tgt := 101) dL_law_54 (by decide) (fun h54 => ?_) (fun h54 => ?_)
  · exact absurd rfl h54
  refine gg_sub (L' := [(5, .int r4), (4, .int v), (3, .int (nI j)), (0, .ref b), (1, .ref X.1), (2, .ref Y.1)]) ⟨rfl, rfl, rfl, rfl, rfl, rfl, trivial⟩ ?_
  exact kk v r4 k3 kp3 dr3 k4 kp4 dr4 T4 ⟨ok3, ok4, e5, hi3⟩
set_option maxRecDepth 100000 in
theorem l_200 (K : kx p s m args meth c Z.1 A (ty3 Z) cL_law RL 6) (T9 : te A s s.heap) (hl0 : l.stackTraces = false) {j : Nat} (hc : cells + 32 ≤ 600086) (hs : slots + 192 ≤ 7301442) (hend : ∀ (cells slots : Nat) (ws : va_W) (L : List (Nat × Value)), cells ≤ 600086 → slots ≤ 7301442 → gg p l e room_1 s m args below meth c Z.1 A 6 cells slots Q ws 237 L []) : lSt p l e s m args below meth c Z A Q X Y (cells) (slots) (200) (([(3, .int (nI j)), (0, .ref b), (1, .ref X.1), (2, .ref Y.1)])) := by
  intro k kp dr k2 kp2 dr2 T hI
  obtain ⟨ok, ok2, hV, hi⟩ := hI
  have hT9 := ok.1
  refine gg_aload_n K (i := 1) dL_law_200 rfl rfl ?_
  refine gg_aload_n K (i := 2) dL_law_201 rfl rfl ?_
  refine gg_2S K k_L_L_areAlike (c_alike ok ok2 hV) dL_law_202 rfl rfl (rOk_law rfl (by omega) (by omega)) rfl ⟨rfl, rfl⟩ ?_
  refine gg_if_eq K (tgt := 241) dL_law_205 (by decide) (fun h205 => ?_) (fun h205 => ?_)
  · exact absurd h205 (by decide)
  refine gg_aload_n K (i := 1) dL_law_208 rfl rfl ?_
  refine gg_iconst K (v := 0) dL_law_209 (by decide) ?_
  refine gg_iconst K (v := 1) dL_law_210 (by decide) ?_
  refine gg_callAX (wc := wX Z X k kp dr (nI T)) (wr := wX Z Y k2 kp2 dr2 (nI T)) [0, 1, 2, 3] [4, 5, 6, 7] rfl rfl rfl K T9 k_L_L_areRowsSo (c_rows hl0 ok hi.1 0 1 (by omega) (by omega) rfl rfl) dL_law_211 rfl rfl (rOk_law rfl (by omega) (by omega)) rfl (fun v0 u h => ?_)
  obtain ⟨k3, kp3, dr3, rfl, rfl, ok3, e3⟩ := h
  refine gg_perm (ws' := w2 Z X Y k3 kp3 dr3 (nI T) k2 kp2 dr2 (nI T)) [4, 5, 6, 7, 0, 1, 2, 3] rfl rfl ?_
  refine gg_if_eq K (tgt := 241) dL_law_214 (by decide) (fun h214 => ?_) (fun h214 => ?_)
  · exact absurd h214 (by decide)
  refine gg_aload_n K (i := 1) dL_law_217 rfl rfl ?_
  refine gg_iconst K (v := 1) dL_law_218 (by decide) ?_
  refine gg_iconst K (v := 2) dL_law_219 (by decide) ?_
  refine gg_callAX (wc := wX Z X k3 kp3 dr3 (nI T)) (wr := wX Z Y k2 kp2 dr2 (nI T)) [0, 1, 2, 3] [4, 5, 6, 7] rfl rfl rfl K T9 k_L_L_areRowsSo (c_rows hl0 ok3 (by rw [e3]; exact hi.1) 1 2 (by omega) (by omega) rfl rfl) dL_law_220 rfl rfl (rOk_law rfl (by show cells + 16 + 16 ≤ _; omega) (by show slots + 96 + 96 ≤ _; omega)) rfl (fun v0 u h => ?_)
  obtain ⟨k4, kp4, dr4, rfl, rfl, ok4, e4⟩ := h
  refine gg_perm (ws' := w2 Z X Y k4 kp4 dr4 (nI T) k2 kp2 dr2 (nI T)) [4, 5, 6, 7, 0, 1, 2, 3] rfl rfl ?_
  refine gg_if_eq K (tgt := 241) dL_law_223 (by decide) (fun h223 => ?_) (fun h223 => ?_)
  · exact absurd h223 (by decide)
  refine gg_aload_n K (i := 1) dL_law_226 rfl rfl ?_
  refine gg_aload_n K (i := 1) dL_law_227 rfl rfl ?_
  refine gg_2V1 K k_L_X0_today x_today dL_law_228 rfl rfl (rOk_law rfl (by show cells + 16 + 16 + 0 ≤ _; omega) (by show slots + 96 + 96 + 0 ≤ _; omega)) rfl ⟨rfl, rfl⟩ ?_
  refine gg_2S1 K k_L_L_areValuesSo (c_values ok4 (by rw [e4, e3]; exact hi) T (Nat.le_refl T) rfl) dL_law_231 rfl rfl (rOk_law rfl (by show cells + 16 + 16 + 0 ≤ _; omega) (by show slots + 96 + 96 + 0 ≤ _; omega)) rfl ⟨rfl, rfl⟩ ?_
  refine gg_if_eq K (tgt := 241) dL_law_234 (by decide) (fun h234 => ?_) (fun h234 => ?_)
  · exact absurd h234 (by decide)
  exact hend _ _ _ _ (by show cells + 16 + 16 ≤ _; omega) (by show slots + 96 + 96 ≤ _; omega)
set_option maxRecDepth 100000 in
/-- the law's loop, from its head -/
theorem law_loop (K : kx p s m args meth c Z.1 A (ty3 Z) cL_law RL 6) (T9 : te A s s.heap) (hl0 : l.stackTraces = false) (hX : va_X b Ln xs s s.heap) (hbl : b < s.heap.size) (hbA : ¬ A b) (hLn : Ln ≤ 3072) (hend : ∀ (cells slots : Nat) (ws : va_W) (L : List (Nat × Value)), cells ≤ 600086 → slots ≤ 7301442 → gg p l e room_1 s m args below meth c Z.1 A 6 cells slots Q ws 237 L []) : ∀ (n j : Nat), j + n = 65 → j ≤ 64 → lSt p l e s m args below meth c Z A Q X Y ((8 + 40 * j)) ((115448 + 240 * j)) (18) (([(3, .int (nI j)), (0, .ref b), (1, .ref X.1), (2, .ref Y.1)]))
  | 0, j, hn, hj => by omega
  | n + 1, j, hn, hj => by
    intro k kp dr k2 kp2 dr2 T hI
    refine gg_iload_n K (i := 3) dL_law_18 rfl rfl ?_
    refine gg_bipush K (v := 64) dL_law_19 (by decide) ?_
    refine gg_icmp_ge K (tgt := 200) dL_law_21 (by decide) (fun h21 => ?_) (fun h21 => ?_)
    · exact l_200 K T9 hl0 (by omega) (by omega) hend k kp dr k2 kp2 dr2 T hI
    have hj2 := i_nle (a := 64) h21
    refine l_24 K T9 hl0 hX hbl hbA hLn (by omega) (by omega) hj2 (fun v r => ?_) k kp dr k2 kp2 dr2 T hI
    refine l_57 K (by omega) (by omega) ?_
    refine l_103 K T9 hl0 (by omega) (by omega) ?_
    refine l_147 K T9 hl0 (by omega) (by omega) ?_
    intro k kp dr k2 kp2 dr2 T hI
    refine gg_iinc K (v := nI (j + 1)) dL_law_194 rfl (nI_inc (j)) (by decide) ?_
    refine gg_goto K (tgt := 18) dL_law_197 (by decide) ?_
    refine gg_sub (L' := [(3, .int (nI (j + 1))), (0, .ref b), (1, .ref X.1), (2, .ref Y.1)]) ⟨rfl, rfl, rfl, rfl, trivial⟩ ?_
    exact gg_wid (by omega) (by omega) (law_loop K T9 hl0 hX hbl hbA hLn hend n (j + 1) (by omega) (by omega) k kp dr k2 kp2 dr2 T hI)
end
end
section
/-! THE CLAIM OUT OF ONE WALK OF THE LAW'S BODY. Your part is whole_start (and what it stands on); all else here is the same for every law, but numbers. -/
def R_law : String := "TwotimesLaw"
def lw_P (b : Addr) (xs : List Int32) (args : Array Value) (s : State) : Prop := args = #[.ref b] ∧ s.IntsAt b xs ∧ xs.length ≤ 260 ∧ (Jvm.Cond.and given_1 narrow_1).before args s = true
/-- what a walk over the start with the record d0 says of its end, said of the start itself -/
theorem lw_closed {s t : State} {o : Outcome} {d0 : Drawn} {L : List Loc} {k n : Nat} (hd0 : s.drawn.sameBut d0 lw_cs) (hv : ∃ v, o = .returned v) (hW : (s.setDrawn d0).WarmedH t.vm) (hs : (s.setDrawn d0).sameButNew ({ t with vm := s.vm } : State) L k n) : State.butDraws s t lw_cs (fun t1 => Framed s o t1 L k n) := by
  have h2 : t.drawn = d0 := congrArg State.drawn hs.1
  refine ⟨⟨hv, hW, State.sameButNew.setDrawn hs s.drawn⟩, ?_, by decide⟩
  rw [h2]
  exact hd0
def lw_Q (_ : Array Value) (s : State) (o : Outcome) (t : State) : Prop := o = .returned (some (.int 1)) ∧ State.butDraws s t lw_cs (fun t1 => Framed s o t1 [] 600086 7301442)
def lw_Z (below : List Frame) (a : Array Value) (s : State) : State → Prop := fun t => ∃ o, t.status = .running ∧ Ended t below o ∧ lw_Q a s o t
/-- the law's own end, with 1 on the stack, nothing written that was there before, its room as the claim has it; d0: the record of draws at this point (at the entry s.drawn: begin with 'refine W.base ?_' and 'have hd0 := Drawn.sameBut.refl s.drawn lw_cs') -/
theorem lw_ret {p : Program} {l : Launch} {e : Env} {s : State} {m : MethodId} {below : List Frame} {meth : Method} {c : Code} {b : Nat} {d0 : Drawn} (hd0 : s.drawn.sameBut d0 lw_cs) (hx : p.tables.exec = Jvm.exec) (hb : c.code = code) (hr : meth.sig.returnType = ret) (hlocks : meth.locks = false) {pc : Nat} {H : Heap} {ls : Array Slot} (hdg : decode code pc = .ok (.ireturn, 1)) : W p l e room_1 (s.setDrawn d0) m #[Value.ref b] below meth c H [] 600086 7301442 (lw_Z below #[Value.ref b] s) (F0 m pc ls [.int 1]) := by
  intro T hT X
  obtain ⟨fs, hret, hrun, hended, hW, hframe⟩ := X.leave (v := some (.int 1)) (hlocks := hlocks) (fun h => by rw [hr] at h; cases h)
  have hmeth' : T.vm.method? m = some meth := X.method'
  refine ⟨T.setFrames fs, ?_, .returned (some (.int 1)), hrun, hended, rfl, lw_closed hd0 ⟨_, rfl⟩ hW hframe⟩
  jvm_step X.here [X.here.top, hx, hb, hdg, hmeth', hr, ret, narrow_b1]
  (try refine ⟨rfl, ?_⟩); (try refine ⟨rfl, ?_⟩)
  first | (intro acts; rw [hret _ acts rfl rfl rfl]) | rw [hret _ _ rfl rfl rfl]
  exact Steps.refl _
/-- what holds at the law's entry: the machine, the code, the tables' words (any of lw_tbl by 'hts w (by decide +kernel)'), the script of L ints xs at the cell b, what the Statement gives of the start (any of its parts by flat_of_before) -/
def lw_At (p : Program) (s : State) (m : MethodId) (meth : Method) (c : Code) (b L : Nat) (xs : Nat → Int32) : Prop :=
  p.tables.exec = Jvm.exec ∧ c.code = code ∧ meth.sig.returnType = ret ∧ c.maxLocals = 6 ∧ s.vm.findClass R_law = some m.cls ∧ (∀ w ∈ lw_tbl, w.before #[Value.ref b] s = true) ∧ va_X b L xs s s.heap ∧ b < s.heap.size ∧ meth.locks = false ∧ (Jvm.Cond.and given_1 narrow_1).before #[Value.ref b] s = true
section
variable {p : Program} {l : Launch} {e : Env} {R : Room} {s : State} {m : MethodId} {args : Array Value} {below : List Frame} {meth : Method} {c : Code} {Z : ZT} {A : Nat → Prop} {cc : ByteArray} {n cells slots pc : Nat} {Q : State → Prop} {ws : va_W} {L : List (Nat × Value)} {st : List Value}
theorem gg_newX (K : kx p s m args meth c Z.1 A (ty3 Z) cc RL n) (hr : (Nat.ble (cells + 1) R.cells && Nat.ble (slots + 4) R.slots) = true) (hd : decode cc pc = .ok (.new 9, 3))
    (kk : ∀ q : Nat, gg p l e R s m args below meth c Z.1 A n (cells + 1) (slots + 4) Q (ws ++ [(q, .inr (0, [.null, .null, .null, .int 0]))]) (pc + 3) L (.ref q :: st)) : gg p l e R s m args below meth c Z.1 A n cells slots Q ws pc L st := by
  intro H locs ls hP hD hS hl
  rw [Bool.and_eq_true] at hr
  exact va_new (ci := 0) (fs := [.null, .null, .null, .int 0]) (C := RX0) (T := TX0) (N := 4) K.1.1 K.1.2.1 K.1.2.2.2.2 inX0 tyX0 tyX0_ok K.1.2.2.2.1 (K.1.2.2.2.2 _ wd_0) (K.1.2.2.2.2 _ wd_1) (K.1.2.2.2.2 _ wd_2) K.2.1 hP hD hS K.2.2.1 rfl (fun j hj => by rcases (show j = 0 ∨ j = 1 ∨ j = 2 ∨ j = 3 by omega) with rfl | rfl | rfl | rfl <;> rfl) (Nat.le_of_ble_eq_true hr.1) (Nat.le_of_ble_eq_true hr.2) hd (fun q H1 hP hD hS => kk q H1 locs ls hP hD hS hl)
end
theorem strs_in : ∀ q ∈ strs, Cond.stringRef RX0 q.1 q.2 ∈ lw_tbl := by decide +kernel
theorem teW_in : ∀ w ∈ teW, w ∈ lw_tbl := by decide +kernel
theorem teN_in : ∀ q ∈ teN, Cond.not (.castable q.1 q.2) ∈ flatC (Jvm.Cond.and given_1 narrow_1) := by decide +kernel
theorem te_start {s : State} {args : Array Value} {A : Nat → Prop} (hts : ∀ w ∈ lw_tbl, w.before args s = true) (hgv : (Jvm.Cond.and given_1 narrow_1).before args s = true) (hA : ∀ a : Nat, a < s.heap.size → ¬ A a) : te A s s.heap := by
  have hg := flat_of_before _ hgv
  refine ⟨vx_Zqof (hts _ (by decide +kernel)) (hts _ (by decide +kernel)) (hg _ (by decide +kernel)) hA, vx_Zqof (hts _ (by decide +kernel)) (hts _ (by decide +kernel)) (hg _ (by decide +kernel)) hA, fun q hq => ?_, fun w hw => va_Nw.of (teW_ot w hw) (hts _ (teW_in w hw)), fun q hq => va_Nc.of (hg _ (teN_in q hq))⟩
  have h1 := hts _ (strs_in q hq)
  obtain ⟨cC, kC, hfc, -⟩ := Cond.instantiable_spec (hts _ (gw_tbl _ wd_1))
  obtain ⟨-, -, -, sa, -, -, -, -, -, h2⟩ := Cond.stringRef_spec hfc h1
  exact ⟨sa, vk_R.of h1 h2⟩
set_option maxRecDepth 100000 in
theorem whole_start {p : Program} {e : Env} {s : State} {m : MethodId} {below : List Frame} {meth : Method} {c : Code} (l : Launch) (hflags : l.flags = flags0) {b L : Nat} {xs : Nat → Int32} (hL : L ≤ 260) (C0 : lw_At p s m meth c b L xs) : W p l e room_1 s m #[Value.ref b] below meth c s.heap [] 0 0 (lw_Z below #[Value.ref b] s) (entryFrame m ([Value.ref b] : List Value).toArray 6) := by
  obtain ⟨hx, hb, hr, hml, hown, hts, hX, hbl, hlocks, hgv⟩ := C0
  have hl0 : l.stackTraces = false := by unfold Launch.stackTraces; rw [hflags]; decide +kernel
  have htg : ∀ w ∈ GW, w.before #[Value.ref b] s = true := fun w h => hts w (gw_tbl w h)
  obtain ⟨c0, i0, hk0⟩ := u_known htg inX0 (htg _ wd_1)
  obtain ⟨cI, aI⟩ := arr_of (htg _ wd_11) (fun C h => by cases h)
  obtain ⟨Z, hZ⟩ : ∃ Z : ZT, Z = ((fun _ => c0, fun _ => i0), cI, cI, cI) := ⟨_, rfl⟩
  have hK : va_K Z.1 vwCl (ty3 Z) s := by
    subst hZ
    refine ⟨fun c q hq => ?_, fun k q hk => ?_⟩
    · rcases c with _ | c
      · cases hq; exact hk0
      · cases hq
    · rcases k with _ | k
      · cases hk; exact aI
      · cases hk
  have K : kx p s m #[Value.ref b] meth c Z.1 (fun q => s.heap.size ≤ q) (ty3 Z) cL_law RL 6 := ⟨⟨hx, hb, hml, hown, htg⟩, hK, fun q h => h, hlocks⟩
  have hbA : ¬ s.heap.size ≤ b := Nat.not_le.mpr hbl
  have T9 : te (fun q => s.heap.size ≤ q) s s.heap := te_start hts hgv (fun a h => Nat.not_le.mpr h)
  have hl := lv_entry [Value.ref b] (n := 6) (Nat.le_of_ble_eq_true rfl)
  rw [lg_entry_eq]
  have hend : ∀ (cells slots : Nat) (ws : va_W) (L : List (Nat × Value)), cells ≤ 600086 → slots ≤ 7301442 → gg p l e room_1 s m #[Value.ref b] below meth c Z.1 (fun q => s.heap.size ≤ q) 6 cells slots (lw_Z below #[Value.ref b] s) ws 237 L [] := fun cells slots ws L g1 g2 => by
    refine gg_iconst K (v := 1) dL_law_237 (by decide) ?_
    refine gg_goto K (tgt := 242) dL_law_238 (by decide) ?_
    intro H locs ls hP hD hS hl
    exact va_forget (fun q hq => hS.2.2 q hq) (W.widen g1 g2 (lw_ret (d0 := s.drawn) (Drawn.sameBut.refl s.drawn lw_cs) hx hb hr hlocks dL_law_242))
  suffices hg : gg p l e room_1 s m #[Value.ref b] below meth c Z.1 (fun q => s.heap.size ≤ q) 6 0 0 (lw_Z below #[Value.ref b] s) [] 0 [(0, .ref b)] [] from hg s.heap [] _ nil_P nil_D va_S.rf (lvk_of hl rfl)
  refine gg_newX K rfl dL_law_0 (fun x => ?_)
  refine gg_dup K dL_law_3 rfl ?_
  refine gg_callJI (wc := [(x, .inr (0, [.null, .null, .null, .int 0]))]) (wr := []) [0] [] rfl rfl rfl K wd_6 wd_4 wd_5 wd_2 rfl (by decide +kernel) x_init dL_law_4 rfl rfl (fun v u h => ?_)
  obtain ⟨rfl, xa, xb, xc, rfl⟩ := h
  refine gg_astore_n K (i := 1) dL_law_7 rfl (by decide) ?_
  refine gg_newX K rfl dL_law_8 (fun y => ?_)
  refine gg_dup K dL_law_11 rfl ?_
  refine gg_callJI (wc := [(y, .inr (0, [.null, .null, .null, .int 0]))]) (wr := wX Z (x, xa, xb, xc) (kI0 960) (fun _ => 0) (fun _ => 0) 0) [4] [0, 1, 2, 3] rfl rfl rfl K wd_6 wd_4 wd_5 wd_2 rfl (by decide +kernel) x_init dL_law_12 rfl rfl (fun v u h => ?_)
  obtain ⟨rfl, ya, yb, yc, rfl⟩ := h
  refine gg_astore_n K (i := 2) dL_law_15 rfl (by decide) ?_
  refine gg_iconst K (v := 0) dL_law_16 (by decide) ?_
  refine gg_istore_n K (i := 3) dL_law_17 rfl (by decide) ?_
  refine gg_sub (L' := [(3, .int (nI 0)), (0, .ref b), (1, .ref (x, xa, xb, xc).1), (2, .ref (y, ya, yb, yc).1)]) ⟨rfl, rfl, rfl, rfl, trivial⟩ ?_
  refine gg_wsE (ws' := w2 Z (x, xa, xb, xc) (y, ya, yb, yc) (kI0 960) (fun _ => 0) (fun _ => 0) (nI 0) (kI0 960) (fun _ => 0) (fun _ => 0) (nI 0)) rfl ?_
  exact gg_wid (Nat.le_of_ble_eq_true rfl) (Nat.le_of_ble_eq_true rfl) (law_loop K T9 hl0 hX hbl hbA (by omega) hend 65 0 rfl (by omega) _ _ _ _ _ _ 0 ⟨okX_new, okX_new, rfl, by rw [vX_new]; exact INV_new⟩)
end
section
set_option maxHeartbeats 4000000 in
theorem lw_walk (l : Launch) (hflags : l.flags = flags0) (b : Addr) (xs : List Int32) : MetFree l x (headSpec (Jvm.Cond.code x code maxLocals ret :: tables_1) room_1) (lw_P b xs) (fun _ _ _ _ _ => True) lw_Q := by
  refine MetFree.of_bodyS (code := code) (maxLocals := maxLocals) (ret := ret) (by decide) ?_ ?_
  · intro args s m h hn
    obtain ⟨meth, c, h1, h2, h3, h4, h5, h6, -, -⟩ := Cond.code_spec hn (atoms_spec (ws := Jvm.Cond.code x code maxLocals ret :: tables_1) h _ List.mem_cons_self)
    exact ⟨meth, c, h1, h2, h3, h4, h5, h6⟩
  · intro p e s m args below meth c s₁ B hml0 hP _
    obtain ⟨rfl, hx, hbd, hgv⟩ := hP
    obtain ⟨scr, harrAt, hlist, hof, hsmall⟩ := hx
    obtain ⟨hcb, hkn, -, -⟩ := State.arrayAt?_spec harrAt
    have hown : s.vm.findClass R_law = some m.cls := findClass_of_methodNamed B.named
    have hts0 : ∀ c ∈ (Jvm.Cond.code x code maxLocals ret :: tables_1), c.before #[Value.ref b] s = true := atoms_spec (ws := Jvm.Cond.code x code maxLocals ret :: tables_1) B.pre
    have hts : ∀ w ∈ lw_tbl, w.before #[Value.ref b] s = true := k2_hts_sels lw_privs (fun w hw => hts0 w (List.mem_cons_of_mem _ hw)) lw_privs_ok
    have hml : c.maxLocals = 6 := B.maxLocals_eq (hts0 _ List.mem_cons_self)
    have X₀ : Stand p l e room_1 s m #[Value.ref b] below meth c s₁ [] 0 0 := Stand.of_body B
    have hh0 : s₁.heap = s.heap := by rw [B.state]; rfl
    have hsz : scr.slots.size = xs.length := by rw [← Array.length_toList, hlist, List.length_map]
    have hval : ∀ j : Nat, j < xs.length → scr.slots[j]? = some (.int (xs.getD j 0)) := fun j hj => by
      rw [← Array.getElem?_toList, hlist]
      simp [hj]
    have hbl : b < s.heap.size := (Array.getElem?_eq_some_iff.mp hcb).1
    have hX : va_X b xs.length (fun j => xs.getD j 0) s s.heap := ⟨scr, hcb, hof, hkn, hsz, hval⟩
    have K : W p l e room_1 s m #[Value.ref b] below meth c s₁.heap [] 0 0 (lw_Z below #[Value.ref b] s) (entryFrame m ([Value.ref b] : List Value).toArray 6) := by
      rw [hh0]
      exact whole_start l hflags hbd ⟨B.exec, B.bytes, B.returns, hml, hown, hts, hX, hbl, B.notSynchronized, hgv⟩
    obtain ⟨t, a1, o, b1, b2, b3⟩ := K s₁ rfl X₀
    exact ⟨t, o, a1, b1, b2, b3⟩
theorem lw_pre_spec {args : Array Value} {s : State} (h : (Jvm.Cond.and given_1 narrow_1).before args s = true) (hr : rest_1_c.before args s = true) : ∃ (b : Addr) (xs : List Int32), lw_P b xs args s := by
  have hs := flat_of_before _ h
  have hq := flat_of_before _ hr
  have hc : (Cond.count 1).before args s = true := hs _ (by decide +kernel)
  have harr : (Cond.arrayOf (.arg 0) .int).before args s = true := hs _ (by decide +kernel)
  have hle : (Cond.le (.length (.arg 0)) (.int 260)).before args s = true := hs _ (by decide +kernel)
  have hlen : (Cond.isInt (.length (.arg 0))).before args s = true := hq _ (by decide +kernel)
  have hall : (Cond.all (.arg 0) (.isInt (.elem (.arg 0) (.index 0)))).before args s = true := hq _ (by decide +kernel)
  obtain ⟨b, xs, hb, hx⟩ := State.ints_of_pre rfl harr hlen hall
  have hsm : xs.length < 2 ^ 31 := hx.choose_spec.2.2.2
  have hev : (Term.length (.arg 0)).eval args s none [] s = some (.int xs.length.toInt32) := hx.length_eval hb
  have hv := Cond.le_ints hev (show (Term.int 260).eval args s none [] s = some (.int 260) from rfl)
  have hd : xs.length.toInt32 ≤ 260 := by
    simpa [Cond.before, Cond.holds, hv] using hle
  have hN : xs.length ≤ 260 := (Int32.ofNat_le_ofNat hsm (by decide)).mp (show Int32.ofNat xs.length ≤ Int32.ofNat 260 from hd)
  exact ⟨b, xs, Cond.one_arg hc (show args[0]? = some (.ref b) from hb), hx, hN, h⟩
theorem lw_comes (l : Launch) (hflags : l.flags = flags0) : Comes l x (Jvm.Cond.code x code maxLocals ret :: tables_1) room_1 (fun tb e args s => Calls_1 tb e args s ∧ rest_1 tb e args s ∧ Pre_1 tb e args s)
    (fun _ _ args s o t => lw_Q args s o t) := by
  intro p e ha hc hk s m args below hf hfit hheap happ hpre
  obtain ⟨b, xs, hP⟩ := lw_pre_spec hpre.2.2 hpre.2.1
  obtain ⟨k, o, h1, h2, h3, hQ⟩ := lw_walk l hflags b xs p e ha hc hk s m args below hf ((Spec.applies_iff_loose hf).mp happ).1 hP trivial
  exact ⟨k, o, h1, h2, h3, hQ⟩
theorem lw_frame {s t : State} {o : Outcome} {args : Array Value} (h : State.butDraws s t lw_cs (fun t1 => Framed s o t1 [] 600086 7301442)) :
    State.butDraws s t [Jvm.Choice.named "NaN.bits"] (fun t1 => Framed s o t1 (fieldLocs frame_1_writes args s ++ arrayLocs frame_1_arrays args s ++ staticLocs frame_1_statics s) 600086 7301442) := h
theorem lw_limb (L : Cond) (hL : ∀ (args : Array Value) (s t : State), L.after args s (.returned (some (.int 1))) t = true) :
    ArmFor flags0 classFile x code maxLocals ret World_1 tables_1 room_1 Calls_1 rest_1 Pre_1
      (fun tb e a s o t => postC L tb e a s o t ∧ State.butDraws s t [Jvm.Choice.named "NaN.bits"] (fun t1 => Framed s o t1 (fieldLocs frame_1_writes a s ++ arrayLocs frame_1_arrays a s ++ staticLocs frame_1_statics s) 600086 7301442)) := by
  intro l hflags _ _ p e ha hc hk s m args below hf hfit hheap happ hpre
  obtain ⟨k, o, h1, h2, h3, rfl, hF⟩ := lw_comes l hflags p e ha hc hk s m args below hf hfit hheap happ hpre
  exact ⟨k, _, h1, h2, h3, hL args s _, lw_frame hF⟩
theorem i_vc : Claimed_1_1 ∧ Claimed_1_2 := ⟨lw_limb limb_1_1 (fun args s t => by simp [limb_1_1, Cond.after, Cond.holds, Cond.value]), lw_limb limb_1_2 (fun args s t => Cond.after_iff.mpr (by
  first | (rw [show limb_1_2 = Cond.eq .result (.int 1) from rfl, Cond.eq_ints (x := 1) (y := 1) rfl rfl]; simp; done) | (simp [limb_1_2, Cond.value, Term.eval]; done)))⟩
end
