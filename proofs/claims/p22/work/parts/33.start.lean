/-! THE CLAIM OUT OF ONE WALK OF THE LAW'S BODY. Your part is whole_start (and what it stands on); all else here is the same for every law, but numbers. -/
def R_law : String := "TwotimesLaw"
def lw_P (b : Addr) (xs : List Int32) (args : Array Value) (s : State) : Prop := args = #[.ref b] ∧ s.IntsAt b xs ∧ xs.length ≤ 260 ∧ (Jvm.Cond.and given_1 narrow_1).before args s = true
/-- what a walk over the start with the record d0 says of its end, said of the start itself -/
theorem lw_closed {s t : State} {o : Outcome} {d0 : Drawn} {L : List Loc} {k n : Nat} (hd0 : s.drawn.sameBut d0 lw_cs) (hv : ∃ v, o = .returned v) (hW : (s.setDrawn d0).WarmedH t.vm) (hs : (s.setDrawn d0).sameButNew ({ t with vm := s.vm } : State) L k n) : State.butDraws s t lw_cs (fun t1 => Framed s o t1 L k n) := by
  have h2 : t.drawn = d0 := congrArg State.drawn hs.1
  refine ⟨⟨hv, hW, State.sameButNew.setDrawn hs s.drawn⟩, ?_, by decide⟩
  rw [h2]
  exact hd0
def lw_Q (_ : Array Value) (s : State) (o : Outcome) (t : State) : Prop := o = .returned (some (.int 1)) ∧ State.butDraws s t lw_cs (fun t1 => Framed s o t1 [] 600086 7301442)
def lw_Z (below : List Frame) (a : Array Value) (s : State) : State → Prop := fun t => ∃ o, t.status = .running ∧ Ended t below o ∧ lw_Q a s o t
/-- the law's own end, with 1 on the stack, nothing written that was there before, its room as the claim has it; d0: the record of draws at this point (at the entry s.drawn: begin with 'refine W.base ?_' and 'have hd0 := Drawn.sameBut.refl s.drawn lw_cs') -/
theorem lw_ret {p : Program} {l : Launch} {e : Env} {s : State} {m : MethodId} {below : List Frame} {meth : Method} {c : Code} {b : Nat} {d0 : Drawn} (hd0 : s.drawn.sameBut d0 lw_cs) (hx : p.tables.exec = Jvm.exec) (hb : c.code = code) (hr : meth.sig.returnType = ret) (hlocks : meth.locks = false) {pc : Nat} {H : Heap} {ls : Array Slot} (hdg : decode code pc = .ok (.ireturn, 1)) : W p l e room_1 (s.setDrawn d0) m #[Value.ref b] below meth c H [] 600086 7301442 (lw_Z below #[Value.ref b] s) (F0 m pc ls [.int 1]) := by
  intro T hT X
  obtain ⟨fs, hret, hrun, hended, hW, hframe⟩ := X.leave (v := some (.int 1)) (hlocks := hlocks) (fun h => by rw [hr] at h; cases h)
  have hmeth' : T.vm.method? m = some meth := X.method'
  refine ⟨T.setFrames fs, ?_, .returned (some (.int 1)), hrun, hended, rfl, lw_closed hd0 ⟨_, rfl⟩ hW hframe⟩
  jvm_step X.here [X.here.top, hx, hb, hdg, hmeth', hr, ret, narrow_b1]
  (try refine ⟨rfl, ?_⟩); (try refine ⟨rfl, ?_⟩)
  first | (intro acts; rw [hret _ acts rfl rfl rfl]) | rw [hret _ _ rfl rfl rfl]
  exact Steps.refl _
/-- what holds at the law's entry: the machine, the code, the tables' words (any of lw_tbl by 'hts w (by decide +kernel)'), the script of L ints xs at the cell b, what the Statement gives of the start (any of its parts by flat_of_before) -/
def lw_At (p : Program) (s : State) (m : MethodId) (meth : Method) (c : Code) (b L : Nat) (xs : Nat → Int32) : Prop :=
  p.tables.exec = Jvm.exec ∧ c.code = code ∧ meth.sig.returnType = ret ∧ c.maxLocals = 6 ∧ s.vm.findClass R_law = some m.cls ∧ (∀ w ∈ lw_tbl, w.before #[Value.ref b] s = true) ∧ va_X b L xs s s.heap ∧ b < s.heap.size ∧ meth.locks = false ∧ (Jvm.Cond.and given_1 narrow_1).before #[Value.ref b] s = true
section
variable {p : Program} {l : Launch} {e : Env} {R : Room} {s : State} {m : MethodId} {args : Array Value} {below : List Frame} {meth : Method} {c : Code} {Z : ZT} {A : Nat → Prop} {cc : ByteArray} {n cells slots pc : Nat} {Q : State → Prop} {ws : va_W} {L : List (Nat × Value)} {st : List Value}
theorem gg_newX (K : kx p s m args meth c Z.1 A (ty3 Z) cc RL n) (hr : (Nat.ble (cells + 1) R.cells && Nat.ble (slots + 4) R.slots) = true) (hd : decode cc pc = .ok (.new 9, 3))
    (kk : ∀ q : Nat, gg p l e R s m args below meth c Z.1 A n (cells + 1) (slots + 4) Q (ws ++ [(q, .inr (0, [.null, .null, .null, .int 0]))]) (pc + 3) L (.ref q :: st)) : gg p l e R s m args below meth c Z.1 A n cells slots Q ws pc L st := by
  intro H locs ls hP hD hS hl
  rw [Bool.and_eq_true] at hr
  exact va_new (ci := 0) (fs := [.null, .null, .null, .int 0]) (C := RX0) (T := TX0) (N := 4) K.1.1 K.1.2.1 K.1.2.2.2.2 inX0 tyX0 tyX0_ok K.1.2.2.2.1 (K.1.2.2.2.2 _ wd_0) (K.1.2.2.2.2 _ wd_1) (K.1.2.2.2.2 _ wd_2) K.2.1 hP hD hS K.2.2.1 rfl (fun j hj => by rcases (show j = 0 ∨ j = 1 ∨ j = 2 ∨ j = 3 by omega) with rfl | rfl | rfl | rfl <;> rfl) (Nat.le_of_ble_eq_true hr.1) (Nat.le_of_ble_eq_true hr.2) hd (fun q H1 hP hD hS => kk q H1 locs ls hP hD hS hl)
end
theorem strs_in : ∀ q ∈ strs, Cond.stringRef RX0 q.1 q.2 ∈ lw_tbl := by decide +kernel
theorem teW_in : ∀ w ∈ teW, w ∈ lw_tbl := by decide +kernel
theorem teN_in : ∀ q ∈ teN, Cond.not (.castable q.1 q.2) ∈ flatC (Jvm.Cond.and given_1 narrow_1) := by decide +kernel
theorem te_start {s : State} {args : Array Value} {A : Nat → Prop} (hts : ∀ w ∈ lw_tbl, w.before args s = true) (hgv : (Jvm.Cond.and given_1 narrow_1).before args s = true) (hA : ∀ a : Nat, a < s.heap.size → ¬ A a) : te A s s.heap := by
  have hg := flat_of_before _ hgv
  refine ⟨vx_Zqof (hts _ (by decide +kernel)) (hts _ (by decide +kernel)) (hg _ (by decide +kernel)) hA, vx_Zqof (hts _ (by decide +kernel)) (hts _ (by decide +kernel)) (hg _ (by decide +kernel)) hA, fun q hq => ?_, fun w hw => va_Nw.of (teW_ot w hw) (hts _ (teW_in w hw)), fun q hq => va_Nc.of (hg _ (teN_in q hq))⟩
  have h1 := hts _ (strs_in q hq)
  obtain ⟨cC, kC, hfc, -⟩ := Cond.instantiable_spec (hts _ (gw_tbl _ wd_1))
  obtain ⟨-, -, -, sa, -, -, -, -, -, h2⟩ := Cond.stringRef_spec hfc h1
  exact ⟨sa, vk_R.of h1 h2⟩
set_option maxRecDepth 100000 in
theorem whole_start {p : Program} {e : Env} {s : State} {m : MethodId} {below : List Frame} {meth : Method} {c : Code} (l : Launch) (hflags : l.flags = flags0) {b L : Nat} {xs : Nat → Int32} (hL : L ≤ 260) (C0 : lw_At p s m meth c b L xs) : W p l e room_1 s m #[Value.ref b] below meth c s.heap [] 0 0 (lw_Z below #[Value.ref b] s) (entryFrame m ([Value.ref b] : List Value).toArray 6) := by
  obtain ⟨hx, hb, hr, hml, hown, hts, hX, hbl, hlocks, hgv⟩ := C0
  have hl0 : l.stackTraces = false := by unfold Launch.stackTraces; rw [hflags]; decide +kernel
  have htg : ∀ w ∈ GW, w.before #[Value.ref b] s = true := fun w h => hts w (gw_tbl w h)
  obtain ⟨c0, i0, hk0⟩ := u_known htg inX0 (htg _ wd_1)
  obtain ⟨cI, aI⟩ := arr_of (htg _ wd_11) (fun C h => by cases h)
  obtain ⟨Z, hZ⟩ : ∃ Z : ZT, Z = ((fun _ => c0, fun _ => i0), cI, cI, cI) := ⟨_, rfl⟩
  have hK : va_K Z.1 vwCl (ty3 Z) s := by
    subst hZ
    refine ⟨fun c q hq => ?_, fun k q hk => ?_⟩
    · rcases c with _ | c
      · cases hq; exact hk0
      · cases hq
    · rcases k with _ | k
      · cases hk; exact aI
      · cases hk
  have K : kx p s m #[Value.ref b] meth c Z.1 (fun q => s.heap.size ≤ q) (ty3 Z) cL_law RL 6 := ⟨⟨hx, hb, hml, hown, htg⟩, hK, fun q h => h, hlocks⟩
  have hbA : ¬ s.heap.size ≤ b := Nat.not_le.mpr hbl
  have T9 : te (fun q => s.heap.size ≤ q) s s.heap := te_start hts hgv (fun a h => Nat.not_le.mpr h)
  have hl := lv_entry [Value.ref b] (n := 6) (Nat.le_of_ble_eq_true rfl)
  rw [lg_entry_eq]
  have hend : ∀ (cells slots : Nat) (ws : va_W) (L : List (Nat × Value)), cells ≤ 600086 → slots ≤ 7301442 → gg p l e room_1 s m #[Value.ref b] below meth c Z.1 (fun q => s.heap.size ≤ q) 6 cells slots (lw_Z below #[Value.ref b] s) ws 237 L [] := fun cells slots ws L g1 g2 => by
    refine gg_iconst K (v := 1) dL_law_237 (by decide) ?_
    refine gg_goto K (tgt := 242) dL_law_238 (by decide) ?_
    intro H locs ls hP hD hS hl
    exact va_forget (fun q hq => hS.2.2 q hq) (W.widen g1 g2 (lw_ret (d0 := s.drawn) (Drawn.sameBut.refl s.drawn lw_cs) hx hb hr hlocks dL_law_242))
  suffices hg : gg p l e room_1 s m #[Value.ref b] below meth c Z.1 (fun q => s.heap.size ≤ q) 6 0 0 (lw_Z below #[Value.ref b] s) [] 0 [(0, .ref b)] [] from hg s.heap [] _ nil_P nil_D va_S.rf (lvk_of hl rfl)
  refine gg_newX K rfl dL_law_0 (fun x => ?_)
  refine gg_dup K dL_law_3 rfl ?_
  refine gg_callJI (wc := [(x, .inr (0, [.null, .null, .null, .int 0]))]) (wr := []) [0] [] rfl rfl rfl K wd_6 wd_4 wd_5 wd_2 rfl (by decide +kernel) x_init dL_law_4 rfl rfl (fun v u h => ?_)
  obtain ⟨rfl, xa, xb, xc, rfl⟩ := h
  refine gg_astore_n K (i := 1) dL_law_7 rfl (by decide) ?_
  refine gg_newX K rfl dL_law_8 (fun y => ?_)
  refine gg_dup K dL_law_11 rfl ?_
  refine gg_callJI (wc := [(y, .inr (0, [.null, .null, .null, .int 0]))]) (wr := wX Z (x, xa, xb, xc) (kI0 960) (fun _ => 0) (fun _ => 0) 0) [4] [0, 1, 2, 3] rfl rfl rfl K wd_6 wd_4 wd_5 wd_2 rfl (by decide +kernel) x_init dL_law_12 rfl rfl (fun v u h => ?_)
  obtain ⟨rfl, ya, yb, yc, rfl⟩ := h
  refine gg_astore_n K (i := 2) dL_law_15 rfl (by decide) ?_
  refine gg_iconst K (v := 0) dL_law_16 (by decide) ?_
  refine gg_istore_n K (i := 3) dL_law_17 rfl (by decide) ?_
  refine gg_sub (L' := [(3, .int (nI 0)), (0, .ref b), (1, .ref (x, xa, xb, xc).1), (2, .ref (y, ya, yb, yc).1)]) ⟨rfl, rfl, rfl, rfl, trivial⟩ ?_
  refine gg_wsE (ws' := w2 Z (x, xa, xb, xc) (y, ya, yb, yc) (kI0 960) (fun _ => 0) (fun _ => 0) (nI 0) (kI0 960) (fun _ => 0) (fun _ => 0) (nI 0)) rfl ?_
  exact gg_wid (Nat.le_of_ble_eq_true rfl) (Nat.le_of_ble_eq_true rfl) (law_loop K T9 hl0 hX hbl hbA (by omega) hend 65 0 rfl (by omega) _ _ _ _ _ _ 0 ⟨okX_new, okX_new, rfl, by rw [vX_new]; exact INV_new⟩)
