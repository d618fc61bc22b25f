/-! THE CLAIM OUT OF ONE WALK OF THE LAW'S BODY. Your part is whole_start (and what it stands on); all else here is the same for every law, but numbers. -/
def R_law : String := "TwotimesLaw"
def lw_P (b : Addr) (xs : List Int32) (args : Array Value) (s : State) : Prop := args = #[.ref b] ∧ s.IntsAt b xs ∧ xs.length ≤ 3072 ∧ (Jvm.Cond.and given_1 narrow_1).before args s = true
/-- what a walk over the start with the record d0 says of its end, said of the start itself -/
theorem lw_closed {s t : State} {o : Outcome} {d0 : Drawn} {L : List Loc} {k n : Nat} (hd0 : s.drawn.sameBut d0 lw_cs) (hv : ∃ v, o = .returned v) (hW : (s.setDrawn d0).WarmedH t.vm) (hs : (s.setDrawn d0).sameButNew ({ t with vm := s.vm } : State) L k n) : State.butDraws s t lw_cs (fun t1 => Framed s o t1 L k n) := by
  have h2 : t.drawn = d0 := congrArg State.drawn hs.1
  refine ⟨⟨hv, hW, State.sameButNew.setDrawn hs s.drawn⟩, ?_, by decide⟩
  rw [h2]
  exact hd0
def lw_Q (_ : Array Value) (s : State) (o : Outcome) (t : State) : Prop := o = .returned (some (.int 1)) ∧ State.butDraws s t lw_cs (fun t1 => Framed s o t1 [] 601024 7293034)
def lw_Z (below : List Frame) (a : Array Value) (s : State) : State → Prop := fun t => ∃ o, t.status = .running ∧ Ended t below o ∧ lw_Q a s o t
/-- the law's own end, with 1 on the stack, nothing written that was there before, its room as the claim has it; d0: the record of draws at this point (at the entry s.drawn: begin with 'refine W.base ?_' and 'have hd0 := Drawn.sameBut.refl s.drawn lw_cs') -/
theorem lw_ret {p : Program} {l : Launch} {e : Env} {s : State} {m : MethodId} {below : List Frame} {meth : Method} {c : Code} {b : Nat} {d0 : Drawn} (hd0 : s.drawn.sameBut d0 lw_cs) (hx : p.tables.exec = Jvm.exec) (hb : c.code = code) (hr : meth.sig.returnType = ret) (hlocks : meth.locks = false) {pc : Nat} {H : Heap} {ls : Array Slot} (hdg : decode code pc = .ok (.ireturn, 1)) : W p l e room_1 (s.setDrawn d0) m #[Value.ref b] below meth c H [] 601024 7293034 (lw_Z below #[Value.ref b] s) (F0 m pc ls [.int 1]) := by
  intro T hT X
  obtain ⟨fs, hret, hrun, hended, hW, hframe⟩ := X.leave (v := some (.int 1)) (hlocks := hlocks) (fun h => by rw [hr] at h; cases h)
  have hmeth' : T.vm.method? m = some meth := X.method'
  refine ⟨T.setFrames fs, ?_, .returned (some (.int 1)), hrun, hended, rfl, lw_closed hd0 ⟨_, rfl⟩ hW hframe⟩
  jvm_step X.here [X.here.top, hx, hb, hdg, hmeth', hr, ret, narrow_b1]
  (try refine ⟨rfl, ?_⟩); (try refine ⟨rfl, ?_⟩)
  first | (intro acts; rw [hret _ acts rfl rfl rfl]) | rw [hret _ _ rfl rfl rfl]
  exact Steps.refl _
/-- what holds at the law's entry: the machine, the code, the tables' words (any of lw_tbl by 'hts w (by decide +kernel)'), the script of L ints xs at the cell b, what the Statement gives of the start (any of its parts by flat_of_before) -/
def lw_At (p : Program) (s : State) (m : MethodId) (meth : Method) (c : Code) (b L : Nat) (xs : Nat → Int32) : Prop :=
  p.tables.exec = Jvm.exec ∧ c.code = code ∧ meth.sig.returnType = ret ∧ c.maxLocals = 8 ∧ s.vm.findClass R_law = some m.cls ∧ (∀ w ∈ lw_tbl, w.before #[Value.ref b] s = true) ∧ va_X b L xs s s.heap ∧ b < s.heap.size ∧ meth.locks = false ∧ (Jvm.Cond.and given_1 narrow_1).before #[Value.ref b] s = true
section
variable {p : Program} {l : Launch} {e : Env} {R : Room} {s : State} {m : MethodId} {args : Array Value} {below : List Frame} {meth : Method} {c : Code} {Z : ZT} {A : Nat → Prop} {cc : ByteArray} {n cells slots pc : Nat} {Q : State → Prop} {ws : va_W} {L : List (Nat × Value)} {st : List Value}
theorem gg_newX (K : kx p s m args meth c Z.1 A (ty3 Z) cc RL n) (hr : (Nat.ble (cells + 1) R.cells && Nat.ble (slots + 4) R.slots) = true) (hd : decode cc pc = .ok (.new 8, 3))
    (kk : ∀ q : Nat, gg p l e R s m args below meth c Z.1 A n (cells + 1) (slots + 4) Q (ws ++ [(q, .inr (0, [.null, .null, .null, .int 0]))]) (pc + 3) L (.ref q :: st)) : gg p l e R s m args below meth c Z.1 A n cells slots Q ws pc L st := by
  intro H locs ls hP hD hS hl
  rw [Bool.and_eq_true] at hr
  exact va_new (ci := 0) (fs := [.null, .null, .null, .int 0]) (C := RX0) (T := TX0) (N := 4) K.1.1 K.1.2.1 K.1.2.2.2.2 inX0 tyX0 tyX0_ok K.1.2.2.2.1 (K.1.2.2.2.2 _ wd_0) (K.1.2.2.2.2 _ wd_1) (K.1.2.2.2.2 _ wd_2) K.2.1 hP hD hS K.2.2.1 rfl (fun j hj => by rcases (show j = 0 ∨ j = 1 ∨ j = 2 ∨ j = 3 by omega) with rfl | rfl | rfl | rfl <;> rfl) (Nat.le_of_ble_eq_true hr.1) (Nat.le_of_ble_eq_true hr.2) hd (fun q H1 hP hD hS => kk q H1 locs ls hP hD hS hl)
theorem gg_newM (K : kx p s m args meth c Z.1 A (ty3 Z) cc RL n) (hr : (Nat.ble (cells + 1) R.cells && Nat.ble (slots + 6) R.slots) = true) (hd : decode cc pc = .ok (.new 76, 3))
    (kk : ∀ q : Nat, gg p l e R s m args below meth c Z.1 A n (cells + 1) (slots + 6) Q (ws ++ [(q, .inr (1, [.int 0, .int 0, .null, .int 0, .int 0, .int 0]))]) (pc + 3) L (.ref q :: st)) : gg p l e R s m args below meth c Z.1 A n cells slots Q ws pc L st := by
  intro H locs ls hP hD hS hl
  rw [Bool.and_eq_true] at hr
  exact va_new (ci := 1) (fs := [.int 0, .int 0, .null, .int 0, .int 0, .int 0]) (C := RX1) (T := TX1) (N := 6) K.1.1 K.1.2.1 K.1.2.2.2.2 inX1 tyX1 tyX1_ok K.1.2.2.2.1 (K.1.2.2.2.2 _ wd_3) (K.1.2.2.2.2 _ wd_4) (K.1.2.2.2.2 _ wd_5) K.2.1 hP hD hS K.2.2.1 rfl (fun j hj => by rcases (show j = 0 ∨ j = 1 ∨ j = 2 ∨ j = 3 ∨ j = 4 ∨ j = 5 by omega) with rfl | rfl | rfl | rfl | rfl | rfl <;> rfl) (Nat.le_of_ble_eq_true hr.1) (Nat.le_of_ble_eq_true hr.2) hd (fun q H1 hP hD hS => kk q H1 locs ls hP hD hS hl)
theorem gg_newJ {own : String} (K : kx p s m args meth c Z.1 A (ty3 Z) cc own n) (hr : (Nat.ble (cells + 1) R.cells && Nat.ble (slots + 1) R.slots) = true) (hd : decode cc pc = .ok (.newarray .long, 2))
    (kk : ∀ q : Nat, gg p l e R s m args below meth c Z.1 A n (cells + 1) (slots + 1) Q (ws ++ [oJ Z q (fun _ => 0)]) (pc + 2) L (.ref q :: st)) : gg p l e R s m args below meth c Z.1 A n cells slots Q ws pc L (.int 1 :: st) := by
  intro H locs ls hP hD hS hl
  rw [Bool.and_eq_true] at hr
  refine va_newa (atype := .long) (ty := .long) (N' := 1) (a0 := (1, .inr (.inl (fun _ => 0)))) K.1.1 K.1.2.1 (K.1.2.2.2.2 _ wd_6) rfl K.2.1 hP hD hS K.2.2.1 (fun _ => rfl) (nI_pos (n := 1) (by omega)) (nI_clamp (n := 1) (by omega)) (Nat.le_of_ble_eq_true rfl) (Nat.le_of_ble_eq_true hr.1) (Nat.le_of_ble_eq_true hr.2) hd (fun q cA H1 hK1 hP1 hD1 hS1 => ?_)
  have e1 : s.vm.findClass ("[" ++ FieldType.long.toString) = some cA := (hK1.2 3 _ rfl).2
  have e2 : s.vm.findClass ("[" ++ FieldType.long.toString) = some Z.2.2.1 := (K.2.1.2 1 _ rfl).2
  have e3 : cA = Z.2.2.1 := Option.some.inj (e1.symm.trans e2)
  rw [e3] at hP1 hD1
  exact kk q H1 locs ls hP1 hD1 hS1 hl
theorem gg_newD {own : String} (K : kx p s m args meth c Z.1 A (ty3 Z) cc own n) (hr : (Nat.ble (cells + 1) R.cells && Nat.ble (slots + 1) R.slots) = true) (hd : decode cc pc = .ok (.newarray .double, 2))
    (kk : ∀ q : Nat, gg p l e R s m args below meth c Z.1 A n (cells + 1) (slots + 1) Q (ws ++ [oD Z q (fun _ => 0)]) (pc + 2) L (.ref q :: st)) : gg p l e R s m args below meth c Z.1 A n cells slots Q ws pc L (.int 1 :: st) := by
  intro H locs ls hP hD hS hl
  rw [Bool.and_eq_true] at hr
  refine va_newa (atype := .double) (ty := .double) (N' := 1) (a0 := (1, .inr (.inr (.inr (.inl (fun _ => 0)))))) K.1.1 K.1.2.1 (K.1.2.2.2.2 _ wd_7) rfl K.2.1 hP hD hS K.2.2.1 (fun _ => rfl) (nI_pos (n := 1) (by omega)) (nI_clamp (n := 1) (by omega)) (Nat.le_of_ble_eq_true rfl) (Nat.le_of_ble_eq_true hr.1) (Nat.le_of_ble_eq_true hr.2) hd (fun q cA H1 hK1 hP1 hD1 hS1 => ?_)
  have e1 : s.vm.findClass ("[" ++ FieldType.double.toString) = some cA := (hK1.2 3 _ rfl).2
  have e2 : s.vm.findClass ("[" ++ FieldType.double.toString) = some Z.2.2.2 := (K.2.1.2 2 _ rfl).2
  have e3 : cA = Z.2.2.2 := Option.some.inj (e1.symm.trans e2)
  rw [e3] at hP1 hD1
  exact kk q H1 locs ls hP1 hD1 hS1 hl
end
theorem strs_in : ∀ q ∈ strs, Cond.stringRef RX0 q.1 q.2 ∈ lw_tbl := by decide +kernel
theorem teW_in : ∀ w ∈ teW, w ∈ lw_tbl := by decide +kernel
theorem teN_in : ∀ q ∈ teN, Cond.not (.castable q.1 q.2) ∈ flatC (Jvm.Cond.and given_1 narrow_1) := by decide +kernel
theorem te_start {s : State} {args : Array Value} {A : Nat → Prop} (hts : ∀ w ∈ lw_tbl, w.before args s = true) (hgv : (Jvm.Cond.and given_1 narrow_1).before args s = true) (hA : ∀ a : Nat, a < s.heap.size → ¬ A a) : te A s s.heap := by
  have hg := flat_of_before _ hgv
  refine ⟨vx_Zqof (hts _ (by decide +kernel)) (hts _ (by decide +kernel)) (hg _ (by decide +kernel)) hA, vx_Zqof (hts _ (by decide +kernel)) (hts _ (by decide +kernel)) (hg _ (by decide +kernel)) hA, fun q hq => ?_, fun w hw => va_Nw.of (teW_ot w hw) (hts _ (teW_in w hw)), fun q hq => va_Nc.of (hg _ (teN_in q hq))⟩
  have h1 := hts _ (strs_in q hq)
  obtain ⟨cC, kC, hfc, -⟩ := Cond.instantiable_spec (hts _ (gw_tbl _ wd_1))
  obtain ⟨-, -, -, sa, -, -, -, -, -, h2⟩ := Cond.stringRef_spec hfc h1
  exact ⟨sa, vk_R.of h1 h2⟩
set_option maxRecDepth 100000 in
/-- the law's loop, from its head -/
theorem law_loop {p : Program} {e : Env} {s : State} {m : MethodId} {args : Array Value} {below : List Frame} {meth : Method} {c : Code} {l : Launch} {Z : ZT} {A : Nat → Prop} {Q : State → Prop} {X : XT} {Y : MT} {oj od b Ln : Nat} {xs : Nat → Int32} (K : kx p s m args meth c Z.1 A (ty3 Z) cL_law RL 8) (T9 : te A s s.heap) (hl0 : l.stackTraces = false) (hX : va_X b Ln xs s s.heap) (hbl : b < s.heap.size) (hbA : ¬ A b) (hLn : Ln ≤ 3072)
    (hend : ∀ (cells slots : Nat) (ws : va_W) (L : List (Nat × Value)), cells ≤ 601024 → slots ≤ 7293034 → gg p l e room_1 s m args below meth c Z.1 A 8 cells slots Q ws 1641 L []) : ∀ (n j : Nat) (k kp dr : Nat → Int32) (T : Nat) (k2 : Nat → Int32) (th rf rb re : Int32) (g : Nat → Int64) (gd : Nat → UInt64), j + n = 513 → j ≤ 512 → lInv k kp T k2 → gg p l e room_1 s m args below meth c Z.1 A 8 (8 + 8 * j) (115332 + 48 * j) Q (wL Z X Y oj od k kp dr (nI T) k2 th (nI T) rf rb re g gd) 28 (LH b X Y oj od (6 * j)) []
  | 0, j, k, kp, dr, T, k2, th, rf, rb, re, g, gd, hn, hj, hI => by omega
  | n + 1, j, k, kp, dr, T, k2, th, rf, rb, re, g, gd, hn, hj, hI => by
    have ih := law_loop (X := X) (Y := Y) (oj := oj) (od := od) K T9 hl0 hX hbl hbA hLn hend n (j + 1)
    refine gg_iload K dL_law_28 rfl ?_
    refine gg_aload_n K (i := 0) dL_law_30 rfl rfl ?_
    refine gg_slen K hX hbl hbA dL_law_31 ?_
    refine gg_bipush K (v := 6) dL_law_32 (by decide) ?_
    refine gg_isub K dL_law_34 ?_
    refine gg_icmp_gt K (tgt := 1641) dL_law_35 (by decide) (fun h35 => ?_) (fun h35 => ?_)
    · exact hend _ _ _ _ (by omega) (by omega)
    have hi : 6 * j + 6 ≤ Ln := Nat.not_lt.mp (fun z => h35 ((len6 hLn (by omega)).mpr z))
    have kk : lCont p l e s m args below meth c Z A (8 + 8 * j) (115332 + 48 * j) Q X Y oj od b (6 * j) := by
      intro k kp dr T k2 th rf rb re g gd hI
      refine gg_iinc K (v := nI (6 * (j + 1))) dL_law_1635 rfl (nI_add (6 * j) 6) (by decide) ?_
      refine gg_goto K (tgt := 28) dL_law_1638 (by decide) ?_
      refine gg_sub (L' := LH b X Y oj od (6 * (j + 1))) ⟨rfl, rfl, rfl, rfl, rfl, rfl, trivial⟩ ?_
      exact gg_wid (by omega) (by omega) (ih k kp dr T k2 th rf rb re g gd (by omega) (by omega) hI)
    refine gg_aload_n K (i := 0) dL_law_38 rfl rfl ?_
    refine gg_iload K dL_law_39 rfl ?_
    refine gg_sld K hX hbl hbA (6 * j) rfl (by omega) hLn dL_law_41 ?_
    refine gg_bipush K (v := 31) dL_law_42 (by decide) ?_
    refine gg_iand K dL_law_44 ?_
    obtain ⟨t, ht, et⟩ := and31 (xs (6 * j))
    refine gg_top et ?_
    by_cases h19 : 19 ≤ t
    · refine gg_tableOut K (tgt := 1635) dL_law_45 (Or.inr (by rw [nI_toInt (by omega)]; omega)) (by decide) ?_
      exact gg_wid (by omega) (by omega) (kk k kp dr T k2 th rf rb re g gd hI)
    rcases (show t = 0 ∨ t = 1 ∨ t = 2 ∨ t = 3 ∨ t = 4 ∨ t = 5 ∨ t = 6 ∨ t = 7 ∨ t = 8 ∨ t = 9 ∨ t = 10 ∨ t = 11 ∨ t = 12 ∨ t = 13 ∨ t = 14 ∨ t = 15 ∨ t = 16 ∨ t = 17 ∨ t = 18 by omega) with rfl | rfl | rfl | rfl | rfl | rfl | rfl | rfl | rfl | rfl | rfl | rfl | rfl | rfl | rfl | rfl | rfl | rfl | rfl
    · exact gg_tableIn K (tgt := 136) dL_law_45 (by decide) (by decide) rfl (by decide) (l_put K T9 hl0 hX hbl hbA hi hLn (by omega) (by omega) hI kk)
    · exact gg_tableIn K (tgt := 240) dL_law_45 (by decide) (by decide) rfl (by decide) (l_erase K T9 hl0 hX hbl hbA hi hLn (by omega) (by omega) hI kk)
    · exact gg_tableIn K (tgt := 332) dL_law_45 (by decide) (by decide) rfl (by decide) (l_eraseAll K T9 hl0 hX hbl hbA hi hLn (by omega) (by omega) hI kk)
    · exact gg_tableIn K (tgt := 412) dL_law_45 (by decide) (by decide) rfl (by decide) (l_restore K T9 hl0 hX hbl hbA hi hLn (by omega) (by omega) hI kk)
    · exact gg_tableIn K (tgt := 492) dL_law_45 (by decide) (by decide) rfl (by decide) (l_pass K T9 hl0 hX hbl hbA hi hLn (by omega) (by omega) hI kk)
    · exact gg_tableIn K (tgt := 548) dL_law_45 (by decide) (by decide) rfl (by decide) (l_today K T9 hl0 hX hbl hbA hi hLn (by omega) (by omega) hI kk)
    · exact gg_tableIn K (tgt := 561) dL_law_45 (by decide) (by decide) rfl (by decide) (l_value K T9 hl0 hX hbl hbA hi hLn (by omega) (by omega) hI kk)
    · exact gg_tableIn K (tgt := 653) dL_law_45 (by decide) (by decide) rfl (by decide) (l_keys K T9 hl0 hX hbl hbA hi hLn (by omega) (by omega) hI kk)
    · exact gg_tableIn K (tgt := 733) dL_law_45 (by decide) (by decide) rfl (by decide) (l_joined K T9 hl0 hX hbl hbA hi hLn (by omega) (by omega) hI kk)
    · exact gg_tableIn K (tgt := 813) dL_law_45 (by decide) (by decide) rfl (by decide) (l_runs K T9 hl0 hX hbl hbA hi hLn (by omega) (by omega) hI kk)
    · exact gg_tableIn K (tgt := 893) dL_law_45 (by decide) (by decide) rfl (by decide) (l_run K T9 hl0 hX hbl hbA hi hLn (by omega) (by omega) hI kk)
    · exact gg_tableIn K (tgt := 985) dL_law_45 (by decide) (by decide) rfl (by decide) (l_joinedRuns K T9 hl0 hX hbl hbA hi hLn (by omega) (by omega) hI kk)
    · exact gg_tableIn K (tgt := 1053) dL_law_45 (by decide) (by decide) rfl (by decide) (l_rows K T9 hl0 hX hbl hbA hi hLn (by omega) (by omega) hI kk)
    · exact gg_tableIn K (tgt := 1121) dL_law_45 (by decide) (by decide) rfl (by decide) (l_rowRun K T9 hl0 hX hbl hbA hi hLn (by omega) (by omega) hI kk)
    · exact gg_tableIn K (tgt := 1201) dL_law_45 (by decide) (by decide) rfl (by decide) (l_rowFrom K T9 hl0 hX hbl hbA hi hLn (by omega) (by omega) hI kk)
    · exact gg_tableIn K (tgt := 1281) dL_law_45 (by decide) (by decide) rfl (by decide) (l_rowTo K T9 hl0 hX hbl hbA hi hLn (by omega) (by omega) hI kk)
    · exact gg_tableIn K (tgt := 1361) dL_law_45 (by decide) (by decide) rfl (by decide) (l_corrections K T9 hl0 hX hbl hbA hi hLn (by omega) (by omega) hI kk)
    · exact gg_tableIn K (tgt := 1465) dL_law_45 (by decide) (by decide) rfl (by decide) (l_longest K T9 hl0 hX hbl hbA hi hLn (by omega) (by omega) hI kk)
    · exact gg_tableIn K (tgt := 1545) dL_law_45 (by decide) (by decide) rfl (by decide) (l_average K T9 hl0 hX hbl hbA hi hLn (by omega) (by omega) hI kk)
set_option maxRecDepth 100000 in
theorem whole_start {p : Program} {e : Env} {s : State} {m : MethodId} {below : List Frame} {meth : Method} {c : Code} (l : Launch) (hflags : l.flags = flags0) {b L : Nat} {xs : Nat → Int32} (hL : L ≤ 3072) (C0 : lw_At p s m meth c b L xs) : W p l e room_1 s m #[Value.ref b] below meth c s.heap [] 0 0 (lw_Z below #[Value.ref b] s) (entryFrame m ([Value.ref b] : List Value).toArray 8) := by
  obtain ⟨hx, hb, hr, hml, hown, hts, hX, hbl, hlocks, hgv⟩ := C0
  have hl0 : l.stackTraces = false := by unfold Launch.stackTraces; rw [hflags]; decide +kernel
  have htg : ∀ w ∈ GW, w.before #[Value.ref b] s = true := fun w h => hts w (gw_tbl w h)
  obtain ⟨c0, i0, hk0⟩ := u_known htg inX0 (htg _ wd_1)
  obtain ⟨c1, i1, hk1⟩ := u_known htg inX1 (htg _ wd_4)
  obtain ⟨cI, aI⟩ := arr_of (htg _ wd_15) (fun C h => by cases h)
  obtain ⟨cJ, aJ⟩ := arr_of (htg _ wd_6) (fun C h => by cases h)
  obtain ⟨cD, aD⟩ := arr_of (htg _ wd_7) (fun C h => by cases h)
  obtain ⟨Z, hZ⟩ : ∃ Z : ZT, Z = ((fun c => match c with | 0 => c0 | _ => c1, fun c => match c with | 0 => i0 | _ => i1), cI, cJ, cD) := ⟨_, rfl⟩
  have hK : va_K Z.1 vwCl (ty3 Z) s := by
    subst hZ
    refine ⟨fun c q hq => ?_, fun k q hk => ?_⟩
    · rcases c with _ | _ | c
      · cases hq; exact hk0
      · cases hq; exact hk1
      · cases hq
    · rcases k with _ | _ | _ | k
      · cases hk; exact aI
      · cases hk; exact aJ
      · cases hk; exact aD
      · cases hk
  have K : kx p s m #[Value.ref b] meth c Z.1 (fun q => s.heap.size ≤ q) (ty3 Z) cL_law RL 8 := ⟨⟨hx, hb, hml, hown, htg⟩, hK, fun q h => h, hlocks⟩
  have hbA : ¬ s.heap.size ≤ b := Nat.not_le.mpr hbl
  have T9 : te (fun q => s.heap.size ≤ q) s s.heap := te_start hts hgv (fun a h => Nat.not_le.mpr h)
  have hl := lv_entry [Value.ref b] (n := 8) (Nat.le_of_ble_eq_true rfl)
  rw [lg_entry_eq]
  have hend : ∀ (cells slots : Nat) (ws : va_W) (L : List (Nat × Value)), cells ≤ 601024 → slots ≤ 7293034 → gg p l e room_1 s m #[Value.ref b] below meth c Z.1 (fun q => s.heap.size ≤ q) 8 cells slots (lw_Z below #[Value.ref b] s) ws 1641 L [] := fun cells slots ws L g1 g2 => by
    refine gg_iconst K (v := 1) dL_law_1641 (by decide) ?_
    intro H locs ls hP hD hS hl
    exact va_forget (fun q hq => hS.2.2 q hq) (W.widen g1 g2 (lw_ret (d0 := s.drawn) (Drawn.sameBut.refl s.drawn lw_cs) hx hb hr hlocks dL_law_1642))
  suffices hg : gg p l e room_1 s m #[Value.ref b] below meth c Z.1 (fun q => s.heap.size ≤ q) 8 0 0 (lw_Z below #[Value.ref b] s) [] 0 [(0, .ref b)] [] from hg s.heap [] _ nil_P nil_D va_S.rf (lvk_of hl rfl)
  refine gg_newX K rfl dL_law_0 (fun x => ?_)
  refine gg_dup K dL_law_3 rfl ?_
  refine gg_callJI (wc := [(x, .inr (0, [.null, .null, .null, .int 0]))]) (wr := []) [0] [] rfl rfl rfl K wd_10 wd_8 wd_9 wd_2 rfl (by decide +kernel) x_init dL_law_4 rfl rfl (fun v u h => ?_)
  obtain ⟨rfl, xa, xb, xc, rfl⟩ := h
  refine gg_astore_n K (i := 1) dL_law_7 rfl (by decide) ?_
  refine gg_newM K rfl dL_law_8 (fun y => ?_)
  refine gg_dup K dL_law_11 rfl ?_
  refine gg_callJI (wc := [(y, .inr (1, [.int 0, .int 0, .null, .int 0, .int 0, .int 0]))]) (wr := wX Z (x, xa, xb, xc) (kI0 960) (fun _ => 0) (fun _ => 0) 0) [4] [0, 1, 2, 3] rfl rfl rfl K wd_21 wd_19 wd_20 wd_5 rfl (by decide +kernel) m_init dL_law_12 rfl rfl (fun v u h => ?_)
  obtain ⟨rfl, ya, rfl⟩ := h
  refine gg_astore_n K (i := 2) dL_law_15 rfl (by decide) ?_
  refine gg_iconst K (v := 1) dL_law_16 (by decide) ?_
  refine gg_newJ K rfl dL_law_17 (fun oj => ?_)
  refine gg_astore_n K (i := 3) dL_law_19 rfl (by decide) ?_
  refine gg_iconst K (v := 1) dL_law_20 (by decide) ?_
  refine gg_newD K rfl dL_law_21 (fun od => ?_)
  refine gg_astore K dL_law_23 (by decide) ?_
  refine gg_iconst K (v := 0) dL_law_25 (by decide) ?_
  refine gg_istore K dL_law_26 (by decide) ?_
  refine gg_sub (L' := LH b (x, xa, xb, xc) (y, ya) oj od (6 * 0)) ⟨rfl, rfl, rfl, rfl, rfl, rfl, trivial⟩ ?_
  refine gg_perm (ws' := wL Z (x, xa, xb, xc) (y, ya) oj od (kI0 960) (fun _ => 0) (fun _ => 0) (nI 0) (fun _ => 0) 0 (nI 0) 0 0 0 (fun _ => 0) (fun _ => 0)) [6, 7, 4, 5, 0, 1, 2, 3] rfl rfl ?_
  exact gg_wid (Nat.le_of_ble_eq_true rfl) (Nat.le_of_ble_eq_true rfl) (law_loop K T9 hl0 hX hbl hbA hL hend 513 0 _ _ _ 0 _ _ _ _ _ _ _ rfl (by omega) ⟨okX_new, vX_new.trans vM_new.symm, by rw [vM_new]; exact inv_new⟩)
