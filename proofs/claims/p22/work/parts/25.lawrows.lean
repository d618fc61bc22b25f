/-! rows for the law: shifts, constants, calls over a piece of the world, two objects -/
section
variable {p : Program} {l : Launch} {e : Env} {R : Room} {s : State} {m : MethodId} {args : Array Value} {below : List Frame} {meth : Method} {c : Code} {D : va_G} {A : Nat → Prop} {tys : List (ClassId × FieldType)} {cc : ByteArray} {own : String} {n cells slots pc : Nat} {Q : State → Prop} {ws wc wr : va_W} {L : List (Nat × Value)} {st : List Value}
variable {y : MethodName} {cd : ByteArray} {maxL k9 idx : Nat} {ret : Option FieldType} {rm : Room} {As rest : List Value} {post : Option Value → va_W → Prop} {pe : String → va_W → Prop} {b : Nat} {C : String}
theorem gg_ishr {x z : Int32} (K : kx p s m args meth c D A tys cc own n) (hd : decode cc pc = .ok (.ishr, 1)) (k : gg p l e R s m args below meth c D A n cells slots Q ws (pc + 1) L (.int (x >>> (z &&& 31)) :: st)) : gg p l e R s m args below meth c D A n cells slots Q ws pc L (.int z :: .int x :: st) :=
  fun H locs ls hP hD hS hl => lv_ishr K.1.1 K.1.2.1 hd (k H locs ls hP hD hS hl)
theorem gg_ldcf {index : Nat} {v : UInt32} (K : kx p s m args meth c D A tys cc own n) (hc : (Cond.constantFloat own index v) ∈ GW) (hd : decode cc pc = .ok (.ldc index, 2)) (k : gg p l e R s m args below meth c D A n cells slots Q ws (pc + 2) L (.float v :: st)) : gg p l e R s m args below meth c D A n cells slots Q ws pc L st :=
  fun H locs ls hP hD hS hl => lv_ldcf K.1.1 K.1.2.1 K.1.2.2.2.1 (K.1.2.2.2.2 _ hc) hd (k H locs ls hP hD hS hl)
/-- a static method over a piece of the world -/
theorem gg_callA (isC isR : List Nat) (hj : jOk isC isR = true) (hC : isC.map (fun i => ws[i]?) = wc.map some) (hR : isR.map (fun i => ws[i]?) = wr.map some) (K : kx p s m args meth c D A tys cc own n) (ok : okS own idx y (.code y cd maxL ret) k9) (hM : mA l D tys y cd maxL ret rm wc As post) (hd : decode cc pc = .ok (.invokestatic idx, 3)) (hst : st = As.reverse ++ rest) (hAs : As.length = k9) (hr : rOk rm R maxL cells slots = true) (hw : c8 rest = true)
    (kk : ∀ (v : Option Value) (u : va_W), post v u → gg p l e R s m args below meth c D A n (cells + rm.cells) (slots + rm.slots) Q (wr ++ u) (pc + 3) L (v.toList ++ rest)) : gg p l e R s m args below meth c D A n cells slots Q ws pc L st := by
  intro H locs ls hP hD hS hl
  subst hst
  obtain ⟨j1, j2, j3⟩ := jOk_spec hj
  have hPc := hP.sub isC (fm_of_map hC)
  have hDc := hD.sub isC j1 hC
  have hF := va_free hD hS K.2.2.1 isC hC
  refine va_callo (va_runS (As := As) (rest := rest) K.1 (hM H.size) (va_cwS k9 K.1.2.2.2.2 ok.1 rfl rfl rfl ok.2 (rOk_spec hr).1) ⟨inW_blind, fun U hU hW => ⟨rfl, by rw [hU], by rw [hU]; exact hPc, va_K.moved hW.alike K.2.1, hDc.weaken (fun _ _ _ _ => trivial)⟩⟩ rfl hAs hl.1 rfl (lv_room (Nat.le_of_ble_eq_true hw)) hd (rOk_spec hr).2) hS (fun q _ h => hF q h) hF (fun v u t H1 locs1 ht hvm hp hB hz hk hS1 => ?_)
  obtain ⟨hP1, hK1, hD1⟩ := hB
  rw [ht] at hP1
  obtain ⟨hP2, hD2⟩ := va_join hP hD isC isR hC hR j2 j3 hk hF hP1 hD1
  exact kk v u hp H1 locs1 ls hP2 hD2 hS1 hl
/-- a static method that calls throwing ones, and lets no throw out -/
theorem gg_callAX (isC isR : List Nat) (hj : jOk isC isR = true) (hC : isC.map (fun i => ws[i]?) = wc.map some) (hR : isR.map (fun i => ws[i]?) = wr.map some) (K : kx p s m args meth c D A tys cc own n) (T9 : te A s s.heap) (ok : okS own idx y (.code y cd maxL ret) k9) (hM : mX l D tys y (.code y cd maxL ret) rm wc As post (fun _ _ => False)) (hd : decode cc pc = .ok (.invokestatic idx, 3)) (hst : st = As.reverse ++ rest) (hAs : As.length = k9) (hr : rOk rm R maxL cells slots = true) (hw : c8 rest = true)
    (kk : ∀ (v : Option Value) (u : va_W), post v u → gg p l e R s m args below meth c D A n (cells + rm.cells) (slots + rm.slots) Q (wr ++ u) (pc + 3) L (v.toList ++ rest)) : gg p l e R s m args below meth c D A n cells slots Q ws pc L st := by
  intro H locs ls hP hD hS hl
  subst hst
  obtain ⟨j1, j2, j3⟩ := jOk_spec hj
  have hPc := hP.sub isC (fm_of_map hC)
  have hDc := hD.sub isC j1 hC
  have hF := va_free hD hS K.2.2.1 isC hC
  refine vx_callo (vx_runS (As := As) (rest := rest) K.1 (hM H.size) (va_cwS k9 K.1.2.2.2.2 ok.1 rfl rfl rfl ok.2 (rOk_spec hr).1) ⟨inX_blind, fun U hU hW => ⟨rfl, ⟨by rw [hU], by rw [hU]; exact hPc, va_K.moved hW.alike K.2.1, hDc.weaken (fun _ _ _ _ => trivial)⟩, by rw [hU]; exact T9.go hW hS hF⟩⟩ rfl hAs hl.1 rfl (lv_room (Nat.le_of_ble_eq_true hw)) hd (rOk_spec hr).2) hS (fun q _ h => hF q h) hF (fun E ce q9 u t H1 locs1 ht hvm hp hB hz hk hS1 h1 h2 h3 => hp.elim) (fun v u t H1 locs1 ht hvm hp hB hz hk hS1 => ?_)
  obtain ⟨hP1, hK1, hD1⟩ := hB
  rw [ht] at hP1
  obtain ⟨hP2, hD2⟩ := va_join hP hD isC isR hC hR j2 j3 hk hF hP1 hD1
  exact kk v u hp H1 locs1 ls hP2 hD2 hS1 hl
end
/-- two objects -/
def w2 (Z : ZT) (X Y : XT) (k kp dr : Nat → Int32) (td : Int32) (k2 kp2 dr2 : Nat → Int32) (td2 : Int32) : va_W := wX Z X k kp dr td ++ wX Z Y k2 kp2 dr2 td2
section
variable {p : Program} {l : Launch} {e : Env} {R : Room} {s : State} {m : MethodId} {args : Array Value} {below : List Frame} {meth : Method} {c : Code} {Z : ZT} {A : Nat → Prop} {cc : ByteArray} {own : String} {n cells slots pc : Nat} {Q : State → Prop} {L : List (Nat × Value)} {st : List Value}
variable {y : MethodName} {cd : ByteArray} {maxL k9 idx : Nat} {ret : Option FieldType} {rm : Room} {As rest : List Value} {post : Option Value → va_W → Prop}
variable {X Y : XT} {k kp dr k2 kp2 dr2 : Nat → Int32} {td td2 : Int32} {v : Value}
theorem gg_2V1 (K : kx p s m args meth c Z.1 A (ty3 Z) cc own n) (ok : okV own idx RX0 y (.code y cd maxL ret) k9) (hM : mR l Z y cd maxL ret rm (wX Z X k kp dr td) (.ref X.1 :: As) v) (hd : decode cc pc = .ok (.invokevirtual idx, 3)) (hst : st = As.reverse ++ .ref X.1 :: rest) (hAs : As.length = k9) (hr : rOk rm R maxL cells slots = true) (hw : c8 rest = true) (hz : rm.cells = 0 ∧ rm.slots = 0)
    (kk : gg p l e R s m args below meth c Z.1 A n cells slots Q (w2 Z X Y k kp dr td k2 kp2 dr2 td2) (pc + 3) L (v :: rest)) : gg p l e R s m args below meth c Z.1 A n cells slots Q (w2 Z X Y k kp dr td k2 kp2 dr2 td2) pc L st := by
  refine gg_callJ (wc := wX Z X k kp dr td) (wr := wX Z Y k2 kp2 dr2 td2) [0, 1, 2, 3] [4, 5, 6, 7] rfl rfl rfl K ok hM 0 (ci := 0) (N := 4) (T := TX0) rfl rfl hd hst hAs hr hw (fun v' u h => ?_)
  obtain ⟨rfl, rfl⟩ := h
  rw [hz.1, hz.2]
  exact gg_perm (ws' := w2 Z X Y k kp dr td k2 kp2 dr2 td2) [4, 5, 6, 7, 0, 1, 2, 3] rfl rfl kk
theorem gg_2V2 (K : kx p s m args meth c Z.1 A (ty3 Z) cc own n) (ok : okV own idx RX0 y (.code y cd maxL ret) k9) (hM : mR l Z y cd maxL ret rm (wX Z Y k2 kp2 dr2 td2) (.ref Y.1 :: As) v) (hd : decode cc pc = .ok (.invokevirtual idx, 3)) (hst : st = As.reverse ++ .ref Y.1 :: rest) (hAs : As.length = k9) (hr : rOk rm R maxL cells slots = true) (hw : c8 rest = true) (hz : rm.cells = 0 ∧ rm.slots = 0)
    (kk : gg p l e R s m args below meth c Z.1 A n cells slots Q (w2 Z X Y k kp dr td k2 kp2 dr2 td2) (pc + 3) L (v :: rest)) : gg p l e R s m args below meth c Z.1 A n cells slots Q (w2 Z X Y k kp dr td k2 kp2 dr2 td2) pc L st := by
  refine gg_callJ (wc := wX Z Y k2 kp2 dr2 td2) (wr := wX Z X k kp dr td) [4, 5, 6, 7] [0, 1, 2, 3] rfl rfl rfl K ok hM 0 (ci := 0) (N := 4) (T := TX0) rfl rfl hd hst hAs hr hw (fun v' u h => ?_)
  obtain ⟨rfl, rfl⟩ := h
  rw [hz.1, hz.2]
  exact kk
/-- a static method that reads one object -/
theorem gg_2S1 (K : kx p s m args meth c Z.1 A (ty3 Z) cc own n) (ok : okS own idx y (.code y cd maxL ret) k9) (hM : mR l Z y cd maxL ret rm (wX Z X k kp dr td) As v) (hd : decode cc pc = .ok (.invokestatic idx, 3)) (hst : st = As.reverse ++ rest) (hAs : As.length = k9) (hr : rOk rm R maxL cells slots = true) (hw : c8 rest = true) (hz : rm.cells = 0 ∧ rm.slots = 0)
    (kk : gg p l e R s m args below meth c Z.1 A n cells slots Q (w2 Z X Y k kp dr td k2 kp2 dr2 td2) (pc + 3) L (v :: rest)) : gg p l e R s m args below meth c Z.1 A n cells slots Q (w2 Z X Y k kp dr td k2 kp2 dr2 td2) pc L st := by
  refine gg_callA (wc := wX Z X k kp dr td) (wr := wX Z Y k2 kp2 dr2 td2) [0, 1, 2, 3] [4, 5, 6, 7] rfl rfl rfl K ok hM hd hst hAs hr hw (fun v' u h => ?_)
  obtain ⟨rfl, rfl⟩ := h
  rw [hz.1, hz.2]
  exact gg_perm (ws' := w2 Z X Y k kp dr td k2 kp2 dr2 td2) [4, 5, 6, 7, 0, 1, 2, 3] rfl rfl kk
/-- .. that reads both -/
theorem gg_2S (K : kx p s m args meth c Z.1 A (ty3 Z) cc own n) (ok : okS own idx y (.code y cd maxL ret) k9) (hM : mR l Z y cd maxL ret rm (w2 Z X Y k kp dr td k2 kp2 dr2 td2) As v) (hd : decode cc pc = .ok (.invokestatic idx, 3)) (hst : st = As.reverse ++ rest) (hAs : As.length = k9) (hr : rOk rm R maxL cells slots = true) (hw : c8 rest = true) (hz : rm.cells = 0 ∧ rm.slots = 0)
    (kk : gg p l e R s m args below meth c Z.1 A n cells slots Q (w2 Z X Y k kp dr td k2 kp2 dr2 td2) (pc + 3) L (v :: rest)) : gg p l e R s m args below meth c Z.1 A n cells slots Q (w2 Z X Y k kp dr td k2 kp2 dr2 td2) pc L st := by
  refine gg_callA (wc := w2 Z X Y k kp dr td k2 kp2 dr2 td2) (wr := []) [0, 1, 2, 3, 4, 5, 6, 7] [] rfl rfl rfl K ok hM hd hst hAs hr hw (fun v' u h => ?_)
  obtain ⟨rfl, rfl⟩ := h
  rw [hz.1, hz.2]
  exact kk
/-- a static method over this one object's world -/
theorem gg_1S (K : kx p s m args meth c Z.1 A (ty3 Z) cc own n) (ok : okS own idx y (.code y cd maxL ret) k9) (hM : mR l Z y cd maxL ret rm (wX Z X k kp dr td) As v) (hd : decode cc pc = .ok (.invokestatic idx, 3)) (hst : st = As.reverse ++ rest) (hAs : As.length = k9) (hr : rOk rm R maxL cells slots = true) (hw : c8 rest = true) (hz : rm.cells = 0 ∧ rm.slots = 0)
    (kk : gg p l e R s m args below meth c Z.1 A n cells slots Q (wX Z X k kp dr td) (pc + 3) L (v :: rest)) : gg p l e R s m args below meth c Z.1 A n cells slots Q (wX Z X k kp dr td) pc L st := by
  refine gg_callA (wc := wX Z X k kp dr td) (wr := []) [0, 1, 2, 3] [] rfl rfl rfl K ok hM hd hst hAs hr hw (fun v' u h => ?_)
  obtain ⟨rfl, rfl⟩ := h
  rw [hz.1, hz.2]
  exact kk
end
/-- the law's draws out of a cell -/
def lowF (v n : Int32) : Int32 := (v &&& 2147483647) - (v &&& 2147483647) / n * n
theorem low_nat (v : Int32) : ∃ a : Nat, a < 2 ^ 31 ∧ v &&& 2147483647 = nI a := by
  refine nI_of ?_
  intro h
  have h1 : (v &&& 2147483647).toBitVec.toNat < 2 ^ 31 := by
    rw [show (v &&& 2147483647).toBitVec = v.toBitVec &&& 2147483647#32 from rfl, BitVec.toNat_and]
    exact Nat.lt_of_le_of_lt Nat.and_le_right (by decide)
  rw [Int32.lt_iff_toInt_lt] at h
  have h2 : (v &&& 2147483647).toInt = ((v &&& 2147483647).toBitVec.toNat : Int) := by
    show (v &&& 2147483647).toBitVec.toInt = _
    rw [BitVec.toInt_eq_toNat_of_lt (by omega)]
  rw [h2, show (0 : Int32).toInt = 0 from rfl] at h
  omega
theorem lowF_nI {v : Int32} {n : Nat} (h0 : 0 < n) (h1 : n < 2 ^ 31) : ∃ j, j < n ∧ lowF v (nI n) = nI j := by
  obtain ⟨a, a1, a2⟩ := low_nat v
  unfold lowF
  rw [a2, pk_rem a1 h0 h1]
  exact ⟨a % n, Nat.mod_lt _ h0, rfl⟩
theorem and1 (x : Int32) : ∃ j : Nat, j < 2 ∧ x &&& 1 = nI j := by
  refine ⟨(x &&& 1).toBitVec.toNat, ?_, ?_⟩
  · rw [show (x &&& 1).toBitVec = x.toBitVec &&& 1#32 from rfl, BitVec.toNat_and]
    exact Nat.lt_of_le_of_lt Nat.and_le_right (by decide)
  · refine Int32.toBitVec_inj.mp ?_
    show (x &&& 1).toBitVec = BitVec.ofNat 32 _
    rw [BitVec.ofNat_toNat]
    exact (BitVec.setWidth_eq _).symm
set_option maxRecDepth 100000 in
theorem n_low {l : Launch} {x z : Int32} (h : ¬ z = 0) : mS l yL_low cL_low 2 (some .int) (rmk 0 0 0 0) [.int x, .int z] (.int (lowF x z)) := by
  intro D tys
  refine mA_intro (own := RL) [(0, .int x), (1, .int z)] (by decide +kernel) rfl rfl rfl rfl ?_
  intro p e s m args below meth c A K hr hin
  refine gg_iload_n K (i := 0) dL_low_0 rfl rfl ?_
  refine gg_ldc K wd_25 dL_low_1 ?_
  refine gg_iand K dL_low_3 ?_
  refine gg_iload_n K (i := 1) dL_low_4 rfl rfl ?_
  refine gg_irem K dL_low_5 h ?_
  exact gg_iret K hr dL_low_6 (Nat.le_of_ble_eq_true rfl) (Nat.le_of_ble_eq_true rfl) rfl
