/-! the worlds of the two objects; rows on their fields and arrays; calls with one answer -/
abbrev ZT : Type := va_G × ClassId × ClassId × ClassId
abbrev ty3 (Z : ZT) : List (ClassId × FieldType) := [(Z.2.1, .int)]
abbrev XT : Type := Nat × Nat × Nat × Nat
/-- a Twotimes: known, keptOn, draft, today -/
def wX (Z : ZT) (X : XT) (k kp dr : Nat → Int32) (td : Int32) : va_W := [(X.1, .inr (0, [.ref X.2.1, .ref X.2.2.1, .ref X.2.2.2, .int td])), (X.2.1, .inl (Z.2.1, 57600, .inl k)), (X.2.2.1, .inl (Z.2.1, 60, .inl kp)), (X.2.2.2, .inl (Z.2.1, 60, .inl dr))]
abbrev rmk (f lo mc ms : Nat) : Room := { frames := f, cells := mc, slots := ms, locals := lo }
def mR (l : Launch) (Z : ZT) (y : MethodName) (cd : ByteArray) (maxL : Nat) (ret : Option FieldType) (rm : Room) (ws : va_W) (As : List Value) (v : Value) : Prop := mA l Z.1 (ty3 Z) y cd maxL ret rm ws As (fun r u => r = some v ∧ u = ws)
def mS (l : Launch) (y : MethodName) (cd : ByteArray) (maxL : Nat) (ret : Option FieldType) (rm : Room) (As : List Value) (v : Value) : Prop := ∀ (D : va_G) (tys : List (ClassId × FieldType)), mA l D tys y cd maxL ret rm [] As (fun r _ => r = some v)
theorem gg_wsE {p : Program} {l : Launch} {e : Env} {R : Room} {s : State} {m : MethodId} {args : Array Value} {below : List Frame} {meth : Method} {c : Code} {D : va_G} {A : Nat → Prop} {n cells slots pc : Nat} {Q : State → Prop} {ws ws' : va_W} {L : List (Nat × Value)} {st : List Value} (h : ws = ws') (k : gg p l e R s m args below meth c D A n cells slots Q ws' pc L st) : gg p l e R s m args below meth c D A n cells slots Q ws pc L st := by rw [h]; exact k
section
variable {p : Program} {l : Launch} {e : Env} {R : Room} {s : State} {m : MethodId} {args : Array Value} {below : List Frame} {meth : Method} {c : Code} {Z : ZT} {A : Nat → Prop} {cc : ByteArray} {own : String} {n cells slots pc : Nat} {Q : State → Prop} {ws : va_W} {L : List (Nat × Value)} {st : List Value}
variable {y : MethodName} {cd : ByteArray} {maxL k9 idx : Nat} {ret : Option FieldType} {rm : Room} {As rest : List Value}
theorem gg_callRX {X : XT} {k kp dr : Nat → Int32} {td : Int32} {v : Value} (K : kx p s m args meth c Z.1 A (ty3 Z) cc own n) (ok : okV own idx RX0 y (.code y cd maxL ret) k9) (hM : mR l Z y cd maxL ret rm (wX Z X k kp dr td) (.ref X.1 :: As) v) (hd : decode cc pc = .ok (.invokevirtual idx, 3)) (hst : st = As.reverse ++ .ref X.1 :: rest) (hAs : As.length = k9) (hr : rOk rm R maxL cells slots = true) (hw : c8 rest = true) (hz : rm.cells = 0 ∧ rm.slots = 0)
    (kk : gg p l e R s m args below meth c Z.1 A n cells slots Q (wX Z X k kp dr td) (pc + 3) L (v :: rest)) : gg p l e R s m args below meth c Z.1 A n cells slots Q (wX Z X k kp dr td) pc L st :=
  gg_callW K ok hM 0 (ci := 0) (N := 4) (T := TX0) rfl rfl hd hst hAs hr hw (fun v' u h => by obtain ⟨rfl, rfl⟩ := h; rw [hz.1, hz.2]; exact kk)
/-- .. that writes and makes nothing -/
theorem gg_callUX {X : XT} {k kp dr : Nat → Int32} {td : Int32} {post : Option Value → va_W → Prop} (K : kx p s m args meth c Z.1 A (ty3 Z) cc own n) (ok : okV own idx RX0 y (.code y cd maxL ret) k9) (hM : mA l Z.1 (ty3 Z) y cd maxL ret rm (wX Z X k kp dr td) (.ref X.1 :: As) post) (hd : decode cc pc = .ok (.invokevirtual idx, 3)) (hst : st = As.reverse ++ .ref X.1 :: rest) (hAs : As.length = k9) (hr : rOk rm R maxL cells slots = true) (hw : c8 rest = true) (hz : rm.cells = 0 ∧ rm.slots = 0)
    (kk : ∀ (v : Option Value) (u : va_W), post v u → gg p l e R s m args below meth c Z.1 A n cells slots Q u (pc + 3) L (v.toList ++ rest)) : gg p l e R s m args below meth c Z.1 A n cells slots Q (wX Z X k kp dr td) pc L st :=
  gg_callW K ok hM 0 (ci := 0) (N := 4) (T := TX0) rfl rfl hd hst hAs hr hw (fun v' u h => by rw [hz.1, hz.2]; exact kk v' u h)
theorem gg_callSR {D : va_G} {tys : List (ClassId × FieldType)} {v : Value} (K : kx p s m args meth c D A tys cc own n) (ok : okS own idx y (.code y cd maxL ret) k9) (hM : mS l y cd maxL ret rm As v) (hd : decode cc pc = .ok (.invokestatic idx, 3)) (hst : st = As.reverse ++ rest) (hAs : As.length = k9) (hr : rOk rm R maxL cells slots = true) (hw : c8 rest = true) (hz : rm.cells = 0 ∧ rm.slots = 0)
    (kk : gg p l e R s m args below meth c D A n cells slots Q ws (pc + 3) L (v :: rest)) : gg p l e R s m args below meth c D A n cells slots Q ws pc L st :=
  gg_callS K ok (hM D tys) hd hst hAs hr hw (fun v' u h => by subst h; rw [hz.1, hz.2]; exact kk)
/-- throwing calls, the room that they may take named -/
theorem gg_callTX {X : XT} {k kp dr : Nat → Int32} {td : Int32} {post : Option Value → va_W → Prop} {pe : String → va_W → Prop} (c1 s1 : Nat) (K : kx p s m args meth c Z.1 A (ty3 Z) cc own n) (T9 : te A s s.heap) (ok : okV own idx RX0 y (.code y cd maxL ret) k9) (hM : mX l Z.1 (ty3 Z) y (.code y cd maxL ret) rm (wX Z X k kp dr td) (.ref X.1 :: As) post pe) (hd : decode cc pc = .ok (.invokevirtual idx, 3)) (hst : st = As.reverse ++ .ref X.1 :: rest) (hAs : As.length = k9) (hr : rOk rm R maxL cells slots = true) (hw : c8 rest = true) (hz : cells + rm.cells = c1 ∧ slots + rm.slots = s1)
    (kt : ∀ (E : String) (u : va_W), pe E u → gx p l e R s m args below meth c Z.1 A n c1 s1 Q u pc L rest E)
    (kk : ∀ (v : Option Value) (u : va_W), post v u → gg p l e R s m args below meth c Z.1 A n c1 s1 Q u (pc + 3) L (v.toList ++ rest)) : gg p l e R s m args below meth c Z.1 A n cells slots Q (wX Z X k kp dr td) pc L st := by
  obtain ⟨rfl, rfl⟩ := hz
  exact gg_callWX K T9 ok hM 0 (ci := 0) (N := 4) (T := TX0) rfl rfl hd hst hAs hr hw kt kk
theorem gg_callTS {D : va_G} {tys : List (ClassId × FieldType)} {post : Option Value → va_W → Prop} {pe : String → va_W → Prop} (c1 s1 : Nat) (K : kx p s m args meth c D A tys cc own n) (T9 : te A s s.heap) (ok : okS own idx y (.code y cd maxL ret) k9) (hM : mX l D tys y (.code y cd maxL ret) rm [] As post pe) (hd : decode cc pc = .ok (.invokestatic idx, 3)) (hst : st = As.reverse ++ rest) (hAs : As.length = k9) (hr : rOk rm R maxL cells slots = true) (hw : c8 rest = true) (hz : cells + rm.cells = c1 ∧ slots + rm.slots = s1)
    (kt : ∀ (E : String) (u : va_W), pe E u → gx p l e R s m args below meth c D A n c1 s1 Q ws pc L rest E)
    (kk : ∀ (v : Option Value) (u : va_W), post v u → gg p l e R s m args below meth c D A n c1 s1 Q ws (pc + 3) L (v.toList ++ rest)) : gg p l e R s m args below meth c D A n cells slots Q ws pc L st := by
  obtain ⟨rfl, rfl⟩ := hz
  exact gg_callSX K T9 ok hM hd hst hAs hr hw kt kk
theorem gX_known {X : XT} {k kp dr : Nat → Int32} {td : Int32} (K : kx p s m args meth c Z.1 A (ty3 Z) cc RX0 n) (hd : decode cc pc = .ok (.getfield 10, 3)) (kk : gg p l e R s m args below meth c Z.1 A n cells slots Q (wX Z X k kp dr td) (pc + 3) L (.ref X.2.1 :: st)) : gg p l e R s m args below meth c Z.1 A n cells slots Q (wX Z X k kp dr td) pc L (.ref X.1 :: st) :=
  fun H locs ls hP hD hS hl => va_get (D := Z.1) (ci := 0) (v := .ref X.2.1) (C := RX0) (T := TX0) (N := 4) K.1.1 K.1.2.1 K.1.2.2.2.2 inX0 K.1.2.2.2.1 K.2.1 hP 0 rfl rfl 0 (by decide) (K.1.2.2.2.2 _ wd_12) (fun _ h9 => h9) rfl hd (kk H locs ls hP hD hS hl)
theorem gX_keptOn {X : XT} {k kp dr : Nat → Int32} {td : Int32} (K : kx p s m args meth c Z.1 A (ty3 Z) cc RX0 n) (hd : decode cc pc = .ok (.getfield 14, 3)) (kk : gg p l e R s m args below meth c Z.1 A n cells slots Q (wX Z X k kp dr td) (pc + 3) L (.ref X.2.2.1 :: st)) : gg p l e R s m args below meth c Z.1 A n cells slots Q (wX Z X k kp dr td) pc L (.ref X.1 :: st) :=
  fun H locs ls hP hD hS hl => va_get (D := Z.1) (ci := 0) (v := .ref X.2.2.1) (C := RX0) (T := TX0) (N := 4) K.1.1 K.1.2.1 K.1.2.2.2.2 inX0 K.1.2.2.2.1 K.2.1 hP 0 rfl rfl 1 (by decide) (K.1.2.2.2.2 _ wd_13) (fun _ h9 => h9) rfl hd (kk H locs ls hP hD hS hl)
theorem gX_draft {X : XT} {k kp dr : Nat → Int32} {td : Int32} (K : kx p s m args meth c Z.1 A (ty3 Z) cc RX0 n) (hd : decode cc pc = .ok (.getfield 17, 3)) (kk : gg p l e R s m args below meth c Z.1 A n cells slots Q (wX Z X k kp dr td) (pc + 3) L (.ref X.2.2.2 :: st)) : gg p l e R s m args below meth c Z.1 A n cells slots Q (wX Z X k kp dr td) pc L (.ref X.1 :: st) :=
  fun H locs ls hP hD hS hl => va_get (D := Z.1) (ci := 0) (v := .ref X.2.2.2) (C := RX0) (T := TX0) (N := 4) K.1.1 K.1.2.1 K.1.2.2.2.2 inX0 K.1.2.2.2.1 K.2.1 hP 0 rfl rfl 2 (by decide) (K.1.2.2.2.2 _ wd_14) (fun _ h9 => h9) rfl hd (kk H locs ls hP hD hS hl)
theorem gX_today {X : XT} {k kp dr : Nat → Int32} {td : Int32} (K : kx p s m args meth c Z.1 A (ty3 Z) cc RX0 n) (hd : decode cc pc = .ok (.getfield 62, 3)) (kk : gg p l e R s m args below meth c Z.1 A n cells slots Q (wX Z X k kp dr td) (pc + 3) L (.int td :: st)) : gg p l e R s m args below meth c Z.1 A n cells slots Q (wX Z X k kp dr td) pc L (.ref X.1 :: st) :=
  fun H locs ls hP hD hS hl => va_get (D := Z.1) (ci := 0) (v := .int td) (C := RX0) (T := TX0) (N := 4) K.1.1 K.1.2.1 K.1.2.2.2.2 inX0 K.1.2.2.2.1 K.2.1 hP 0 rfl rfl 3 (by decide) (K.1.2.2.2.2 _ wd_57) (fun _ h9 => h9) rfl hd (kk H locs ls hP hD hS hl)
theorem gX_ptoday {X : XT} {k kp dr : Nat → Int32} {td x : Int32} (K : kx p s m args meth c Z.1 A (ty3 Z) cc RX0 n) (hd : decode cc pc = .ok (.putfield 62, 3)) (kk : gg p l e R s m args below meth c Z.1 A n cells slots Q (wX Z X k kp dr x) (pc + 3) L st) : gg p l e R s m args below meth c Z.1 A n cells slots Q (wX Z X k kp dr td) pc L (.int x :: .ref X.1 :: st) :=
  fun H locs ls hP hD hS hl => va_put (D := Z.1) (ci := 0) (v := .int x) (ty := .int) (C := RX0) (T := TX0) (N := 4) K.1.1 K.1.2.1 K.1.2.2.2.2 inX0 tyX0 tyX0_ok nmX0 K.1.2.2.2.1 K.2.1 hP hD hS 0 rfl rfl 3 (by decide) (K.1.2.2.2.2 _ wd_57) (fun _ h9 => h9) rfl (by decide +kernel) rfl rfl (Nat.le_of_ble_eq_true rfl) hd (fun H1 locs1 hP hD hS => kk H1 locs1 ls hP hD hS hl)
theorem gX_ld_known {X : XT} {k kp dr : Nat → Int32} {td : Int32} (j : Nat) {i : Int32} (K : kx p s m args meth c Z.1 A (ty3 Z) cc own n) (hi : i = nI j) (hj : j < 57600) (hd : decode cc pc = .ok (.iaload, 1)) (kk : gg p l e R s m args below meth c Z.1 A n cells slots Q (wX Z X k kp dr td) (pc + 1) L (.int (k j) :: st)) : gg p l e R s m args below meth c Z.1 A n cells slots Q (wX Z X k kp dr td) pc L (.int i :: .ref X.2.1 :: st) := by
  subst hi
  intro H locs ls hP hD hS hl
  have e : (nI j).toNatClampNeg = j := nI_clamp (by omega)
  refine va_iald K.1.1 K.1.2.1 K.2.1 hP 1 0 (cA := Z.2.1) (n := 57600) (f := k) rfl rfl (vp_in_nI hj (Nat.le_of_ble_eq_true rfl)) hd ?_
  rw [e]
  exact kk H locs ls hP hD hS hl
theorem gX_st_known {X : XT} {k kp dr : Nat → Int32} {td : Int32} (j : Nat) {i x : Int32} (K : kx p s m args meth c Z.1 A (ty3 Z) cc own n) (hi : i = nI j) (hj : j < 57600) (hd : decode cc pc = .ok (.iastore, 1)) (kk : gg p l e R s m args below meth c Z.1 A n cells slots Q (wX Z X (upd k j x) kp dr td) (pc + 1) L st) : gg p l e R s m args below meth c Z.1 A n cells slots Q (wX Z X k kp dr td) pc L (.int x :: .int i :: .ref X.2.1 :: st) := by
  subst hi
  intro H locs ls hP hD hS hl
  have e : (nI j).toNatClampNeg = j := nI_clamp (by omega)
  refine va_iast K.1.1 K.1.2.1 K.2.1 hP hD hS 1 0 (cA := Z.2.1) (n := 57600) (f := k) rfl rfl (vp_in_nI hj (Nat.le_of_ble_eq_true rfl)) hd (fun H1 locs1 hP hD hS => ?_)
  rw [e] at hP hD
  exact kk H1 locs1 ls hP hD hS hl
theorem gX_len_known {X : XT} {k kp dr : Nat → Int32} {td : Int32} (K : kx p s m args meth c Z.1 A (ty3 Z) cc own n) (hd : decode cc pc = .ok (.arraylength, 1)) (kk : gg p l e R s m args below meth c Z.1 A n cells slots Q (wX Z X k kp dr td) (pc + 1) L (.int (nI 57600) :: st)) : gg p l e R s m args below meth c Z.1 A n cells slots Q (wX Z X k kp dr td) pc L (.ref X.2.1 :: st) :=
  fun H locs ls hP hD hS hl => va_alen K.1.1 K.1.2.1 K.2.1 hP 1 0 (cA := Z.2.1) (x := (57600, .inl k)) rfl (ty := .int) rfl (v := nI 57600) rfl hd (kk H locs ls hP hD hS hl)
theorem gX_ld_kept {X : XT} {k kp dr : Nat → Int32} {td : Int32} (j : Nat) {i : Int32} (K : kx p s m args meth c Z.1 A (ty3 Z) cc own n) (hi : i = nI j) (hj : j < 60) (hd : decode cc pc = .ok (.iaload, 1)) (kk : gg p l e R s m args below meth c Z.1 A n cells slots Q (wX Z X k kp dr td) (pc + 1) L (.int (kp j) :: st)) : gg p l e R s m args below meth c Z.1 A n cells slots Q (wX Z X k kp dr td) pc L (.int i :: .ref X.2.2.1 :: st) := by
  subst hi
  intro H locs ls hP hD hS hl
  have e : (nI j).toNatClampNeg = j := nI_clamp (by omega)
  refine va_iald K.1.1 K.1.2.1 K.2.1 hP 2 0 (cA := Z.2.1) (n := 60) (f := kp) rfl rfl (vp_in_nI hj (Nat.le_of_ble_eq_true rfl)) hd ?_
  rw [e]
  exact kk H locs ls hP hD hS hl
theorem gX_st_kept {X : XT} {k kp dr : Nat → Int32} {td : Int32} (j : Nat) {i x : Int32} (K : kx p s m args meth c Z.1 A (ty3 Z) cc own n) (hi : i = nI j) (hj : j < 60) (hd : decode cc pc = .ok (.iastore, 1)) (kk : gg p l e R s m args below meth c Z.1 A n cells slots Q (wX Z X k (upd kp j x) dr td) (pc + 1) L st) : gg p l e R s m args below meth c Z.1 A n cells slots Q (wX Z X k kp dr td) pc L (.int x :: .int i :: .ref X.2.2.1 :: st) := by
  subst hi
  intro H locs ls hP hD hS hl
  have e : (nI j).toNatClampNeg = j := nI_clamp (by omega)
  refine va_iast K.1.1 K.1.2.1 K.2.1 hP hD hS 2 0 (cA := Z.2.1) (n := 60) (f := kp) rfl rfl (vp_in_nI hj (Nat.le_of_ble_eq_true rfl)) hd (fun H1 locs1 hP hD hS => ?_)
  rw [e] at hP hD
  exact kk H1 locs1 ls hP hD hS hl
theorem gX_len_kept {X : XT} {k kp dr : Nat → Int32} {td : Int32} (K : kx p s m args meth c Z.1 A (ty3 Z) cc own n) (hd : decode cc pc = .ok (.arraylength, 1)) (kk : gg p l e R s m args below meth c Z.1 A n cells slots Q (wX Z X k kp dr td) (pc + 1) L (.int (nI 60) :: st)) : gg p l e R s m args below meth c Z.1 A n cells slots Q (wX Z X k kp dr td) pc L (.ref X.2.2.1 :: st) :=
  fun H locs ls hP hD hS hl => va_alen K.1.1 K.1.2.1 K.2.1 hP 2 0 (cA := Z.2.1) (x := (60, .inl kp)) rfl (ty := .int) rfl (v := nI 60) rfl hd (kk H locs ls hP hD hS hl)
theorem gX_ld_draft {X : XT} {k kp dr : Nat → Int32} {td : Int32} (j : Nat) {i : Int32} (K : kx p s m args meth c Z.1 A (ty3 Z) cc own n) (hi : i = nI j) (hj : j < 60) (hd : decode cc pc = .ok (.iaload, 1)) (kk : gg p l e R s m args below meth c Z.1 A n cells slots Q (wX Z X k kp dr td) (pc + 1) L (.int (dr j) :: st)) : gg p l e R s m args below meth c Z.1 A n cells slots Q (wX Z X k kp dr td) pc L (.int i :: .ref X.2.2.2 :: st) := by
  subst hi
  intro H locs ls hP hD hS hl
  have e : (nI j).toNatClampNeg = j := nI_clamp (by omega)
  refine va_iald K.1.1 K.1.2.1 K.2.1 hP 3 0 (cA := Z.2.1) (n := 60) (f := dr) rfl rfl (vp_in_nI hj (Nat.le_of_ble_eq_true rfl)) hd ?_
  rw [e]
  exact kk H locs ls hP hD hS hl
theorem gX_st_draft {X : XT} {k kp dr : Nat → Int32} {td : Int32} (j : Nat) {i x : Int32} (K : kx p s m args meth c Z.1 A (ty3 Z) cc own n) (hi : i = nI j) (hj : j < 60) (hd : decode cc pc = .ok (.iastore, 1)) (kk : gg p l e R s m args below meth c Z.1 A n cells slots Q (wX Z X k kp (upd dr j x) td) (pc + 1) L st) : gg p l e R s m args below meth c Z.1 A n cells slots Q (wX Z X k kp dr td) pc L (.int x :: .int i :: .ref X.2.2.2 :: st) := by
  subst hi
  intro H locs ls hP hD hS hl
  have e : (nI j).toNatClampNeg = j := nI_clamp (by omega)
  refine va_iast K.1.1 K.1.2.1 K.2.1 hP hD hS 3 0 (cA := Z.2.1) (n := 60) (f := dr) rfl rfl (vp_in_nI hj (Nat.le_of_ble_eq_true rfl)) hd (fun H1 locs1 hP hD hS => ?_)
  rw [e] at hP hD
  exact kk H1 locs1 ls hP hD hS hl
theorem gX_len_draft {X : XT} {k kp dr : Nat → Int32} {td : Int32} (K : kx p s m args meth c Z.1 A (ty3 Z) cc own n) (hd : decode cc pc = .ok (.arraylength, 1)) (kk : gg p l e R s m args below meth c Z.1 A n cells slots Q (wX Z X k kp dr td) (pc + 1) L (.int (nI 60) :: st)) : gg p l e R s m args below meth c Z.1 A n cells slots Q (wX Z X k kp dr td) pc L (.ref X.2.2.2 :: st) :=
  fun H locs ls hP hD hS hl => va_alen K.1.1 K.1.2.1 K.2.1 hP 3 0 (cA := Z.2.1) (x := (60, .inl dr)) rfl (ty := .int) rfl (v := nI 60) rfl hd (kk H locs ls hP hD hS hl)
end
theorem k_L_L_cell : okS RL 99 yL_cell (Cond.code yL_cell cL_cell 2 (some .int)) 2 := ⟨g_L_L_cell, by decide +kernel⟩
theorem k_L_L_act : okS RL 103 yL_act (Cond.code yL_act cL_act 8 (some .int)) 2 := ⟨g_L_L_act, by decide +kernel⟩
theorem k_L_L_low : okS RL 44 yL_low (Cond.code yL_low cL_low 2 (some .int)) 2 := ⟨g_L_L_low, by decide +kernel⟩
theorem k_L_L_does : okS RL 50 yL_does (Cond.codeWith yL_does cL_does 8 (some .int) [(0, 76, 77, 29), (0, 76, 82, 32), (0, 76, 87, 34)]) 7 := ⟨g_L_L_does, by decide +kernel⟩
theorem k_L_X0_put : okV RL 8 RX0 yX0_put (Cond.code yX0_put cX0_put 6 (some .int)) 5 := ⟨g_L_X0_put, by decide +kernel⟩
theorem k_X0_X0_needTableAndKey : okS RX0 20 yX0_needTableAndKey (Cond.code yX0_needTableAndKey cX0_needTableAndKey 2 none) 2 := ⟨g_X0_X0_needTableAndKey, by decide +kernel⟩
theorem k_X0_X0_needRange : okS RX0 28 yX0_needRange (Cond.code yX0_needRange cX0_needRange 2 none) 2 := ⟨g_X0_X0_needRange, by decide +kernel⟩
theorem k_X0_X0_valuesOf : okS RX0 24 yX0_valuesOf (Cond.code yX0_valuesOf cX0_valuesOf 1 (some .int)) 1 := ⟨g_X0_X0_valuesOf, by decide +kernel⟩
theorem k_X0_X0_needSpan : okS RX0 31 yX0_needSpan (Cond.code yX0_needSpan cX0_needSpan 2 none) 2 := ⟨g_X0_X0_needSpan, by decide +kernel⟩
theorem k_X0_X0_line : okS RX0 34 yX0_line (Cond.code yX0_line cX0_line 2 (some .int)) 2 := ⟨g_X0_X0_line, by decide +kernel⟩
theorem k_X0_X0_draftSpan : okV RX0 38 RX0 yX0_draftSpan (Cond.code yX0_draftSpan cX0_draftSpan 6 none) 4 := ⟨g_X0_X0_draftSpan, by decide +kernel⟩
theorem k_X0_X0_knownOn : okV RX0 77 RX0 yX0_knownOn (Cond.code yX0_knownOn cX0_knownOn 5 (some .int)) 3 := ⟨g_X0_X0_knownOn, by decide +kernel⟩
theorem k_X0_X0_index : okS RX0 140 yX0_index (Cond.code yX0_index cX0_index 3 (some .int)) 3 := ⟨g_X0_X0_index, by decide +kernel⟩
theorem k_X0_X0_recordDraft : okV RX0 42 RX0 yX0_recordDraft (Cond.code yX0_recordDraft cX0_recordDraft 6 (some .int)) 2 := ⟨g_X0_X0_recordDraft, by decide +kernel⟩
theorem k_X0_X0_draftKeepsReferences : okV RX0 149 RX0 yX0_draftKeepsReferences (Cond.code yX0_draftKeepsReferences cX0_draftKeepsReferences 5 (some .boolean)) 2 := ⟨g_X0_X0_draftKeepsReferences, by decide +kernel⟩
theorem k_X0_X0_isReferredTo : okV RX0 159 RX0 yX0_isReferredTo (Cond.code yX0_isReferredTo cX0_isReferredTo 4 (some .boolean)) 2 := ⟨g_X0_X0_isReferredTo, by decide +kernel⟩
theorem k_X0_X0_recordToday : okV RX0 155 RX0 yX0_recordToday (Cond.code yX0_recordToday cX0_recordToday 5 none) 3 := ⟨g_X0_X0_recordToday, by decide +kernel⟩
theorem k_L_X0_erase : okV RL 14 RX0 yX0_erase (Cond.code yX0_erase cX0_erase 5 (some .int)) 4 := ⟨g_L_X0_erase, by decide +kernel⟩
theorem k_L_X0_eraseAll : okV RL 18 RX0 yX0_eraseAll (Cond.code yX0_eraseAll cX0_eraseAll 6 (some .int)) 3 := ⟨g_L_X0_eraseAll, by decide +kernel⟩
theorem k_X0_X0_loseWithReferences : okV RX0 45 RX0 yX0_loseWithReferences (Cond.code yX0_loseWithReferences cX0_loseWithReferences 5 (some .int)) 2 := ⟨g_X0_X0_loseWithReferences, by decide +kernel⟩
theorem k_X0_X0_lose : okV RX0 162 RX0 yX0_lose (Cond.code yX0_lose cX0_lose 3 (some .int)) 2 := ⟨g_X0_X0_lose, by decide +kernel⟩
theorem k_L_X0_restore : okV RL 22 RX0 yX0_restore (Cond.code yX0_restore cX0_restore 4 (some .int)) 3 := ⟨g_L_X0_restore, by decide +kernel⟩
theorem k_X0_X0_needRecord : okV RX0 48 RX0 yX0_needRecord (Cond.code yX0_needRecord cX0_needRecord 2 none) 1 := ⟨g_X0_X0_needRecord, by decide +kernel⟩
theorem k_X0_X0_draftRecord : okV RX0 52 RX0 yX0_draftRecord (Cond.code yX0_draftRecord cX0_draftRecord 4 none) 2 := ⟨g_X0_X0_draftRecord, by decide +kernel⟩
theorem k_L_X0_pass : okV RL 25 RX0 yX0_pass (Cond.code yX0_pass cX0_pass 4 (some .int)) 1 := ⟨g_L_X0_pass, by decide +kernel⟩
theorem k_X0_X0_keepOn : okV RX0 71 RX0 yX0_keepOn (Cond.code yX0_keepOn cX0_keepOn 3 none) 2 := ⟨g_X0_X0_keepOn, by decide +kernel⟩
theorem k_X0_X0_copyDay : okV RX0 74 RX0 yX0_copyDay (Cond.code yX0_copyDay cX0_copyDay 3 none) 2 := ⟨g_X0_X0_copyDay, by decide +kernel⟩
theorem k_L_X0_today : okV RL 54 RX0 yX0_today (Cond.code yX0_today cX0_today 1 (some .int)) 0 := ⟨g_L_X0_today, by decide +kernel⟩
theorem k_L_L_areAlike : okS RL 107 yL_areAlike (Cond.code yL_areAlike cL_areAlike 5 (some .boolean)) 2 := ⟨g_L_L_areAlike, by decide +kernel⟩
theorem k_L_X0_rows : okV RL 58 RX0 yX0_rows (Cond.code yX0_rows cX0_rows 7 (some .int)) 2 := ⟨g_L_X0_rows, by decide +kernel⟩
theorem k_X0_X0_isKept : okV RX0 102 RX0 yX0_isKept (Cond.code yX0_isKept cX0_isKept 2 (some .boolean)) 1 := ⟨g_X0_X0_isKept, by decide +kernel⟩
theorem k_X0_X0_startsRow : okV RX0 106 RX0 yX0_startsRow (Cond.code yX0_startsRow cX0_startsRow 4 (some .boolean)) 3 := ⟨g_X0_X0_startsRow, by decide +kernel⟩
theorem k_X0_X0_startsRun : okV RX0 84 RX0 yX0_startsRun (Cond.code yX0_startsRun cX0_startsRun 5 (some .boolean)) 3 := ⟨g_X0_X0_startsRun, by decide +kernel⟩
theorem k_X0_X0_sameRun : okV RX0 118 RX0 yX0_sameRun (Cond.code yX0_sameRun cX0_sameRun 5 (some .boolean)) 4 := ⟨g_X0_X0_sameRun, by decide +kernel⟩
theorem k_X0_X0_endOfRun : okV RX0 124 RX0 yX0_endOfRun (Cond.code yX0_endOfRun cX0_endOfRun 6 (some .int)) 3 := ⟨g_X0_X0_endOfRun, by decide +kernel⟩
theorem k_L_X0_runs : okV RL 61 RX0 yX0_runs (Cond.code yX0_runs cX0_runs 7 (some .int)) 3 := ⟨g_L_X0_runs, by decide +kernel⟩
theorem k_L_X0_longest : okV RL 64 RX0 yX0_longest (Cond.code yX0_longest cX0_longest 7 (some .int)) 3 := ⟨g_L_X0_longest, by decide +kernel⟩
theorem k_L_X0_value : okV RL 67 RX0 yX0_value (Cond.code yX0_value cX0_value 5 (some .int)) 4 := ⟨g_L_X0_value, by decide +kernel⟩
theorem k_L_L_areValuesSo : okS RL 111 yL_areValuesSo (Cond.code yL_areValuesSo cL_areValuesSo 9 (some .boolean)) 2 := ⟨g_L_L_areValuesSo, by decide +kernel⟩
theorem k_L_X0_keys : okV RL 70 RX0 yX0_keys (Cond.code yX0_keys cX0_keys 6 (some .int)) 3 := ⟨g_L_X0_keys, by decide +kernel⟩
theorem k_L_X0_joined : okV RL 73 RX0 yX0_joined (Cond.code yX0_joined cX0_joined 4 (some .int)) 3 := ⟨g_L_X0_joined, by decide +kernel⟩
theorem k_X0_X0_joinedOn : okV RX0 81 RX0 yX0_joinedOn (Cond.code yX0_joinedOn cX0_joinedOn 5 (some .int)) 3 := ⟨g_X0_X0_joinedOn, by decide +kernel⟩
theorem k_L_L_areRunsSo : okS RL 115 yL_areRunsSo (Cond.code yL_areRunsSo cL_areRunsSo 14 (some .boolean)) 4 := ⟨g_L_L_areRunsSo, by decide +kernel⟩
theorem k_L_X0_run : okV RL 76 RX0 yX0_run (Cond.code yX0_run cX0_run 7 (some .int)) 4 := ⟨g_L_X0_run, by decide +kernel⟩
theorem k_X0_X0_firstDayOfRun : okV RX0 88 RX0 yX0_firstDayOfRun (Cond.code yX0_firstDayOfRun cX0_firstDayOfRun 6 (some .int)) 3 := ⟨g_X0_X0_firstDayOfRun, by decide +kernel⟩
theorem k_X0_X0_runNumber : okV RX0 96 RX0 yX0_runNumber (Cond.code yX0_runNumber cX0_runNumber 4 (some .int)) 3 := ⟨g_X0_X0_runNumber, by decide +kernel⟩
theorem k_L_X0_joinedRuns : okV RL 79 RX0 yX0_joinedRuns (Cond.code yX0_joinedRuns cX0_joinedRuns 5 (some .int)) 2 := ⟨g_L_X0_joinedRuns, by decide +kernel⟩
theorem k_X0_X0_startsJoinedRun : okV RX0 99 RX0 yX0_startsJoinedRun (Cond.code yX0_startsJoinedRun cX0_startsJoinedRun 4 (some .boolean)) 3 := ⟨g_X0_X0_startsJoinedRun, by decide +kernel⟩
theorem k_L_L_average : okS RL 82 yL_average (Cond.codeWith yL_average cL_average 4 (some .float) [(0, 6, 7, 34)]) 3 := ⟨g_L_L_average, by decide +kernel⟩
theorem k_L_X0_average : okV RL 39 RX0 yX0_average (Cond.code yX0_average cX0_average 7 (some .float)) 2 := ⟨g_L_X0_average, by decide +kernel⟩
theorem k_L_L_isRestoredSo : okS RL 119 yL_isRestoredSo (Cond.code yL_isRestoredSo cL_isRestoredSo 10 (some .boolean)) 5 := ⟨g_L_L_isRestoredSo, by decide +kernel⟩
theorem k_L_L_areRowsSo : okS RL 123 yL_areRowsSo (Cond.code yL_areRowsSo cL_areRowsSo 11 (some .boolean)) 3 := ⟨g_L_L_areRowsSo, by decide +kernel⟩
theorem k_L_L_rowRun : okS RL 85 yL_rowRun (Cond.codeWith yL_rowRun cL_rowRun 5 (some .int) [(0, 7, 8, 32)]) 4 := ⟨g_L_L_rowRun, by decide +kernel⟩
theorem k_L_X0_rowRun : okV RL 36 RX0 yX0_rowRun (Cond.code yX0_rowRun cX0_rowRun 6 (some .int)) 3 := ⟨g_L_X0_rowRun, by decide +kernel⟩
theorem k_X0_X0_startOfRow : okV RX0 109 RX0 yX0_startOfRow (Cond.code yX0_startOfRow cX0_startOfRow 6 (some .int)) 2 := ⟨g_X0_X0_startOfRow, by decide +kernel⟩
theorem k_X0_X0_recordOfStart : okS RX0 112 yX0_recordOfStart (Cond.code yX0_recordOfStart cX0_recordOfStart 1 (some .int)) 1 := ⟨g_X0_X0_recordOfStart, by decide +kernel⟩
theorem k_X0_X0_validOfStart : okS RX0 115 yX0_validOfStart (Cond.code yX0_validOfStart cX0_validOfStart 1 (some .int)) 1 := ⟨g_X0_X0_validOfStart, by decide +kernel⟩
theorem k_L_X0_rowFrom : okV RL 88 RX0 yX0_rowFrom (Cond.code yX0_rowFrom cX0_rowFrom 4 (some .int)) 3 := ⟨g_L_X0_rowFrom, by decide +kernel⟩
theorem k_L_X0_rowTo : okV RL 91 RX0 yX0_rowTo (Cond.code yX0_rowTo cX0_rowTo 9 (some .int)) 3 := ⟨g_L_X0_rowTo, by decide +kernel⟩
theorem k_L_L_hasRun : okS RL 94 yL_hasRun (Cond.code yL_hasRun cL_hasRun 9 (some .boolean)) 7 := ⟨g_L_L_hasRun, by decide +kernel⟩
