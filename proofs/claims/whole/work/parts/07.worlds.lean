/-! the worlds of the two objects; rows on their fields and arrays; calls with one answer -/
abbrev ZT : Type := va_G × ClassId × ClassId × ClassId
abbrev ty3 (Z : ZT) : List (ClassId × FieldType) := [(Z.2.1, .int), (Z.2.2.1, .long), (Z.2.2.2, .double)]
abbrev XT : Type := Nat × Nat × Nat × Nat
abbrev MT : Type := Nat × Nat
/-- a Twotimes: known, keptOn, draft, today -/
def wX (Z : ZT) (X : XT) (k kp dr : Nat → Int32) (td : Int32) : va_W := [(X.1, .inr (0, [.ref X.2.1, .ref X.2.2.1, .ref X.2.2.2, .int td])), (X.2.1, .inl (Z.2.1, 57600, .inl k)), (X.2.2.1, .inl (Z.2.1, 60, .inl kp)), (X.2.2.2, .inl (Z.2.1, 60, .inl dr))]
/-- a TwotimesModel: known, thrown, today, rowFirst, rowBegin, rowEnd -/
def wM (Z : ZT) (Y : MT) (k : Nat → Int32) (th td rf rb re : Int32) : va_W := [(Y.1, .inr (1, [.int th, .int td, .ref Y.2, .int rf, .int rb, .int re])), (Y.2, .inl (Z.2.1, 57600, .inl k))]
abbrev rmk (f lo mc ms : Nat) : Room := { frames := f, cells := mc, slots := ms, locals := lo }
def mR (l : Launch) (Z : ZT) (y : MethodName) (cd : ByteArray) (maxL : Nat) (ret : Option FieldType) (rm : Room) (ws : va_W) (As : List Value) (v : Value) : Prop := mA l Z.1 (ty3 Z) y cd maxL ret rm ws As (fun r u => r = some v ∧ u = ws)
def mS (l : Launch) (y : MethodName) (cd : ByteArray) (maxL : Nat) (ret : Option FieldType) (rm : Room) (As : List Value) (v : Value) : Prop := ∀ (D : va_G) (tys : List (ClassId × FieldType)), mA l D tys y cd maxL ret rm [] As (fun r _ => r = some v)
theorem gg_wsE {p : Program} {l : Launch} {e : Env} {R : Room} {s : State} {m : MethodId} {args : Array Value} {below : List Frame} {meth : Method} {c : Code} {D : va_G} {A : Nat → Prop} {n cells slots pc : Nat} {Q : State → Prop} {ws ws' : va_W} {L : List (Nat × Value)} {st : List Value} (h : ws = ws') (k : gg p l e R s m args below meth c D A n cells slots Q ws' pc L st) : gg p l e R s m args below meth c D A n cells slots Q ws pc L st := by rw [h]; exact k
section
variable {p : Program} {l : Launch} {e : Env} {R : Room} {s : State} {m : MethodId} {args : Array Value} {below : List Frame} {meth : Method} {c : Code} {Z : ZT} {A : Nat → Prop} {cc : ByteArray} {own : String} {n cells slots pc : Nat} {Q : State → Prop} {ws : va_W} {L : List (Nat × Value)} {st : List Value}
variable {y : MethodName} {cd : ByteArray} {maxL k9 idx : Nat} {ret : Option FieldType} {rm : Room} {As rest : List Value}
theorem gg_callRX {X : XT} {k kp dr : Nat → Int32} {td : Int32} {v : Value} (K : kx p s m args meth c Z.1 A (ty3 Z) cc own n) (ok : okV own idx RX0 y (.code y cd maxL ret) k9) (hM : mR l Z y cd maxL ret rm (wX Z X k kp dr td) (.ref X.1 :: As) v) (hd : decode cc pc = .ok (.invokevirtual idx, 3)) (hst : st = As.reverse ++ .ref X.1 :: rest) (hAs : As.length = k9) (hr : rOk rm R maxL cells slots = true) (hw : c8 rest = true) (hz : rm.cells = 0 ∧ rm.slots = 0)
    (kk : gg p l e R s m args below meth c Z.1 A n cells slots Q (wX Z X k kp dr td) (pc + 3) L (v :: rest)) : gg p l e R s m args below meth c Z.1 A n cells slots Q (wX Z X k kp dr td) pc L st :=
  gg_callW K ok hM 0 (ci := 0) (N := 4) (T := TX0) rfl rfl hd hst hAs hr hw (fun v' u h => by obtain ⟨rfl, rfl⟩ := h; rw [hz.1, hz.2]; exact kk)
theorem gg_callRM {Y : MT} {k : Nat → Int32} {th td rf rb re : Int32} {v : Value} (K : kx p s m args meth c Z.1 A (ty3 Z) cc own n) (ok : okV own idx RX1 y (.code y cd maxL ret) k9) (hM : mR l Z y cd maxL ret rm (wM Z Y k th td rf rb re) (.ref Y.1 :: As) v) (hd : decode cc pc = .ok (.invokevirtual idx, 3)) (hst : st = As.reverse ++ .ref Y.1 :: rest) (hAs : As.length = k9) (hr : rOk rm R maxL cells slots = true) (hw : c8 rest = true) (hz : rm.cells = 0 ∧ rm.slots = 0)
    (kk : gg p l e R s m args below meth c Z.1 A n cells slots Q (wM Z Y k th td rf rb re) (pc + 3) L (v :: rest)) : gg p l e R s m args below meth c Z.1 A n cells slots Q (wM Z Y k th td rf rb re) pc L st :=
  gg_callW K ok hM 0 (ci := 1) (N := 6) (T := TX1) rfl rfl hd hst hAs hr hw (fun v' u h => by obtain ⟨rfl, rfl⟩ := h; rw [hz.1, hz.2]; exact kk)
/-- .. that writes and makes nothing -/
theorem gg_callUX {X : XT} {k kp dr : Nat → Int32} {td : Int32} {post : Option Value → va_W → Prop} (K : kx p s m args meth c Z.1 A (ty3 Z) cc own n) (ok : okV own idx RX0 y (.code y cd maxL ret) k9) (hM : mA l Z.1 (ty3 Z) y cd maxL ret rm (wX Z X k kp dr td) (.ref X.1 :: As) post) (hd : decode cc pc = .ok (.invokevirtual idx, 3)) (hst : st = As.reverse ++ .ref X.1 :: rest) (hAs : As.length = k9) (hr : rOk rm R maxL cells slots = true) (hw : c8 rest = true) (hz : rm.cells = 0 ∧ rm.slots = 0)
    (kk : ∀ (v : Option Value) (u : va_W), post v u → gg p l e R s m args below meth c Z.1 A n cells slots Q u (pc + 3) L (v.toList ++ rest)) : gg p l e R s m args below meth c Z.1 A n cells slots Q (wX Z X k kp dr td) pc L st :=
  gg_callW K ok hM 0 (ci := 0) (N := 4) (T := TX0) rfl rfl hd hst hAs hr hw (fun v' u h => by rw [hz.1, hz.2]; exact kk v' u h)
theorem gg_callUM {Y : MT} {k : Nat → Int32} {th td rf rb re : Int32} {post : Option Value → va_W → Prop} (K : kx p s m args meth c Z.1 A (ty3 Z) cc own n) (ok : okV own idx RX1 y (.code y cd maxL ret) k9) (hM : mA l Z.1 (ty3 Z) y cd maxL ret rm (wM Z Y k th td rf rb re) (.ref Y.1 :: As) post) (hd : decode cc pc = .ok (.invokevirtual idx, 3)) (hst : st = As.reverse ++ .ref Y.1 :: rest) (hAs : As.length = k9) (hr : rOk rm R maxL cells slots = true) (hw : c8 rest = true) (hz : rm.cells = 0 ∧ rm.slots = 0)
    (kk : ∀ (v : Option Value) (u : va_W), post v u → gg p l e R s m args below meth c Z.1 A n cells slots Q u (pc + 3) L (v.toList ++ rest)) : gg p l e R s m args below meth c Z.1 A n cells slots Q (wM Z Y k th td rf rb re) pc L st :=
  gg_callW K ok hM 0 (ci := 1) (N := 6) (T := TX1) rfl rfl hd hst hAs hr hw (fun v' u h => by rw [hz.1, hz.2]; exact kk v' u h)
theorem gg_callSR {D : va_G} {tys : List (ClassId × FieldType)} {v : Value} (K : kx p s m args meth c D A tys cc own n) (ok : okS own idx y (.code y cd maxL ret) k9) (hM : mS l y cd maxL ret rm As v) (hd : decode cc pc = .ok (.invokestatic idx, 3)) (hst : st = As.reverse ++ rest) (hAs : As.length = k9) (hr : rOk rm R maxL cells slots = true) (hw : c8 rest = true) (hz : rm.cells = 0 ∧ rm.slots = 0)
    (kk : gg p l e R s m args below meth c D A n cells slots Q ws (pc + 3) L (v :: rest)) : gg p l e R s m args below meth c D A n cells slots Q ws pc L st :=
  gg_callS K ok (hM D tys) hd hst hAs hr hw (fun v' u h => by subst h; rw [hz.1, hz.2]; exact kk)
/-- throwing calls, the room that they may take named -/
theorem gg_callTX {X : XT} {k kp dr : Nat → Int32} {td : Int32} {post : Option Value → va_W → Prop} {pe : String → va_W → Prop} (c1 s1 : Nat) (K : kx p s m args meth c Z.1 A (ty3 Z) cc own n) (T9 : te A s s.heap) (ok : okV own idx RX0 y (.code y cd maxL ret) k9) (hM : mX l Z.1 (ty3 Z) y (.code y cd maxL ret) rm (wX Z X k kp dr td) (.ref X.1 :: As) post pe) (hd : decode cc pc = .ok (.invokevirtual idx, 3)) (hst : st = As.reverse ++ .ref X.1 :: rest) (hAs : As.length = k9) (hr : rOk rm R maxL cells slots = true) (hw : c8 rest = true) (hz : cells + rm.cells = c1 ∧ slots + rm.slots = s1)
    (kt : ∀ (E : String) (u : va_W), pe E u → gx p l e R s m args below meth c Z.1 A n c1 s1 Q u pc L rest E)
    (kk : ∀ (v : Option Value) (u : va_W), post v u → gg p l e R s m args below meth c Z.1 A n c1 s1 Q u (pc + 3) L (v.toList ++ rest)) : gg p l e R s m args below meth c Z.1 A n cells slots Q (wX Z X k kp dr td) pc L st := by
  obtain ⟨rfl, rfl⟩ := hz
  exact gg_callWX K T9 ok hM 0 (ci := 0) (N := 4) (T := TX0) rfl rfl hd hst hAs hr hw kt kk
theorem gg_callTS {D : va_G} {tys : List (ClassId × FieldType)} {post : Option Value → va_W → Prop} {pe : String → va_W → Prop} (c1 s1 : Nat) (K : kx p s m args meth c D A tys cc own n) (T9 : te A s s.heap) (ok : okS own idx y (.code y cd maxL ret) k9) (hM : mX l D tys y (.code y cd maxL ret) rm [] As post pe) (hd : decode cc pc = .ok (.invokestatic idx, 3)) (hst : st = As.reverse ++ rest) (hAs : As.length = k9) (hr : rOk rm R maxL cells slots = true) (hw : c8 rest = true) (hz : cells + rm.cells = c1 ∧ slots + rm.slots = s1)
    (kt : ∀ (E : String) (u : va_W), pe E u → gx p l e R s m args below meth c D A n c1 s1 Q ws pc L rest E)
    (kk : ∀ (v : Option Value) (u : va_W), post v u → gg p l e R s m args below meth c D A n c1 s1 Q ws (pc + 3) L (v.toList ++ rest)) : gg p l e R s m args below meth c D A n cells slots Q ws pc L st := by
  obtain ⟨rfl, rfl⟩ := hz
  exact gg_callSX K T9 ok hM hd hst hAs hr hw kt kk
theorem gX_known {X : XT} {k kp dr : Nat → Int32} {td : Int32} (K : kx p s m args meth c Z.1 A (ty3 Z) cc RX0 n) (hd : decode cc pc = .ok (.getfield 10, 3)) (kk : gg p l e R s m args below meth c Z.1 A n cells slots Q (wX Z X k kp dr td) (pc + 3) L (.ref X.2.1 :: st)) : gg p l e R s m args below meth c Z.1 A n cells slots Q (wX Z X k kp dr td) pc L (.ref X.1 :: st) :=
  fun H locs ls hP hD hS hl => va_get (D := Z.1) (ci := 0) (v := .ref X.2.1) (C := RX0) (T := TX0) (N := 4) K.1.1 K.1.2.1 K.1.2.2.2.2 inX0 K.1.2.2.2.1 K.2.1 hP 0 rfl rfl 0 (by decide) (K.1.2.2.2.2 _ wd_16) (fun _ h9 => h9) rfl hd (kk H locs ls hP hD hS hl)
theorem gX_keptOn {X : XT} {k kp dr : Nat → Int32} {td : Int32} (K : kx p s m args meth c Z.1 A (ty3 Z) cc RX0 n) (hd : decode cc pc = .ok (.getfield 14, 3)) (kk : gg p l e R s m args below meth c Z.1 A n cells slots Q (wX Z X k kp dr td) (pc + 3) L (.ref X.2.2.1 :: st)) : gg p l e R s m args below meth c Z.1 A n cells slots Q (wX Z X k kp dr td) pc L (.ref X.1 :: st) :=
  fun H locs ls hP hD hS hl => va_get (D := Z.1) (ci := 0) (v := .ref X.2.2.1) (C := RX0) (T := TX0) (N := 4) K.1.1 K.1.2.1 K.1.2.2.2.2 inX0 K.1.2.2.2.1 K.2.1 hP 0 rfl rfl 1 (by decide) (K.1.2.2.2.2 _ wd_17) (fun _ h9 => h9) rfl hd (kk H locs ls hP hD hS hl)
theorem gX_draft {X : XT} {k kp dr : Nat → Int32} {td : Int32} (K : kx p s m args meth c Z.1 A (ty3 Z) cc RX0 n) (hd : decode cc pc = .ok (.getfield 17, 3)) (kk : gg p l e R s m args below meth c Z.1 A n cells slots Q (wX Z X k kp dr td) (pc + 3) L (.ref X.2.2.2 :: st)) : gg p l e R s m args below meth c Z.1 A n cells slots Q (wX Z X k kp dr td) pc L (.ref X.1 :: st) :=
  fun H locs ls hP hD hS hl => va_get (D := Z.1) (ci := 0) (v := .ref X.2.2.2) (C := RX0) (T := TX0) (N := 4) K.1.1 K.1.2.1 K.1.2.2.2.2 inX0 K.1.2.2.2.1 K.2.1 hP 0 rfl rfl 2 (by decide) (K.1.2.2.2.2 _ wd_18) (fun _ h9 => h9) rfl hd (kk H locs ls hP hD hS hl)
theorem gX_today {X : XT} {k kp dr : Nat → Int32} {td : Int32} (K : kx p s m args meth c Z.1 A (ty3 Z) cc RX0 n) (hd : decode cc pc = .ok (.getfield 62, 3)) (kk : gg p l e R s m args below meth c Z.1 A n cells slots Q (wX Z X k kp dr td) (pc + 3) L (.int td :: st)) : gg p l e R s m args below meth c Z.1 A n cells slots Q (wX Z X k kp dr td) pc L (.ref X.1 :: st) :=
  fun H locs ls hP hD hS hl => va_get (D := Z.1) (ci := 0) (v := .int td) (C := RX0) (T := TX0) (N := 4) K.1.1 K.1.2.1 K.1.2.2.2.2 inX0 K.1.2.2.2.1 K.2.1 hP 0 rfl rfl 3 (by decide) (K.1.2.2.2.2 _ wd_56) (fun _ h9 => h9) rfl hd (kk H locs ls hP hD hS hl)
theorem gX_ptoday {X : XT} {k kp dr : Nat → Int32} {td x : Int32} (K : kx p s m args meth c Z.1 A (ty3 Z) cc RX0 n) (hd : decode cc pc = .ok (.putfield 62, 3)) (kk : gg p l e R s m args below meth c Z.1 A n cells slots Q (wX Z X k kp dr x) (pc + 3) L st) : gg p l e R s m args below meth c Z.1 A n cells slots Q (wX Z X k kp dr td) pc L (.int x :: .ref X.1 :: st) :=
  fun H locs ls hP hD hS hl => va_put (D := Z.1) (ci := 0) (v := .int x) (ty := .int) (C := RX0) (T := TX0) (N := 4) K.1.1 K.1.2.1 K.1.2.2.2.2 inX0 tyX0 tyX0_ok nmX0 K.1.2.2.2.1 K.2.1 hP hD hS 0 rfl rfl 3 (by decide) (K.1.2.2.2.2 _ wd_56) (fun _ h9 => h9) rfl (by decide +kernel) rfl rfl (Nat.le_of_ble_eq_true rfl) hd (fun H1 locs1 hP hD hS => kk H1 locs1 ls hP hD hS hl)
theorem gM_thrown {Y : MT} {k : Nat → Int32} {th td rf rb re : Int32} (K : kx p s m args meth c Z.1 A (ty3 Z) cc RX1 n) (hd : decode cc pc = .ok (.getfield 14, 3)) (kk : gg p l e R s m args below meth c Z.1 A n cells slots Q (wM Z Y k th td rf rb re) (pc + 3) L (.int th :: st)) : gg p l e R s m args below meth c Z.1 A n cells slots Q (wM Z Y k th td rf rb re) pc L (.ref Y.1 :: st) :=
  fun H locs ls hP hD hS hl => va_get (D := Z.1) (ci := 1) (v := .int th) (C := RX1) (T := TX1) (N := 6) K.1.1 K.1.2.1 K.1.2.2.2.2 inX1 K.1.2.2.2.1 K.2.1 hP 0 rfl rfl 0 (by decide) (K.1.2.2.2.2 _ wd_122) (fun _ h9 => h9) rfl hd (kk H locs ls hP hD hS hl)
theorem gM_pthrown {Y : MT} {k : Nat → Int32} {th td rf rb re x : Int32} (K : kx p s m args meth c Z.1 A (ty3 Z) cc RX1 n) (hd : decode cc pc = .ok (.putfield 14, 3)) (kk : gg p l e R s m args below meth c Z.1 A n cells slots Q (wM Z Y k x td rf rb re) (pc + 3) L st) : gg p l e R s m args below meth c Z.1 A n cells slots Q (wM Z Y k th td rf rb re) pc L (.int x :: .ref Y.1 :: st) :=
  fun H locs ls hP hD hS hl => va_put (D := Z.1) (ci := 1) (v := .int x) (ty := .int) (C := RX1) (T := TX1) (N := 6) K.1.1 K.1.2.1 K.1.2.2.2.2 inX1 tyX1 tyX1_ok nmX1 K.1.2.2.2.1 K.2.1 hP hD hS 0 rfl rfl 0 (by decide) (K.1.2.2.2.2 _ wd_122) (fun _ h9 => h9) rfl (by decide +kernel) rfl rfl (Nat.le_of_ble_eq_true rfl) hd (fun H1 locs1 hP hD hS => kk H1 locs1 ls hP hD hS hl)
theorem gM_today {Y : MT} {k : Nat → Int32} {th td rf rb re : Int32} (K : kx p s m args meth c Z.1 A (ty3 Z) cc RX1 n) (hd : decode cc pc = .ok (.getfield 30, 3)) (kk : gg p l e R s m args below meth c Z.1 A n cells slots Q (wM Z Y k th td rf rb re) (pc + 3) L (.int td :: st)) : gg p l e R s m args below meth c Z.1 A n cells slots Q (wM Z Y k th td rf rb re) pc L (.ref Y.1 :: st) :=
  fun H locs ls hP hD hS hl => va_get (D := Z.1) (ci := 1) (v := .int td) (C := RX1) (T := TX1) (N := 6) K.1.1 K.1.2.1 K.1.2.2.2.2 inX1 K.1.2.2.2.1 K.2.1 hP 0 rfl rfl 1 (by decide) (K.1.2.2.2.2 _ wd_106) (fun _ h9 => h9) rfl hd (kk H locs ls hP hD hS hl)
theorem gM_ptoday {Y : MT} {k : Nat → Int32} {th td rf rb re x : Int32} (K : kx p s m args meth c Z.1 A (ty3 Z) cc RX1 n) (hd : decode cc pc = .ok (.putfield 30, 3)) (kk : gg p l e R s m args below meth c Z.1 A n cells slots Q (wM Z Y k th x rf rb re) (pc + 3) L st) : gg p l e R s m args below meth c Z.1 A n cells slots Q (wM Z Y k th td rf rb re) pc L (.int x :: .ref Y.1 :: st) :=
  fun H locs ls hP hD hS hl => va_put (D := Z.1) (ci := 1) (v := .int x) (ty := .int) (C := RX1) (T := TX1) (N := 6) K.1.1 K.1.2.1 K.1.2.2.2.2 inX1 tyX1 tyX1_ok nmX1 K.1.2.2.2.1 K.2.1 hP hD hS 0 rfl rfl 1 (by decide) (K.1.2.2.2.2 _ wd_106) (fun _ h9 => h9) rfl (by decide +kernel) rfl rfl (Nat.le_of_ble_eq_true rfl) hd (fun H1 locs1 hP hD hS => kk H1 locs1 ls hP hD hS hl)
theorem gM_known {Y : MT} {k : Nat → Int32} {th td rf rb re : Int32} (K : kx p s m args meth c Z.1 A (ty3 Z) cc RX1 n) (hd : decode cc pc = .ok (.getfield 8, 3)) (kk : gg p l e R s m args below meth c Z.1 A n cells slots Q (wM Z Y k th td rf rb re) (pc + 3) L (.ref Y.2 :: st)) : gg p l e R s m args below meth c Z.1 A n cells slots Q (wM Z Y k th td rf rb re) pc L (.ref Y.1 :: st) :=
  fun H locs ls hP hD hS hl => va_get (D := Z.1) (ci := 1) (v := .ref Y.2) (C := RX1) (T := TX1) (N := 6) K.1.1 K.1.2.1 K.1.2.2.2.2 inX1 K.1.2.2.2.1 K.2.1 hP 0 rfl rfl 2 (by decide) (K.1.2.2.2.2 _ wd_24) (fun _ h9 => h9) rfl hd (kk H locs ls hP hD hS hl)
theorem gM_rowFirst {Y : MT} {k : Nat → Int32} {th td rf rb re : Int32} (K : kx p s m args meth c Z.1 A (ty3 Z) cc RX1 n) (hd : decode cc pc = .ok (.getfield 84, 3)) (kk : gg p l e R s m args below meth c Z.1 A n cells slots Q (wM Z Y k th td rf rb re) (pc + 3) L (.int rf :: st)) : gg p l e R s m args below meth c Z.1 A n cells slots Q (wM Z Y k th td rf rb re) pc L (.ref Y.1 :: st) :=
  fun H locs ls hP hD hS hl => va_get (D := Z.1) (ci := 1) (v := .int rf) (C := RX1) (T := TX1) (N := 6) K.1.1 K.1.2.1 K.1.2.2.2.2 inX1 K.1.2.2.2.1 K.2.1 hP 0 rfl rfl 3 (by decide) (K.1.2.2.2.2 _ wd_359) (fun _ h9 => h9) rfl hd (kk H locs ls hP hD hS hl)
theorem gM_prowFirst {Y : MT} {k : Nat → Int32} {th td rf rb re x : Int32} (K : kx p s m args meth c Z.1 A (ty3 Z) cc RX1 n) (hd : decode cc pc = .ok (.putfield 84, 3)) (kk : gg p l e R s m args below meth c Z.1 A n cells slots Q (wM Z Y k th td x rb re) (pc + 3) L st) : gg p l e R s m args below meth c Z.1 A n cells slots Q (wM Z Y k th td rf rb re) pc L (.int x :: .ref Y.1 :: st) :=
  fun H locs ls hP hD hS hl => va_put (D := Z.1) (ci := 1) (v := .int x) (ty := .int) (C := RX1) (T := TX1) (N := 6) K.1.1 K.1.2.1 K.1.2.2.2.2 inX1 tyX1 tyX1_ok nmX1 K.1.2.2.2.1 K.2.1 hP hD hS 0 rfl rfl 3 (by decide) (K.1.2.2.2.2 _ wd_359) (fun _ h9 => h9) rfl (by decide +kernel) rfl rfl (Nat.le_of_ble_eq_true rfl) hd (fun H1 locs1 hP hD hS => kk H1 locs1 ls hP hD hS hl)
theorem gM_rowBegin {Y : MT} {k : Nat → Int32} {th td rf rb re : Int32} (K : kx p s m args meth c Z.1 A (ty3 Z) cc RX1 n) (hd : decode cc pc = .ok (.getfield 87, 3)) (kk : gg p l e R s m args below meth c Z.1 A n cells slots Q (wM Z Y k th td rf rb re) (pc + 3) L (.int rb :: st)) : gg p l e R s m args below meth c Z.1 A n cells slots Q (wM Z Y k th td rf rb re) pc L (.ref Y.1 :: st) :=
  fun H locs ls hP hD hS hl => va_get (D := Z.1) (ci := 1) (v := .int rb) (C := RX1) (T := TX1) (N := 6) K.1.1 K.1.2.1 K.1.2.2.2.2 inX1 K.1.2.2.2.1 K.2.1 hP 0 rfl rfl 4 (by decide) (K.1.2.2.2.2 _ wd_360) (fun _ h9 => h9) rfl hd (kk H locs ls hP hD hS hl)
theorem gM_prowBegin {Y : MT} {k : Nat → Int32} {th td rf rb re x : Int32} (K : kx p s m args meth c Z.1 A (ty3 Z) cc RX1 n) (hd : decode cc pc = .ok (.putfield 87, 3)) (kk : gg p l e R s m args below meth c Z.1 A n cells slots Q (wM Z Y k th td rf x re) (pc + 3) L st) : gg p l e R s m args below meth c Z.1 A n cells slots Q (wM Z Y k th td rf rb re) pc L (.int x :: .ref Y.1 :: st) :=
  fun H locs ls hP hD hS hl => va_put (D := Z.1) (ci := 1) (v := .int x) (ty := .int) (C := RX1) (T := TX1) (N := 6) K.1.1 K.1.2.1 K.1.2.2.2.2 inX1 tyX1 tyX1_ok nmX1 K.1.2.2.2.1 K.2.1 hP hD hS 0 rfl rfl 4 (by decide) (K.1.2.2.2.2 _ wd_360) (fun _ h9 => h9) rfl (by decide +kernel) rfl rfl (Nat.le_of_ble_eq_true rfl) hd (fun H1 locs1 hP hD hS => kk H1 locs1 ls hP hD hS hl)
theorem gM_rowEnd {Y : MT} {k : Nat → Int32} {th td rf rb re : Int32} (K : kx p s m args meth c Z.1 A (ty3 Z) cc RX1 n) (hd : decode cc pc = .ok (.getfield 96, 3)) (kk : gg p l e R s m args below meth c Z.1 A n cells slots Q (wM Z Y k th td rf rb re) (pc + 3) L (.int re :: st)) : gg p l e R s m args below meth c Z.1 A n cells slots Q (wM Z Y k th td rf rb re) pc L (.ref Y.1 :: st) :=
  fun H locs ls hP hD hS hl => va_get (D := Z.1) (ci := 1) (v := .int re) (C := RX1) (T := TX1) (N := 6) K.1.1 K.1.2.1 K.1.2.2.2.2 inX1 K.1.2.2.2.1 K.2.1 hP 0 rfl rfl 5 (by decide) (K.1.2.2.2.2 _ wd_408) (fun _ h9 => h9) rfl hd (kk H locs ls hP hD hS hl)
theorem gM_prowEnd {Y : MT} {k : Nat → Int32} {th td rf rb re x : Int32} (K : kx p s m args meth c Z.1 A (ty3 Z) cc RX1 n) (hd : decode cc pc = .ok (.putfield 96, 3)) (kk : gg p l e R s m args below meth c Z.1 A n cells slots Q (wM Z Y k th td rf rb x) (pc + 3) L st) : gg p l e R s m args below meth c Z.1 A n cells slots Q (wM Z Y k th td rf rb re) pc L (.int x :: .ref Y.1 :: st) :=
  fun H locs ls hP hD hS hl => va_put (D := Z.1) (ci := 1) (v := .int x) (ty := .int) (C := RX1) (T := TX1) (N := 6) K.1.1 K.1.2.1 K.1.2.2.2.2 inX1 tyX1 tyX1_ok nmX1 K.1.2.2.2.1 K.2.1 hP hD hS 0 rfl rfl 5 (by decide) (K.1.2.2.2.2 _ wd_408) (fun _ h9 => h9) rfl (by decide +kernel) rfl rfl (Nat.le_of_ble_eq_true rfl) hd (fun H1 locs1 hP hD hS => kk H1 locs1 ls hP hD hS hl)
theorem gX_ld_known {X : XT} {k kp dr : Nat → Int32} {td : Int32} (j : Nat) {i : Int32} (K : kx p s m args meth c Z.1 A (ty3 Z) cc own n) (hi : i = nI j) (hj : j < 57600) (hd : decode cc pc = .ok (.iaload, 1)) (kk : gg p l e R s m args below meth c Z.1 A n cells slots Q (wX Z X k kp dr td) (pc + 1) L (.int (k j) :: st)) : gg p l e R s m args below meth c Z.1 A n cells slots Q (wX Z X k kp dr td) pc L (.int i :: .ref X.2.1 :: st) := by
  subst hi
  intro H locs ls hP hD hS hl
  have e : (nI j).toNatClampNeg = j := nI_clamp (by omega)
  refine va_iald K.1.1 K.1.2.1 K.2.1 hP 1 0 (cA := Z.2.1) (n := 57600) (f := k) rfl rfl (vp_in_nI hj (Nat.le_of_ble_eq_true rfl)) hd ?_
  rw [e]
  exact kk H locs ls hP hD hS hl
theorem gX_st_known {X : XT} {k kp dr : Nat → Int32} {td : Int32} (j : Nat) {i x : Int32} (K : kx p s m args meth c Z.1 A (ty3 Z) cc own n) (hi : i = nI j) (hj : j < 57600) (hd : decode cc pc = .ok (.iastore, 1)) (kk : gg p l e R s m args below meth c Z.1 A n cells slots Q (wX Z X (upd k j x) kp dr td) (pc + 1) L st) : gg p l e R s m args below meth c Z.1 A n cells slots Q (wX Z X k kp dr td) pc L (.int x :: .int i :: .ref X.2.1 :: st) := by
  subst hi
  intro H locs ls hP hD hS hl
  have e : (nI j).toNatClampNeg = j := nI_clamp (by omega)
  refine va_iast K.1.1 K.1.2.1 K.2.1 hP hD hS 1 0 (cA := Z.2.1) (n := 57600) (f := k) rfl rfl (vp_in_nI hj (Nat.le_of_ble_eq_true rfl)) hd (fun H1 locs1 hP hD hS => ?_)
  rw [e] at hP hD
  exact kk H1 locs1 ls hP hD hS hl
theorem gX_len_known {X : XT} {k kp dr : Nat → Int32} {td : Int32} (K : kx p s m args meth c Z.1 A (ty3 Z) cc own n) (hd : decode cc pc = .ok (.arraylength, 1)) (kk : gg p l e R s m args below meth c Z.1 A n cells slots Q (wX Z X k kp dr td) (pc + 1) L (.int (nI 57600) :: st)) : gg p l e R s m args below meth c Z.1 A n cells slots Q (wX Z X k kp dr td) pc L (.ref X.2.1 :: st) :=
  fun H locs ls hP hD hS hl => va_alen K.1.1 K.1.2.1 K.2.1 hP 1 0 (cA := Z.2.1) (x := (57600, .inl k)) rfl (ty := .int) rfl (v := nI 57600) rfl hd (kk H locs ls hP hD hS hl)
theorem gX_ld_kept {X : XT} {k kp dr : Nat → Int32} {td : Int32} (j : Nat) {i : Int32} (K : kx p s m args meth c Z.1 A (ty3 Z) cc own n) (hi : i = nI j) (hj : j < 60) (hd : decode cc pc = .ok (.iaload, 1)) (kk : gg p l e R s m args below meth c Z.1 A n cells slots Q (wX Z X k kp dr td) (pc + 1) L (.int (kp j) :: st)) : gg p l e R s m args below meth c Z.1 A n cells slots Q (wX Z X k kp dr td) pc L (.int i :: .ref X.2.2.1 :: st) := by
  subst hi
  intro H locs ls hP hD hS hl
  have e : (nI j).toNatClampNeg = j := nI_clamp (by omega)
  refine va_iald K.1.1 K.1.2.1 K.2.1 hP 2 0 (cA := Z.2.1) (n := 60) (f := kp) rfl rfl (vp_in_nI hj (Nat.le_of_ble_eq_true rfl)) hd ?_
  rw [e]
  exact kk H locs ls hP hD hS hl
theorem gX_st_kept {X : XT} {k kp dr : Nat → Int32} {td : Int32} (j : Nat) {i x : Int32} (K : kx p s m args meth c Z.1 A (ty3 Z) cc own n) (hi : i = nI j) (hj : j < 60) (hd : decode cc pc = .ok (.iastore, 1)) (kk : gg p l e R s m args below meth c Z.1 A n cells slots Q (wX Z X k (upd kp j x) dr td) (pc + 1) L st) : gg p l e R s m args below meth c Z.1 A n cells slots Q (wX Z X k kp dr td) pc L (.int x :: .int i :: .ref X.2.2.1 :: st) := by
  subst hi
  intro H locs ls hP hD hS hl
  have e : (nI j).toNatClampNeg = j := nI_clamp (by omega)
  refine va_iast K.1.1 K.1.2.1 K.2.1 hP hD hS 2 0 (cA := Z.2.1) (n := 60) (f := kp) rfl rfl (vp_in_nI hj (Nat.le_of_ble_eq_true rfl)) hd (fun H1 locs1 hP hD hS => ?_)
  rw [e] at hP hD
  exact kk H1 locs1 ls hP hD hS hl
theorem gX_len_kept {X : XT} {k kp dr : Nat → Int32} {td : Int32} (K : kx p s m args meth c Z.1 A (ty3 Z) cc own n) (hd : decode cc pc = .ok (.arraylength, 1)) (kk : gg p l e R s m args below meth c Z.1 A n cells slots Q (wX Z X k kp dr td) (pc + 1) L (.int (nI 60) :: st)) : gg p l e R s m args below meth c Z.1 A n cells slots Q (wX Z X k kp dr td) pc L (.ref X.2.2.1 :: st) :=
  fun H locs ls hP hD hS hl => va_alen K.1.1 K.1.2.1 K.2.1 hP 2 0 (cA := Z.2.1) (x := (60, .inl kp)) rfl (ty := .int) rfl (v := nI 60) rfl hd (kk H locs ls hP hD hS hl)
theorem gX_ld_draft {X : XT} {k kp dr : Nat → Int32} {td : Int32} (j : Nat) {i : Int32} (K : kx p s m args meth c Z.1 A (ty3 Z) cc own n) (hi : i = nI j) (hj : j < 60) (hd : decode cc pc = .ok (.iaload, 1)) (kk : gg p l e R s m args below meth c Z.1 A n cells slots Q (wX Z X k kp dr td) (pc + 1) L (.int (dr j) :: st)) : gg p l e R s m args below meth c Z.1 A n cells slots Q (wX Z X k kp dr td) pc L (.int i :: .ref X.2.2.2 :: st) := by
  subst hi
  intro H locs ls hP hD hS hl
  have e : (nI j).toNatClampNeg = j := nI_clamp (by omega)
  refine va_iald K.1.1 K.1.2.1 K.2.1 hP 3 0 (cA := Z.2.1) (n := 60) (f := dr) rfl rfl (vp_in_nI hj (Nat.le_of_ble_eq_true rfl)) hd ?_
  rw [e]
  exact kk H locs ls hP hD hS hl
theorem gX_st_draft {X : XT} {k kp dr : Nat → Int32} {td : Int32} (j : Nat) {i x : Int32} (K : kx p s m args meth c Z.1 A (ty3 Z) cc own n) (hi : i = nI j) (hj : j < 60) (hd : decode cc pc = .ok (.iastore, 1)) (kk : gg p l e R s m args below meth c Z.1 A n cells slots Q (wX Z X k kp (upd dr j x) td) (pc + 1) L st) : gg p l e R s m args below meth c Z.1 A n cells slots Q (wX Z X k kp dr td) pc L (.int x :: .int i :: .ref X.2.2.2 :: st) := by
  subst hi
  intro H locs ls hP hD hS hl
  have e : (nI j).toNatClampNeg = j := nI_clamp (by omega)
  refine va_iast K.1.1 K.1.2.1 K.2.1 hP hD hS 3 0 (cA := Z.2.1) (n := 60) (f := dr) rfl rfl (vp_in_nI hj (Nat.le_of_ble_eq_true rfl)) hd (fun H1 locs1 hP hD hS => ?_)
  rw [e] at hP hD
  exact kk H1 locs1 ls hP hD hS hl
theorem gX_len_draft {X : XT} {k kp dr : Nat → Int32} {td : Int32} (K : kx p s m args meth c Z.1 A (ty3 Z) cc own n) (hd : decode cc pc = .ok (.arraylength, 1)) (kk : gg p l e R s m args below meth c Z.1 A n cells slots Q (wX Z X k kp dr td) (pc + 1) L (.int (nI 60) :: st)) : gg p l e R s m args below meth c Z.1 A n cells slots Q (wX Z X k kp dr td) pc L (.ref X.2.2.2 :: st) :=
  fun H locs ls hP hD hS hl => va_alen K.1.1 K.1.2.1 K.2.1 hP 3 0 (cA := Z.2.1) (x := (60, .inl dr)) rfl (ty := .int) rfl (v := nI 60) rfl hd (kk H locs ls hP hD hS hl)
theorem gM_ld_known {Y : MT} {k : Nat → Int32} {th td rf rb re : Int32} (j : Nat) {i : Int32} (K : kx p s m args meth c Z.1 A (ty3 Z) cc own n) (hi : i = nI j) (hj : j < 57600) (hd : decode cc pc = .ok (.iaload, 1)) (kk : gg p l e R s m args below meth c Z.1 A n cells slots Q (wM Z Y k th td rf rb re) (pc + 1) L (.int (k j) :: st)) : gg p l e R s m args below meth c Z.1 A n cells slots Q (wM Z Y k th td rf rb re) pc L (.int i :: .ref Y.2 :: st) := by
  subst hi
  intro H locs ls hP hD hS hl
  have e : (nI j).toNatClampNeg = j := nI_clamp (by omega)
  refine va_iald K.1.1 K.1.2.1 K.2.1 hP 1 0 (cA := Z.2.1) (n := 57600) (f := k) rfl rfl (vp_in_nI hj (Nat.le_of_ble_eq_true rfl)) hd ?_
  rw [e]
  exact kk H locs ls hP hD hS hl
theorem gM_st_known {Y : MT} {k : Nat → Int32} {th td rf rb re : Int32} (j : Nat) {i x : Int32} (K : kx p s m args meth c Z.1 A (ty3 Z) cc own n) (hi : i = nI j) (hj : j < 57600) (hd : decode cc pc = .ok (.iastore, 1)) (kk : gg p l e R s m args below meth c Z.1 A n cells slots Q (wM Z Y (upd k j x) th td rf rb re) (pc + 1) L st) : gg p l e R s m args below meth c Z.1 A n cells slots Q (wM Z Y k th td rf rb re) pc L (.int x :: .int i :: .ref Y.2 :: st) := by
  subst hi
  intro H locs ls hP hD hS hl
  have e : (nI j).toNatClampNeg = j := nI_clamp (by omega)
  refine va_iast K.1.1 K.1.2.1 K.2.1 hP hD hS 1 0 (cA := Z.2.1) (n := 57600) (f := k) rfl rfl (vp_in_nI hj (Nat.le_of_ble_eq_true rfl)) hd (fun H1 locs1 hP hD hS => ?_)
  rw [e] at hP hD
  exact kk H1 locs1 ls hP hD hS hl
theorem gM_len_known {Y : MT} {k : Nat → Int32} {th td rf rb re : Int32} (K : kx p s m args meth c Z.1 A (ty3 Z) cc own n) (hd : decode cc pc = .ok (.arraylength, 1)) (kk : gg p l e R s m args below meth c Z.1 A n cells slots Q (wM Z Y k th td rf rb re) (pc + 1) L (.int (nI 57600) :: st)) : gg p l e R s m args below meth c Z.1 A n cells slots Q (wM Z Y k th td rf rb re) pc L (.ref Y.2 :: st) :=
  fun H locs ls hP hD hS hl => va_alen K.1.1 K.1.2.1 K.2.1 hP 1 0 (cA := Z.2.1) (x := (57600, .inl k)) rfl (ty := .int) rfl (v := nI 57600) rfl hd (kk H locs ls hP hD hS hl)
end
theorem k_L_L_put : okS RL 79 yL_put (Cond.codeWith yL_put cL_put 8 (some .int) [(0, 16, 19, 13), (0, 16, 23, 15)]) 7 := ⟨g_L_L_put, by decide +kernel⟩
theorem k_L_X0_put : okV RL 7 RX0 yX0_put (Cond.code yX0_put cX0_put 6 (some .int)) 5 := ⟨g_L_X0_put, by decide +kernel⟩
theorem k_X0_X0_needTableAndKey : okS RX0 20 yX0_needTableAndKey (Cond.code yX0_needTableAndKey cX0_needTableAndKey 2 none) 2 := ⟨g_X0_X0_needTableAndKey, by decide +kernel⟩
theorem k_X0_X0_needRange : okS RX0 28 yX0_needRange (Cond.code yX0_needRange cX0_needRange 2 none) 2 := ⟨g_X0_X0_needRange, by decide +kernel⟩
theorem k_X0_X0_valuesOf : okS RX0 24 yX0_valuesOf (Cond.code yX0_valuesOf cX0_valuesOf 1 (some .int)) 1 := ⟨g_X0_X0_valuesOf, by decide +kernel⟩
theorem k_X0_X0_needSpan : okS RX0 31 yX0_needSpan (Cond.code yX0_needSpan cX0_needSpan 2 none) 2 := ⟨g_X0_X0_needSpan, by decide +kernel⟩
theorem k_X0_X0_line : okS RX0 34 yX0_line (Cond.code yX0_line cX0_line 2 (some .int)) 2 := ⟨g_X0_X0_line, by decide +kernel⟩
theorem k_X0_X0_draftSpan : okV RX0 38 RX0 yX0_draftSpan (Cond.code yX0_draftSpan cX0_draftSpan 6 none) 4 := ⟨g_X0_X0_draftSpan, by decide +kernel⟩
theorem k_X0_X0_knownOn : okV RX0 77 RX0 yX0_knownOn (Cond.code yX0_knownOn cX0_knownOn 5 (some .int)) 3 := ⟨g_X0_X0_knownOn, by decide +kernel⟩
theorem k_X0_X0_index : okS RX0 140 yX0_index (Cond.code yX0_index cX0_index 3 (some .int)) 3 := ⟨g_X0_X0_index, by decide +kernel⟩
theorem k_X0_X0_recordDraft : okV RX0 42 RX0 yX0_recordDraft (Cond.code yX0_recordDraft cX0_recordDraft 6 (some .int)) 2 := ⟨g_X0_X0_recordDraft, by decide +kernel⟩
theorem k_X0_X0_draftKeepsReferences : okV RX0 149 RX0 yX0_draftKeepsReferences (Cond.code yX0_draftKeepsReferences cX0_draftKeepsReferences 5 (some .boolean)) 2 := ⟨g_X0_X0_draftKeepsReferences, by decide +kernel⟩
theorem k_X0_X0_isReferredTo : okV RX0 159 RX0 yX0_isReferredTo (Cond.code yX0_isReferredTo cX0_isReferredTo 4 (some .boolean)) 2 := ⟨g_X0_X0_isReferredTo, by decide +kernel⟩
theorem k_X0_X0_recordToday : okV RX0 155 RX0 yX0_recordToday (Cond.code yX0_recordToday cX0_recordToday 5 none) 3 := ⟨g_X0_X0_recordToday, by decide +kernel⟩
theorem k_L_X1_put : okV RL 84 RX1 yX1_put (Cond.code yX1_put cX1_put 7 (some .int)) 5 := ⟨g_L_X1_put, by decide +kernel⟩
theorem k_X1_X1_isKey : okS RX1 47 yX1_isKey (Cond.code yX1_isKey cX1_isKey 2 (some .boolean)) 2 := ⟨g_X1_X1_isKey, by decide +kernel⟩
theorem k_X1_X1_in : okS RX1 18 yX1_in (Cond.code yX1_in cX1_in 3 (some .boolean)) 3 := ⟨g_X1_X1_in, by decide +kernel⟩
theorem k_X1_X1_isSpan : okS RX1 50 yX1_isSpan (Cond.code yX1_isSpan cX1_isSpan 2 (some .boolean)) 2 := ⟨g_X1_X1_isSpan, by decide +kernel⟩
theorem k_X1_X1_isDay : okS RX1 22 yX1_isDay (Cond.code yX1_isDay cX1_isDay 1 (some .boolean)) 1 := ⟨g_X1_X1_isDay, by decide +kernel⟩
theorem k_X1_X1_mayAll : okV RX1 53 RX1 yX1_mayAll (Cond.code yX1_mayAll cX1_mayAll 7 (some .boolean)) 5 := ⟨g_X1_X1_mayAll, by decide +kernel⟩
theorem k_X1_X1_may : okV RX1 40 RX1 yX1_may (Cond.code yX1_may cX1_may 5 (some .boolean)) 4 := ⟨g_X1_X1_may, by decide +kernel⟩
theorem k_X1_X1_isReferred : okV RX1 36 RX1 yX1_isReferred (Cond.code yX1_isReferred cX1_isReferred 4 (some .boolean)) 2 := ⟨g_X1_X1_isReferred, by decide +kernel⟩
theorem k_X1_X1_of : okV RX1 33 RX1 yX1_of (Cond.code yX1_of cX1_of 5 (some .int)) 4 := ⟨g_X1_X1_of, by decide +kernel⟩
theorem k_X1_X1_place : okS RX1 26 yX1_place (Cond.code yX1_place cX1_place 4 (some .int)) 4 := ⟨g_X1_X1_place, by decide +kernel⟩
theorem k_X1_X1_holds : okV RX1 57 RX1 yX1_holds (Cond.code yX1_holds cX1_holds 2 (some .boolean)) 1 := ⟨g_X1_X1_holds, by decide +kernel⟩
theorem k_X1_X1_setsAll : okV RX1 60 RX1 yX1_setsAll (Cond.code yX1_setsAll cX1_setsAll 8 (some .int)) 5 := ⟨g_X1_X1_setsAll, by decide +kernel⟩
theorem k_X1_X1_sets : okV RX1 44 RX1 yX1_sets (Cond.code yX1_sets cX1_sets 7 (some .int)) 4 := ⟨g_X1_X1_sets, by decide +kernel⟩
theorem k_L_X1_thrown : okV RL 85 RX1 yX1_thrown (Cond.code yX1_thrown cX1_thrown 1 (some .int)) 0 := ⟨g_L_X1_thrown, by decide +kernel⟩
theorem k_L_L_erase : okS RL 89 yL_erase (Cond.codeWith yL_erase cL_erase 7 (some .int) [(0, 14, 17, 13), (0, 14, 21, 15)]) 6 := ⟨g_L_L_erase, by decide +kernel⟩
theorem k_L_X0_erase : okV RL 17 RX0 yX0_erase (Cond.code yX0_erase cX0_erase 5 (some .int)) 4 := ⟨g_L_X0_erase, by decide +kernel⟩
theorem k_L_X1_erase : okV RL 92 RX1 yX1_erase (Cond.code yX1_erase cX1_erase 6 (some .int)) 4 := ⟨g_L_X1_erase, by decide +kernel⟩
theorem k_L_L_eraseAll : okS RL 93 yL_eraseAll (Cond.codeWith yL_eraseAll cL_eraseAll 6 (some .int) [(0, 12, 15, 13)]) 5 := ⟨g_L_L_eraseAll, by decide +kernel⟩
theorem k_L_X0_eraseAll : okV RL 21 RX0 yX0_eraseAll (Cond.code yX0_eraseAll cX0_eraseAll 6 (some .int)) 3 := ⟨g_L_X0_eraseAll, by decide +kernel⟩
theorem k_X0_X0_loseWithReferences : okV RX0 45 RX0 yX0_loseWithReferences (Cond.code yX0_loseWithReferences cX0_loseWithReferences 5 (some .int)) 2 := ⟨g_X0_X0_loseWithReferences, by decide +kernel⟩
theorem k_X0_X0_lose : okV RX0 162 RX0 yX0_lose (Cond.code yX0_lose cX0_lose 3 (some .int)) 2 := ⟨g_X0_X0_lose, by decide +kernel⟩
theorem k_L_X1_eraseAll : okV RL 96 RX1 yX1_eraseAll (Cond.code yX1_eraseAll cX1_eraseAll 7 (some .int)) 3 := ⟨g_L_X1_eraseAll, by decide +kernel⟩
theorem k_L_L_restore : okS RL 97 yL_restore (Cond.codeWith yL_restore cL_restore 6 (some .int) [(0, 12, 15, 13), (0, 12, 19, 28), (0, 12, 23, 15)]) 5 := ⟨g_L_L_restore, by decide +kernel⟩
theorem k_L_X0_restore : okV RL 25 RX0 yX0_restore (Cond.code yX0_restore cX0_restore 4 (some .int)) 3 := ⟨g_L_X0_restore, by decide +kernel⟩
theorem k_X0_X0_needRecord : okV RX0 48 RX0 yX0_needRecord (Cond.code yX0_needRecord cX0_needRecord 2 none) 1 := ⟨g_X0_X0_needRecord, by decide +kernel⟩
theorem k_X0_X0_draftRecord : okV RX0 52 RX0 yX0_draftRecord (Cond.code yX0_draftRecord cX0_draftRecord 4 none) 2 := ⟨g_X0_X0_draftRecord, by decide +kernel⟩
theorem k_L_X1_restore : okV RL 99 RX1 yX1_restore (Cond.code yX1_restore cX1_restore 7 (some .int)) 3 := ⟨g_L_X1_restore, by decide +kernel⟩
theorem k_X1_X1_errorOfRecord : okV RX1 64 RX1 yX1_errorOfRecord (Cond.code yX1_errorOfRecord cX1_errorOfRecord 3 (some .int)) 2 := ⟨g_X1_X1_errorOfRecord, by decide +kernel⟩
theorem k_L_L_pass : okS RL 100 yL_pass (Cond.codeWith yL_pass cL_pass 4 (some .int) [(0, 9, 12, 13), (0, 9, 15, 15)]) 3 := ⟨g_L_L_pass, by decide +kernel⟩
theorem k_L_X0_pass : okV RL 30 RX0 yX0_pass (Cond.code yX0_pass cX0_pass 4 (some .int)) 1 := ⟨g_L_X0_pass, by decide +kernel⟩
theorem k_X0_X0_keepOn : okV RX0 71 RX0 yX0_keepOn (Cond.code yX0_keepOn cX0_keepOn 3 none) 2 := ⟨g_X0_X0_keepOn, by decide +kernel⟩
theorem k_X0_X0_copyDay : okV RX0 74 RX0 yX0_copyDay (Cond.code yX0_copyDay cX0_copyDay 3 none) 2 := ⟨g_X0_X0_copyDay, by decide +kernel⟩
theorem k_L_X1_pass : okV RL 103 RX1 yX1_pass (Cond.code yX1_pass cX1_pass 4 (some .int)) 1 := ⟨g_L_X1_pass, by decide +kernel⟩
theorem k_L_X0_today : okV RL 104 RX0 yX0_today (Cond.code yX0_today cX0_today 1 (some .int)) 0 := ⟨g_L_X0_today, by decide +kernel⟩
theorem k_L_X1_today : okV RL 107 RX1 yX1_today (Cond.code yX1_today cX1_today 1 (some .int)) 0 := ⟨g_L_X1_today, by decide +kernel⟩
theorem k_L_L_value : okS RL 108 yL_value (Cond.codeWith yL_value cL_value 7 (some .int) [(0, 14, 17, 13), (0, 14, 21, 28)]) 6 := ⟨g_L_L_value, by decide +kernel⟩
theorem k_L_X0_value : okV RL 34 RX0 yX0_value (Cond.code yX0_value cX0_value 5 (some .int)) 4 := ⟨g_L_X0_value, by decide +kernel⟩
theorem k_L_X1_value : okV RL 110 RX1 yX1_value (Cond.code yX1_value cX1_value 5 (some .int)) 4 := ⟨g_L_X1_value, by decide +kernel⟩
theorem k_L_L_keys : okS RL 111 yL_keys (Cond.codeWith yL_keys cL_keys 6 (some .int) [(0, 12, 15, 13), (0, 12, 19, 28)]) 5 := ⟨g_L_L_keys, by decide +kernel⟩
theorem k_L_X0_keys : okV RL 37 RX0 yX0_keys (Cond.code yX0_keys cX0_keys 6 (some .int)) 3 := ⟨g_L_X0_keys, by decide +kernel⟩
theorem k_L_X1_keys : okV RL 113 RX1 yX1_keys (Cond.code yX1_keys cX1_keys 6 (some .int)) 3 := ⟨g_L_X1_keys, by decide +kernel⟩
theorem k_L_L_joined : okS RL 114 yL_joined (Cond.codeWith yL_joined cL_joined 6 (some .int) [(0, 12, 15, 13), (0, 12, 19, 28)]) 5 := ⟨g_L_L_joined, by decide +kernel⟩
theorem k_L_X0_joined : okV RL 40 RX0 yX0_joined (Cond.code yX0_joined cX0_joined 4 (some .int)) 3 := ⟨g_L_X0_joined, by decide +kernel⟩
theorem k_X0_X0_joinedOn : okV RX0 81 RX0 yX0_joinedOn (Cond.code yX0_joinedOn cX0_joinedOn 5 (some .int)) 3 := ⟨g_X0_X0_joinedOn, by decide +kernel⟩
theorem k_L_X1_joined : okV RL 116 RX1 yX1_joined (Cond.code yX1_joined cX1_joined 4 (some .int)) 3 := ⟨g_L_X1_joined, by decide +kernel⟩
theorem k_X1_X1_joinedOf : okV RX1 68 RX1 yX1_joinedOf (Cond.code yX1_joinedOf cX1_joinedOf 5 (some .int)) 3 := ⟨g_X1_X1_joinedOf, by decide +kernel⟩
theorem k_L_L_runs : okS RL 117 yL_runs (Cond.codeWith yL_runs cL_runs 6 (some .int) [(0, 12, 15, 13), (0, 12, 19, 28)]) 5 := ⟨g_L_L_runs, by decide +kernel⟩
theorem k_L_X0_runs : okV RL 43 RX0 yX0_runs (Cond.code yX0_runs cX0_runs 7 (some .int)) 3 := ⟨g_L_X0_runs, by decide +kernel⟩
theorem k_X0_X0_startsRun : okV RX0 84 RX0 yX0_startsRun (Cond.code yX0_startsRun cX0_startsRun 5 (some .boolean)) 3 := ⟨g_X0_X0_startsRun, by decide +kernel⟩
theorem k_L_X1_runs : okV RL 119 RX1 yX1_runs (Cond.code yX1_runs cX1_runs 4 (some .int)) 3 := ⟨g_L_X1_runs, by decide +kernel⟩
theorem k_X1_X1_runsOf : okV RX1 78 RX1 yX1_runsOf (Cond.code yX1_runsOf cX1_runsOf 6 (some .int)) 3 := ⟨g_X1_X1_runsOf, by decide +kernel⟩
theorem k_X1_X1_begins : okV RX1 72 RX1 yX1_begins (Cond.code yX1_begins cX1_begins 6 (some .boolean)) 4 := ⟨g_X1_X1_begins, by decide +kernel⟩
theorem k_L_L_run : okS RL 120 yL_run (Cond.codeWith yL_run cL_run 7 (some .int) [(0, 14, 17, 13), (0, 14, 21, 28)]) 6 := ⟨g_L_L_run, by decide +kernel⟩
theorem k_L_X0_run : okV RL 46 RX0 yX0_run (Cond.code yX0_run cX0_run 7 (some .int)) 4 := ⟨g_L_X0_run, by decide +kernel⟩
theorem k_X0_X0_firstDayOfRun : okV RX0 88 RX0 yX0_firstDayOfRun (Cond.code yX0_firstDayOfRun cX0_firstDayOfRun 6 (some .int)) 3 := ⟨g_X0_X0_firstDayOfRun, by decide +kernel⟩
theorem k_X0_X0_runNumber : okV RX0 96 RX0 yX0_runNumber (Cond.code yX0_runNumber cX0_runNumber 4 (some .int)) 3 := ⟨g_X0_X0_runNumber, by decide +kernel⟩
theorem k_X0_X0_endOfRun : okV RX0 124 RX0 yX0_endOfRun (Cond.code yX0_endOfRun cX0_endOfRun 6 (some .int)) 3 := ⟨g_X0_X0_endOfRun, by decide +kernel⟩
theorem k_L_X1_run : okV RL 122 RX1 yX1_run (Cond.code yX1_run cX1_run 8 (some .int)) 4 := ⟨g_L_X1_run, by decide +kernel⟩
theorem k_X1_X1_told : okV RX1 81 RX1 yX1_told (Cond.code yX1_told cX1_told 5 (some .int)) 4 := ⟨g_X1_X1_told, by decide +kernel⟩
theorem k_X1_X1_end : okV RX1 75 RX1 yX1_end (Cond.code yX1_end cX1_end 6 (some .int)) 4 := ⟨g_X1_X1_end, by decide +kernel⟩
theorem k_L_L_joinedRuns : okS RL 123 yL_joinedRuns (Cond.codeWith yL_joinedRuns cL_joinedRuns 5 (some .int) [(0, 10, 13, 13), (0, 10, 17, 28)]) 4 := ⟨g_L_L_joinedRuns, by decide +kernel⟩
theorem k_L_X0_joinedRuns : okV RL 49 RX0 yX0_joinedRuns (Cond.code yX0_joinedRuns cX0_joinedRuns 5 (some .int)) 2 := ⟨g_L_X0_joinedRuns, by decide +kernel⟩
theorem k_X0_X0_startsJoinedRun : okV RX0 99 RX0 yX0_startsJoinedRun (Cond.code yX0_startsJoinedRun cX0_startsJoinedRun 4 (some .boolean)) 3 := ⟨g_X0_X0_startsJoinedRun, by decide +kernel⟩
theorem k_L_X1_joinedRuns : okV RL 126 RX1 yX1_joinedRuns (Cond.code yX1_joinedRuns cX1_joinedRuns 6 (some .int)) 2 := ⟨g_L_X1_joinedRuns, by decide +kernel⟩
theorem k_L_L_rows : okS RL 127 yL_rows (Cond.codeWith yL_rows cL_rows 5 (some .int) [(0, 10, 13, 13)]) 4 := ⟨g_L_L_rows, by decide +kernel⟩
theorem k_L_X0_rows : okV RL 53 RX0 yX0_rows (Cond.code yX0_rows cX0_rows 7 (some .int)) 2 := ⟨g_L_X0_rows, by decide +kernel⟩
theorem k_X0_X0_isKept : okV RX0 102 RX0 yX0_isKept (Cond.code yX0_isKept cX0_isKept 2 (some .boolean)) 1 := ⟨g_X0_X0_isKept, by decide +kernel⟩
theorem k_X0_X0_startsRow : okV RX0 106 RX0 yX0_startsRow (Cond.code yX0_startsRow cX0_startsRow 4 (some .boolean)) 3 := ⟨g_X0_X0_startsRow, by decide +kernel⟩
theorem k_X0_X0_sameRun : okV RX0 118 RX0 yX0_sameRun (Cond.code yX0_sameRun cX0_sameRun 5 (some .boolean)) 4 := ⟨g_X0_X0_sameRun, by decide +kernel⟩
theorem k_L_X1_rows : okV RL 129 RX1 yX1_rows (Cond.code yX1_rows cX1_rows 3 (some .int)) 2 := ⟨g_L_X1_rows, by decide +kernel⟩
theorem k_X1_X1_rowsOf : okV RX1 90 RX1 yX1_rowsOf (Cond.code yX1_rowsOf cX1_rowsOf 8 (some .int)) 3 := ⟨g_X1_X1_rowsOf, by decide +kernel⟩
theorem k_L_L_rowRun : okS RL 130 yL_rowRun (Cond.codeWith yL_rowRun cL_rowRun 6 (some .int) [(0, 12, 15, 13), (0, 12, 19, 28)]) 5 := ⟨g_L_L_rowRun, by decide +kernel⟩
theorem k_L_X0_rowRun : okV RL 56 RX0 yX0_rowRun (Cond.code yX0_rowRun cX0_rowRun 6 (some .int)) 3 := ⟨g_L_X0_rowRun, by decide +kernel⟩
theorem k_X0_X0_startOfRow : okV RX0 109 RX0 yX0_startOfRow (Cond.code yX0_startOfRow cX0_startOfRow 6 (some .int)) 2 := ⟨g_X0_X0_startOfRow, by decide +kernel⟩
theorem k_X0_X0_recordOfStart : okS RX0 112 yX0_recordOfStart (Cond.code yX0_recordOfStart cX0_recordOfStart 1 (some .int)) 1 := ⟨g_X0_X0_recordOfStart, by decide +kernel⟩
theorem k_X0_X0_validOfStart : okS RX0 115 yX0_validOfStart (Cond.code yX0_validOfStart cX0_validOfStart 1 (some .int)) 1 := ⟨g_X0_X0_validOfStart, by decide +kernel⟩
theorem k_L_X1_rowRun : okV RL 132 RX1 yX1_rowRun (Cond.code yX1_rowRun cX1_rowRun 4 (some .int)) 3 := ⟨g_L_X1_rowRun, by decide +kernel⟩
theorem k_X1_X1_errorOfRow : okV RX1 93 RX1 yX1_errorOfRow (Cond.code yX1_errorOfRow cX1_errorOfRow 4 (some .int)) 3 := ⟨g_X1_X1_errorOfRow, by decide +kernel⟩
theorem k_L_L_rowFrom : okS RL 133 yL_rowFrom (Cond.codeWith yL_rowFrom cL_rowFrom 6 (some .int) [(0, 12, 15, 13), (0, 12, 19, 28)]) 5 := ⟨g_L_L_rowFrom, by decide +kernel⟩
theorem k_L_X0_rowFrom : okV RL 59 RX0 yX0_rowFrom (Cond.code yX0_rowFrom cX0_rowFrom 4 (some .int)) 3 := ⟨g_L_X0_rowFrom, by decide +kernel⟩
theorem k_L_X1_rowFrom : okV RL 135 RX1 yX1_rowFrom (Cond.code yX1_rowFrom cX1_rowFrom 4 (some .int)) 3 := ⟨g_L_X1_rowFrom, by decide +kernel⟩
theorem k_L_L_rowTo : okS RL 136 yL_rowTo (Cond.codeWith yL_rowTo cL_rowTo 6 (some .int) [(0, 12, 15, 13), (0, 12, 19, 28)]) 5 := ⟨g_L_L_rowTo, by decide +kernel⟩
theorem k_L_X0_rowTo : okV RL 62 RX0 yX0_rowTo (Cond.code yX0_rowTo cX0_rowTo 9 (some .int)) 3 := ⟨g_L_X0_rowTo, by decide +kernel⟩
theorem k_L_X1_rowTo : okV RL 138 RX1 yX1_rowTo (Cond.code yX1_rowTo cX1_rowTo 4 (some .int)) 3 := ⟨g_L_X1_rowTo, by decide +kernel⟩
theorem k_L_L_corrections : okS RL 139 yL_corrections (Cond.codeWith yL_corrections cL_corrections 8 (some .int) [(0, 16, 19, 13), (0, 16, 23, 28)]) 7 := ⟨g_L_L_corrections, by decide +kernel⟩
theorem k_L_X0_corrections : okV RL 65 RX0 yX0_corrections (Cond.code yX0_corrections cX0_corrections 9 (some .int)) 5 := ⟨g_L_X0_corrections, by decide +kernel⟩
theorem k_L_X1_corrections : okV RL 141 RX1 yX1_corrections (Cond.code yX1_corrections cX1_corrections 9 (some .int)) 5 := ⟨g_L_X1_corrections, by decide +kernel⟩
theorem k_L_L_longest : okS RL 142 yL_longest (Cond.codeWith yL_longest cL_longest 6 (some .int) [(0, 12, 15, 13), (0, 12, 19, 28)]) 5 := ⟨g_L_L_longest, by decide +kernel⟩
theorem k_L_X0_longest : okV RL 68 RX0 yX0_longest (Cond.code yX0_longest cX0_longest 7 (some .int)) 3 := ⟨g_L_X0_longest, by decide +kernel⟩
theorem k_L_X1_longest : okV RL 144 RX1 yX1_longest (Cond.code yX1_longest cX1_longest 7 (some .int)) 3 := ⟨g_L_X1_longest, by decide +kernel⟩
theorem k_L_L_average : okS RL 145 yL_average (Cond.codeWith yL_average cL_average 5 (some .int) [(0, 10, 13, 13), (0, 10, 17, 28), (0, 10, 21, 15)]) 4 := ⟨g_L_L_average, by decide +kernel⟩
theorem k_L_X0_average : okV RL 71 RX0 yX0_average (Cond.code yX0_average cX0_average 7 (some .float)) 2 := ⟨g_L_X0_average, by decide +kernel⟩
theorem k_L_X1_average : okV RL 148 RX1 yX1_average (Cond.code yX1_average cX1_average 8 (some .float)) 2 := ⟨g_L_X1_average, by decide +kernel⟩
