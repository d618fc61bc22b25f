/-! the two constructors -/
theorem arr_of {U : State} {args : Array Value} {ty : FieldType} (h : (Cond.arrayClass ty).before args U = true) (hs : ∀ C, ty ≠ .object C) : ∃ cA : ClassId, ArrOfT U cA ty ∧ va_RA U cA ty := by
  obtain ⟨cA, kA, comp, h1, h2, h3⟩ := Cond.arrayClass_spec h
  refine ⟨cA, fun n z => ⟨fun k h => (by cases h), kA, h2, comp, h3⟩, ?_⟩
  cases ty with
  | object C => exact absurd rfl (hs C)
  | _ => exact h1
section
variable {p : Program} {l : Launch} {e : Env} {R : Room} {s : State} {m : MethodId} {args : Array Value} {below : List Frame} {meth : Method} {c : Code} {Z : ZT} {A : Nat → Prop} {cc : ByteArray} {own : String} {n cells slots pc : Nat} {Q : State → Prop} {ws : va_W} {L : List (Nat × Value)} {st : List Value} {tys : List (ClassId × FieldType)} {D : va_G}
theorem gg_objInit (K : kx p s m args meth c D A tys cc own n) {idx a : Nat} (h1 : Cond.methodLink own idx objectInit ∈ GW) (hd : decode cc pc = .ok (.invokespecial idx, 3)) (hr : (Nat.ble 1 R.frames && Nat.ble 20 R.locals) = true) (hw : c8 st = true)
    (kk : gg p l e R s m args below meth c D A n cells slots Q ws (pc + 3) L st) : gg p l e R s m args below meth c D A n cells slots Q ws pc L (.ref a :: st) := by
  intro H locs ls hP hD hS hl
  rw [Bool.and_eq_true] at hr
  have e1 := Nat.le_of_ble_eq_true hr.1
  have e2 := Nat.le_of_ble_eq_true hr.2
  have e3 := Nat.le_of_ble_eq_true hw
  refine W.objInit K.1.1 K.1.2.1 K.1.2.2.2.1 (K.1.2.2.2.2 _ h1) (K.1.2.2.2.2 _ wd_8) (K.1.2.2.2.2 _ wd_9) rfl (by rw [K.1.2.2.1]; exact hl.1) rfl hd e1 ?_ (kk H locs ls hP hD hS hl)
  show 2 * 0 + (st.map fun v => v.category).sum + 12 ≤ R.locals
  omega
theorem gg_newI (K : kx p s m args meth c Z.1 A (ty3 Z) cc own n) {x : Int32} (N : Nat) (hx : x = nI N) (hN : Nat.ble N 57600 = true) (hr : (Nat.ble (cells + 1) R.cells && Nat.ble (slots + N) R.slots) = true) (hd : decode cc pc = .ok (.newarray .int, 2))
    (kk : ∀ q : Nat, gg p l e R s m args below meth c Z.1 A n (cells + 1) (slots + N) Q (ws ++ [(q, .inl (Z.2.1, N, .inl (fun _ => 0)))]) (pc + 2) L (.ref q :: st)) : gg p l e R s m args below meth c Z.1 A n cells slots Q ws pc L (.int x :: st) := by
  intro H locs ls hP hD hS hl
  subst hx
  rw [Bool.and_eq_true] at hr
  have hN := Nat.le_of_ble_eq_true hN
  have hb : N * componentBytes .int ≤ 57600 * 4 := Nat.mul_le_mul hN (Nat.le_refl 4)
  refine va_newa (atype := .int) (ty := .int) (N' := N) (a0 := (N, .inl (fun _ => 0))) K.1.1 K.1.2.1 (K.1.2.2.2.2 _ wd_11) rfl K.2.1 hP hD hS K.2.2.1 (fun _ => rfl) (nI_pos (by omega)) (nI_clamp (by omega)) (Nat.le_trans hb (Nat.le_of_ble_eq_true rfl)) (Nat.le_of_ble_eq_true hr.1) (Nat.le_of_ble_eq_true hr.2) hd (fun q cA H1 hK1 hP1 hD1 hS1 => ?_)
  have e1 : s.vm.findClass ("[" ++ FieldType.int.toString) = some cA := (hK1.2 1 _ rfl).2
  have e2 : s.vm.findClass ("[" ++ FieldType.int.toString) = some Z.2.1 := (K.2.1.2 0 _ rfl).2
  have e3 : cA = Z.2.1 := Option.some.inj (e1.symm.trans e2)
  rw [e3] at hP1 hD1
  exact kk q H1 locs ls hP1 hD1 hS1 hl
theorem gX_iknown {x v : Nat} {fs : List Value} {ws' : va_W} (K : kx p s m args meth c Z.1 A (ty3 Z) cc RX0 n) (hin : meth.name = "<init>") (h0 : ws[0]? = some (x, .inr (0, fs))) (hl9 : 0 < fs.length) (hd : decode cc pc = .ok (.putfield 10, 3)) (hw : ws.set 0 (x, .inr (0, fs.set 0 (.ref v))) = ws')
    (kk : gg p l e R s m args below meth c Z.1 A n cells slots Q ws' (pc + 3) L st) : gg p l e R s m args below meth c Z.1 A n cells slots Q ws pc L (.ref v :: .ref x :: st) := by
  intro H locs ls hP hD hS hl
  subst hw
  exact va_putF (D := Z.1) (ci := 0) (v := .ref v) (ty := .array .int) (C := RX0) (T := TX0) (N := 4) K.1.1 K.1.2.1 K.1.2.2.2.2 inX0 tyX0 tyX0_ok nmX0 K.1.2.2.2.1 K.2.1 hP hD hS 0 h0 rfl 0 (by decide) (K.1.2.2.2.2 _ wd_12) (fun _ h9 => h9) rfl hin rfl (by decide +kernel) rfl rfl hl9 hd (fun H1 locs1 hP hD hS => kk H1 locs1 ls hP hD hS hl)
theorem gX_ikept {x v : Nat} {fs : List Value} {ws' : va_W} (K : kx p s m args meth c Z.1 A (ty3 Z) cc RX0 n) (hin : meth.name = "<init>") (h0 : ws[0]? = some (x, .inr (0, fs))) (hl9 : 1 < fs.length) (hd : decode cc pc = .ok (.putfield 14, 3)) (hw : ws.set 0 (x, .inr (0, fs.set 1 (.ref v))) = ws')
    (kk : gg p l e R s m args below meth c Z.1 A n cells slots Q ws' (pc + 3) L st) : gg p l e R s m args below meth c Z.1 A n cells slots Q ws pc L (.ref v :: .ref x :: st) := by
  intro H locs ls hP hD hS hl
  subst hw
  exact va_putF (D := Z.1) (ci := 0) (v := .ref v) (ty := .array .int) (C := RX0) (T := TX0) (N := 4) K.1.1 K.1.2.1 K.1.2.2.2.2 inX0 tyX0 tyX0_ok nmX0 K.1.2.2.2.1 K.2.1 hP hD hS 0 h0 rfl 1 (by decide) (K.1.2.2.2.2 _ wd_13) (fun _ h9 => h9) rfl hin rfl (by decide +kernel) rfl rfl hl9 hd (fun H1 locs1 hP hD hS => kk H1 locs1 ls hP hD hS hl)
theorem gX_idraft {x v : Nat} {fs : List Value} {ws' : va_W} (K : kx p s m args meth c Z.1 A (ty3 Z) cc RX0 n) (hin : meth.name = "<init>") (h0 : ws[0]? = some (x, .inr (0, fs))) (hl9 : 2 < fs.length) (hd : decode cc pc = .ok (.putfield 17, 3)) (hw : ws.set 0 (x, .inr (0, fs.set 2 (.ref v))) = ws')
    (kk : gg p l e R s m args below meth c Z.1 A n cells slots Q ws' (pc + 3) L st) : gg p l e R s m args below meth c Z.1 A n cells slots Q ws pc L (.ref v :: .ref x :: st) := by
  intro H locs ls hP hD hS hl
  subst hw
  exact va_putF (D := Z.1) (ci := 0) (v := .ref v) (ty := .array .int) (C := RX0) (T := TX0) (N := 4) K.1.1 K.1.2.1 K.1.2.2.2.2 inX0 tyX0 tyX0_ok nmX0 K.1.2.2.2.1 K.2.1 hP hD hS 0 h0 rfl 2 (by decide) (K.1.2.2.2.2 _ wd_14) (fun _ h9 => h9) rfl hin rfl (by decide +kernel) rfl rfl hl9 hd (fun H1 locs1 hP hD hS => kk H1 locs1 ls hP hD hS hl)
end
def kI0 (j : Nat) : Nat → Int32 := fun z => if z < j then -1 else 0
theorem kI0_0 : (fun _ => 0 : Nat → Int32) = kI0 0 := funext (fun z => (if_neg (by omega)).symm)
theorem kI0_step (j : Nat) : upd (kI0 j) j (-1) = kI0 (j + 1) := by
  funext z
  unfold upd kI0
  by_cases h : z = j
  · rw [if_pos h, if_pos (by omega)]
  · rw [if_neg h]
    by_cases h2 : z < j
    · rw [if_pos h2, if_pos (by omega)]
    · rw [if_neg h2, if_neg (by omega)]
theorem vX_new : vX (kI0 960) (fun _ => 0) 0 = fun _ _ _ => -1 := by
  funext r l d
  unfold vX
  by_cases h : r ≤ 0 ∧ l < 16 ∧ d < 60
  · rw [if_pos h, show kq (fun _ => 0) r = 0 from rfl]
    exact if_pos (by unfold ix; omega)
  · rw [if_neg h]
theorem okX_new : okX (fun _ => 0) 0 := ⟨by omega, rfl, rfl, fun r hr => by
  have h0 : r = 0 := by omega
  subst h0
  exact ⟨⟨rfl, Nat.le_refl 0⟩, Or.inl rfl⟩⟩
set_option maxRecDepth 100000 in
theorem x_init {l : Launch} {Z : ZT} {x : Nat} : mA l Z.1 (ty3 Z) yX0_init cX0_init 2 none (rmk 2 40 3 57720) [(x, .inr (0, [.null, .null, .null, .int 0]))] [.ref x] (fun v u => v = none ∧ ∃ a b c : Nat, u = wX Z (x, a, b, c) (kI0 960) (fun _ => 0) (fun _ => 0) 0) := by
  refine mA_intro (own := RX0) [(0, .ref x)] (by decide +kernel) rfl rfl rfl rfl ?_
  intro p e s m args below meth c A K hr hin
  have hin := hin rfl
  refine gg_aload_n K (i := 0) dX0_init_0 rfl rfl ?_
  refine gg_objInit K wd_7 dX0_init_1 rfl rfl ?_
  refine gg_aload_n K (i := 0) dX0_init_4 rfl rfl ?_
  refine gg_ldc K wd_10 dX0_init_5 ?_
  refine gg_newI K 57600 rfl rfl rfl dX0_init_7 (fun a => ?_)
  refine gX_iknown (ws' := [(x, .inr (0, [.ref a, .null, .null, .int 0])), (a, .inl (Z.2.1, 57600, .inl (fun _ => 0)))]) K hin rfl (Nat.le_of_ble_eq_true rfl) dX0_init_9 rfl ?_
  refine gg_aload_n K (i := 0) dX0_init_12 rfl rfl ?_
  refine gg_bipush K (v := 60) dX0_init_13 (by decide) ?_
  refine gg_newI K 60 rfl rfl rfl dX0_init_15 (fun b => ?_)
  refine gX_ikept (ws' := [(x, .inr (0, [.ref a, .ref b, .null, .int 0])), (a, .inl (Z.2.1, 57600, .inl (fun _ => 0))), (b, .inl (Z.2.1, 60, .inl (fun _ => 0)))]) K hin rfl (Nat.le_of_ble_eq_true rfl) dX0_init_17 rfl ?_
  refine gg_aload_n K (i := 0) dX0_init_20 rfl rfl ?_
  refine gg_bipush K (v := 60) dX0_init_21 (by decide) ?_
  refine gg_newI K 60 rfl rfl rfl dX0_init_23 (fun d => ?_)
  refine gX_idraft (ws' := (wX Z (x, a, b, d) (fun _ => 0) (fun _ => 0) (fun _ => 0) 0)) K hin rfl (Nat.le_of_ble_eq_true rfl) dX0_init_25 rfl ?_
  refine gg_iconst K (v := 0) dX0_init_28 (by decide) ?_
  refine gg_istore_n K (i := 1) dX0_init_29 rfl (by decide) ?_
  refine gg_sub (L' := [(1, .int (nI 0)), (0, .ref x)]) ⟨rfl, rfl, trivial⟩ ?_
  refine gg_loop (fun i w L => ∃ j : Nat, j + i = 961 ∧ w = wX Z (x, a, b, d) (kI0 j) (fun _ => 0) (fun _ => 0) 0 ∧ j ≤ 960 ∧ L = [(1, .int (nI j)), (0, .ref x)]) (fun w L h => ?_) (fun i w L h ih => ?_) 961 _ _ ⟨0, rfl, by rw [← kI0_0], by omega, rfl⟩
  · obtain ⟨j, hj, -, h2, -⟩ := h
    omega
  obtain ⟨j, hj, rfl, hj1, rfl⟩ := h
  refine gg_iload_n K (i := 1) dX0_init_30 rfl rfl ?_
  refine gg_sipush K (v := 960) dX0_init_31 (by decide) ?_
  refine gg_icmp_ge K (tgt := 50) dX0_init_34 (by decide) (fun h34 => ?_) (fun h34 => ?_)
  · have hj2 := i_le (a := 960) h34
    have hj3 : j = 960 := by omega
    subst hj3
    exact gg_vret K hr dX0_init_50 (Nat.le_of_ble_eq_true rfl) (Nat.le_of_ble_eq_true rfl) ⟨rfl, a, b, d, rfl⟩
  have hj2 := i_nle (a := 960) h34
  refine gg_aload_n K (i := 0) dX0_init_37 rfl rfl ?_
  refine gX_known K dX0_init_38 ?_
  refine gg_iload_n K (i := 1) dX0_init_41 rfl rfl ?_
  refine gg_iconst K (v := (-1)) dX0_init_42 (by decide) ?_
  refine gX_st_known (X := (x, a, b, d)) j K rfl (by omega) dX0_init_43 ?_
  rw [kI0_step]
  refine gg_iinc K (v := nI (j + 1)) dX0_init_44 rfl (nI_inc (j)) (by decide) ?_
  refine gg_goto K (tgt := 30) dX0_init_47 (by decide) ?_
  refine gg_sub (L' := [(1, .int (nI (j + 1))), (0, .ref x)]) ⟨rfl, rfl, trivial⟩ ?_
  exact ih _ _ ⟨j + 1, by omega, rfl, by omega, rfl⟩