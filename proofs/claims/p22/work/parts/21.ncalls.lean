/-! the questions, asked within their ranges: they answer, and take no room -/
section
variable {p : Program} {l : Launch} {e : Env} {R : Room} {s : State} {m : MethodId} {args : Array Value} {below : List Frame} {meth : Method} {c : Code} {Z : ZT} {A : Nat → Prop} {cc : ByteArray} {own : String} {n cells slots pc : Nat} {Q : State → Prop} {ws : va_W} {L : List (Nat × Value)} {st : List Value}
variable {y : MethodName} {cd : ByteArray} {maxL k9 idx : Nat} {ret : Option FieldType} {rm : Room} {As rest : List Value}
theorem gg_callS0 {D : va_G} {tys : List (ClassId × FieldType)} (K : kx p s m args meth c D A tys cc own n) (ok : okS own idx y (.code y cd maxL ret) k9) (hM : mA l D tys y cd maxL ret rm [] As (fun r _ => r = none)) (hd : decode cc pc = .ok (.invokestatic idx, 3)) (hst : st = As.reverse ++ rest) (hAs : As.length = k9) (hr : rOk rm R maxL cells slots = true) (hw : c8 rest = true) (hz : rm.cells = 0 ∧ rm.slots = 0)
    (kk : gg p l e R s m args below meth c D A n cells slots Q ws (pc + 3) L rest) : gg p l e R s m args below meth c D A n cells slots Q ws pc L st :=
  gg_callS K ok hM hd hst hAs hr hw (fun v' u h => by subst h; rw [hz.1, hz.2]; exact kk)
theorem gg_call0X {X : XT} {k kp dr : Nat → Int32} {td : Int32} (K : kx p s m args meth c Z.1 A (ty3 Z) cc own n) (ok : okV own idx RX0 y (.code y cd maxL ret) k9) (hM : mA l Z.1 (ty3 Z) y cd maxL ret rm (wX Z X k kp dr td) (.ref X.1 :: As) (fun r u => r = none ∧ u = wX Z X k kp dr td)) (hd : decode cc pc = .ok (.invokevirtual idx, 3)) (hst : st = As.reverse ++ .ref X.1 :: rest) (hAs : As.length = k9) (hr : rOk rm R maxL cells slots = true) (hw : c8 rest = true) (hz : rm.cells = 0 ∧ rm.slots = 0)
    (kk : gg p l e R s m args below meth c Z.1 A n cells slots Q (wX Z X k kp dr td) (pc + 3) L rest) : gg p l e R s m args below meth c Z.1 A n cells slots Q (wX Z X k kp dr td) pc L st :=
  gg_callUX K ok hM hd hst hAs hr hw hz (fun v' u h => by obtain ⟨rfl, rfl⟩ := h; exact kk)
end
set_option maxRecDepth 100000 in
theorem n_needRange {l : Launch} {D : va_G} {tys : List (ClassId × FieldType)} (j b : Nat) {x z : Int32} (h : j < b) (hb : b < 2 ^ 31) (hx : x = nI j) (hz : z = nI b) : mA l D tys yX0_needRange cX0_needRange 2 none (rmk 0 0 0 0) [] [.int x, .int z] (fun r _ => r = none) := by
  refine mA_intro (own := RX0) [(0, .int x), (1, .int z)] (by decide +kernel) rfl rfl rfl rfl ?_
  intro p e s m args below meth c A K hr hin
  subst hx hz
  refine gg_iload_n K (i := 0) dX0_needRange_0 rfl rfl ?_
  refine gg_if_lt K (tgt := 9) dX0_needRange_1 (by decide) (fun h1 => ?_) (fun h1 => ?_)
  · exact absurd h1 (nI_pos (by omega))
  refine gg_iload_n K (i := 0) dX0_needRange_4 rfl rfl ?_
  refine gg_iload_n K (i := 1) dX0_needRange_5 rfl rfl ?_
  refine gg_icmp_lt K (tgt := 19) dX0_needRange_6 (by decide) (fun h6 => ?_) (fun h6 => ?_)
  · exact gg_vret K hr dX0_needRange_19 (Nat.le_of_ble_eq_true rfl) (Nat.le_of_ble_eq_true rfl) rfl
  · exact absurd (nI_lt h hb) h6
set_option maxRecDepth 100000 in
theorem n_needTK {l : Launch} {D : va_G} {tys : List (ClassId × FieldType)} (t' y' : Nat) {t y : Int32} (a1 : t' < 2) (b1 : y' < 8) (a2 : t = nI t') (b2 : y = nI y') : mA l D tys yX0_needTableAndKey cX0_needTableAndKey 2 none (rmk 1 30 0 0) [] [.int t, .int y] (fun r _ => r = none) := by
  refine mA_intro (own := RX0) [(0, .int t), (1, .int y)] (by decide +kernel) rfl rfl rfl rfl ?_
  intro p e s m args below meth c A K hr hin
  refine gg_iload_n K (i := 0) dX0_needTableAndKey_0 rfl rfl ?_
  refine gg_iconst K (v := 2) dX0_needTableAndKey_1 (by decide) ?_
  refine gg_callS0 K k_X0_X0_needRange (n_needRange t' 2 a1 (by omega) a2 rfl) dX0_needTableAndKey_2 rfl rfl rfl rfl ⟨rfl, rfl⟩ ?_
  refine gg_iload_n K (i := 1) dX0_needTableAndKey_5 rfl rfl ?_
  refine gg_bipush K (v := 8) dX0_needTableAndKey_6 (by decide) ?_
  refine gg_callS0 K k_X0_X0_needRange (n_needRange y' 8 b1 (by omega) b2 rfl) dX0_needTableAndKey_8 rfl rfl rfl rfl ⟨rfl, rfl⟩ ?_
  exact gg_vret K hr dX0_needTableAndKey_11 (Nat.le_of_ble_eq_true rfl) (Nat.le_of_ble_eq_true rfl) rfl
set_option maxRecDepth 100000 in
theorem n_needRecord {l : Launch} {Z : ZT} {X : XT} {k kp dr : Nat → Int32} {T : Nat} (ok : okX kp T) (q' : Nat) {q : Int32} (q1 : q' ≤ T) (q2 : q = nI q') : mA l Z.1 (ty3 Z) yX0_needRecord cX0_needRecord 2 none (rmk 1 30 0 0) (wX Z X k kp dr (nI T)) [.ref X.1, .int q] (fun r u => r = none ∧ u = wX Z X k kp dr (nI T)) := by
  have hT9 := ok.1
  refine mA_intro (own := RX0) [(0, .ref X.1), (1, .int q)] (by decide +kernel) rfl rfl rfl rfl ?_
  intro p e s m args below meth c A K hr hin
  refine gg_iload_n K (i := 1) dX0_needRecord_0 rfl rfl ?_
  refine gg_bipush K (v := 60) dX0_needRecord_1 (by decide) ?_
  refine gg_callS0 K k_X0_X0_needRange (n_needRange q' 60 (by omega) (by omega) q2 rfl) dX0_needRecord_3 rfl rfl rfl rfl ⟨rfl, rfl⟩ ?_
  subst q2
  refine gg_iload_n K (i := 1) dX0_needRecord_6 rfl rfl ?_
  refine gg_aload_n K (i := 0) dX0_needRecord_7 rfl rfl ?_
  refine gX_today K dX0_needRecord_8 ?_
  refine gg_icmp_le K (tgt := 24) dX0_needRecord_11 (by decide) (fun h11 => ?_) (fun h11 => ?_)
  · exact gg_vret K hr dX0_needRecord_24 (Nat.le_of_ble_eq_true rfl) (Nat.le_of_ble_eq_true rfl) ⟨rfl, rfl⟩
  · exact absurd (nI_le q1 (by omega)) h11
set_option maxRecDepth 100000 in
theorem n_value {l : Launch} {Z : ZT} {X : XT} {k kp dr : Nat → Int32} {T : Nat} (ok : okX kp T) (t' y' : Nat) {t y : Int32} (a1 : t' < 2) (b1 : y' < 8) (a2 : t = nI t') (b2 : y = nI y') (d' : Nat) {d : Int32} (d1 : d' < 60) (d2 : d = nI d') (q' : Nat) {q : Int32} (q1 : q' ≤ T) (q2 : q = nI q') : mR l Z yX0_value cX0_value 5 (some .int) (rmk 9 200 0 0) (wX Z X k kp dr (nI T)) [.ref X.1, .int t, .int y, .int d, .int q] (.int (vX k kp T (q') (t' * 8 + y') (d'))) := by
  have hT9 := ok.1
  refine mA_intro (own := RX0) [(0, .ref X.1), (1, .int t), (2, .int y), (3, .int d), (4, .int q)] (by decide +kernel) rfl rfl rfl rfl ?_
  intro p e s m args below meth c A K hr hin
  refine gg_iload_n K (i := 1) dX0_value_0 rfl rfl ?_
  refine gg_iload_n K (i := 2) dX0_value_1 rfl rfl ?_
  refine gg_callS0 K k_X0_X0_needTableAndKey (n_needTK t' y' a1 b1 a2 b2) dX0_value_2 rfl rfl rfl rfl ⟨rfl, rfl⟩ ?_
  refine gg_iload_n K (i := 3) dX0_value_5 rfl rfl ?_
  refine gg_bipush K (v := 60) dX0_value_6 (by decide) ?_
  refine gg_callS0 K k_X0_X0_needRange (n_needRange d' 60 d1 (by omega) d2 rfl) dX0_value_8 rfl rfl rfl rfl ⟨rfl, rfl⟩ ?_
  refine gg_aload_n K (i := 0) dX0_value_11 rfl rfl ?_
  refine gg_iload K dX0_value_12 rfl ?_
  refine gg_call0X K k_X0_X0_needRecord (n_needRecord ok q' q1 q2) dX0_value_14 rfl rfl rfl rfl ⟨rfl, rfl⟩ ?_
  refine gg_aload_n K (i := 0) dX0_value_17 rfl rfl ?_
  refine gg_iload K dX0_value_18 rfl ?_
  refine gg_iload_n K (i := 1) dX0_value_20 rfl rfl ?_
  refine gg_iload_n K (i := 2) dX0_value_21 rfl rfl ?_
  refine gg_callSR K k_X0_X0_line (x_line (t') (y') a2 b2) dX0_value_22 rfl rfl rfl rfl ⟨rfl, rfl⟩ ?_
  refine gg_iload_n K (i := 3) dX0_value_25 rfl rfl ?_
  refine gg_callRX K k_X0_X0_knownOn (x_knownOn (q') (t' * 8 + y') (d') ok q1 (by omega) d1 q2 rfl d2) dX0_value_26 rfl rfl rfl rfl ⟨rfl, rfl⟩ ?_
  exact gg_iret K hr dX0_value_29 (Nat.le_of_ble_eq_true rfl) (Nat.le_of_ble_eq_true rfl) ⟨rfl, rfl⟩
set_option maxRecDepth 100000 in
theorem n_keys {l : Launch} {Z : ZT} {X : XT} {k kp dr : Nat → Int32} {T : Nat} (ok : okX kp T) (t' : Nat) {t : Int32} (a1 : t' < 2) (a2 : t = nI t') (d' : Nat) {d : Int32} (d1 : d' < 60) (d2 : d = nI d') (q' : Nat) {q : Int32} (q1 : q' ≤ T) (q2 : q = nI q') : mR l Z yX0_keys cX0_keys 6 (some .int) (rmk 9 200 0 0) (wX Z X k kp dr (nI T)) [.ref X.1, .int t, .int d, .int q] (.int (kyF (fun i => vX k kp T (q') (t' * 8 + i) (d')) 8)) := by
  have hT9 := ok.1
  refine mA_intro (own := RX0) [(0, .ref X.1), (1, .int t), (2, .int d), (3, .int q)] (by decide +kernel) rfl rfl rfl rfl ?_
  intro p e s m args below meth c A K hr hin
  refine gg_iload_n K (i := 1) dX0_keys_0 rfl rfl ?_
  refine gg_iconst K (v := 2) dX0_keys_1 (by decide) ?_
  refine gg_callS0 K k_X0_X0_needRange (n_needRange t' 2 a1 (by omega) a2 rfl) dX0_keys_2 rfl rfl rfl rfl ⟨rfl, rfl⟩ ?_
  refine gg_iload_n K (i := 2) dX0_keys_5 rfl rfl ?_
  refine gg_bipush K (v := 60) dX0_keys_6 (by decide) ?_
  refine gg_callS0 K k_X0_X0_needRange (n_needRange d' 60 d1 (by omega) d2 rfl) dX0_keys_8 rfl rfl rfl rfl ⟨rfl, rfl⟩ ?_
  refine gg_aload_n K (i := 0) dX0_keys_11 rfl rfl ?_
  refine gg_iload_n K (i := 3) dX0_keys_12 rfl rfl ?_
  refine gg_call0X K k_X0_X0_needRecord (n_needRecord ok q' q1 q2) dX0_keys_13 rfl rfl rfl rfl ⟨rfl, rfl⟩ ?_
  refine gg_iconst K (v := 0) dX0_keys_16 (by decide) ?_
  refine gg_istore K dX0_keys_17 (by decide) ?_
  refine gg_iconst K (v := 0) dX0_keys_19 (by decide) ?_
  refine gg_istore K dX0_keys_20 (by decide) ?_
  refine gg_sub (L' := [(5, .int (nI 0)), (4, .int 0), (0, .ref X.1), (1, .int t), (2, .int d), (3, .int q)]) ⟨rfl, rfl, rfl, rfl, rfl, rfl, trivial⟩ ?_
  refine gg_loop (fun i w L => ∃ (j : Nat), j + i = 9 ∧ w = wX Z X k kp dr (nI T) ∧ j ≤ 8 ∧ L = [(5, .int (nI j)), (4, .int ((kyF (fun i => vX k kp T (q') (t' * 8 + i) (d')) j))), (0, .ref X.1), (1, .int t), (2, .int d), (3, .int q)]) (fun w L h => ?_) (fun i w L h ih => ?_) 9 _ _ ⟨0, rfl, rfl, by omega, rfl⟩
  · obtain ⟨j, hj, -, h2, -⟩ := h
    omega
  · obtain ⟨j, hj, rfl, -, rfl⟩ := h
    refine gg_iload K dX0_keys_22 rfl ?_
    refine gg_bipush K (v := 8) dX0_keys_24 (by decide) ?_
    refine gg_icmp_ge K (tgt := 60) dX0_keys_26 (by decide) (fun h26 => ?_) (fun h26 => ?_)
    · have hj2 := i_le (a := 8) h26
      have hj3 : j = 8 := by omega
      subst hj3
      refine gg_iload K dX0_keys_60 rfl ?_
      exact gg_iret K hr dX0_keys_62 (Nat.le_of_ble_eq_true rfl) (Nat.le_of_ble_eq_true rfl) ⟨rfl, rfl⟩
    have hj2 := i_nle (a := 8) h26
    refine gg_aload_n K (i := 0) dX0_keys_29 rfl rfl ?_
    refine gg_iload_n K (i := 3) dX0_keys_30 rfl rfl ?_
    refine gg_iload_n K (i := 1) dX0_keys_31 rfl rfl ?_
    refine gg_iload K dX0_keys_32 rfl ?_
    refine gg_callSR K k_X0_X0_line (x_line (t') j a2 rfl) dX0_keys_34 rfl rfl rfl rfl ⟨rfl, rfl⟩ ?_
    refine gg_iload_n K (i := 2) dX0_keys_37 rfl rfl ?_
    refine gg_callRX K k_X0_X0_knownOn (x_knownOn (q') (t' * 8 + j) (d') ok q1 (by omega) d1 q2 rfl d2) dX0_keys_38 rfl rfl rfl rfl ⟨rfl, rfl⟩ ?_
    refine gg_iconst K (v := (-1)) dX0_keys_41 (by decide) ?_
    refine gg_icmp_eq K (tgt := 54) dX0_keys_42 (by decide) (fun h42 => ?_) (fun h42 => ?_)
    · refine gg_iinc K (v := nI (j + 1)) dX0_keys_54 rfl (nI_inc (j)) (by decide) ?_
      refine gg_goto K (tgt := 22) dX0_keys_57 (by decide) ?_
      refine gg_sub (L' := [(5, .int (nI (j + 1))), (4, .int ((kyF (fun i => vX k kp T (q') (t' * 8 + i) (d')) j))), (0, .ref X.1), (1, .int t), (2, .int d), (3, .int q)]) ⟨rfl, rfl, rfl, rfl, rfl, rfl, trivial⟩ ?_
      exact ih _ _ ⟨j + 1, by omega, rfl, by omega, by rw [show kyF (fun i => vX k kp T (q') (t' * 8 + i) (d')) (j + 1) = kyF (fun i => vX k kp T (q') (t' * 8 + i) (d')) j from if_pos h42]⟩
    · refine gg_iload K dX0_keys_45 rfl ?_
      refine gg_iconst K (v := 1) dX0_keys_47 (by decide) ?_
      refine gg_iload K dX0_keys_48 rfl ?_
      refine gg_ishl K dX0_keys_50 ?_
      refine gg_ior K dX0_keys_51 ?_
      refine gg_istore K dX0_keys_52 (by decide) ?_
      refine gg_iinc K (v := nI (j + 1)) dX0_keys_54 rfl (nI_inc (j)) (by decide) ?_
      refine gg_goto K (tgt := 22) dX0_keys_57 (by decide) ?_
      refine gg_sub (L' := [(5, .int (nI (j + 1))), (4, .int ((kyF (fun i => vX k kp T (q') (t' * 8 + i) (d')) j ||| (1 <<< (nI j &&& 31))))), (0, .ref X.1), (1, .int t), (2, .int d), (3, .int q)]) ⟨rfl, rfl, rfl, rfl, rfl, rfl, trivial⟩ ?_
      exact ih _ _ ⟨j + 1, by omega, rfl, by omega, by rw [show kyF (fun i => vX k kp T (q') (t' * 8 + i) (d')) (j + 1) = _ from if_neg h42]⟩
set_option maxRecDepth 100000 in
theorem n_joined {l : Launch} {Z : ZT} {X : XT} {k kp dr : Nat → Int32} {T : Nat} (ok : okX kp T) (hv : valOk (vX k kp T) T) (y' : Nat) {y : Int32} (a1 : y' < 8) (a2 : y = nI y') (d' : Nat) {d : Int32} (d1 : d' < 60) (d2 : d = nI d') (q' : Nat) {q : Int32} (q1 : q' ≤ T) (q2 : q = nI q') : mR l Z yX0_joined cX0_joined 4 (some .int) (rmk 9 200 0 0) (wX Z X k kp dr (nI T)) [.ref X.1, .int y, .int d, .int q] (.int (jnF (vX k kp T) (q') (y') (d'))) := by
  have hT9 := ok.1
  refine mA_intro (own := RX0) [(0, .ref X.1), (1, .int y), (2, .int d), (3, .int q)] (by decide +kernel) rfl rfl rfl rfl ?_
  intro p e s m args below meth c A K hr hin
  refine gg_iload_n K (i := 1) dX0_joined_0 rfl rfl ?_
  refine gg_bipush K (v := 8) dX0_joined_1 (by decide) ?_
  refine gg_callS0 K k_X0_X0_needRange (n_needRange y' 8 a1 (by omega) a2 rfl) dX0_joined_3 rfl rfl rfl rfl ⟨rfl, rfl⟩ ?_
  refine gg_iload_n K (i := 2) dX0_joined_6 rfl rfl ?_
  refine gg_bipush K (v := 60) dX0_joined_7 (by decide) ?_
  refine gg_callS0 K k_X0_X0_needRange (n_needRange d' 60 d1 (by omega) d2 rfl) dX0_joined_9 rfl rfl rfl rfl ⟨rfl, rfl⟩ ?_
  refine gg_aload_n K (i := 0) dX0_joined_12 rfl rfl ?_
  refine gg_iload_n K (i := 3) dX0_joined_13 rfl rfl ?_
  refine gg_call0X K k_X0_X0_needRecord (n_needRecord ok q' q1 q2) dX0_joined_14 rfl rfl rfl rfl ⟨rfl, rfl⟩ ?_
  refine gg_aload_n K (i := 0) dX0_joined_17 rfl rfl ?_
  refine gg_iload_n K (i := 3) dX0_joined_18 rfl rfl ?_
  refine gg_iload_n K (i := 1) dX0_joined_19 rfl rfl ?_
  refine gg_iload_n K (i := 2) dX0_joined_20 rfl rfl ?_
  refine gg_callRX K k_X0_X0_joinedOn (x_joinedOn (q') (y') (d') ok hv q1 a1 d1 q2 a2 d2) dX0_joined_21 rfl rfl rfl rfl ⟨rfl, rfl⟩ ?_
  exact gg_iret K hr dX0_joined_24 (Nat.le_of_ble_eq_true rfl) (Nat.le_of_ble_eq_true rfl) ⟨rfl, rfl⟩
set_option maxRecDepth 100000 in
theorem n_runs {l : Launch} {Z : ZT} {X : XT} {k kp dr : Nat → Int32} {T : Nat} (ok : okX kp T) (t' y' : Nat) {t y : Int32} (a1 : t' < 2) (b1 : y' < 8) (a2 : t = nI t') (b2 : y = nI y') (q' : Nat) {q : Int32} (q1 : q' ≤ T) (q2 : q = nI q') : mR l Z yX0_runs cX0_runs 7 (some .int) (rmk 9 200 0 0) (wX Z X k kp dr (nI T)) [.ref X.1, .int t, .int y, .int q] (.int (nI (fb_ct (stF (vX k kp T q' (t' * 8 + y'))) 60))) := by
  have hT9 := ok.1
  refine mA_intro (own := RX0) [(0, .ref X.1), (1, .int t), (2, .int y), (3, .int q)] (by decide +kernel) rfl rfl rfl rfl ?_
  intro p e s m args below meth c A K hr hin
  refine gg_iload_n K (i := 1) dX0_runs_0 rfl rfl ?_
  refine gg_iload_n K (i := 2) dX0_runs_1 rfl rfl ?_
  refine gg_callS0 K k_X0_X0_needTableAndKey (n_needTK t' y' a1 b1 a2 b2) dX0_runs_2 rfl rfl rfl rfl ⟨rfl, rfl⟩ ?_
  refine gg_aload_n K (i := 0) dX0_runs_5 rfl rfl ?_
  refine gg_iload_n K (i := 3) dX0_runs_6 rfl rfl ?_
  refine gg_call0X K k_X0_X0_needRecord (n_needRecord ok q' q1 q2) dX0_runs_7 rfl rfl rfl rfl ⟨rfl, rfl⟩ ?_
  refine gg_iload_n K (i := 1) dX0_runs_10 rfl rfl ?_
  refine gg_iload_n K (i := 2) dX0_runs_11 rfl rfl ?_
  refine gg_callSR K k_X0_X0_line (x_line (t') (y') a2 b2) dX0_runs_12 rfl rfl rfl rfl ⟨rfl, rfl⟩ ?_
  refine gg_istore K dX0_runs_15 (by decide) ?_
  refine gg_iconst K (v := 0) dX0_runs_17 (by decide) ?_
  refine gg_istore K dX0_runs_18 (by decide) ?_
  refine gg_iconst K (v := 0) dX0_runs_20 (by decide) ?_
  refine gg_istore K dX0_runs_21 (by decide) ?_
  refine gg_sub (L' := [(6, .int (nI 0)), (5, .int (nI 0)), (4, .int (nI (t' * 8 + y'))), (0, .ref X.1), (1, .int t), (2, .int y), (3, .int q)]) ⟨rfl, rfl, rfl, rfl, rfl, rfl, rfl, trivial⟩ ?_
  refine gg_loop (fun i w L => ∃ (j : Nat), j + i = 61 ∧ w = wX Z X k kp dr (nI T) ∧ j ≤ 60 ∧ L = [(6, .int (nI j)), (5, .int (nI ((fb_ct (stF (vX k kp T q' (t' * 8 + y'))) j)))), (4, .int (nI (t' * 8 + y'))), (0, .ref X.1), (1, .int t), (2, .int y), (3, .int q)]) (fun w L h => ?_) (fun i w L h ih => ?_) 61 _ _ ⟨0, rfl, rfl, by omega, rfl⟩
  · obtain ⟨j, hj, -, h2, -⟩ := h
    omega
  · obtain ⟨j, hj, rfl, -, rfl⟩ := h
    refine gg_iload K dX0_runs_23 rfl ?_
    refine gg_bipush K (v := 60) dX0_runs_25 (by decide) ?_
    refine gg_icmp_ge K (tgt := 51) dX0_runs_27 (by decide) (fun h27 => ?_) (fun h27 => ?_)
    · have hj2 := i_le (a := 60) h27
      have hj3 : j = 60 := by omega
      subst hj3
      refine gg_iload K dX0_runs_51 rfl ?_
      exact gg_iret K hr dX0_runs_53 (Nat.le_of_ble_eq_true rfl) (Nat.le_of_ble_eq_true rfl) ⟨rfl, rfl⟩
    have hj2 := i_nle (a := 60) h27
    refine gg_aload_n K (i := 0) dX0_runs_30 rfl rfl ?_
    refine gg_iload_n K (i := 3) dX0_runs_31 rfl rfl ?_
    refine gg_iload K dX0_runs_32 rfl ?_
    refine gg_iload K dX0_runs_34 rfl ?_
    refine gg_callRX K k_X0_X0_startsRun (x_startsRun (q') (t' * 8 + y') j ok q1 (by omega) hj2 q2 rfl rfl) dX0_runs_36 rfl rfl rfl rfl ⟨rfl, rfl⟩ ?_
    refine gg_b_eq K (tgt := 45) dX0_runs_39 (by decide) (fun h39 => ?_) (fun h39 => ?_)
    · refine gg_iinc K (v := nI (j + 1)) dX0_runs_45 rfl (nI_inc (j)) (by decide) ?_
      refine gg_goto K (tgt := 23) dX0_runs_48 (by decide) ?_
      refine gg_sub (L' := [(6, .int (nI (j + 1))), (5, .int (nI ((fb_ct (stF (vX k kp T q' (t' * 8 + y'))) j)))), (4, .int (nI (t' * 8 + y'))), (0, .ref X.1), (1, .int t), (2, .int y), (3, .int q)]) ⟨rfl, rfl, rfl, rfl, rfl, rfl, rfl, trivial⟩ ?_
      exact ih _ _ ⟨j + 1, by omega, rfl, by omega, by rw [fb_ct_succ, h39]; rfl⟩
    · refine gg_iinc K (v := nI (fb_ct (stF (vX k kp T q' (t' * 8 + y'))) j + 1)) dX0_runs_42 rfl (nI_inc (fb_ct (stF (vX k kp T q' (t' * 8 + y'))) j)) (by decide) ?_
      refine gg_iinc K (v := nI (j + 1)) dX0_runs_45 rfl (nI_inc (j)) (by decide) ?_
      refine gg_goto K (tgt := 23) dX0_runs_48 (by decide) ?_
      refine gg_sub (L' := [(6, .int (nI (j + 1))), (5, .int (nI ((fb_ct (stF (vX k kp T q' (t' * 8 + y'))) j + 1)))), (4, .int (nI (t' * 8 + y'))), (0, .ref X.1), (1, .int t), (2, .int y), (3, .int q)]) ⟨rfl, rfl, rfl, rfl, rfl, rfl, rfl, trivial⟩ ?_
      exact ih _ _ ⟨j + 1, by omega, rfl, by omega, by rw [fb_ct_succ, h39]; rfl⟩
set_option maxRecDepth 100000 in
theorem n_run {l : Launch} {Z : ZT} {X : XT} {k kp dr : Nat → Int32} {T : Nat} (ok : okX kp T) (t' y' : Nat) {t y : Int32} (a1 : t' < 2) (b1 : y' < 8) (a2 : t = nI t') (b2 : y = nI y') (q' : Nat) {q : Int32} (q1 : q' ≤ T) (q2 : q = nI q') (w' : Nat) {w9 : Int32} (w1 : w' < fb_ct (stF (vX k kp T q' (t' * 8 + y'))) 60) (w2 : w9 = nI w') : mR l Z yX0_run cX0_run 7 (some .int) (rmk 9 200 0 0) (wX Z X k kp dr (nI T)) [.ref X.1, .int t, .int y, .int q, .int w9] (.int (runN (vX k kp T q' (t' * 8 + y')) (kthD (stF (vX k kp T q' (t' * 8 + y'))) (w') 60))) := by
  have hT9 := ok.1
  refine mA_intro (own := RX0) [(0, .ref X.1), (1, .int t), (2, .int y), (3, .int q), (4, .int w9)] (by decide +kernel) rfl rfl rfl rfl ?_
  intro p e s m args below meth c A K hr hin
  refine gg_iload_n K (i := 1) dX0_run_0 rfl rfl ?_
  refine gg_iload_n K (i := 2) dX0_run_1 rfl rfl ?_
  refine gg_callS0 K k_X0_X0_needTableAndKey (n_needTK t' y' a1 b1 a2 b2) dX0_run_2 rfl rfl rfl rfl ⟨rfl, rfl⟩ ?_
  refine gg_aload_n K (i := 0) dX0_run_5 rfl rfl ?_
  refine gg_iload_n K (i := 3) dX0_run_6 rfl rfl ?_
  refine gg_call0X K k_X0_X0_needRecord (n_needRecord ok q' q1 q2) dX0_run_7 rfl rfl rfl rfl ⟨rfl, rfl⟩ ?_
  refine gg_iload_n K (i := 1) dX0_run_10 rfl rfl ?_
  refine gg_iload_n K (i := 2) dX0_run_11 rfl rfl ?_
  refine gg_callSR K k_X0_X0_line (x_line (t') (y') a2 b2) dX0_run_12 rfl rfl rfl rfl ⟨rfl, rfl⟩ ?_
  refine gg_istore K dX0_run_15 (by decide) ?_
  refine gg_aload_n K (i := 0) dX0_run_17 rfl rfl ?_
  refine gg_iload_n K (i := 3) dX0_run_18 rfl rfl ?_
  refine gg_iload K dX0_run_19 rfl ?_
  refine gg_iload K dX0_run_21 rfl ?_
  refine gg_callRX K k_X0_X0_firstDayOfRun (x_firstDayOfRun (q') (t' * 8 + y') ok q1 (by omega) q2 rfl) dX0_run_23 rfl rfl rfl rfl ⟨rfl, rfl⟩ ?_
  have hsp := fstF_spec (stF (vX k kp T q' (t' * 8 + y'))) w9 60 0
  rw [show fb_ct (stF (vX k kp T q' (t' * 8 + y'))) 0 = 0 from rfl] at hsp
  rcases hsp with ⟨e9, -, e1, e2, e3, e4⟩ | ⟨e1, e2⟩
  · refine gg_top e4 ?_
    refine gg_istore K dX0_run_26 (by decide) ?_
    refine gg_iload K dX0_run_28 rfl ?_
    refine gg_iconst K (v := (-1)) dX0_run_30 (by decide) ?_
    refine gg_icmp_ne K (tgt := 44) dX0_run_31 (by decide) (fun h31 => ?_) (fun h31 => ?_)
    rotate_left
    · exact absurd h31 (nI_m1 (by omega))
    refine gg_aload_n K (i := 0) dX0_run_44 rfl rfl ?_
    refine gg_iload_n K (i := 3) dX0_run_45 rfl rfl ?_
    refine gg_iload K dX0_run_46 rfl ?_
    refine gg_iload K dX0_run_48 rfl ?_
    refine gg_callRX K k_X0_X0_runNumber (x_runNumber (q') (t' * 8 + y') e9 ok q1 (by omega) (by omega) q2 rfl rfl) dX0_run_50 rfl rfl rfl rfl ⟨rfl, rfl⟩ ?_
    have hc : fb_ct (stF (vX k kp T q' (t' * 8 + y'))) e9 < fb_ct (stF (vX k kp T q' (t' * 8 + y'))) 60 := by
      have h6 := fb_ct_mono (stF (vX k kp T q' (t' * 8 + y'))) (show e9 + 1 ≤ 60 by omega)
      rw [fb_ct_succ, if_pos e2] at h6
      omega
    have hl6 := fb_ct_le (stF (vX k kp T q' (t' * 8 + y'))) 60
    refine gg_iret K hr dX0_run_53 (Nat.le_of_ble_eq_true rfl) (Nat.le_of_ble_eq_true rfl) ⟨some_int ?_, rfl⟩
    rw [kthD_eq e2 (show fb_ct (stF (vX k kp T q' (t' * 8 + y'))) e9 = w' by rw [w2] at e3; exact i_eq e3) (by omega)]
  · refine gg_top e1 ?_
    refine gg_istore K dX0_run_26 (by decide) ?_
    refine gg_iload K dX0_run_28 rfl ?_
    refine gg_iconst K (v := (-1)) dX0_run_30 (by decide) ?_
    refine gg_icmp_ne K (tgt := 44) dX0_run_31 (by decide) (fun h31 => ?_) (fun h31 => ?_)
    · exact absurd rfl h31
    obtain ⟨e9, g1, g2, g3⟩ := fb_ct_kth w1
    exact absurd (by rw [g3, w2]) (e2 e9 (by omega) (by omega) g2)
set_option maxRecDepth 100000 in
theorem n_joinedRuns {l : Launch} {Z : ZT} {X : XT} {k kp dr : Nat → Int32} {T : Nat} (ok : okX kp T) (hv : valOk (vX k kp T) T) (y' : Nat) {y : Int32} (b1 : y' < 8) (b2 : y = nI y') (q' : Nat) {q : Int32} (q1 : q' ≤ T) (q2 : q = nI q') : mR l Z yX0_joinedRuns cX0_joinedRuns 5 (some .int) (rmk 9 200 0 0) (wX Z X k kp dr (nI T)) [.ref X.1, .int y, .int q] (.int (nI (fb_ct (jsF (vX k kp T) (q') (y')) 60))) := by
  have hT9 := ok.1
  refine mA_intro (own := RX0) [(0, .ref X.1), (1, .int y), (2, .int q)] (by decide +kernel) rfl rfl rfl rfl ?_
  intro p e s m args below meth c A K hr hin
  refine gg_iload_n K (i := 1) dX0_joinedRuns_0 rfl rfl ?_
  refine gg_bipush K (v := 8) dX0_joinedRuns_1 (by decide) ?_
  refine gg_callS0 K k_X0_X0_needRange (n_needRange y' 8 b1 (by omega) b2 rfl) dX0_joinedRuns_3 rfl rfl rfl rfl ⟨rfl, rfl⟩ ?_
  refine gg_aload_n K (i := 0) dX0_joinedRuns_6 rfl rfl ?_
  refine gg_iload_n K (i := 2) dX0_joinedRuns_7 rfl rfl ?_
  refine gg_call0X K k_X0_X0_needRecord (n_needRecord ok q' q1 q2) dX0_joinedRuns_8 rfl rfl rfl rfl ⟨rfl, rfl⟩ ?_
  refine gg_iconst K (v := 0) dX0_joinedRuns_11 (by decide) ?_
  refine gg_istore_n K (i := 3) dX0_joinedRuns_12 rfl (by decide) ?_
  refine gg_iconst K (v := 0) dX0_joinedRuns_13 (by decide) ?_
  refine gg_istore K dX0_joinedRuns_14 (by decide) ?_
  refine gg_sub (L' := [(4, .int (nI 0)), (3, .int (nI 0)), (0, .ref X.1), (1, .int y), (2, .int q)]) ⟨rfl, rfl, rfl, rfl, rfl, trivial⟩ ?_
  refine gg_loop (fun i w L => ∃ (j : Nat), j + i = 61 ∧ w = wX Z X k kp dr (nI T) ∧ j ≤ 60 ∧ L = [(4, .int (nI j)), (3, .int (nI ((fb_ct (jsF (vX k kp T) (q') (y')) j)))), (0, .ref X.1), (1, .int y), (2, .int q)]) (fun w L h => ?_) (fun i w L h ih => ?_) 61 _ _ ⟨0, rfl, rfl, by omega, rfl⟩
  · obtain ⟨j, hj, -, h2, -⟩ := h
    omega
  · obtain ⟨j, hj, rfl, -, rfl⟩ := h
    refine gg_iload K dX0_joinedRuns_16 rfl ?_
    refine gg_bipush K (v := 60) dX0_joinedRuns_18 (by decide) ?_
    refine gg_icmp_ge K (tgt := 43) dX0_joinedRuns_20 (by decide) (fun h20 => ?_) (fun h20 => ?_)
    · have hj2 := i_le (a := 60) h20
      have hj3 : j = 60 := by omega
      subst hj3
      refine gg_iload_n K (i := 3) dX0_joinedRuns_43 rfl rfl ?_
      exact gg_iret K hr dX0_joinedRuns_44 (Nat.le_of_ble_eq_true rfl) (Nat.le_of_ble_eq_true rfl) ⟨rfl, rfl⟩
    have hj2 := i_nle (a := 60) h20
    refine gg_aload_n K (i := 0) dX0_joinedRuns_23 rfl rfl ?_
    refine gg_iload_n K (i := 2) dX0_joinedRuns_24 rfl rfl ?_
    refine gg_iload_n K (i := 1) dX0_joinedRuns_25 rfl rfl ?_
    refine gg_iload K dX0_joinedRuns_26 rfl ?_
    refine gg_callRX K k_X0_X0_startsJoinedRun (x_startsJoinedRun (q') (y') j ok hv q1 b1 hj2 q2 b2 rfl) dX0_joinedRuns_28 rfl rfl rfl rfl ⟨rfl, rfl⟩ ?_
    refine gg_b_eq K (tgt := 37) dX0_joinedRuns_31 (by decide) (fun h31 => ?_) (fun h31 => ?_)
    · refine gg_iinc K (v := nI (j + 1)) dX0_joinedRuns_37 rfl (nI_inc (j)) (by decide) ?_
      refine gg_goto K (tgt := 16) dX0_joinedRuns_40 (by decide) ?_
      refine gg_sub (L' := [(4, .int (nI (j + 1))), (3, .int (nI ((fb_ct (jsF (vX k kp T) (q') (y')) j)))), (0, .ref X.1), (1, .int y), (2, .int q)]) ⟨rfl, rfl, rfl, rfl, rfl, trivial⟩ ?_
      exact ih _ _ ⟨j + 1, by omega, rfl, by omega, by rw [fb_ct_succ, h31]; rfl⟩
    · refine gg_iinc K (v := nI (fb_ct (jsF (vX k kp T) (q') (y')) j + 1)) dX0_joinedRuns_34 rfl (nI_inc (fb_ct (jsF (vX k kp T) (q') (y')) j)) (by decide) ?_
      refine gg_iinc K (v := nI (j + 1)) dX0_joinedRuns_37 rfl (nI_inc (j)) (by decide) ?_
      refine gg_goto K (tgt := 16) dX0_joinedRuns_40 (by decide) ?_
      refine gg_sub (L' := [(4, .int (nI (j + 1))), (3, .int (nI ((fb_ct (jsF (vX k kp T) (q') (y')) j + 1)))), (0, .ref X.1), (1, .int y), (2, .int q)]) ⟨rfl, rfl, rfl, rfl, rfl, trivial⟩ ?_
      exact ih _ _ ⟨j + 1, by omega, rfl, by omega, by rw [fb_ct_succ, h31]; rfl⟩
set_option maxRecDepth 100000 in
theorem n_longest {l : Launch} {Z : ZT} {X : XT} {k kp dr : Nat → Int32} {T : Nat} (ok : okX kp T) (t' y' : Nat) {t y : Int32} (a1 : t' < 2) (b1 : y' < 8) (a2 : t = nI t') (b2 : y = nI y') (q' : Nat) {q : Int32} (q1 : q' ≤ T) (q2 : q = nI q') : mR l Z yX0_longest cX0_longest 7 (some .int) (rmk 9 200 0 0) (wX Z X k kp dr (nI T)) [.ref X.1, .int t, .int y, .int q] (.int (nI (lgF (vX k kp T q' (t' * 8 + y')) 60))) := by
  have hT9 := ok.1
  refine mA_intro (own := RX0) [(0, .ref X.1), (1, .int t), (2, .int y), (3, .int q)] (by decide +kernel) rfl rfl rfl rfl ?_
  intro p e s m args below meth c A K hr hin
  refine gg_iload_n K (i := 1) dX0_longest_0 rfl rfl ?_
  refine gg_iload_n K (i := 2) dX0_longest_1 rfl rfl ?_
  refine gg_callS0 K k_X0_X0_needTableAndKey (n_needTK t' y' a1 b1 a2 b2) dX0_longest_2 rfl rfl rfl rfl ⟨rfl, rfl⟩ ?_
  refine gg_aload_n K (i := 0) dX0_longest_5 rfl rfl ?_
  refine gg_iload_n K (i := 3) dX0_longest_6 rfl rfl ?_
  refine gg_call0X K k_X0_X0_needRecord (n_needRecord ok q' q1 q2) dX0_longest_7 rfl rfl rfl rfl ⟨rfl, rfl⟩ ?_
  refine gg_iload_n K (i := 1) dX0_longest_10 rfl rfl ?_
  refine gg_iload_n K (i := 2) dX0_longest_11 rfl rfl ?_
  refine gg_callSR K k_X0_X0_line (x_line (t') (y') a2 b2) dX0_longest_12 rfl rfl rfl rfl ⟨rfl, rfl⟩ ?_
  refine gg_istore K dX0_longest_15 (by decide) ?_
  refine gg_iconst K (v := 0) dX0_longest_17 (by decide) ?_
  refine gg_istore K dX0_longest_18 (by decide) ?_
  refine gg_iconst K (v := 0) dX0_longest_20 (by decide) ?_
  refine gg_istore K dX0_longest_21 (by decide) ?_
  refine gg_sub (L' := [(6, .int (nI 0)), (5, .int (nI 0)), (4, .int (nI (t' * 8 + y'))), (0, .ref X.1), (1, .int t), (2, .int y), (3, .int q)]) ⟨rfl, rfl, rfl, rfl, rfl, rfl, rfl, trivial⟩ ?_
  refine gg_loop (fun i w L => ∃ (j : Nat), j + i = 61 ∧ w = wX Z X k kp dr (nI T) ∧ j ≤ 60 ∧ L = [(6, .int (nI j)), (5, .int (nI ((lgF (vX k kp T q' (t' * 8 + y')) j)))), (4, .int (nI (t' * 8 + y'))), (0, .ref X.1), (1, .int t), (2, .int y), (3, .int q)]) (fun w L h => ?_) (fun i w L h ih => ?_) 61 _ _ ⟨0, rfl, rfl, by omega, rfl⟩
  · obtain ⟨j, hj, -, h2, -⟩ := h
    omega
  · obtain ⟨j, hj, rfl, -, rfl⟩ := h
    refine gg_iload K dX0_longest_23 rfl ?_
    refine gg_bipush K (v := 60) dX0_longest_25 (by decide) ?_
    refine gg_icmp_ge K (tgt := 67) dX0_longest_27 (by decide) (fun h27 => ?_) (fun h27 => ?_)
    · have hj2 := i_le (a := 60) h27
      have hj3 : j = 60 := by omega
      subst hj3
      refine gg_iload K dX0_longest_67 rfl ?_
      exact gg_iret K hr dX0_longest_69 (Nat.le_of_ble_eq_true rfl) (Nat.le_of_ble_eq_true rfl) ⟨rfl, rfl⟩
    have hj2 := i_nle (a := 60) h27
    refine gg_aload_n K (i := 0) dX0_longest_30 rfl rfl ?_
    refine gg_iload_n K (i := 3) dX0_longest_31 rfl rfl ?_
    refine gg_iload K dX0_longest_32 rfl ?_
    refine gg_iload K dX0_longest_34 rfl ?_
    refine gg_callRX K k_X0_X0_startsRun (x_startsRun (q') (t' * 8 + y') j ok q1 (by omega) hj2 q2 rfl rfl) dX0_longest_36 rfl rfl rfl rfl ⟨rfl, rfl⟩ ?_
    refine gg_b_eq K (tgt := 61) dX0_longest_39 (by decide) (fun h39 => ?_) (fun h39 => ?_)
    · refine gg_iinc K (v := nI (j + 1)) dX0_longest_61 rfl (nI_inc (j)) (by decide) ?_
      refine gg_goto K (tgt := 23) dX0_longest_64 (by decide) ?_
      refine gg_sub (L' := [(6, .int (nI (j + 1))), (5, .int (nI ((lgF (vX k kp T q' (t' * 8 + y')) j)))), (4, .int (nI (t' * 8 + y'))), (0, .ref X.1), (1, .int t), (2, .int y), (3, .int q)]) ⟨rfl, rfl, rfl, rfl, rfl, rfl, rfl, trivial⟩ ?_
      exact ih _ _ ⟨j + 1, by omega, rfl, by omega, by rw [show lgF (vX k kp T q' (t' * 8 + y')) (j + 1) = lgF (vX k kp T q' (t' * 8 + y')) j from if_neg (by rw [h39]; decide)]⟩
    · refine gg_iload K dX0_longest_42 rfl ?_
      refine gg_aload_n K (i := 0) dX0_longest_44 rfl rfl ?_
      refine gg_iload_n K (i := 3) dX0_longest_45 rfl rfl ?_
      refine gg_iload K dX0_longest_46 rfl ?_
      refine gg_iload K dX0_longest_48 rfl ?_
      refine gg_callRX K k_X0_X0_endOfRun (x_endOfRun (q') (t' * 8 + y') j ok q1 (by omega) hj2 q2 rfl rfl) dX0_longest_50 rfl rfl rfl rfl ⟨rfl, rfl⟩ ?_
      refine gg_iload K dX0_longest_53 rfl ?_
      refine gg_isub K dX0_longest_55 ?_
      have e1 := endF_le (f := vX k kp T q' (t' * 8 + y')) hj2
      have e2 := endF_gt (vX k kp T q' (t' * 8 + y')) j
      have e3 := lgF_le (vX k kp T q' (t' * 8 + y')) (n := j) (by omega)
      refine gg_top (pk_sub (by omega)) ?_
      refine gg_mmax K dX0_longest_56 rfl rfl ?_
      refine gg_top (y := nI (lgF (vX k kp T q' (t' * 8 + y')) (j + 1))) ?_ ?_
      · rw [show lgF (vX k kp T q' (t' * 8 + y')) (j + 1) = _ from if_pos h39]
        by_cases hq : lgF (vX k kp T q' (t' * 8 + y')) j < endF (vX k kp T q' (t' * 8 + y')) j - j
        · rw [if_pos hq, if_pos (nI_lt hq (by omega))]
        · rw [if_neg hq, if_neg (nI_nlt (by omega) (by omega))]
      refine gg_istore K dX0_longest_59 (by decide) ?_
      refine gg_iinc K (v := nI (j + 1)) dX0_longest_61 rfl (nI_inc (j)) (by decide) ?_
      refine gg_goto K (tgt := 23) dX0_longest_64 (by decide) ?_
      refine gg_sub (L' := [(6, .int (nI (j + 1))), (5, .int (nI ((lgF (vX k kp T q' (t' * 8 + y')) (j + 1))))), (4, .int (nI (t' * 8 + y'))), (0, .ref X.1), (1, .int t), (2, .int y), (3, .int q)]) ⟨rfl, rfl, rfl, rfl, rfl, rfl, rfl, trivial⟩ ?_
      exact ih _ _ ⟨j + 1, by omega, rfl, by omega, rfl⟩
set_option maxRecDepth 100000 in
theorem n_rows {l : Launch} {Z : ZT} {X : XT} {k kp dr : Nat → Int32} {T : Nat} (ok : okX kp T) (t' y' : Nat) {t y : Int32} (a1 : t' < 2) (b1 : y' < 8) (a2 : t = nI t') (b2 : y = nI y') : mR l Z yX0_rows cX0_rows 7 (some .int) (rmk 9 200 0 0) (wX Z X k kp dr (nI T)) [.ref X.1, .int t, .int y] (.int (nI (fb_ct (rwF (vX k kp T) (t' * 8 + y')) (60 * (T + 1))))) := by
  have hT9 := ok.1
  refine mA_intro (own := RX0) [(0, .ref X.1), (1, .int t), (2, .int y)] (by decide +kernel) rfl rfl rfl rfl ?_
  intro p e s m args below meth c A K hr hin
  refine gg_iload_n K (i := 1) dX0_rows_0 rfl rfl ?_
  refine gg_iload_n K (i := 2) dX0_rows_1 rfl rfl ?_
  refine gg_callS0 K k_X0_X0_needTableAndKey (n_needTK t' y' a1 b1 a2 b2) dX0_rows_2 rfl rfl rfl rfl ⟨rfl, rfl⟩ ?_
  refine gg_iload_n K (i := 1) dX0_rows_5 rfl rfl ?_
  refine gg_iload_n K (i := 2) dX0_rows_6 rfl rfl ?_
  refine gg_callSR K k_X0_X0_line (x_line (t') (y') a2 b2) dX0_rows_7 rfl rfl rfl rfl ⟨rfl, rfl⟩ ?_
  refine gg_istore_n K (i := 3) dX0_rows_10 rfl (by decide) ?_
  refine gg_iconst K (v := 0) dX0_rows_11 (by decide) ?_
  refine gg_istore K dX0_rows_12 (by decide) ?_
  refine gg_iconst K (v := 0) dX0_rows_14 (by decide) ?_
  refine gg_istore K dX0_rows_15 (by decide) ?_
  refine gg_sub (L' := [(5, .int (nI 0)), (4, .int (nI 0)), (3, .int (nI (t' * 8 + y'))), (0, .ref X.1), (1, .int t), (2, .int y)]) ⟨rfl, rfl, rfl, rfl, rfl, rfl, trivial⟩ ?_
  refine gg_loop (fun i w L => ∃ (r : Nat), r + i = T + 2 ∧ w = wX Z X k kp dr (nI T) ∧ r ≤ T + 1 ∧ L = [(5, .int (nI r)), (4, .int (nI ((fb_ct (rwF (vX k kp T) (t' * 8 + y')) (60 * r))))), (3, .int (nI (t' * 8 + y'))), (0, .ref X.1), (1, .int t), (2, .int y)]) (fun w L h => ?_) (fun i w L h ih => ?_) (T + 2) _ _ ⟨0, by omega, rfl, by omega, rfl⟩
  · obtain ⟨r, hj, -, h2, -⟩ := h
    omega
  · obtain ⟨r, hj, rfl, hj1, rfl⟩ := h
    refine gg_iload K dX0_rows_17 rfl ?_
    refine gg_aload_n K (i := 0) dX0_rows_19 rfl rfl ?_
    refine gX_today K dX0_rows_20 ?_
    refine gg_icmp_gt K (tgt := 72) dX0_rows_23 (by decide) (fun h23 => ?_) (fun h23 => ?_)
    · have hj2 := i_lt h23
      have hj3 : r = T + 1 := by omega
      subst hj3
      refine gg_iload K dX0_rows_72 rfl ?_
      exact gg_iret K hr dX0_rows_74 (Nat.le_of_ble_eq_true rfl) (Nat.le_of_ble_eq_true rfl) ⟨rfl, rfl⟩
    have hj2 := i_nlt h23
    refine gg_iconst K (v := 0) dX0_rows_26 (by decide) ?_
    refine gg_istore K dX0_rows_27 (by decide) ?_
    refine gg_sub (L' := [(6, .int (nI 0)), (5, .int (nI r)), (4, .int (nI ((fb_ct (rwF (vX k kp T) (t' * 8 + y')) (60 * r + 0))))), (3, .int (nI (t' * 8 + y'))), (0, .ref X.1), (1, .int t), (2, .int y)]) ⟨rfl, rfl, rfl, rfl, rfl, rfl, rfl, trivial⟩ ?_
    refine gg_loop (fun i w L => ∃ (d : Nat), d + i = 61 ∧ w = wX Z X k kp dr (nI T) ∧ d ≤ 60 ∧ L = [(6, .int (nI d)), (5, .int (nI r)), (4, .int (nI ((fb_ct (rwF (vX k kp T) (t' * 8 + y')) (60 * r + d))))), (3, .int (nI (t' * 8 + y'))), (0, .ref X.1), (1, .int t), (2, .int y)]) (fun w L h => ?_) (fun i w L h ih2 => ?_) 61 _ _ ⟨0, by omega, rfl, by omega, rfl⟩
    · obtain ⟨d, hj, -, h2, -⟩ := h
      omega
    · obtain ⟨d, hd1, rfl, hd2, rfl⟩ := h
      refine gg_iload K dX0_rows_29 rfl ?_
      refine gg_bipush K (v := 60) dX0_rows_31 (by decide) ?_
      refine gg_icmp_ge K (tgt := 66) dX0_rows_33 (by decide) (fun h33 => ?_) (fun h33 => ?_)
      · have hd3 := i_le (a := 60) h33
        have hd4 : d = 60 := by omega
        subst hd4
        refine gg_iinc K (v := nI (r + 1)) dX0_rows_66 rfl (nI_inc (r)) (by decide) ?_
        refine gg_goto K (tgt := 17) dX0_rows_69 (by decide) ?_
        refine gg_sub (L' := [(5, .int (nI (r + 1))), (4, .int (nI ((fb_ct (rwF (vX k kp T) (t' * 8 + y')) (60 * (r + 1)))))), (3, .int (nI (t' * 8 + y'))), (0, .ref X.1), (1, .int t), (2, .int y)]) ⟨rfl, rfl, rfl, rfl, rfl, rfl, trivial⟩ ?_
        exact ih _ _ ⟨r + 1, by omega, rfl, by omega, rfl⟩
      have hd3 := i_nle (a := 60) h33
      refine gg_aload_n K (i := 0) dX0_rows_36 rfl rfl ?_
      refine gg_iload K dX0_rows_37 rfl ?_
      refine gg_callRX K k_X0_X0_isKept (x_isKept r ok hj2 rfl) dX0_rows_39 rfl rfl rfl rfl ⟨rfl, rfl⟩ ?_
      refine gg_b_eq K (tgt := 66) dX0_rows_42 (by decide) (fun h42 => ?_) (fun h42 => ?_)
      · have hoff := fun d => vX_off (k := k) ok hj2 (of_decide_eq_false h42) (t' * 8 + y') d
        have hc := fb_ct_flat (q := (rwF (vX k kp T) (t' * 8 + y'))) (a := 60 * r + d) (n := 60 - d) (fun e9 g1 g2 => by
          have e := rwF_at (vX k kp T) (t' * 8 + y') r (e9 - 60 * r) (by omega)
          rw [show 60 * r + (e9 - 60 * r) = e9 by omega] at e
          rw [e]
          exact hoff _)
        rw [show 60 * r + d + (60 - d) = 60 * (r + 1) by omega] at hc
        refine gg_iinc K (v := nI (r + 1)) dX0_rows_66 rfl (nI_inc (r)) (by decide) ?_
        refine gg_goto K (tgt := 17) dX0_rows_69 (by decide) ?_
        refine gg_sub (L' := [(5, .int (nI (r + 1))), (4, .int (nI ((fb_ct (rwF (vX k kp T) (t' * 8 + y')) (60 * r + d))))), (3, .int (nI (t' * 8 + y'))), (0, .ref X.1), (1, .int t), (2, .int y)]) ⟨rfl, rfl, rfl, rfl, rfl, rfl, trivial⟩ ?_
        exact ih _ _ ⟨r + 1, by omega, rfl, by omega, by rw [hc]⟩
      have hat := rwF_at (vX k kp T) (t' * 8 + y') r d hd3
      refine gg_aload_n K (i := 0) dX0_rows_45 rfl rfl ?_
      refine gg_iload K dX0_rows_46 rfl ?_
      refine gg_iload_n K (i := 3) dX0_rows_48 rfl rfl ?_
      refine gg_iload K dX0_rows_49 rfl ?_
      refine gg_callRX K k_X0_X0_startsRow (x_startsRow r (t' * 8 + y') d ok hj2 (by omega) hd3 rfl rfl rfl) dX0_rows_51 rfl rfl rfl rfl ⟨rfl, rfl⟩ ?_
      refine gg_b_eq K (tgt := 60) dX0_rows_54 (by decide) (fun h54 => ?_) (fun h54 => ?_)
      · rw [← hat] at h54
        refine gg_iinc K (v := nI (d + 1)) dX0_rows_60 rfl (nI_inc (d)) (by decide) ?_
        refine gg_goto K (tgt := 29) dX0_rows_63 (by decide) ?_
        refine gg_sub (L' := [(6, .int (nI (d + 1))), (5, .int (nI r)), (4, .int (nI ((fb_ct (rwF (vX k kp T) (t' * 8 + y')) (60 * r + d))))), (3, .int (nI (t' * 8 + y'))), (0, .ref X.1), (1, .int t), (2, .int y)]) ⟨rfl, rfl, rfl, rfl, rfl, rfl, rfl, trivial⟩ ?_
        exact ih2 _ _ ⟨d + 1, by omega, rfl, by omega, by rw [show 60 * r + (d + 1) = (60 * r + d) + 1 from rfl, fb_ct_succ, h54]; rfl⟩
      · rw [← hat] at h54
        refine gg_iinc K (v := nI (fb_ct (rwF (vX k kp T) (t' * 8 + y')) (60 * r + d) + 1)) dX0_rows_57 rfl (nI_inc (fb_ct (rwF (vX k kp T) (t' * 8 + y')) (60 * r + d))) (by decide) ?_
        refine gg_iinc K (v := nI (d + 1)) dX0_rows_60 rfl (nI_inc (d)) (by decide) ?_
        refine gg_goto K (tgt := 29) dX0_rows_63 (by decide) ?_
        refine gg_sub (L' := [(6, .int (nI (d + 1))), (5, .int (nI r)), (4, .int (nI ((fb_ct (rwF (vX k kp T) (t' * 8 + y')) (60 * r + d) + 1)))), (3, .int (nI (t' * 8 + y'))), (0, .ref X.1), (1, .int t), (2, .int y)]) ⟨rfl, rfl, rfl, rfl, rfl, rfl, rfl, trivial⟩ ?_
        exact ih2 _ _ ⟨d + 1, by omega, rfl, by omega, by rw [show 60 * r + (d + 1) = (60 * r + d) + 1 from rfl, fb_ct_succ, h54]; rfl⟩
set_option maxRecDepth 100000 in
theorem n_startOfRow {l : Launch} {Z : ZT} {X : XT} {k kp dr : Nat → Int32} {T : Nat} (ok : okX kp T) (li : Nat) (hli : li < 16) (w' : Nat) {x w9 : Int32} (hx : x = nI li) (w1 : w' < fb_ct (rwF (vX k kp T) li) (60 * (T + 1))) (w2 : w9 = nI w') : mR l Z yX0_startOfRow cX0_startOfRow 6 (some .int) (rmk 7 150 0 0) (wX Z X k kp dr (nI T)) [.ref X.1, .int x, .int w9] (.int (nI (kthD (rwF (vX k kp T) li) w' (60 * (T + 1))))) := by
  refine mA_intro (own := RX0) [(0, .ref X.1), (1, .int x), (2, .int w9)] (by decide +kernel) rfl rfl rfl rfl ?_
  intro p e s m args below meth c A K hr hin
  have hT9 := ok.1
  subst hx
  refine gg_iconst K (v := 0) dX0_startOfRow_0 (by decide) ?_
  refine gg_istore_n K (i := 3) dX0_startOfRow_1 rfl (by decide) ?_
  refine gg_iconst K (v := 0) dX0_startOfRow_2 (by decide) ?_
  refine gg_istore K dX0_startOfRow_3 (by decide) ?_
  refine gg_sub (L' := [(4, .int (nI 0)), (3, .int (nI 0)), (0, .ref X.1), (1, .int (nI li)), (2, .int w9)]) ⟨rfl, rfl, rfl, rfl, rfl, trivial⟩ ?_
  refine gg_loop (fun i w L => ∃ (r : Nat), r + i = T + 2 ∧ w = wX Z X k kp dr (nI T) ∧ r ≤ T + 1 ∧ L = [(4, .int (nI r)), (3, .int (nI ((fb_ct (rwF (vX k kp T) li) (60 * r))))), (0, .ref X.1), (1, .int (nI li)), (2, .int w9)] ∧ ∀ e9, e9 < 60 * r → (rwF (vX k kp T) li) e9 = true → ¬ nI (fb_ct (rwF (vX k kp T) li) e9) = w9) (fun w L h => ?_) (fun i w L h ih => ?_) (T + 2) _ _ ⟨0, by omega, rfl, by omega, rfl, fun e9 h => absurd h (by omega)⟩
  · obtain ⟨r, hj, -, h2, -⟩ := h
    omega
  · obtain ⟨r, hj, rfl, hj1, rfl, hno⟩ := h
    refine gg_iload K dX0_startOfRow_5 rfl ?_
    refine gg_aload_n K (i := 0) dX0_startOfRow_7 rfl rfl ?_
    refine gX_today K dX0_startOfRow_8 ?_
    refine gg_icmp_gt K (tgt := 74) dX0_startOfRow_11 (by decide) (fun h11 => ?_) (fun h11 => ?_)
    · have hj2 := i_lt h11
      have hj3 : r = T + 1 := by omega
      subst hj3
      obtain ⟨e9, g1, g2, g3⟩ := fb_ct_kth w1
      exact absurd (by rw [g3, w2]) (hno e9 g1 g2)
    have hj2 := i_nlt h11
    refine gg_iconst K (v := 0) dX0_startOfRow_14 (by decide) ?_
    refine gg_istore K dX0_startOfRow_15 (by decide) ?_
    refine gg_sub (L' := [(5, .int (nI 0)), (4, .int (nI r)), (3, .int (nI ((fb_ct (rwF (vX k kp T) li) (60 * r + 0))))), (0, .ref X.1), (1, .int (nI li)), (2, .int w9)]) ⟨rfl, rfl, rfl, rfl, rfl, rfl, trivial⟩ ?_
    refine gg_loop (fun i w L => ∃ (d : Nat), d + i = 61 ∧ w = wX Z X k kp dr (nI T) ∧ d ≤ 60 ∧ L = [(5, .int (nI d)), (4, .int (nI r)), (3, .int (nI ((fb_ct (rwF (vX k kp T) li) (60 * r + d))))), (0, .ref X.1), (1, .int (nI li)), (2, .int w9)] ∧ ∀ e9, e9 < 60 * r + d → (rwF (vX k kp T) li) e9 = true → ¬ nI (fb_ct (rwF (vX k kp T) li) e9) = w9) (fun w L h => ?_) (fun i w L h ih2 => ?_) 61 _ _ ⟨0, by omega, rfl, by omega, rfl, hno⟩
    · obtain ⟨d, hj, -, h2, -⟩ := h
      omega
    · obtain ⟨d, hd1, rfl, hd2, rfl, hno2⟩ := h
      refine gg_iload K dX0_startOfRow_17 rfl ?_
      refine gg_bipush K (v := 60) dX0_startOfRow_19 (by decide) ?_
      refine gg_icmp_ge K (tgt := 68) dX0_startOfRow_21 (by decide) (fun h21 => ?_) (fun h21 => ?_)
      · have hd3 := i_le (a := 60) h21
        have hd4 : d = 60 := by omega
        subst hd4
        refine gg_iinc K (v := nI (r + 1)) dX0_startOfRow_68 rfl (nI_inc (r)) (by decide) ?_
        refine gg_goto K (tgt := 5) dX0_startOfRow_71 (by decide) ?_
        refine gg_sub (L' := [(4, .int (nI (r + 1))), (3, .int (nI ((fb_ct (rwF (vX k kp T) li) (60 * (r + 1)))))), (0, .ref X.1), (1, .int (nI li)), (2, .int w9)]) ⟨rfl, rfl, rfl, rfl, rfl, trivial⟩ ?_
        exact ih _ _ ⟨r + 1, by omega, rfl, by omega, rfl, hno2⟩
      have hd3 := i_nle (a := 60) h21
      refine gg_aload_n K (i := 0) dX0_startOfRow_24 rfl rfl ?_
      refine gg_iload K dX0_startOfRow_25 rfl ?_
      refine gg_callRX K k_X0_X0_isKept (x_isKept r ok hj2 rfl) dX0_startOfRow_27 rfl rfl rfl rfl ⟨rfl, rfl⟩ ?_
      refine gg_b_eq K (tgt := 68) dX0_startOfRow_30 (by decide) (fun h30 => ?_) (fun h30 => ?_)
      · have hoff := fun d => vX_off (k := k) ok hj2 (of_decide_eq_false h30) li d
        have hfl : ∀ e9, 60 * r + d ≤ e9 → e9 < 60 * r + d + (60 - d) → (rwF (vX k kp T) li) e9 = false := fun e9 g1 g2 => by
          have e := rwF_at (vX k kp T) li r (e9 - 60 * r) (by omega)
          rw [show 60 * r + (e9 - 60 * r) = e9 by omega] at e
          rw [e]
          exact hoff _
        have hc := fb_ct_flat hfl
        rw [show 60 * r + d + (60 - d) = 60 * (r + 1) by omega] at hc
        refine gg_iinc K (v := nI (r + 1)) dX0_startOfRow_68 rfl (nI_inc (r)) (by decide) ?_
        refine gg_goto K (tgt := 5) dX0_startOfRow_71 (by decide) ?_
        refine gg_sub (L' := [(4, .int (nI (r + 1))), (3, .int (nI ((fb_ct (rwF (vX k kp T) li) (60 * r + d))))), (0, .ref X.1), (1, .int (nI li)), (2, .int w9)]) ⟨rfl, rfl, rfl, rfl, rfl, trivial⟩ ?_
        refine ih _ _ ⟨r + 1, by omega, rfl, by omega, by rw [hc], fun e9 g1 g2 => ?_⟩
        by_cases hlt : e9 < 60 * r + d
        · exact hno2 e9 hlt g2
        · rw [hfl e9 (by omega) (by omega)] at g2
          cases g2
      have hat := rwF_at (vX k kp T) li r d hd3
      refine gg_aload_n K (i := 0) dX0_startOfRow_33 rfl rfl ?_
      refine gg_iload K dX0_startOfRow_34 rfl ?_
      refine gg_iload_n K (i := 1) dX0_startOfRow_36 rfl rfl ?_
      refine gg_iload K dX0_startOfRow_37 rfl ?_
      refine gg_callRX K k_X0_X0_startsRow (x_startsRow r li d ok hj2 hli hd3 rfl rfl rfl) dX0_startOfRow_39 rfl rfl rfl rfl ⟨rfl, rfl⟩ ?_
      refine gg_b_eq K (tgt := 62) dX0_startOfRow_42 (by decide) (fun h42 => ?_) (fun h42 => ?_)
      · rw [← hat] at h42
        refine gg_iinc K (v := nI (d + 1)) dX0_startOfRow_62 rfl (nI_inc (d)) (by decide) ?_
        refine gg_goto K (tgt := 17) dX0_startOfRow_65 (by decide) ?_
        refine gg_sub (L' := [(5, .int (nI (d + 1))), (4, .int (nI r)), (3, .int (nI ((fb_ct (rwF (vX k kp T) li) (60 * r + d))))), (0, .ref X.1), (1, .int (nI li)), (2, .int w9)]) ⟨rfl, rfl, rfl, rfl, rfl, rfl, trivial⟩ ?_
        refine ih2 _ _ ⟨d + 1, by omega, rfl, by omega, by rw [show 60 * r + (d + 1) = (60 * r + d) + 1 from rfl, fb_ct_succ, h42]; rfl, fun e9 g1 g2 => ?_⟩
        by_cases hlt : e9 < 60 * r + d
        · exact hno2 e9 hlt g2
        · rw [show e9 = 60 * r + d by omega, h42] at g2
          cases g2
      rw [← hat] at h42
      refine gg_iload_n K (i := 3) dX0_startOfRow_45 rfl rfl ?_
      refine gg_iload_n K (i := 2) dX0_startOfRow_46 rfl rfl ?_
      refine gg_icmp_ne K (tgt := 59) dX0_startOfRow_47 (by decide) (fun h47 => ?_) (fun h47 => ?_)
      · refine gg_iinc K (v := nI (fb_ct (rwF (vX k kp T) li) (60 * r + d) + 1)) dX0_startOfRow_59 rfl (nI_inc (fb_ct (rwF (vX k kp T) li) (60 * r + d))) (by decide) ?_
        refine gg_iinc K (v := nI (d + 1)) dX0_startOfRow_62 rfl (nI_inc (d)) (by decide) ?_
        refine gg_goto K (tgt := 17) dX0_startOfRow_65 (by decide) ?_
        refine gg_sub (L' := [(5, .int (nI (d + 1))), (4, .int (nI r)), (3, .int (nI ((fb_ct (rwF (vX k kp T) li) (60 * r + d) + 1)))), (0, .ref X.1), (1, .int (nI li)), (2, .int w9)]) ⟨rfl, rfl, rfl, rfl, rfl, rfl, trivial⟩ ?_
        refine ih2 _ _ ⟨d + 1, by omega, rfl, by omega, by rw [show 60 * r + (d + 1) = (60 * r + d) + 1 from rfl, fb_ct_succ, h42]; rfl, fun e9 g1 g2 => ?_⟩
        by_cases hlt : e9 < 60 * r + d
        · exact hno2 e9 hlt g2
        · rw [show e9 = 60 * r + d by omega]
          exact h47
      · refine gg_iload K dX0_startOfRow_50 rfl ?_
        refine gg_bipush K (v := 60) dX0_startOfRow_52 (by decide) ?_
        refine gg_imul K dX0_startOfRow_54 ?_
        refine gg_iload K dX0_startOfRow_55 rfl ?_
        refine gg_iadd K dX0_startOfRow_57 ?_
        have hle := fb_ct_le (rwF (vX k kp T) li) (60 * r + d)
        have hfb := fb_ct_le (rwF (vX k kp T) li) (60 * (T + 1))
        rw [w2] at h47
        exact gg_iret K hr dX0_startOfRow_58 (Nat.le_of_ble_eq_true rfl) (Nat.le_of_ble_eq_true rfl) ⟨some_int (by
          rw [kthD_eq h42 (i_eq h47) (show 60 * r + d < 60 * (T + 1) by omega)]
          simp only [nI_lit, nI_mul, nI_add]; exact congrArg nI (by omega)), rfl⟩
/-- a row's place -/
theorem kthD_at {q : Nat → Bool} {w N : Nat} (h : w < fb_ct q N) : kthD q w N < N ∧ q (kthD q w N) = true ∧ fb_ct q (kthD q w N) = w := by
  obtain ⟨e9, g1, g2, g3⟩ := fb_ct_kth h
  rw [kthD_eq g2 g3 g1]
  exact ⟨g1, g2, g3⟩
set_option maxRecDepth 100000 in
theorem n_rowRun {l : Launch} {Z : ZT} {X : XT} {k kp dr : Nat → Int32} {T : Nat} (ok : okX kp T) (t' y' : Nat) {t y : Int32} (a1 : t' < 2) (b1 : y' < 8) (a2 : t = nI t') (b2 : y = nI y') (w' : Nat) {w9 : Int32} (w1 : w' < fb_ct (rwF (vX k kp T) (t' * 8 + y')) (60 * (T + 1))) (w2 : w9 = nI w') : mR l Z yX0_rowRun cX0_rowRun 6 (some .int) (rmk 9 200 0 0) (wX Z X k kp dr (nI T)) [.ref X.1, .int t, .int y, .int w9] (.int (runN (vX k kp T ((kthD (rwF (vX k kp T) (t' * 8 + y')) w' (60 * (T + 1))) / 60) (t' * 8 + y')) ((kthD (rwF (vX k kp T) (t' * 8 + y')) w' (60 * (T + 1))) % 60))) := by
  have hT9 := ok.1
  refine mA_intro (own := RX0) [(0, .ref X.1), (1, .int t), (2, .int y), (3, .int w9)] (by decide +kernel) rfl rfl rfl rfl ?_
  intro p e s m args below meth c A K hr hin
  refine gg_iload_n K (i := 1) dX0_rowRun_0 rfl rfl ?_
  refine gg_iload_n K (i := 2) dX0_rowRun_1 rfl rfl ?_
  refine gg_callS0 K k_X0_X0_needTableAndKey (n_needTK t' y' a1 b1 a2 b2) dX0_rowRun_2 rfl rfl rfl rfl ⟨rfl, rfl⟩ ?_
  refine gg_iload_n K (i := 1) dX0_rowRun_5 rfl rfl ?_
  refine gg_iload_n K (i := 2) dX0_rowRun_6 rfl rfl ?_
  refine gg_callSR K k_X0_X0_line (x_line t' y' a2 b2) dX0_rowRun_7 rfl rfl rfl rfl ⟨rfl, rfl⟩ ?_
  obtain ⟨g1, g2, g3⟩ := kthD_at w1
  refine gg_istore K dX0_rowRun_10 (by decide) ?_
  refine gg_aload_n K (i := 0) dX0_rowRun_12 rfl rfl ?_
  refine gg_iload K dX0_rowRun_13 rfl ?_
  refine gg_iload_n K (i := 3) dX0_rowRun_15 rfl rfl ?_
  refine gg_callRX K k_X0_X0_startOfRow (n_startOfRow ok (t' * 8 + y') (by omega) w' rfl w1 w2) dX0_rowRun_16 rfl rfl rfl rfl ⟨rfl, rfl⟩ ?_
  refine gg_istore K dX0_rowRun_19 (by decide) ?_
  refine gg_aload_n K (i := 0) dX0_rowRun_21 rfl rfl ?_
  refine gg_iload K dX0_rowRun_22 rfl ?_
  refine gg_callSR K k_X0_X0_recordOfStart x_recordOfStart dX0_rowRun_24 rfl rfl rfl rfl ⟨rfl, rfl⟩ ?_
  refine gg_iload K dX0_rowRun_27 rfl ?_
  refine gg_iload K dX0_rowRun_29 rfl ?_
  refine gg_callSR K k_X0_X0_validOfStart x_validOfStart dX0_rowRun_31 rfl rfl rfl rfl ⟨rfl, rfl⟩ ?_
  refine gg_callRX K k_X0_X0_runNumber (x_runNumber ((kthD (rwF (vX k kp T) (t' * 8 + y')) w' (60 * (T + 1))) / 60) (t' * 8 + y') ((kthD (rwF (vX k kp T) (t' * 8 + y')) w' (60 * (T + 1))) % 60) ok (by omega) (by omega) (by omega) (pk_div (d := 60) (by omega) (by omega) (by omega)) rfl (pk_rem (d := 60) (by omega) (by omega) (by omega))) dX0_rowRun_34 rfl rfl rfl rfl ⟨rfl, rfl⟩ ?_
  exact gg_iret K hr dX0_rowRun_37 (Nat.le_of_ble_eq_true rfl) (Nat.le_of_ble_eq_true rfl) ⟨rfl, rfl⟩
set_option maxRecDepth 100000 in
theorem n_rowFrom {l : Launch} {Z : ZT} {X : XT} {k kp dr : Nat → Int32} {T : Nat} (ok : okX kp T) (t' y' : Nat) {t y : Int32} (a1 : t' < 2) (b1 : y' < 8) (a2 : t = nI t') (b2 : y = nI y') (w' : Nat) {w9 : Int32} (w1 : w' < fb_ct (rwF (vX k kp T) (t' * 8 + y')) (60 * (T + 1))) (w2 : w9 = nI w') : mR l Z yX0_rowFrom cX0_rowFrom 4 (some .int) (rmk 9 200 0 0) (wX Z X k kp dr (nI T)) [.ref X.1, .int t, .int y, .int w9] (.int (nI ((kthD (rwF (vX k kp T) (t' * 8 + y')) w' (60 * (T + 1))) / 60))) := by
  have hT9 := ok.1
  refine mA_intro (own := RX0) [(0, .ref X.1), (1, .int t), (2, .int y), (3, .int w9)] (by decide +kernel) rfl rfl rfl rfl ?_
  intro p e s m args below meth c A K hr hin
  refine gg_iload_n K (i := 1) dX0_rowFrom_0 rfl rfl ?_
  refine gg_iload_n K (i := 2) dX0_rowFrom_1 rfl rfl ?_
  refine gg_callS0 K k_X0_X0_needTableAndKey (n_needTK t' y' a1 b1 a2 b2) dX0_rowFrom_2 rfl rfl rfl rfl ⟨rfl, rfl⟩ ?_
  refine gg_aload_n K (i := 0) dX0_rowFrom_5 rfl rfl ?_
  refine gg_iload_n K (i := 1) dX0_rowFrom_6 rfl rfl ?_
  refine gg_iload_n K (i := 2) dX0_rowFrom_7 rfl rfl ?_
  refine gg_callSR K k_X0_X0_line (x_line t' y' a2 b2) dX0_rowFrom_8 rfl rfl rfl rfl ⟨rfl, rfl⟩ ?_
  obtain ⟨g1, g2, g3⟩ := kthD_at w1
  refine gg_iload_n K (i := 3) dX0_rowFrom_11 rfl rfl ?_
  refine gg_callRX K k_X0_X0_startOfRow (n_startOfRow ok (t' * 8 + y') (by omega) w' rfl w1 w2) dX0_rowFrom_12 rfl rfl rfl rfl ⟨rfl, rfl⟩ ?_
  refine gg_callSR K k_X0_X0_recordOfStart x_recordOfStart dX0_rowFrom_15 rfl rfl rfl rfl ⟨rfl, rfl⟩ ?_
  exact gg_iret K hr dX0_rowFrom_18 (Nat.le_of_ble_eq_true rfl) (Nat.le_of_ble_eq_true rfl) ⟨some_int (pk_div (d := 60) (by omega) (by omega) (by omega)), rfl⟩
set_option maxRecDepth 100000 in
theorem n_rowTo {l : Launch} {Z : ZT} {X : XT} {k kp dr : Nat → Int32} {T : Nat} (ok : okX kp T) (t' y' : Nat) {t y : Int32} (a1 : t' < 2) (b1 : y' < 8) (a2 : t = nI t') (b2 : y = nI y') (w' : Nat) {w9 : Int32} (w1 : w' < fb_ct (rwF (vX k kp T) (t' * 8 + y')) (60 * (T + 1))) (w2 : w9 = nI w') : mR l Z yX0_rowTo cX0_rowTo 9 (some .int) (rmk 9 200 0 0) (wX Z X k kp dr (nI T)) [.ref X.1, .int t, .int y, .int w9] (.int (reF (fun a => smF (vX k kp T (((kthD (rwF (vX k kp T) (t' * 8 + y')) w' (60 * (T + 1)))) / 60) (t' * 8 + y')) (vX k kp T a (t' * 8 + y')) (((kthD (rwF (vX k kp T) (t' * 8 + y')) w' (60 * (T + 1)))) % 60)) (T - (kthD (rwF (vX k kp T) (t' * 8 + y')) w' (60 * (T + 1))) / 60) ((kthD (rwF (vX k kp T) (t' * 8 + y')) w' (60 * (T + 1))) / 60 + 1))) := by
  have hT9 := ok.1
  refine mA_intro (own := RX0) [(0, .ref X.1), (1, .int t), (2, .int y), (3, .int w9)] (by decide +kernel) rfl rfl rfl rfl ?_
  intro p e s m args below meth c A K hr hin
  refine gg_iload_n K (i := 1) dX0_rowTo_0 rfl rfl ?_
  refine gg_iload_n K (i := 2) dX0_rowTo_1 rfl rfl ?_
  refine gg_callS0 K k_X0_X0_needTableAndKey (n_needTK t' y' a1 b1 a2 b2) dX0_rowTo_2 rfl rfl rfl rfl ⟨rfl, rfl⟩ ?_
  refine gg_iload_n K (i := 1) dX0_rowTo_5 rfl rfl ?_
  refine gg_iload_n K (i := 2) dX0_rowTo_6 rfl rfl ?_
  refine gg_callSR K k_X0_X0_line (x_line t' y' a2 b2) dX0_rowTo_7 rfl rfl rfl rfl ⟨rfl, rfl⟩ ?_
  obtain ⟨g1, g2, g3⟩ := kthD_at w1
  refine gg_istore K dX0_rowTo_10 (by decide) ?_
  refine gg_aload_n K (i := 0) dX0_rowTo_12 rfl rfl ?_
  refine gg_iload K dX0_rowTo_13 rfl ?_
  refine gg_iload_n K (i := 3) dX0_rowTo_15 rfl rfl ?_
  refine gg_callRX K k_X0_X0_startOfRow (n_startOfRow ok (t' * 8 + y') (by omega) w' rfl w1 w2) dX0_rowTo_16 rfl rfl rfl rfl ⟨rfl, rfl⟩ ?_
  refine gg_istore K dX0_rowTo_19 (by decide) ?_
  refine gg_iload K dX0_rowTo_21 rfl ?_
  refine gg_callSR K k_X0_X0_recordOfStart x_recordOfStart dX0_rowTo_23 rfl rfl rfl rfl ⟨rfl, rfl⟩ ?_
  refine gg_top (pk_div (d := 60) (by omega) (by omega) (by omega)) ?_
  refine gg_istore K dX0_rowTo_26 (by decide) ?_
  refine gg_iload K dX0_rowTo_28 rfl ?_
  refine gg_callSR K k_X0_X0_validOfStart x_validOfStart dX0_rowTo_30 rfl rfl rfl rfl ⟨rfl, rfl⟩ ?_
  refine gg_top (pk_rem (d := 60) (by omega) (by omega) (by omega)) ?_
  refine gg_istore K dX0_rowTo_33 (by decide) ?_
  refine gg_iload K dX0_rowTo_35 rfl ?_
  refine gg_iconst K (v := 1) dX0_rowTo_37 (by decide) ?_
  refine gg_iadd K dX0_rowTo_38 ?_
  refine gg_top (nI_1 _) ?_
  refine gg_istore K dX0_rowTo_39 (by decide) ?_
  obtain ⟨G, hG⟩ : ∃ G, G = reF (fun a => smF (vX k kp T (((kthD (rwF (vX k kp T) (t' * 8 + y')) w' (60 * (T + 1)))) / 60) (t' * 8 + y')) (vX k kp T a (t' * 8 + y')) (((kthD (rwF (vX k kp T) (t' * 8 + y')) w' (60 * (T + 1)))) % 60)) (T - (kthD (rwF (vX k kp T) (t' * 8 + y')) w' (60 * (T + 1))) / 60) ((kthD (rwF (vX k kp T) (t' * 8 + y')) w' (60 * (T + 1))) / 60 + 1) := ⟨_, rfl⟩
  rw [← hG]
  refine gg_sub (L' := [(8, .int (nI ((kthD (rwF (vX k kp T) (t' * 8 + y')) w' (60 * (T + 1))) / 60 + 1))), (7, .int (nI ((kthD (rwF (vX k kp T) (t' * 8 + y')) w' (60 * (T + 1))) % 60))), (6, .int (nI ((kthD (rwF (vX k kp T) (t' * 8 + y')) w' (60 * (T + 1))) / 60))), (4, .int (nI (t' * 8 + y'))), (0, .ref X.1)]) ⟨rfl, rfl, rfl, rfl, rfl, trivial⟩ ?_
  refine gg_loop (fun i w L => ∃ (a : Nat), a + i = T + 2 ∧ w = wX Z X k kp dr (nI T) ∧ a ≤ T + 1 ∧ L = [(8, .int (nI a)), (7, .int (nI ((kthD (rwF (vX k kp T) (t' * 8 + y')) w' (60 * (T + 1))) % 60))), (6, .int (nI ((kthD (rwF (vX k kp T) (t' * 8 + y')) w' (60 * (T + 1))) / 60))), (4, .int (nI (t' * 8 + y'))), (0, .ref X.1)] ∧ G = reF (fun a => smF (vX k kp T (((kthD (rwF (vX k kp T) (t' * 8 + y')) w' (60 * (T + 1)))) / 60) (t' * 8 + y')) (vX k kp T a (t' * 8 + y')) (((kthD (rwF (vX k kp T) (t' * 8 + y')) w' (60 * (T + 1)))) % 60)) (T + 1 - a) a) (fun w L h => ?_) (fun i w L h ih => ?_) (T + 1 - (kthD (rwF (vX k kp T) (t' * 8 + y')) w' (60 * (T + 1))) / 60) _ _ ⟨(kthD (rwF (vX k kp T) (t' * 8 + y')) w' (60 * (T + 1))) / 60 + 1, by omega, rfl, by omega, rfl, by rw [hG, show T + 1 - ((kthD (rwF (vX k kp T) (t' * 8 + y')) w' (60 * (T + 1))) / 60 + 1) = T - (kthD (rwF (vX k kp T) (t' * 8 + y')) w' (60 * (T + 1))) / 60 by omega]⟩
  · obtain ⟨a, hj, -, h2, -⟩ := h
    omega
  · obtain ⟨a, hj, rfl, hj1, rfl, he⟩ := h
    refine gg_iload K dX0_rowTo_41 rfl ?_
    refine gg_aload_n K (i := 0) dX0_rowTo_43 rfl rfl ?_
    refine gX_today K dX0_rowTo_44 ?_
    refine gg_icmp_gt K (tgt := 74) dX0_rowTo_47 (by decide) (fun h47 => ?_) (fun h47 => ?_)
    · have hj2 := i_lt h47
      refine gg_iconst K (v := (-1)) dX0_rowTo_74 (by decide) ?_
      exact gg_iret K hr dX0_rowTo_75 (Nat.le_of_ble_eq_true rfl) (Nat.le_of_ble_eq_true rfl) ⟨some_int (by rw [he, show T + 1 - a = 0 by omega]; rfl), rfl⟩
    have hj2 := i_nlt h47
    rw [show T + 1 - a = (T - a) + 1 by omega] at he
    unfold reF at he
    refine gg_aload_n K (i := 0) dX0_rowTo_50 rfl rfl ?_
    refine gg_iload K dX0_rowTo_51 rfl ?_
    refine gg_iload K dX0_rowTo_53 rfl ?_
    refine gg_iload K dX0_rowTo_55 rfl ?_
    refine gg_iload K dX0_rowTo_57 rfl ?_
    refine gg_callRX K k_X0_X0_sameRun (x_sameRun ((kthD (rwF (vX k kp T) (t' * 8 + y')) w' (60 * (T + 1))) / 60) a (t' * 8 + y') ((kthD (rwF (vX k kp T) (t' * 8 + y')) w' (60 * (T + 1))) % 60) ok (by omega) hj2 (by omega) (by omega) rfl rfl rfl rfl) dX0_rowTo_59 rfl rfl rfl rfl ⟨rfl, rfl⟩ ?_
    refine gg_b_ne K (tgt := 68) dX0_rowTo_62 (by decide) (fun h62 => ?_) (fun h62 => ?_)
    · rw [if_pos h62] at he
      refine gg_iinc K (v := nI (a + 1)) dX0_rowTo_68 rfl (nI_inc (a)) (by decide) ?_
      refine gg_goto K (tgt := 41) dX0_rowTo_71 (by decide) ?_
      refine gg_sub (L' := [(8, .int (nI (a + 1))), (7, .int (nI ((kthD (rwF (vX k kp T) (t' * 8 + y')) w' (60 * (T + 1))) % 60))), (6, .int (nI ((kthD (rwF (vX k kp T) (t' * 8 + y')) w' (60 * (T + 1))) / 60))), (4, .int (nI (t' * 8 + y'))), (0, .ref X.1)]) ⟨rfl, rfl, rfl, rfl, rfl, trivial⟩ ?_
      exact ih _ _ ⟨a + 1, by omega, rfl, by omega, rfl, by rw [he, show T - a = T + 1 - (a + 1) by omega]⟩
    · rw [if_neg (by rw [h62]; decide)] at he
      refine gg_iload K dX0_rowTo_65 rfl ?_
      exact gg_iret K hr dX0_rowTo_67 (Nat.le_of_ble_eq_true rfl) (Nat.le_of_ble_eq_true rfl) ⟨some_int he.symm, rfl⟩
