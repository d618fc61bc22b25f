/-! Twotimes: the questions that change nothing, from their first instruction -/
abbrev nN (x : Int32) : Nat := x.toNatClampNeg
theorem inR_N {x : Int32} {b : Nat} (h : inR x (nI b)) (hb : b < 2 ^ 31 := by omega) : nN x < b ∧ x = nI (nN x) := by
  obtain ⟨j, h1, h2⟩ := inR_nat h
  have e : nN x = j := by rw [h2]; exact nI_clamp (by omega)
  rw [e]
  exact ⟨h1, h2⟩
theorem leT {x : Int32} {T : Nat} (h2 : x = nI (nN x)) (h1 : nN x < 60) (hT : T < 60) (h : x ≤ nI T) : nN x ≤ T := by
  rw [h2] at h
  exact i_le h
/-- what a call may answer: its code (0: it returns), its answer, the table of values and today behind it -/
abbrev ST : Type := Int32 → Int32 → VT → Nat → Prop
def qS (V : VT) (T : Nat) (P1 P2 : Prop) (r0 : Int32) : ST := fun c r V' T' => V' = V ∧ T' = T ∧ ((¬ P1 ∧ c = 1) ∨ (P1 ∧ ¬ P2 ∧ c = 2) ∨ (P1 ∧ P2 ∧ c = 0 ∧ r = r0))
def xPost (Z : ZT) (X : XT) (S : ST) : Option Value → va_W → Prop := fun ret u => ∃ (r : Int32) (k' kp' dr' : Nat → Int32) (T' : Nat), ret = some (.int r) ∧ u = wX Z X k' kp' dr' (nI T') ∧ okX kp' T' ∧ S 0 r (vX k' kp' T') T'
def xErr (Z : ZT) (X : XT) (S : ST) (codes : List (String × Int32)) : String → va_W → Prop := fun E u => ∃ (c : Int32) (k' kp' dr' : Nat → Int32) (T' : Nat), (E, c) ∈ codes ∧ u = wX Z X k' kp' dr' (nI T') ∧ okX kp' T' ∧ S c 0 (vX k' kp' T') T'
def cAB : List (String × Int32) := [(eA, 1), (eB, 2)]
def cAS : List (String × Int32) := [(eA, 1), (eS, 2)]
def cA1 : List (String × Int32) := [(eA, 1)]
def cABS : List (String × Int32) := [(eA, 1), (eB, 2), (eS, 3)]
theorem qE1 {Z : ZT} {X : XT} {k kp dr : Nat → Int32} {T : Nat} {P1 P2 : Prop} {r0 : Int32} {codes : List (String × Int32)} (ok : okX kp T) (h : ¬ P1) (hm : (eA, 1) ∈ codes) : xErr Z X (qS (vX k kp T) T P1 P2 r0) codes eA (wX Z X k kp dr (nI T)) := ⟨1, k, kp, dr, T, hm, rfl, ok, rfl, rfl, Or.inl ⟨h, rfl⟩⟩
theorem qE2 {Z : ZT} {X : XT} {k kp dr : Nat → Int32} {T : Nat} {P1 P2 : Prop} {r0 : Int32} {codes : List (String × Int32)} {E : String} (ok : okX kp T) (h1 : P1) (h : ¬ P2) (hm : (E, 2) ∈ codes) : xErr Z X (qS (vX k kp T) T P1 P2 r0) codes E (wX Z X k kp dr (nI T)) := ⟨2, k, kp, dr, T, hm, rfl, ok, rfl, rfl, Or.inr (Or.inl ⟨h1, h, rfl⟩)⟩
theorem qOk {Z : ZT} {X : XT} {k kp dr : Nat → Int32} {T : Nat} {P1 P2 : Prop} {r r0 : Int32} (ok : okX kp T) (h1 : P1) (h2 : P2) (e : r = r0) : xPost Z X (qS (vX k kp T) T P1 P2 r0) (some (.int r)) (wX Z X k kp dr (nI T)) := ⟨r, k, kp, dr, T, rfl, rfl, ok, rfl, rfl, Or.inr (Or.inr ⟨h1, h2, rfl, e⟩)⟩
set_option maxRecDepth 100000 in
theorem x_today {l : Launch} {Z : ZT} {X : XT} {k kp dr : Nat → Int32} {T : Nat} : mR l Z yX0_today cX0_today 1 (some .int) (rmk 0 0 0 0) (wX Z X k kp dr (nI T)) [.ref X.1] (.int (nI T)) := by
  refine mA_intro (own := RX0) [(0, .ref X.1)] (by decide +kernel) rfl rfl rfl rfl ?_
  intro p e s m args below meth c A K hr hin
  refine gg_aload_n K (i := 0) dX0_today_0 rfl rfl ?_
  refine gX_today K dX0_today_1 ?_
  exact gg_iret K hr dX0_today_4 (Nat.le_of_ble_eq_true rfl) (Nat.le_of_ble_eq_true rfl) ⟨rfl, rfl⟩
set_option maxRecDepth 100000 in
theorem x_value {l : Launch} {Z : ZT} {X : XT} {k kp dr : Nat → Int32} {T : Nat} (hl0 : l.stackTraces = false) (ok : okX kp T) {t y d q : Int32} : mX l Z.1 (ty3 Z) yX0_value (.code yX0_value cX0_value 5 (some .int)) (rmk 9 200 8 48) (wX Z X k kp dr (nI T)) [.ref X.1, .int t, .int y, .int d, .int q] (xPost Z X ((qS (vX k kp T) T (inR t 2 ∧ inR y 8 ∧ inR d 60 ∧ inR q 60) (q ≤ nI T) (vX k kp T (nN q) (nN t * 8 + nN y) (nN d))))) (xErr Z X ((qS (vX k kp T) T (inR t 2 ∧ inR y 8 ∧ inR d 60 ∧ inR q 60) (q ≤ nI T) (vX k kp T (nN q) (nN t * 8 + nN y) (nN d)))) cAB) := by
  refine mX_intro (own := RX0) [(0, .ref X.1), (1, .int t), (2, .int y), (3, .int d), (4, .int q)] (by decide +kernel) rfl rfl rfl rfl ?_
  intro p e s m args below meth c A K hr T9 htab
  refine gg_iload_n K (i := 1) dX0_value_0 rfl rfl ?_
  refine gg_iload_n K (i := 2) dX0_value_1 rfl rfl ?_
  refine gg_callTS 2 12 K T9 k_X0_X0_needTableAndKey (x_needTK hl0) dX0_value_2 rfl rfl rfl rfl ⟨rfl, rfl⟩ (fun E u h => ?_) (fun v u h => ?_)
  · obtain ⟨rfl, rfl, h⟩ := h
    exact gx_out K htab (Nat.le_of_ble_eq_true rfl) (Nat.le_of_ble_eq_true rfl) (qE1 ok (fun z => h ⟨z.1, z.2.1⟩) (by decide))
  obtain ⟨rfl, rfl, h1⟩ := h
  refine gg_iload_n K (i := 3) dX0_value_5 rfl rfl ?_
  refine gg_bipush K (v := 60) dX0_value_6 (by decide) ?_
  refine gg_callTS 3 18 K T9 k_X0_X0_needRange (x_needRange hl0) dX0_value_8 rfl rfl rfl rfl ⟨rfl, rfl⟩ (fun E u h => ?_) (fun v u h => ?_)
  · obtain ⟨rfl, rfl, h⟩ := h
    exact gx_out K htab (Nat.le_of_ble_eq_true rfl) (Nat.le_of_ble_eq_true rfl) (qE1 ok (fun z => h z.2.2.1) (by decide))
  obtain ⟨rfl, rfl, h2⟩ := h
  refine gg_aload_n K (i := 0) dX0_value_11 rfl rfl ?_
  refine gg_iload K dX0_value_12 rfl ?_
  refine gg_callTX 5 30 K T9 k_X0_X0_needRecord (x_needRecord hl0) dX0_value_14 rfl rfl rfl rfl ⟨rfl, rfl⟩ (fun E u h => ?_) (fun v u h => ?_)
  · obtain ⟨rfl, ⟨rfl, h⟩ | ⟨rfl, h, h'⟩⟩ := h
    · exact gx_out K htab (Nat.le_of_ble_eq_true rfl) (Nat.le_of_ble_eq_true rfl) (qE1 ok (fun z => h z.2.2.2) (by decide))
    · exact gx_out K htab (Nat.le_of_ble_eq_true rfl) (Nat.le_of_ble_eq_true rfl) (qE2 ok ⟨h1.1, h1.2, h2, h⟩ h' (by decide))
  obtain ⟨rfl, rfl, h3, h4⟩ := h
  have ⟨a1, a2⟩ := inR_N (b := 2) h1.1
  have ⟨b1, b2⟩ := inR_N (b := 8) h1.2
  have ⟨d1, d2⟩ := inR_N (b := 60) h2
  have ⟨q1, q2⟩ := inR_N (b := 60) h3
  refine gg_aload_n K (i := 0) dX0_value_17 rfl rfl ?_
  refine gg_iload K dX0_value_18 rfl ?_
  refine gg_iload_n K (i := 1) dX0_value_20 rfl rfl ?_
  refine gg_iload_n K (i := 2) dX0_value_21 rfl rfl ?_
  refine gg_callSR K k_X0_X0_line (x_line (nN t) (nN y) a2 b2) dX0_value_22 rfl rfl rfl rfl ⟨rfl, rfl⟩ ?_
  refine gg_iload_n K (i := 3) dX0_value_25 rfl rfl ?_
  refine gg_callRX K k_X0_X0_knownOn (x_knownOn (nN q) (nN t * 8 + nN y) (nN d) ok (leT q2 q1 ok.1 h4) (by omega) d1 q2 rfl d2) dX0_value_26 rfl rfl rfl rfl ⟨rfl, rfl⟩ ?_
  exact gg_x (gg_iret K hr dX0_value_29 (Nat.le_of_ble_eq_true rfl) (Nat.le_of_ble_eq_true rfl) (qOk ok ⟨h1.1, h1.2, h2, h3⟩ h4 rfl))
def kyF (g : Nat → Int32) : Nat → Int32
  | 0 => 0
  | n + 1 => if g n = -1 then kyF g n else kyF g n ||| (1 <<< (nI n &&& 31))
set_option maxRecDepth 100000 in
theorem x_keys {l : Launch} {Z : ZT} {X : XT} {k kp dr : Nat → Int32} {T : Nat} (hl0 : l.stackTraces = false) (ok : okX kp T) {t d q : Int32} : mX l Z.1 (ty3 Z) yX0_keys (.code yX0_keys cX0_keys 6 (some .int)) (rmk 9 200 8 48) (wX Z X k kp dr (nI T)) [.ref X.1, .int t, .int d, .int q] (xPost Z X ((qS (vX k kp T) T (inR t 2 ∧ inR d 60 ∧ inR q 60) (q ≤ nI T) (kyF (fun i => vX k kp T (nN q) (nN t * 8 + i) (nN d)) 8)))) (xErr Z X ((qS (vX k kp T) T (inR t 2 ∧ inR d 60 ∧ inR q 60) (q ≤ nI T) (kyF (fun i => vX k kp T (nN q) (nN t * 8 + i) (nN d)) 8))) cAB) := by
  refine mX_intro (own := RX0) [(0, .ref X.1), (1, .int t), (2, .int d), (3, .int q)] (by decide +kernel) rfl rfl rfl rfl ?_
  intro p e s m args below meth c A K hr T9 htab
  refine gg_iload_n K (i := 1) dX0_keys_0 rfl rfl ?_
  refine gg_iconst K (v := 2) dX0_keys_1 (by decide) ?_
  refine gg_callTS 1 6 K T9 k_X0_X0_needRange (x_needRange hl0) dX0_keys_2 rfl rfl rfl rfl ⟨rfl, rfl⟩ (fun E u h => ?_) (fun v u h => ?_)
  · obtain ⟨rfl, rfl, h⟩ := h
    exact gx_out K htab (Nat.le_of_ble_eq_true rfl) (Nat.le_of_ble_eq_true rfl) (qE1 ok (fun z => h z.1) (by decide))
  obtain ⟨rfl, rfl, h1⟩ := h
  refine gg_iload_n K (i := 2) dX0_keys_5 rfl rfl ?_
  refine gg_bipush K (v := 60) dX0_keys_6 (by decide) ?_
  refine gg_callTS 2 12 K T9 k_X0_X0_needRange (x_needRange hl0) dX0_keys_8 rfl rfl rfl rfl ⟨rfl, rfl⟩ (fun E u h => ?_) (fun v u h => ?_)
  · obtain ⟨rfl, rfl, h⟩ := h
    exact gx_out K htab (Nat.le_of_ble_eq_true rfl) (Nat.le_of_ble_eq_true rfl) (qE1 ok (fun z => h z.2.1) (by decide))
  obtain ⟨rfl, rfl, h2⟩ := h
  refine gg_aload_n K (i := 0) dX0_keys_11 rfl rfl ?_
  refine gg_iload_n K (i := 3) dX0_keys_12 rfl rfl ?_
  refine gg_callTX 4 24 K T9 k_X0_X0_needRecord (x_needRecord hl0) dX0_keys_13 rfl rfl rfl rfl ⟨rfl, rfl⟩ (fun E u h => ?_) (fun v u h => ?_)
  · obtain ⟨rfl, ⟨rfl, h⟩ | ⟨rfl, h, h'⟩⟩ := h
    · exact gx_out K htab (Nat.le_of_ble_eq_true rfl) (Nat.le_of_ble_eq_true rfl) (qE1 ok (fun z => h z.2.2) (by decide))
    · exact gx_out K htab (Nat.le_of_ble_eq_true rfl) (Nat.le_of_ble_eq_true rfl) (qE2 ok ⟨h1, h2, h⟩ h' (by decide))
  obtain ⟨rfl, rfl, h3, h4⟩ := h
  have ⟨a1, a2⟩ := inR_N (b := 2) h1
  have ⟨d1, d2⟩ := inR_N (b := 60) h2
  have ⟨q1, q2⟩ := inR_N (b := 60) h3
  refine gg_iconst K (v := 0) dX0_keys_16 (by decide) ?_
  refine gg_istore K dX0_keys_17 (by decide) ?_
  refine gg_iconst K (v := 0) dX0_keys_19 (by decide) ?_
  refine gg_istore K dX0_keys_20 (by decide) ?_
  refine gg_sub (L' := [(5, .int (nI 0)), (4, .int 0), (0, .ref X.1), (1, .int t), (2, .int d), (3, .int q)]) ⟨rfl, rfl, rfl, rfl, rfl, rfl, trivial⟩ ?_
  refine gg_loop (fun i w L => ∃ (j : Nat), j + i = 9 ∧ w = wX Z X k kp dr (nI T) ∧ j ≤ 8 ∧ L = [(5, .int (nI j)), (4, .int ((kyF (fun i => vX k kp T (nN q) (nN t * 8 + i) (nN d)) j))), (0, .ref X.1), (1, .int t), (2, .int d), (3, .int q)]) (fun w L h => ?_) (fun i w L h ih => ?_) 9 _ _ ⟨0, rfl, rfl, by omega, rfl⟩
  · obtain ⟨j, hj, -, h2, -⟩ := h
    omega
  · obtain ⟨j, hj, rfl, -, rfl⟩ := h
    refine gg_iload K dX0_keys_22 rfl ?_
    refine gg_bipush K (v := 8) dX0_keys_24 (by decide) ?_
    refine gg_icmp_ge K (tgt := 60) dX0_keys_26 (by decide) (fun h26 => ?_) (fun h26 => ?_)
    · have hj2 := i_le (a := 8) h26
      have hj3 : j = 8 := by omega
      subst hj3
      refine gg_iload K dX0_keys_60 rfl ?_
      exact gg_x (gg_iret K hr dX0_keys_62 (Nat.le_of_ble_eq_true rfl) (Nat.le_of_ble_eq_true rfl) (qOk ok ⟨h1, h2, h3⟩ h4 rfl))
    have hj2 := i_nle (a := 8) h26
    refine gg_aload_n K (i := 0) dX0_keys_29 rfl rfl ?_
    refine gg_iload_n K (i := 3) dX0_keys_30 rfl rfl ?_
    refine gg_iload_n K (i := 1) dX0_keys_31 rfl rfl ?_
    refine gg_iload K dX0_keys_32 rfl ?_
    refine gg_callSR K k_X0_X0_line (x_line (nN t) j a2 rfl) dX0_keys_34 rfl rfl rfl rfl ⟨rfl, rfl⟩ ?_
    refine gg_iload_n K (i := 2) dX0_keys_37 rfl rfl ?_
    refine gg_callRX K k_X0_X0_knownOn (x_knownOn (nN q) (nN t * 8 + j) (nN d) ok (leT q2 q1 ok.1 h4) (by omega) d1 q2 rfl d2) dX0_keys_38 rfl rfl rfl rfl ⟨rfl, rfl⟩ ?_
    refine gg_iconst K (v := (-1)) dX0_keys_41 (by decide) ?_
    refine gg_icmp_eq K (tgt := 54) dX0_keys_42 (by decide) (fun h42 => ?_) (fun h42 => ?_)
    · refine gg_iinc K (v := nI (j + 1)) dX0_keys_54 rfl (nI_inc (j)) (by decide) ?_
      refine gg_goto K (tgt := 22) dX0_keys_57 (by decide) ?_
      refine gg_sub (L' := [(5, .int (nI (j + 1))), (4, .int ((kyF (fun i => vX k kp T (nN q) (nN t * 8 + i) (nN d)) j))), (0, .ref X.1), (1, .int t), (2, .int d), (3, .int q)]) ⟨rfl, rfl, rfl, rfl, rfl, rfl, trivial⟩ ?_
      exact ih _ _ ⟨j + 1, by omega, rfl, by omega, by rw [show kyF (fun i => vX k kp T (nN q) (nN t * 8 + i) (nN d)) (j + 1) = kyF (fun i => vX k kp T (nN q) (nN t * 8 + i) (nN d)) j from if_pos h42]⟩
    · refine gg_iload K dX0_keys_45 rfl ?_
      refine gg_iconst K (v := 1) dX0_keys_47 (by decide) ?_
      refine gg_iload K dX0_keys_48 rfl ?_
      refine gg_ishl K dX0_keys_50 ?_
      refine gg_ior K dX0_keys_51 ?_
      refine gg_istore K dX0_keys_52 (by decide) ?_
      refine gg_iinc K (v := nI (j + 1)) dX0_keys_54 rfl (nI_inc (j)) (by decide) ?_
      refine gg_goto K (tgt := 22) dX0_keys_57 (by decide) ?_
      refine gg_sub (L' := [(5, .int (nI (j + 1))), (4, .int ((kyF (fun i => vX k kp T (nN q) (nN t * 8 + i) (nN d)) j ||| (1 <<< (nI j &&& 31))))), (0, .ref X.1), (1, .int t), (2, .int d), (3, .int q)]) ⟨rfl, rfl, rfl, rfl, rfl, rfl, trivial⟩ ?_
      exact ih _ _ ⟨j + 1, by omega, rfl, by omega, by rw [show kyF (fun i => vX k kp T (nN q) (nN t * 8 + i) (nN d)) (j + 1) = _ from if_neg h42]⟩
set_option maxRecDepth 100000 in
theorem x_joined {l : Launch} {Z : ZT} {X : XT} {k kp dr : Nat → Int32} {T : Nat} (hl0 : l.stackTraces = false) (ok : okX kp T) (hv : valOk (vX k kp T) T) {y d q : Int32} : mX l Z.1 (ty3 Z) yX0_joined (.code yX0_joined cX0_joined 4 (some .int)) (rmk 9 200 8 48) (wX Z X k kp dr (nI T)) [.ref X.1, .int y, .int d, .int q] (xPost Z X ((qS (vX k kp T) T (inR y 8 ∧ inR d 60 ∧ inR q 60) (q ≤ nI T) (jnF (vX k kp T) (nN q) (nN y) (nN d))))) (xErr Z X ((qS (vX k kp T) T (inR y 8 ∧ inR d 60 ∧ inR q 60) (q ≤ nI T) (jnF (vX k kp T) (nN q) (nN y) (nN d)))) cAB) := by
  refine mX_intro (own := RX0) [(0, .ref X.1), (1, .int y), (2, .int d), (3, .int q)] (by decide +kernel) rfl rfl rfl rfl ?_
  intro p e s m args below meth c A K hr T9 htab
  refine gg_iload_n K (i := 1) dX0_joined_0 rfl rfl ?_
  refine gg_bipush K (v := 8) dX0_joined_1 (by decide) ?_
  refine gg_callTS 1 6 K T9 k_X0_X0_needRange (x_needRange hl0) dX0_joined_3 rfl rfl rfl rfl ⟨rfl, rfl⟩ (fun E u h => ?_) (fun v u h => ?_)
  · obtain ⟨rfl, rfl, h⟩ := h
    exact gx_out K htab (Nat.le_of_ble_eq_true rfl) (Nat.le_of_ble_eq_true rfl) (qE1 ok (fun z => h z.1) (by decide))
  obtain ⟨rfl, rfl, h1⟩ := h
  refine gg_iload_n K (i := 2) dX0_joined_6 rfl rfl ?_
  refine gg_bipush K (v := 60) dX0_joined_7 (by decide) ?_
  refine gg_callTS 2 12 K T9 k_X0_X0_needRange (x_needRange hl0) dX0_joined_9 rfl rfl rfl rfl ⟨rfl, rfl⟩ (fun E u h => ?_) (fun v u h => ?_)
  · obtain ⟨rfl, rfl, h⟩ := h
    exact gx_out K htab (Nat.le_of_ble_eq_true rfl) (Nat.le_of_ble_eq_true rfl) (qE1 ok (fun z => h z.2.1) (by decide))
  obtain ⟨rfl, rfl, h2⟩ := h
  refine gg_aload_n K (i := 0) dX0_joined_12 rfl rfl ?_
  refine gg_iload_n K (i := 3) dX0_joined_13 rfl rfl ?_
  refine gg_callTX 4 24 K T9 k_X0_X0_needRecord (x_needRecord hl0) dX0_joined_14 rfl rfl rfl rfl ⟨rfl, rfl⟩ (fun E u h => ?_) (fun v u h => ?_)
  · obtain ⟨rfl, ⟨rfl, h⟩ | ⟨rfl, h, h'⟩⟩ := h
    · exact gx_out K htab (Nat.le_of_ble_eq_true rfl) (Nat.le_of_ble_eq_true rfl) (qE1 ok (fun z => h z.2.2) (by decide))
    · exact gx_out K htab (Nat.le_of_ble_eq_true rfl) (Nat.le_of_ble_eq_true rfl) (qE2 ok ⟨h1, h2, h⟩ h' (by decide))
  obtain ⟨rfl, rfl, h3, h4⟩ := h
  have ⟨a1, a2⟩ := inR_N (b := 8) h1
  have ⟨d1, d2⟩ := inR_N (b := 60) h2
  have ⟨q1, q2⟩ := inR_N (b := 60) h3
  refine gg_aload_n K (i := 0) dX0_joined_17 rfl rfl ?_
  refine gg_iload_n K (i := 3) dX0_joined_18 rfl rfl ?_
  refine gg_iload_n K (i := 1) dX0_joined_19 rfl rfl ?_
  refine gg_iload_n K (i := 2) dX0_joined_20 rfl rfl ?_
  refine gg_callRX K k_X0_X0_joinedOn (x_joinedOn (nN q) (nN y) (nN d) ok hv (leT q2 q1 ok.1 h4) a1 d1 q2 a2 d2) dX0_joined_21 rfl rfl rfl rfl ⟨rfl, rfl⟩ ?_
  exact gg_x (gg_iret K hr dX0_joined_24 (Nat.le_of_ble_eq_true rfl) (Nat.le_of_ble_eq_true rfl) (qOk ok ⟨h1, h2, h3⟩ h4 rfl))
