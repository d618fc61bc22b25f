/-! the model: its small methods -/
section
variable {p : Program} {l : Launch} {e : Env} {R : Room} {s : State} {m : MethodId} {args : Array Value} {below : List Frame} {meth : Method} {c : Code} {D : va_G} {A : Nat → Prop} {n cells slots pc : Nat} {Q : State → Prop} {ws : va_W} {L : List (Nat × Value)} {st : List Value}
/-- where ways meet with a truth value on the stack -/
theorem gg_cut (P : Prop) (pJ : Nat) (LJ : List (Nat × Value)) (sJ : List Value) (k : ∀ b : Bool, (b = true ↔ P) → gg p l e R s m args below meth c D A n cells slots Q ws pJ LJ (.int (bI b) :: sJ)) (h : (∀ b : Bool, (b = true ↔ P) → gg p l e R s m args below meth c D A n cells slots Q ws pJ LJ (.int (bI b) :: sJ)) → gg p l e R s m args below meth c D A n cells slots Q ws pc L st) : gg p l e R s m args below meth c D A n cells slots Q ws pc L st := h k
/-- .. with a number -/
theorem gg_cutI (x : Int32) (pJ : Nat) (LJ : List (Nat × Value)) (sJ : List Value) (k : gg p l e R s m args below meth c D A n cells slots Q ws pJ LJ (.int x :: sJ)) (h : (∀ z : Int32, z = x → gg p l e R s m args below meth c D A n cells slots Q ws pJ LJ (.int z :: sJ)) → gg p l e R s m args below meth c D A n cells slots Q ws pc L st) : gg p l e R s m args below meth c D A n cells slots Q ws pc L st := h (fun z hz => by rw [hz]; exact k)
end
theorem ft_iff {P : Prop} (h : ¬ P) : (false = true ↔ P) := ⟨fun z => (by cases z), fun z => absurd z h⟩
theorem tt_iff {P : Prop} (h : P) : (true = true ↔ P) := ⟨fun _ => h, fun _ => rfl⟩
theorem bI_P {b : Bool} {P : Prop} (h : b = true ↔ P) : bI b = bI (bP P) := by
  cases b with
  | true => rw [bP_t (h.mp rfl)]
  | false => rw [bP_f (fun z => by have := h.mpr z; cases this)]
set_option maxRecDepth 100000 in
theorem m_in {l : Launch} {x a b : Int32} : mS l yX1_in cX1_in 3 (some .boolean) (rmk 0 0 0 0) [.int x, .int a, .int b] (.int (bI (bP (¬ x < a ∧ ¬ b < x)))) := by
  intro D tys
  refine mA_intro (own := RX1) [(0, .int x), (1, .int a), (2, .int b)] (by decide +kernel) rfl rfl rfl rfl ?_
  intro p e s m args below meth c A K hr hin
  refine gg_iload_n K (i := 0) dX1_in_0 rfl rfl ?_
  refine gg_iload_n K (i := 1) dX1_in_1 rfl rfl ?_
  refine gg_icmp_lt K (tgt := 14) dX1_in_2 (by decide) (fun h2 => ?_) (fun h2 => ?_)
  · refine gg_iconst K (v := 0) dX1_in_14 (by decide) ?_
    exact gg_zret K hr dX1_in_15 (Or.inl rfl) (Nat.le_of_ble_eq_true rfl) (Nat.le_of_ble_eq_true rfl) (some_int (bI_f (bP_f (fun z => z.1 h2))).symm)
  refine gg_iload_n K (i := 0) dX1_in_5 rfl rfl ?_
  refine gg_iload_n K (i := 2) dX1_in_6 rfl rfl ?_
  refine gg_icmp_gt K (tgt := 14) dX1_in_7 (by decide) (fun h7 => ?_) (fun h7 => ?_)
  · refine gg_iconst K (v := 0) dX1_in_14 (by decide) ?_
    exact gg_zret K hr dX1_in_15 (Or.inl rfl) (Nat.le_of_ble_eq_true rfl) (Nat.le_of_ble_eq_true rfl) (some_int (bI_f (bP_f (fun z => z.2 h7))).symm)
  · refine gg_iconst K (v := 1) dX1_in_10 (by decide) ?_
    refine gg_goto K (tgt := 15) dX1_in_11 (by decide) ?_
    exact gg_zret K hr dX1_in_15 (Or.inr rfl) (Nat.le_of_ble_eq_true rfl) (Nat.le_of_ble_eq_true rfl) (some_int (bI_t (bP_t ⟨h2, h7⟩)).symm)
theorem in_R {x : Int32} {b : Nat} (hb : 0 < b) (hb2 : b < 2 ^ 31 := by omega) : (¬ x < 0 ∧ ¬ nI (b - 1) < x) ↔ inR x (nI b) := by
  have e1 : (nI (b - 1) < x) ↔ ((b : Int) - 1 < x.toInt) := by
    rw [Int32.lt_iff_toInt_lt, nI_toInt (by omega)]
    omega
  have e2 : (nI b ≤ x) ↔ ((b : Int) ≤ x.toInt) := by rw [Int32.le_iff_toInt_le, nI_toInt hb2]
  unfold inR
  rw [e1, e2]
  exact ⟨fun h => ⟨h.1, by have := h.2; omega⟩, fun h => ⟨h.1, by have := h.2; omega⟩⟩
theorem bP_cong {P Q : Prop} (h : P ↔ Q) : bP P = bP Q := by
  by_cases hp : P
  · rw [bP_t hp, bP_t (h.mp hp)]
  · rw [bP_f hp, bP_f (fun z => hp (h.mpr z))]
set_option maxRecDepth 100000 in
theorem m_isDay {l : Launch} {x : Int32} : mS l yX1_isDay cX1_isDay 1 (some .boolean) (rmk 1 30 0 0) [.int x] (.int (bI (bP (inR x 60)))) := by
  intro D tys
  refine mA_intro (own := RX1) [(0, .int x)] (by decide +kernel) rfl rfl rfl rfl ?_
  intro p e s m args below meth c A K hr hin
  refine gg_iload_n K (i := 0) dX1_isDay_0 rfl rfl ?_
  refine gg_iconst K (v := 0) dX1_isDay_1 (by decide) ?_
  refine gg_bipush K (v := 59) dX1_isDay_2 (by decide) ?_
  refine gg_callSR K k_X1_X1_in m_in dX1_isDay_4 rfl rfl rfl rfl ⟨rfl, rfl⟩ ?_
  exact gg_zret K hr dX1_isDay_7 (bI_01 _) (Nat.le_of_ble_eq_true rfl) (Nat.le_of_ble_eq_true rfl) (some_int (congrArg bI (bP_cong (in_R (b := 60) (by omega)))))
set_option maxRecDepth 100000 in
theorem m_isKey {l : Launch} {x y : Int32} : mS l yX1_isKey cX1_isKey 2 (some .boolean) (rmk 1 30 0 0) [.int x, .int y] (.int (bI (bP (inR x 2 ∧ inR y 8)))) := by
  intro D tys
  refine mA_intro (own := RX1) [(0, .int x), (1, .int y)] (by decide +kernel) rfl rfl rfl rfl ?_
  intro p e s m args below meth c A K hr hin
  refine gg_iload_n K (i := 0) dX1_isKey_0 rfl rfl ?_
  refine gg_iconst K (v := 0) dX1_isKey_1 (by decide) ?_
  refine gg_iconst K (v := 1) dX1_isKey_2 (by decide) ?_
  refine gg_callSR K k_X1_X1_in m_in dX1_isKey_3 rfl rfl rfl rfl ⟨rfl, rfl⟩ ?_
  refine gg_b_eq K (tgt := 23) dX1_isKey_6 (by decide) (fun h6 => ?_) (fun h6 => ?_)
  · refine gg_iconst K (v := 0) dX1_isKey_23 (by decide) ?_
    exact gg_zret K hr dX1_isKey_24 (Or.inl rfl) (Nat.le_of_ble_eq_true rfl) (Nat.le_of_ble_eq_true rfl) (some_int (bI_f (bP_f (fun z => bP_nf h6 ((in_R (b := 2) (by omega)).mpr z.1)))).symm)
  refine gg_iload_n K (i := 1) dX1_isKey_9 rfl rfl ?_
  refine gg_iconst K (v := 0) dX1_isKey_10 (by decide) ?_
  refine gg_bipush K (v := 7) dX1_isKey_11 (by decide) ?_
  refine gg_callSR K k_X1_X1_in m_in dX1_isKey_13 rfl rfl rfl rfl ⟨rfl, rfl⟩ ?_
  refine gg_b_eq K (tgt := 23) dX1_isKey_16 (by decide) (fun h16 => ?_) (fun h16 => ?_)
  · refine gg_iconst K (v := 0) dX1_isKey_23 (by decide) ?_
    exact gg_zret K hr dX1_isKey_24 (Or.inl rfl) (Nat.le_of_ble_eq_true rfl) (Nat.le_of_ble_eq_true rfl) (some_int (bI_f (bP_f (fun z => bP_nf h16 ((in_R (b := 8) (by omega)).mpr z.2)))).symm)
  · refine gg_iconst K (v := 1) dX1_isKey_19 (by decide) ?_
    refine gg_goto K (tgt := 24) dX1_isKey_20 (by decide) ?_
    exact gg_zret K hr dX1_isKey_24 (Or.inr rfl) (Nat.le_of_ble_eq_true rfl) (Nat.le_of_ble_eq_true rfl) (some_int (bI_t (bP_t ⟨(in_R (b := 2) (by omega)).mp (bP_iff.mp h6), (in_R (b := 8) (by omega)).mp (bP_iff.mp h16)⟩)).symm)
set_option maxRecDepth 100000 in
theorem m_isSpan {l : Launch} {x y : Int32} : mS l yX1_isSpan cX1_isSpan 2 (some .boolean) (rmk 2 60 0 0) [.int x, .int y] (.int (bI (bP (spanR x y)))) := by
  intro D tys
  refine mA_intro (own := RX1) [(0, .int x), (1, .int y)] (by decide +kernel) rfl rfl rfl rfl ?_
  intro p e s m args below meth c A K hr hin
  refine gg_iload_n K (i := 0) dX1_isSpan_0 rfl rfl ?_
  refine gg_callSR K k_X1_X1_isDay m_isDay dX1_isSpan_1 rfl rfl rfl rfl ⟨rfl, rfl⟩ ?_
  refine gg_b_eq K (tgt := 23) dX1_isSpan_4 (by decide) (fun h4 => ?_) (fun h4 => ?_)
  · refine gg_iconst K (v := 0) dX1_isSpan_23 (by decide) ?_
    exact gg_zret K hr dX1_isSpan_24 (Or.inl rfl) (Nat.le_of_ble_eq_true rfl) (Nat.le_of_ble_eq_true rfl) (some_int (bI_f (bP_f (fun z => bP_nf h4 z.1))).symm)
  have h4 := bP_iff.mp h4
  have ⟨x1, x2⟩ := inR_N (b := 60) h4
  have hiff : (¬ y < x + 1 ∧ ¬ (60 : Int32) < y) ↔ (¬ y ≤ x ∧ y ≤ 60) := by
    have e : (x + 1).toInt = x.toInt + 1 := by rw [x2, nI_1, nI_toInt (by omega), nI_toInt (by omega)]; omega
    rw [Int32.lt_iff_toInt_lt, Int32.lt_iff_toInt_lt, Int32.le_iff_toInt_le, Int32.le_iff_toInt_le, e]
    omega
  refine gg_iload_n K (i := 1) dX1_isSpan_7 rfl rfl ?_
  refine gg_iload_n K (i := 0) dX1_isSpan_8 rfl rfl ?_
  refine gg_iconst K (v := 1) dX1_isSpan_9 (by decide) ?_
  refine gg_iadd K dX1_isSpan_10 ?_
  refine gg_bipush K (v := 60) dX1_isSpan_11 (by decide) ?_
  refine gg_callSR K k_X1_X1_in m_in dX1_isSpan_13 rfl rfl rfl rfl ⟨rfl, rfl⟩ ?_
  refine gg_b_eq K (tgt := 23) dX1_isSpan_16 (by decide) (fun h16 => ?_) (fun h16 => ?_)
  · refine gg_iconst K (v := 0) dX1_isSpan_23 (by decide) ?_
    exact gg_zret K hr dX1_isSpan_24 (Or.inl rfl) (Nat.le_of_ble_eq_true rfl) (Nat.le_of_ble_eq_true rfl) (some_int (bI_f (bP_f (fun z => bP_nf h16 (hiff.mpr z.2)))).symm)
  · refine gg_iconst K (v := 1) dX1_isSpan_19 (by decide) ?_
    refine gg_goto K (tgt := 24) dX1_isSpan_20 (by decide) ?_
    exact gg_zret K hr dX1_isSpan_24 (Or.inr rfl) (Nat.le_of_ble_eq_true rfl) (Nat.le_of_ble_eq_true rfl) (some_int (bI_t (bP_t ⟨h4, hiff.mp (bP_iff.mp h16)⟩)).symm)
set_option maxRecDepth 100000 in
theorem m_place {l : Launch} (r t y d : Nat) {a b c9 z : Int32} (ha : a = nI r) (hb : b = nI t) (hc : c9 = nI y) (hz : z = nI d) : mS l yX1_place cX1_place 4 (some .int) (rmk 0 0 0 0) [.int a, .int b, .int c9, .int z] (.int (nI (ix r (t * 8 + y) d))) := by
  intro D tys
  refine mA_intro (own := RX1) [(0, .int a), (1, .int b), (2, .int c9), (3, .int z)] (by decide +kernel) rfl rfl rfl rfl ?_
  intro p e s m args below meth c A K hr hin
  subst ha hb hc hz
  refine gg_iconst K (v := 2) dX1_place_0 (by decide) ?_
  refine gg_iload_n K (i := 0) dX1_place_1 rfl rfl ?_
  refine gg_imul K dX1_place_2 ?_
  refine gg_iload_n K (i := 1) dX1_place_3 rfl rfl ?_
  refine gg_iadd K dX1_place_4 ?_
  refine gg_bipush K (v := 8) dX1_place_5 (by decide) ?_
  refine gg_imul K dX1_place_7 ?_
  refine gg_iload_n K (i := 2) dX1_place_8 rfl rfl ?_
  refine gg_iadd K dX1_place_9 ?_
  refine gg_bipush K (v := 60) dX1_place_10 (by decide) ?_
  refine gg_imul K dX1_place_12 ?_
  refine gg_iload_n K (i := 3) dX1_place_13 rfl rfl ?_
  refine gg_iadd K dX1_place_14 ?_
  exact gg_iret K hr dX1_place_15 (Nat.le_of_ble_eq_true rfl) (Nat.le_of_ble_eq_true rfl) (some_int (by simp only [nI_lit, nI_mul, nI_add]; exact congrArg nI (by unfold ix; omega)))
set_option maxRecDepth 100000 in
theorem m_holds {l : Launch} {Z : ZT} {Y : MT} {k : Nat → Int32} {th rf rb re : Int32} {T : Nat} {x : Int32} : mA l Z.1 (ty3 Z) yX1_holds cX1_holds 2 (some .boolean) (rmk 0 0 0 0) (wM Z Y k th (nI T) rf rb re) [.ref Y.1, .int x] (fun v u => v = some (.int (bI (bP (x = 0)))) ∧ u = wM Z Y k x (nI T) rf rb re) := by
  refine mA_intro (own := RX1) [(0, .ref Y.1), (1, .int x)] (by decide +kernel) rfl rfl rfl rfl ?_
  intro p e s m args below meth c A K hr hin
  refine gg_aload_n K (i := 0) dX1_holds_0 rfl rfl ?_
  refine gg_iload_n K (i := 1) dX1_holds_1 rfl rfl ?_
  refine gM_pthrown K dX1_holds_2 ?_
  refine gg_iload_n K (i := 1) dX1_holds_5 rfl rfl ?_
  refine gg_if_ne K (tgt := 13) dX1_holds_6 (by decide) (fun h6 => ?_) (fun h6 => ?_)
  · refine gg_iconst K (v := 0) dX1_holds_13 (by decide) ?_
    exact gg_zret K hr dX1_holds_14 (Or.inl rfl) (Nat.le_of_ble_eq_true rfl) (Nat.le_of_ble_eq_true rfl) ⟨some_int (bI_f (bP_f h6)).symm, rfl⟩
  · refine gg_iconst K (v := 1) dX1_holds_9 (by decide) ?_
    refine gg_goto K (tgt := 14) dX1_holds_10 (by decide) ?_
    exact gg_zret K hr dX1_holds_14 (Or.inr rfl) (Nat.le_of_ble_eq_true rfl) (Nat.le_of_ble_eq_true rfl) ⟨some_int (bI_t (bP_t h6)).symm, rfl⟩
set_option maxRecDepth 100000 in
theorem m_thrown {l : Launch} {Z : ZT} {Y : MT} {k : Nat → Int32} {th rf rb re : Int32} {T : Nat} : mR l Z yX1_thrown cX1_thrown 1 (some .int) (rmk 0 0 0 0) (wM Z Y k th (nI T) rf rb re) [.ref Y.1] (.int th) := by
  refine mA_intro (own := RX1) [(0, .ref Y.1)] (by decide +kernel) rfl rfl rfl rfl ?_
  intro p e s m args below meth c A K hr hin
  refine gg_aload_n K (i := 0) dX1_thrown_0 rfl rfl ?_
  refine gM_thrown K dX1_thrown_1 ?_
  exact gg_iret K hr dX1_thrown_4 (Nat.le_of_ble_eq_true rfl) (Nat.le_of_ble_eq_true rfl) ⟨rfl, rfl⟩
set_option maxRecDepth 100000 in
theorem m_today {l : Launch} {Z : ZT} {Y : MT} {k : Nat → Int32} {th rf rb re : Int32} {T : Nat} : mA l Z.1 (ty3 Z) yX1_today cX1_today 1 (some .int) (rmk 0 0 0 0) (wM Z Y k th (nI T) rf rb re) [.ref Y.1] (fun v u => v = some (.int (nI T)) ∧ u = wM Z Y k 0 (nI T) rf rb re) := by
  refine mA_intro (own := RX1) [(0, .ref Y.1)] (by decide +kernel) rfl rfl rfl rfl ?_
  intro p e s m args below meth c A K hr hin
  refine gg_aload_n K (i := 0) dX1_today_0 rfl rfl ?_
  refine gg_iconst K (v := 0) dX1_today_1 (by decide) ?_
  refine gM_pthrown K dX1_today_2 ?_
  refine gg_aload_n K (i := 0) dX1_today_5 rfl rfl ?_
  refine gM_today K dX1_today_6 ?_
  exact gg_iret K hr dX1_today_9 (Nat.le_of_ble_eq_true rfl) (Nat.le_of_ble_eq_true rfl) ⟨rfl, rfl⟩
set_option maxRecDepth 100000 in
theorem m_of {l : Launch} {Z : ZT} {Y : MT} {k : Nat → Int32} {th rf rb re : Int32} {T : Nat} (r t y d : Nat) {a b c9 z : Int32} (hT : T < 60) (hr0 : r ≤ T) (ht : t < 2) (hy : y < 8) (hd0 : d < 60) (ha : a = nI r) (hb : b = nI t) (hc : c9 = nI y) (hz : z = nI d) : mR l Z yX1_of cX1_of 5 (some .int) (rmk 1 30 0 0) (wM Z Y k th (nI T) rf rb re) [.ref Y.1, .int a, .int b, .int c9, .int z] (.int (vM k T r (t * 8 + y) d)) := by
  refine mA_intro (own := RX1) [(0, .ref Y.1), (1, .int a), (2, .int b), (3, .int c9), (4, .int z)] (by decide +kernel) rfl rfl rfl rfl ?_
  intro p e s m args below meth c A K hr hin
  have hlt := ix_lt (r := r) (l := t * 8 + y) (d := d) (by omega) (by omega) hd0
  have hv : vM k T r (t * 8 + y) d = k (ix r (t * 8 + y) d) - 1 := if_pos ⟨hr0, by omega, hd0⟩
  refine gg_aload_n K (i := 0) dX1_of_0 rfl rfl ?_
  refine gM_known K dX1_of_1 ?_
  refine gg_iload_n K (i := 1) dX1_of_4 rfl rfl ?_
  refine gg_iload_n K (i := 2) dX1_of_5 rfl rfl ?_
  refine gg_iload_n K (i := 3) dX1_of_6 rfl rfl ?_
  refine gg_iload K dX1_of_7 rfl ?_
  refine gg_callSR K k_X1_X1_place (m_place r t y d ha hb hc hz) dX1_of_9 rfl rfl rfl rfl ⟨rfl, rfl⟩ ?_
  refine gM_ld_known (ix r (t * 8 + y) d) K rfl hlt dX1_of_12 ?_
  refine gg_iconst K (v := 1) dX1_of_13 (by decide) ?_
  refine gg_isub K dX1_of_14 ?_
  exact gg_iret K hr dX1_of_15 (Nat.le_of_ble_eq_true rfl) (Nat.le_of_ble_eq_true rfl) ⟨some_int hv.symm, rfl⟩
set_option maxRecDepth 100000 in
theorem m_isReferred {l : Launch} {Z : ZT} {Y : MT} {k : Nat → Int32} {th rf rb re : Int32} {T : Nat} (d : Nat) {x y : Int32} (hT : T < 60) (hd0 : d < 60) (hy : y = nI d) : mR l Z yX1_isReferred cX1_isReferred 4 (some .boolean) (rmk 2 60 0 0) (wM Z Y k th (nI T) rf rb re) [.ref Y.1, .int x, .int y] (.int (bI (bP (refd (vM k T) T x d)))) := by
  refine mA_intro (own := RX1) [(0, .ref Y.1), (1, .int x), (2, .int y)] (by decide +kernel) rfl rfl rfl rfl ?_
  intro p e s m args below meth c A K hr hin
  refine gg_iconst K (v := 0) dX1_isReferred_0 (by decide) ?_
  refine gg_istore_n K (i := 3) dX1_isReferred_1 rfl (by decide) ?_
  refine gg_sub (L' := [(3, .int (nI 0)), (0, .ref Y.1), (1, .int x), (2, .int y)]) ⟨rfl, rfl, rfl, rfl, trivial⟩ ?_
  refine gg_loop (fun i w L => ∃ j : Nat, j + i = 9 ∧ w = wM Z Y k th (nI T) rf rb re ∧ L = [(3, .int (nI j)), (0, .ref Y.1), (1, .int x), (2, .int y)] ∧ j ≤ 8 ∧ ∀ q, q < j → ¬ vM k T T (8 + q) d = x) (fun w L h => ?_) (fun i w L h ih => ?_) 9 _ _ ⟨0, rfl, rfl, rfl, by omega, fun q h => absurd h (by omega)⟩
  · obtain ⟨j, hj, -, -, h2, -⟩ := h
    omega
  · obtain ⟨j, hj, rfl, rfl, -, he⟩ := h
    refine gg_iload_n K (i := 3) dX1_isReferred_2 rfl rfl ?_
    refine gg_bipush K (v := 8) dX1_isReferred_3 (by decide) ?_
    refine gg_icmp_ge K (tgt := 31) dX1_isReferred_5 (by decide) (fun h5 => ?_) (fun h5 => ?_)
    · have hj2 := i_le (a := 8) h5
      refine gg_iconst K (v := 0) dX1_isReferred_31 (by decide) ?_
      exact gg_zret K hr dX1_isReferred_32 (Or.inl rfl) (Nat.le_of_ble_eq_true rfl) (Nat.le_of_ble_eq_true rfl) ⟨some_int (bI_f (bP_f (fun ⟨q, q1, q2⟩ => he q (by omega) q2))).symm, rfl⟩
    have hj2 := i_nle (a := 8) h5
    refine gg_aload_n K (i := 0) dX1_isReferred_8 rfl rfl ?_
    refine gg_aload_n K (i := 0) dX1_isReferred_9 rfl rfl ?_
    refine gM_today K dX1_isReferred_10 ?_
    refine gg_iconst K (v := 1) dX1_isReferred_13 (by decide) ?_
    refine gg_iload_n K (i := 3) dX1_isReferred_14 rfl rfl ?_
    refine gg_iload_n K (i := 2) dX1_isReferred_15 rfl rfl ?_
    refine gg_callRM K k_X1_X1_of (m_of T 1 j d hT (Nat.le_refl T) (by omega) hj2 hd0 rfl rfl rfl hy) dX1_isReferred_16 rfl rfl rfl rfl ⟨rfl, rfl⟩ ?_
    refine gg_iload_n K (i := 1) dX1_isReferred_19 rfl rfl ?_
    refine gg_icmp_ne K (tgt := 25) dX1_isReferred_20 (by decide) (fun h20 => ?_) (fun h20 => ?_)
    · refine gg_iinc K (v := nI (j + 1)) dX1_isReferred_25 rfl (nI_inc (j)) (by decide) ?_
      refine gg_goto K (tgt := 2) dX1_isReferred_28 (by decide) ?_
      refine gg_sub (L' := [(3, .int (nI (j + 1))), (0, .ref Y.1), (1, .int x), (2, .int y)]) ⟨rfl, rfl, rfl, rfl, trivial⟩ ?_
      exact ih _ _ ⟨j + 1, by omega, rfl, rfl, by omega, fun q hq => by
        by_cases hqj : q = j
        · rw [hqj]; exact h20
        · exact he q (by omega)⟩
    · refine gg_iconst K (v := 1) dX1_isReferred_23 (by decide) ?_
      exact gg_zret K hr dX1_isReferred_24 (Or.inr rfl) (Nat.le_of_ble_eq_true rfl) (Nat.le_of_ble_eq_true rfl) ⟨some_int (bI_t (bP_t ⟨j, hj2, h20⟩)).symm, rfl⟩
def mayP (V : VT) (T : Nat) (t9 : Nat) (x v : Int32) (d : Nat) : Prop := (t9 = 0 → v = -1 → ¬ refd V T x d) ∧ (t9 = 1 → ¬ v = -1 → ¬ V T (nN v) d = -1)
set_option maxRecDepth 100000 in
theorem m_may {l : Launch} {Z : ZT} {Y : MT} {k : Nat → Int32} {th rf rb re : Int32} {T : Nat} (t9 d : Nat) {a x v z : Int32} (hT : T < 60) (ht9 : t9 < 2) (hd0 : d < 60) (hv : t9 = 1 → v = -1 ∨ ∃ j, v = nI j ∧ j < 8) (ha : a = nI t9) (hz : z = nI d) : mR l Z yX1_may cX1_may 5 (some .boolean) (rmk 3 90 0 0) (wM Z Y k th (nI T) rf rb re) [.ref Y.1, .int a, .int x, .int v, .int z] (.int (bI (bP (mayP (vM k T) T t9 x v d)))) := by
  refine mA_intro (own := RX1) [(0, .ref Y.1), (1, .int a), (2, .int x), (3, .int v), (4, .int z)] (by decide +kernel) rfl rfl rfl rfl ?_
  intro p e s m args below meth c A K hr hin
  subst ha
  refine gg_iload_n K (i := 1) dX1_may_0 rfl rfl ?_
  refine gg_if_ne K (tgt := 27) dX1_may_1 (by decide) (fun h1 => ?_) (fun h1 => ?_)
  · have t1 : t9 = 1 := by
      have := i_ne (b := 0) h1
      omega
    refine gg_iload_n K (i := 3) dX1_may_27 rfl rfl ?_
    refine gg_iconst K (v := (-1)) dX1_may_28 (by decide) ?_
    refine gg_icmp_eq K (tgt := 48) dX1_may_29 (by decide) (fun h29 => ?_) (fun h29 => ?_)
    · refine gg_iconst K (v := 1) dX1_may_48 (by decide) ?_
      refine gg_goto K (tgt := 53) dX1_may_49 (by decide) ?_
      exact gg_zret K hr dX1_may_53 (Or.inr rfl) (Nat.le_of_ble_eq_true rfl) (Nat.le_of_ble_eq_true rfl) ⟨some_int (bI_t (bP_t ⟨fun q => absurd q (by omega), fun _ q => absurd h29 q⟩)).symm, rfl⟩
    obtain ⟨j, j1, j2⟩ := (hv t1).resolve_left h29
    have hc : nN v = j := by rw [j1]; exact nI_clamp (by omega)
    refine gg_aload_n K (i := 0) dX1_may_32 rfl rfl ?_
    refine gg_aload_n K (i := 0) dX1_may_33 rfl rfl ?_
    refine gM_today K dX1_may_34 ?_
    refine gg_iconst K (v := 0) dX1_may_37 (by decide) ?_
    refine gg_iload_n K (i := 3) dX1_may_38 rfl rfl ?_
    refine gg_iload K dX1_may_39 rfl ?_
    refine gg_callRM K k_X1_X1_of (m_of T 0 j d hT (Nat.le_refl T) (by omega) j2 hd0 rfl rfl j1 hz) dX1_may_41 rfl rfl rfl rfl ⟨rfl, rfl⟩ ?_
    rw [show 0 * 8 + j = j by omega]
    refine gg_iconst K (v := (-1)) dX1_may_44 (by decide) ?_
    refine gg_icmp_eq K (tgt := 52) dX1_may_45 (by decide) (fun h45 => ?_) (fun h45 => ?_)
    · refine gg_iconst K (v := 0) dX1_may_52 (by decide) ?_
      exact gg_zret K hr dX1_may_53 (Or.inl rfl) (Nat.le_of_ble_eq_true rfl) (Nat.le_of_ble_eq_true rfl) ⟨some_int (bI_f (bP_f (fun q => q.2 t1 h29 (by rw [hc]; exact h45)))).symm, rfl⟩
    · refine gg_iconst K (v := 1) dX1_may_48 (by decide) ?_
      refine gg_goto K (tgt := 53) dX1_may_49 (by decide) ?_
      exact gg_zret K hr dX1_may_53 (Or.inr rfl) (Nat.le_of_ble_eq_true rfl) (Nat.le_of_ble_eq_true rfl) ⟨some_int (bI_t (bP_t ⟨fun q => absurd q (by omega), fun _ _ => by rw [hc]; exact h45⟩)).symm, rfl⟩
  · have t0 : t9 = 0 := i_eq (b := 0) h1
    refine gg_iload_n K (i := 3) dX1_may_4 rfl rfl ?_
    refine gg_iconst K (v := (-1)) dX1_may_5 (by decide) ?_
    refine gg_icmp_ne K (tgt := 19) dX1_may_6 (by decide) (fun h6 => ?_) (fun h6 => ?_)
    · refine gg_iconst K (v := 1) dX1_may_19 (by decide) ?_
      refine gg_goto K (tgt := 53) dX1_may_20 (by decide) ?_
      exact gg_zret K hr dX1_may_53 (Or.inr rfl) (Nat.le_of_ble_eq_true rfl) (Nat.le_of_ble_eq_true rfl) ⟨some_int (bI_t (bP_t ⟨fun _ q => absurd q h6, fun q => absurd q (by omega)⟩)).symm, rfl⟩
    refine gg_aload_n K (i := 0) dX1_may_9 rfl rfl ?_
    refine gg_iload_n K (i := 2) dX1_may_10 rfl rfl ?_
    refine gg_iload K dX1_may_11 rfl ?_
    refine gg_callRM K k_X1_X1_isReferred (m_isReferred d hT hd0 hz) dX1_may_13 rfl rfl rfl rfl ⟨rfl, rfl⟩ ?_
    refine gg_b_ne K (tgt := 23) dX1_may_16 (by decide) (fun h16 => ?_) (fun h16 => ?_)
    · refine gg_iconst K (v := 0) dX1_may_23 (by decide) ?_
      refine gg_goto K (tgt := 53) dX1_may_24 (by decide) ?_
      exact gg_zret K hr dX1_may_53 (Or.inl rfl) (Nat.le_of_ble_eq_true rfl) (Nat.le_of_ble_eq_true rfl) ⟨some_int (bI_f (bP_f (fun q => q.1 t0 h6 (bP_iff.mp h16)))).symm, rfl⟩
    · refine gg_iconst K (v := 1) dX1_may_19 (by decide) ?_
      refine gg_goto K (tgt := 53) dX1_may_20 (by decide) ?_
      exact gg_zret K hr dX1_may_53 (Or.inr rfl) (Nat.le_of_ble_eq_true rfl) (Nat.le_of_ble_eq_true rfl) ⟨some_int (bI_t (bP_t ⟨fun _ _ => bP_nf h16, fun q => absurd q (by omega)⟩)).symm, rfl⟩
set_option maxRecDepth 100000 in
theorem m_mayAll {l : Launch} {Z : ZT} {Y : MT} {k : Nat → Int32} {th rf rb re : Int32} {T : Nat} (t9 : Nat) {a x v f q : Int32} (hT : T < 60) (ht9 : t9 < 2) (hsp : spanR f q) (hv : t9 = 1 → v = -1 ∨ ∃ j, v = nI j ∧ j < 8) (ha : a = nI t9) : mR l Z yX1_mayAll cX1_mayAll 7 (some .boolean) (rmk 4 120 0 0) (wM Z Y k th (nI T) rf rb re) [.ref Y.1, .int a, .int x, .int v, .int f, .int q] (.int (bI (bP (∀ d, nN f ≤ d → d < nN q → mayP (vM k T) T t9 x v d)))) := by
  refine mA_intro (own := RX1) [(0, .ref Y.1), (1, .int a), (2, .int x), (3, .int v), (4, .int f), (5, .int q)] (by decide +kernel) rfl rfl rfl rfl ?_
  intro p e s m args below meth c A K hr hin
  have ⟨f1, f2, f3, f4, f5⟩ := spanR_N hsp
  refine gg_iload K dX1_mayAll_0 rfl ?_
  refine gg_istore K dX1_mayAll_2 (by decide) ?_
  refine gg_sub (L' := [(6, .int (nI (nN f))), (0, .ref Y.1), (1, .int a), (2, .int x), (3, .int v), (4, .int f), (5, .int q)]) ⟨by rw [← f2]; rfl, rfl, rfl, rfl, rfl, rfl, rfl, trivial⟩ ?_
  refine gg_loop (fun i w L => ∃ j : Nat, j + i = nN q + 1 ∧ w = wM Z Y k th (nI T) rf rb re ∧ nN f ≤ j ∧ j ≤ nN q ∧ L = [(6, .int (nI j)), (0, .ref Y.1), (1, .int a), (2, .int x), (3, .int v), (4, .int f), (5, .int q)] ∧ ∀ d, nN f ≤ d → d < j → mayP (vM k T) T t9 x v d) (fun w L h => ?_) (fun i w L h ih => ?_) (nN q + 1 - nN f) _ _ ⟨nN f, by omega, rfl, by omega, by omega, rfl, fun d h1 h2 => absurd h1 (by omega)⟩
  · obtain ⟨j, hj, -, -, h2, -⟩ := h
    omega
  · obtain ⟨j, hj, rfl, hj1, -, rfl, he⟩ := h
    refine gg_iload K dX1_mayAll_4 rfl ?_
    refine gg_iload K dX1_mayAll_6 rfl ?_
    refine gg_icmp_ge K (tgt := 31) dX1_mayAll_8 (by decide) (fun h8 => ?_) (fun h8 => ?_)
    · rw [f5] at h8
      have hj2 := i_le h8
      refine gg_iconst K (v := 1) dX1_mayAll_31 (by decide) ?_
      exact gg_zret K hr dX1_mayAll_32 (Or.inr rfl) (Nat.le_of_ble_eq_true rfl) (Nat.le_of_ble_eq_true rfl) ⟨some_int (bI_t (bP_t (fun d h1 h2 => he d h1 (by omega)))).symm, rfl⟩
    rw [f5] at h8
    have hj2 := i_nle h8
    refine gg_aload_n K (i := 0) dX1_mayAll_11 rfl rfl ?_
    refine gg_iload_n K (i := 1) dX1_mayAll_12 rfl rfl ?_
    refine gg_iload_n K (i := 2) dX1_mayAll_13 rfl rfl ?_
    refine gg_iload_n K (i := 3) dX1_mayAll_14 rfl rfl ?_
    refine gg_iload K dX1_mayAll_15 rfl ?_
    refine gg_callRM K k_X1_X1_may (m_may t9 j hT ht9 (by omega) hv ha rfl) dX1_mayAll_17 rfl rfl rfl rfl ⟨rfl, rfl⟩ ?_
    refine gg_b_ne K (tgt := 25) dX1_mayAll_20 (by decide) (fun h20 => ?_) (fun h20 => ?_)
    · refine gg_iinc K (v := nI (j + 1)) dX1_mayAll_25 rfl (nI_inc (j)) (by decide) ?_
      refine gg_goto K (tgt := 4) dX1_mayAll_28 (by decide) ?_
      refine gg_sub (L' := [(6, .int (nI (j + 1))), (0, .ref Y.1), (1, .int a), (2, .int x), (3, .int v), (4, .int f), (5, .int q)]) ⟨rfl, rfl, rfl, rfl, rfl, rfl, rfl, trivial⟩ ?_
      exact ih _ _ ⟨j + 1, by omega, rfl, by omega, by omega, rfl, fun d h1 h2 => by
        by_cases hdj : d = j
        · rw [hdj]; exact bP_iff.mp h20
        · exact he d h1 (by omega)⟩
    · refine gg_iconst K (v := 0) dX1_mayAll_23 (by decide) ?_
      exact gg_zret K hr dX1_mayAll_24 (Or.inl rfl) (Nat.le_of_ble_eq_true rfl) (Nat.le_of_ble_eq_true rfl) ⟨some_int (bI_f (bP_f (fun z => bP_nf h20 (z j hj1 hj2)))).symm, rfl⟩
theorem m1_iff {x v : Int32} : x = v + 1 ↔ x - 1 = v := ⟨fun h => by rw [h]; exact Int32.add_sub_cancel _ _, fun h => by rw [← h]; exact (Int32.sub_add_cancel _ _).symm⟩
theorem vM_upd {k : Nat → Int32} {T l0 d0 : Nat} (hl0 : l0 < 16) (hd0 : d0 < 60) (x : Int32) : vM (upd k (ix T l0 d0) (x + 1)) T = uV (vM k T) T l0 d0 x := by
  funext r l d
  unfold vM uV upd
  dsimp only
  by_cases hc : r ≤ T ∧ l < 16 ∧ d < 60
  · rw [if_pos hc, if_pos hc]
    by_cases h1 : r = T ∧ l = l0 ∧ d = d0
    · obtain ⟨rfl, rfl, rfl⟩ := h1
      rw [if_pos rfl, if_pos ⟨rfl, rfl, rfl⟩]
      exact Int32.add_sub_cancel _ _
    · rw [if_neg h1, if_neg]
      intro he
      obtain ⟨e1, e2, e3⟩ := ix_inj hc.2.1 hc.2.2 hl0 hd0 he
      exact h1 ⟨e1, e2, e3⟩
  · rw [if_neg hc, if_neg hc]
    by_cases h1 : r = T ∧ l = l0 ∧ d = d0
    · omega
    · rw [if_neg h1]
set_option maxRecDepth 100000 in
theorem m_sets {l : Launch} {Z : ZT} {Y : MT} {k : Nat → Int32} {th rf rb re : Int32} {T : Nat} (t9 y9 d : Nat) {a y v z : Int32} (hT : T < 60) (ht9 : t9 < 2) (hy9 : y9 < 8) (hd0 : d < 60) (ha : a = nI t9) (hy : y = nI y9) (hz : z = nI d) : mA l Z.1 (ty3 Z) yX1_sets cX1_sets 7 (some .int) (rmk 1 30 0 0) (wM Z Y k th (nI T) rf rb re) [.ref Y.1, .int a, .int y, .int v, .int z] (fun r u => r = some (.int (bI (bP (¬ vM k T T (t9 * 8 + y9) d = v)))) ∧ ∃ k', u = wM Z Y k' th (nI T) rf rb re ∧ vM k' T = uV (vM k T) T (t9 * 8 + y9) d v) := by
  refine mA_intro (own := RX1) [(0, .ref Y.1), (1, .int a), (2, .int y), (3, .int v), (4, .int z)] (by decide +kernel) rfl rfl rfl rfl ?_
  intro p e s m args below meth c A K hr hin
  have hlt := ix_lt (r := T) (l := t9 * 8 + y9) (d := d) (by omega) (by omega) hd0
  have hv : vM k T T (t9 * 8 + y9) d = k (ix T (t9 * 8 + y9) d) - 1 := if_pos ⟨Nat.le_refl T, by omega, hd0⟩
  refine gg_aload_n K (i := 0) dX1_sets_0 rfl rfl ?_
  refine gM_today K dX1_sets_1 ?_
  refine gg_iload_n K (i := 1) dX1_sets_4 rfl rfl ?_
  refine gg_iload_n K (i := 2) dX1_sets_5 rfl rfl ?_
  refine gg_iload K dX1_sets_6 rfl ?_
  refine gg_callSR K k_X1_X1_place (m_place T t9 y9 d rfl ha hy hz) dX1_sets_8 rfl rfl rfl rfl ⟨rfl, rfl⟩ ?_
  refine gg_istore K dX1_sets_11 (by decide) ?_
  refine gg_aload_n K (i := 0) dX1_sets_13 rfl rfl ?_
  refine gM_known K dX1_sets_14 ?_
  refine gg_iload K dX1_sets_17 rfl ?_
  refine gM_ld_known (ix T (t9 * 8 + y9) d) K rfl hlt dX1_sets_19 ?_
  refine gg_iload_n K (i := 3) dX1_sets_20 rfl rfl ?_
  refine gg_iconst K (v := 1) dX1_sets_21 (by decide) ?_
  refine gg_iadd K dX1_sets_22 ?_
  refine gg_icmp_eq K (tgt := 30) dX1_sets_23 (by decide) (fun h23 => ?_) (fun h23 => ?_)
  · refine gg_iconst K (v := 0) dX1_sets_30 (by decide) ?_
    refine gg_istore K dX1_sets_31 (by decide) ?_
    refine gg_aload_n K (i := 0) dX1_sets_33 rfl rfl ?_
    refine gM_known K dX1_sets_34 ?_
    refine gg_iload K dX1_sets_37 rfl ?_
    refine gg_iload_n K (i := 3) dX1_sets_39 rfl rfl ?_
    refine gg_iconst K (v := 1) dX1_sets_40 (by decide) ?_
    refine gg_iadd K dX1_sets_41 ?_
    refine gM_st_known (ix T (t9 * 8 + y9) d) K rfl hlt dX1_sets_42 ?_
    refine gg_iload K dX1_sets_43 rfl ?_
    refine gg_if_eq K (tgt := 52) dX1_sets_45 (by decide) (fun h45 => ?_) (fun h45 => ?_)
    rotate_left
    · exact absurd rfl h45
    refine gg_iconst K (v := 0) dX1_sets_52 (by decide) ?_
    exact gg_iret K hr dX1_sets_53 (Nat.le_of_ble_eq_true rfl) (Nat.le_of_ble_eq_true rfl) ⟨some_int (bI_f (bP_f (fun q => q (by rw [hv]; exact m1_iff.mp h23)))).symm, _, rfl, vM_upd (by omega) hd0 v⟩
  · refine gg_iconst K (v := 1) dX1_sets_26 (by decide) ?_
    refine gg_goto K (tgt := 31) dX1_sets_27 (by decide) ?_
    refine gg_istore K dX1_sets_31 (by decide) ?_
    refine gg_aload_n K (i := 0) dX1_sets_33 rfl rfl ?_
    refine gM_known K dX1_sets_34 ?_
    refine gg_iload K dX1_sets_37 rfl ?_
    refine gg_iload_n K (i := 3) dX1_sets_39 rfl rfl ?_
    refine gg_iconst K (v := 1) dX1_sets_40 (by decide) ?_
    refine gg_iadd K dX1_sets_41 ?_
    refine gM_st_known (ix T (t9 * 8 + y9) d) K rfl hlt dX1_sets_42 ?_
    refine gg_iload K dX1_sets_43 rfl ?_
    refine gg_if_eq K (tgt := 52) dX1_sets_45 (by decide) (fun h45 => ?_) (fun h45 => ?_)
    · exact absurd h45 (by decide)
    refine gg_iconst K (v := 1) dX1_sets_48 (by decide) ?_
    refine gg_goto K (tgt := 53) dX1_sets_49 (by decide) ?_
    exact gg_iret K hr dX1_sets_53 (Nat.le_of_ble_eq_true rfl) (Nat.le_of_ble_eq_true rfl) ⟨some_int (bI_t (bP_t (fun q => h23 (m1_iff.mpr (by rw [← hv]; exact q))))).symm, _, rfl, vM_upd (by omega) hd0 v⟩
theorem ct_add {q : Nat → Bool} {j : Nat} : nI (fb_ct q j) + bI (q j) = nI (fb_ct q (j + 1)) := by
  rw [fb_ct_succ]
  cases h : q j with
  | true => exact nI_add _ 1
  | false => exact nI_add _ 0
set_option maxRecDepth 100000 in
theorem m_setsAll {l : Launch} {Z : ZT} {Y : MT} {k : Nat → Int32} {th rf rb re : Int32} {T : Nat} (t9 y9 : Nat) {a y v f q : Int32} (hT : T < 60) (ht9 : t9 < 2) (hy9 : y9 < 8) (hsp : spanR f q) (ha : a = nI t9) (hy : y = nI y9) : mA l Z.1 (ty3 Z) yX1_setsAll cX1_setsAll 8 (some .int) (rmk 2 60 0 0) (wM Z Y k th (nI T) rf rb re) [.ref Y.1, .int a, .int y, .int v, .int f, .int q] (fun r u => r = some (.int (nI (fb_ct (fun i => bP (¬ vM k T T (t9 * 8 + y9) (nN f + i) = v)) (nN q - nN f)))) ∧ ∃ k', u = wM Z Y k' th (nI T) rf rb re ∧ vM k' T = updR (vM k T) T (t9 * 8 + y9) (fun _ => v) (nN f) (nN q)) := by
  refine mA_intro (own := RX1) [(0, .ref Y.1), (1, .int a), (2, .int y), (3, .int v), (4, .int f), (5, .int q)] (by decide +kernel) rfl rfl rfl rfl ?_
  intro p e s m args below meth c A K hr hin
  have ⟨f1, f2, f3, f4, f5⟩ := spanR_N hsp
  refine gg_iconst K (v := 0) dX1_setsAll_0 (by decide) ?_
  refine gg_istore K dX1_setsAll_1 (by decide) ?_
  refine gg_iload K dX1_setsAll_3 rfl ?_
  refine gg_istore K dX1_setsAll_5 (by decide) ?_
  refine gg_sub (L' := [(7, .int (nI (nN f + 0))), (6, .int (nI (fb_ct (fun i => bP (¬ vM k T T (t9 * 8 + y9) (nN f + i) = v)) 0))), (0, .ref Y.1), (1, .int a), (2, .int y), (3, .int v), (4, .int f), (5, .int q)]) ⟨by rw [← show f = nI (nN f + 0) from f2]; rfl, rfl, rfl, rfl, rfl, rfl, rfl, rfl, trivial⟩ ?_
  refine gg_loop (fun i w L => ∃ (j : Nat) (k' : Nat → Int32), j + i = nN q - nN f + 1 ∧ w = wM Z Y k' th (nI T) rf rb re ∧ j ≤ nN q - nN f ∧ L = [(7, .int (nI (nN f + j))), (6, .int (nI (fb_ct (fun i => bP (¬ vM k T T (t9 * 8 + y9) (nN f + i) = v)) j))), (0, .ref Y.1), (1, .int a), (2, .int y), (3, .int v), (4, .int f), (5, .int q)] ∧ vM k' T = updR (vM k T) T (t9 * 8 + y9) (fun _ => v) (nN f) (nN f + j)) (fun w L h => ?_) (fun i w L h ih => ?_) (nN q - nN f + 1) _ _ ⟨0, k, by omega, rfl, by omega, rfl, (updR_0 _ _ _ _ _).symm⟩
  · obtain ⟨j, k', hj, -, h2, -⟩ := h
    omega
  · obtain ⟨j, k', hj, rfl, hj1, rfl, hk⟩ := h
    refine gg_iload K dX1_setsAll_7 rfl ?_
    refine gg_iload K dX1_setsAll_9 rfl ?_
    refine gg_icmp_ge K (tgt := 34) dX1_setsAll_11 (by decide) (fun h11 => ?_) (fun h11 => ?_)
    · rw [f5] at h11
      have hj2 := i_le h11
      have hj3 : j = nN q - nN f := by omega
      subst hj3
      rw [show nN f + (nN q - nN f) = nN q by omega] at hk
      refine gg_iload K dX1_setsAll_34 rfl ?_
      exact gg_iret K hr dX1_setsAll_36 (Nat.le_of_ble_eq_true rfl) (Nat.le_of_ble_eq_true rfl) ⟨rfl, k', rfl, hk⟩
    rw [f5] at h11
    have hj2 := i_nle h11
    refine gg_iload K dX1_setsAll_14 rfl ?_
    refine gg_aload_n K (i := 0) dX1_setsAll_16 rfl rfl ?_
    refine gg_iload_n K (i := 1) dX1_setsAll_17 rfl rfl ?_
    refine gg_iload_n K (i := 2) dX1_setsAll_18 rfl rfl ?_
    refine gg_iload_n K (i := 3) dX1_setsAll_19 rfl rfl ?_
    refine gg_iload K dX1_setsAll_20 rfl ?_
    refine gg_callUM K k_X1_X1_sets (m_sets t9 y9 (nN f + j) hT ht9 hy9 (by omega) ha hy rfl) dX1_setsAll_22 rfl rfl rfl rfl ⟨rfl, rfl⟩ (fun v9 u h => ?_)
    obtain ⟨rfl, k2, rfl, hk2⟩ := h
    rw [hk, updR_step (g := fun _ => v) (by omega)] at hk2
    refine gg_iadd K dX1_setsAll_25 ?_
    refine gg_top (y := nI (fb_ct (fun i => bP (¬ vM k T T (t9 * 8 + y9) (nN f + i) = v)) (j + 1))) (by rw [hk, updR_at (Nat.le_refl _)]; exact ct_add (q := (fun i => bP (¬ vM k T T (t9 * 8 + y9) (nN f + i) = v)))) ?_
    refine gg_istore K dX1_setsAll_26 (by decide) ?_
    refine gg_iinc K (v := nI (nN f + j + 1)) dX1_setsAll_28 rfl (nI_inc (nN f + j)) (by decide) ?_
    refine gg_goto K (tgt := 7) dX1_setsAll_31 (by decide) ?_
    refine gg_sub (L' := [(7, .int (nI (nN f + (j + 1)))), (6, .int (nI (fb_ct (fun i => bP (¬ vM k T T (t9 * 8 + y9) (nN f + i) = v)) (j + 1)))), (0, .ref Y.1), (1, .int a), (2, .int y), (3, .int v), (4, .int f), (5, .int q)]) ⟨rfl, rfl, rfl, rfl, rfl, rfl, rfl, rfl, trivial⟩ ?_
    exact ih _ _ ⟨j + 1, k2, by omega, rfl, by omega, rfl, hk2⟩
