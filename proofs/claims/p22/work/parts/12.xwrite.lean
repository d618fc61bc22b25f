/-! Twotimes: the store written -/
def uV (V : VT) (r0 l0 d0 : Nat) (x : Int32) : VT := fun r l d => if r = r0 ∧ l = l0 ∧ d = d0 then x else V r l d
def updR (V : VT) (T li : Nat) (g : Nat → Int32) (a b : Nat) : VT := fun r l d => if r = T ∧ l = li ∧ a ≤ d ∧ d < b then g d else V r l d
theorem updR_0 (V : VT) (T li : Nat) (g : Nat → Int32) (a : Nat) : updR V T li g a a = V := by
  funext r l d
  exact if_neg (by omega)
theorem updR_step {V : VT} {T li : Nat} {g : Nat → Int32} {a b : Nat} (h : a ≤ b) : uV (updR V T li g a b) T li b (g b) = updR V T li g a (b + 1) := by
  funext r l d
  unfold uV updR
  by_cases h1 : r = T ∧ l = li ∧ d = b
  · obtain ⟨rfl, rfl, rfl⟩ := h1
    rw [if_pos ⟨rfl, rfl, rfl⟩, if_pos ⟨rfl, rfl, h, by omega⟩]
  · rw [if_neg h1]
    by_cases h2 : r = T ∧ l = li ∧ a ≤ d ∧ d < b
    · rw [if_pos h2, if_pos ⟨h2.1, h2.2.1, h2.2.2.1, by omega⟩]
    · rw [if_neg h2, if_neg (by omega)]
theorem updR_skip {V : VT} {T li : Nat} {g : Nat → Int32} {a b : Nat} (h : a ≤ b) (e : V T li b = g b) : updR V T li g a b = updR V T li g a (b + 1) := by
  funext r l d
  unfold updR
  by_cases h2 : r = T ∧ l = li ∧ a ≤ d ∧ d < b
  · rw [if_pos h2, if_pos ⟨h2.1, h2.2.1, h2.2.2.1, by omega⟩]
  · rw [if_neg h2]
    by_cases h1 : r = T ∧ l = li ∧ d = b
    · obtain ⟨rfl, rfl, rfl⟩ := h1
      rw [if_pos ⟨rfl, rfl, h, by omega⟩, e]
    · rw [if_neg (by omega)]
theorem updR_at {V : VT} {T li : Nat} {g : Nat → Int32} {a b d : Nat} (h : b ≤ d) : updR V T li g a b T li d = V T li d := if_neg (by omega)
theorem vX_upd {k kp : Nat → Int32} {T l0 d0 : Nat} (ok : okX kp T) (hl0 : l0 < 16) (hd0 : d0 < 60) (x : Int32) : vX (upd k (ix T l0 d0) x) kp T = uV (vX k kp T) T l0 d0 x := by
  funext r l d
  obtain ⟨o1, o2, o3, o4⟩ := ok
  unfold vX uV upd
  dsimp only
  by_cases hc : r ≤ T ∧ l < 16 ∧ d < 60
  · rw [if_pos hc, if_pos hc]
    by_cases h1 : r = T ∧ l = l0 ∧ d = d0
    · obtain ⟨rfl, rfl, rfl⟩ := h1
      rw [kq_nI o2 o1, if_pos rfl, if_pos ⟨rfl, rfl, rfl⟩]
    · rw [if_neg h1, if_neg]
      intro he
      obtain ⟨e1, e2, e3⟩ := ix_inj hc.2.1 hc.2.2 hl0 hd0 he
      have h4 := (o4 r hc.1).1.2
      exact h1 ⟨by omega, e2, e3⟩
  · rw [if_neg hc, if_neg hc, if_neg (by omega)]
theorem some_none {α : Type} : (none : Option α) = none := rfl
/-- a draft keeps the references -/
def keepP (V : VT) (T : Nat) (dr : Nat → Int32) (t9 key : Nat) : Prop := ∀ d, d < 60 → (t9 = 0 → dr d = -1 → ¬ refd V T (nI key) d) ∧ (t9 = 1 → ¬ dr d = -1 → ¬ V T (dr d).toNatClampNeg d = -1)
set_option maxRecDepth 100000 in
theorem x_recordToday {l : Launch} {Z : ZT} {X : XT} {k kp dr : Nat → Int32} {td : Int32} {T : Nat} (li d : Nat) {y z x : Int32} (ok : okX kp T) (ht : td = nI T) (hl0 : li < 16) (hd0 : d < 60) (hy : y = nI li) (hz : z = nI d) : mA l Z.1 (ty3 Z) yX0_recordToday cX0_recordToday 5 none (rmk 1 30 0 0) (wX Z X k kp dr td) [.ref X.1, .int y, .int z, .int x] (fun r u => r = none ∧ u = wX Z X (upd k (ix T li d) x) kp dr td) := by
  refine mA_intro (own := RX0) [(0, .ref X.1), (1, .int y), (2, .int z), (3, .int x)] (by decide +kernel) rfl rfl rfl rfl ?_
  intro p e s m args below meth c A K hr hin
  have hlt := ix_lt (r := T) ok.1 hl0 hd0
  subst hy hz
  refine gg_aload_n K (i := 0) dX0_recordToday_0 rfl rfl ?_
  refine gX_today K dX0_recordToday_1 ?_
  refine gg_iload_n K (i := 1) dX0_recordToday_4 rfl rfl ?_
  refine gg_iload_n K (i := 2) dX0_recordToday_5 rfl rfl ?_
  refine gg_callSR K k_X0_X0_index (x_index T li d ht rfl rfl) dX0_recordToday_6 rfl rfl rfl rfl ⟨rfl, rfl⟩ ?_
  refine gg_istore K dX0_recordToday_9 (by decide) ?_
  refine gg_iload K dX0_recordToday_11 rfl ?_
  refine gg_if_lt K (tgt := 34) dX0_recordToday_13 (by decide) (fun h13 => ?_) (fun h13 => ?_)
  · exact absurd h13 (nI_pos (by omega))
  refine gg_iload K dX0_recordToday_16 rfl ?_
  refine gg_aload_n K (i := 0) dX0_recordToday_18 rfl rfl ?_
  refine gX_known K dX0_recordToday_19 ?_
  refine gX_len_known K dX0_recordToday_22 ?_
  refine gg_icmp_ge K (tgt := 34) dX0_recordToday_23 (by decide) (fun h23 => ?_) (fun h23 => ?_)
  · exact absurd (i_le h23) (by omega)
  refine gg_aload_n K (i := 0) dX0_recordToday_26 rfl rfl ?_
  refine gX_known K dX0_recordToday_27 ?_
  refine gg_iload K dX0_recordToday_30 rfl ?_
  refine gg_iload_n K (i := 3) dX0_recordToday_32 rfl rfl ?_
  refine gX_st_known (ix T li d) K rfl hlt dX0_recordToday_33 ?_
  exact gg_vret K hr dX0_recordToday_34 (Nat.zero_le _) (Nat.zero_le _) ⟨rfl, rfl⟩
set_option maxRecDepth 100000 in
theorem x_keepOn {l : Launch} {Z : ZT} {X : XT} {k kp dr : Nat → Int32} {td : Int32} (r : Nat) {x y : Int32} (hr0 : r < 60) (hx : x = nI r) : mA l Z.1 (ty3 Z) yX0_keepOn cX0_keepOn 3 none (rmk 0 0 0 0) (wX Z X k kp dr td) [.ref X.1, .int x, .int y] (fun v u => v = none ∧ u = wX Z X k (upd kp r y) dr td) := by
  refine mA_intro (own := RX0) [(0, .ref X.1), (1, .int x), (2, .int y)] (by decide +kernel) rfl rfl rfl rfl ?_
  intro p e s m args below meth c A K hr hin
  subst hx
  refine gg_iload_n K (i := 1) dX0_keepOn_0 rfl rfl ?_
  refine gg_if_lt K (tgt := 17) dX0_keepOn_1 (by decide) (fun h1 => ?_) (fun h1 => ?_)
  · exact absurd h1 (nI_pos (by omega))
  refine gg_iload_n K (i := 1) dX0_keepOn_4 rfl rfl ?_
  refine gg_bipush K (v := 60) dX0_keepOn_5 (by decide) ?_
  refine gg_icmp_ge K (tgt := 17) dX0_keepOn_7 (by decide) (fun h7 => ?_) (fun h7 => ?_)
  · exact absurd (i_le (a := 60) h7) (by omega)
  refine gg_aload_n K (i := 0) dX0_keepOn_10 rfl rfl ?_
  refine gX_keptOn K dX0_keepOn_11 ?_
  refine gg_iload_n K (i := 1) dX0_keepOn_14 rfl rfl ?_
  refine gg_iload_n K (i := 2) dX0_keepOn_15 rfl rfl ?_
  refine gX_st_kept r K rfl hr0 dX0_keepOn_16 ?_
  exact gg_vret K hr dX0_keepOn_17 (Nat.zero_le _) (Nat.zero_le _) ⟨rfl, rfl⟩
set_option maxRecDepth 100000 in
theorem x_lose {l : Launch} {Z : ZT} {X : XT} {k kp dr : Nat → Int32} {td : Int32} {T : Nat} (li d : Nat) {y z : Int32} (ok : okX kp T) (ht : td = nI T) (hl0 : li < 16) (hd0 : d < 60) (hy : y = nI li) (hz : z = nI d) : mA l Z.1 (ty3 Z) yX0_lose cX0_lose 3 (some .int) (rmk 2 60 0 0) (wX Z X k kp dr td) [.ref X.1, .int y, .int z] (fun r u => r = some (.int (bI (bP (¬ vX k kp T T li d = -1)))) ∧ ∃ k', u = wX Z X k' kp dr td ∧ vX k' kp T = uV (vX k kp T) T li d (-1)) := by
  refine mA_intro (own := RX0) [(0, .ref X.1), (1, .int y), (2, .int z)] (by decide +kernel) rfl rfl rfl rfl ?_
  intro p e s m args below meth c A K hr hin
  subst hy hz
  refine gg_aload_n K (i := 0) dX0_lose_0 rfl rfl ?_
  refine gg_aload_n K (i := 0) dX0_lose_1 rfl rfl ?_
  refine gX_today K dX0_lose_2 ?_
  refine gg_iload_n K (i := 1) dX0_lose_5 rfl rfl ?_
  refine gg_iload_n K (i := 2) dX0_lose_6 rfl rfl ?_
  refine gg_callRX K k_X0_X0_knownOn (x_knownOn T li d ok (Nat.le_refl T) hl0 hd0 ht rfl rfl) dX0_lose_7 rfl rfl rfl rfl ⟨rfl, rfl⟩ ?_
  refine gg_iconst K (v := (-1)) dX0_lose_10 (by decide) ?_
  refine gg_icmp_ne K (tgt := 16) dX0_lose_11 (by decide) (fun h11 => ?_) (fun h11 => ?_)
  rotate_left
  · refine gg_iconst K (v := 0) dX0_lose_14 (by decide) ?_
    refine gg_iret K hr dX0_lose_15 (Nat.zero_le _) (Nat.zero_le _) ⟨some_int (bI_f (bP_f (fun q => q h11))).symm, k, rfl, ?_⟩
    funext r l9 d9
    unfold uV
    by_cases h1 : r = T ∧ l9 = li ∧ d9 = d
    · obtain ⟨rfl, rfl, rfl⟩ := h1
      rw [if_pos ⟨rfl, rfl, rfl⟩, h11]
    · rw [if_neg h1]
  refine gg_aload_n K (i := 0) dX0_lose_16 rfl rfl ?_
  refine gg_iload_n K (i := 1) dX0_lose_17 rfl rfl ?_
  refine gg_iload_n K (i := 2) dX0_lose_18 rfl rfl ?_
  refine gg_iconst K (v := (-1)) dX0_lose_19 (by decide) ?_
  refine gg_callUX K k_X0_X0_recordToday (x_recordToday li d ok ht hl0 hd0 rfl rfl) dX0_lose_20 rfl rfl rfl rfl ⟨rfl, rfl⟩ (fun v u h => ?_)
  obtain ⟨rfl, rfl⟩ := h
  refine gg_iconst K (v := 1) dX0_lose_23 (by decide) ?_
  exact gg_iret K hr dX0_lose_24 (Nat.zero_le _) (Nat.zero_le _) ⟨some_int (bI_t (bP_t h11)).symm, _, rfl, vX_upd ok hl0 hd0 _⟩
set_option maxRecDepth 100000 in
theorem x_draftSpan {l : Launch} {Z : ZT} {X : XT} {k kp dr : Nat → Int32} {td : Int32} {T : Nat} (li f t : Nat) {x y z v : Int32} (ok : okX kp T) (ht : td = nI T) (hl0 : li < 16) (hf : f < 60) (ht2 : t ≤ 60) (hx : x = nI li) (hy : y = nI f) (hz : z = nI t) : mA l Z.1 (ty3 Z) yX0_draftSpan cX0_draftSpan 6 none (rmk 2 60 0 0) (wX Z X k kp dr td) [.ref X.1, .int x, .int y, .int z, .int v] (fun r u => r = none ∧ ∃ dr', u = wX Z X k kp dr' td ∧ ∀ d, d < 60 → dr' d = if f ≤ d ∧ d < t then v else vX k kp T T li d) := by
  refine mA_intro (own := RX0) [(0, .ref X.1), (1, .int x), (2, .int y), (3, .int z), (4, .int v)] (by decide +kernel) rfl rfl rfl rfl ?_
  intro p e s m args below meth c A K hr hin
  have o1 := ok.1
  subst hx hy hz
  refine gg_iconst K (v := 0) dX0_draftSpan_0 (by decide) ?_
  refine gg_istore K dX0_draftSpan_1 (by decide) ?_
  refine gg_sub (L' := [(5, .int (nI 0)), (0, .ref X.1), (1, .int (nI li)), (2, .int (nI f)), (3, .int (nI t)), (4, .int v)]) ⟨rfl, rfl, rfl, rfl, rfl, rfl, trivial⟩ ?_
  refine gg_loop (fun i w L => ∃ (j : Nat) (dr' : Nat → Int32), j + i = 61 ∧ w = wX Z X k kp dr' td ∧ L = [(5, .int (nI j)), (0, .ref X.1), (1, .int (nI li)), (2, .int (nI f)), (3, .int (nI t)), (4, .int v)] ∧ j ≤ 60 ∧ ∀ d, d < j → dr' d = if f ≤ d ∧ d < t then v else vX k kp T T li d) (fun w L h => ?_) (fun i w L h ih => ?_) 61 _ _ ⟨0, dr, rfl, rfl, rfl, by omega, fun q h => absurd h (by omega)⟩
  · obtain ⟨j, dr', hj, -, -, h2, -⟩ := h
    omega
  · obtain ⟨j, dr', hj, rfl, rfl, -, he⟩ := h
    refine gg_iload K dX0_draftSpan_3 rfl ?_
    refine gg_bipush K (v := 60) dX0_draftSpan_5 (by decide) ?_
    refine gg_icmp_ge K (tgt := 51) dX0_draftSpan_7 (by decide) (fun h7 => ?_) (fun h7 => ?_)
    · have hj2 := i_le (a := 60) h7
      exact gg_vret K hr dX0_draftSpan_51 (Nat.zero_le _) (Nat.zero_le _) ⟨rfl, dr', rfl, fun d hd => he d (by omega)⟩
    have hj2 := i_nle (a := 60) h7
    refine gg_aload_n K (i := 0) dX0_draftSpan_10 rfl rfl ?_
    refine gX_draft K dX0_draftSpan_11 ?_
    refine gg_iload K dX0_draftSpan_14 rfl ?_
    refine gg_iload K dX0_draftSpan_16 rfl ?_
    refine gg_iload_n K (i := 2) dX0_draftSpan_18 rfl rfl ?_
    refine gg_icmp_lt K (tgt := 33) dX0_draftSpan_19 (by decide) (fun h19 => ?_) (fun h19 => ?_)
    · have hlt := i_lt h19
      refine gg_aload_n K (i := 0) dX0_draftSpan_33 rfl rfl ?_
      refine gg_aload_n K (i := 0) dX0_draftSpan_34 rfl rfl ?_
      refine gX_today K dX0_draftSpan_35 ?_
      refine gg_iload_n K (i := 1) dX0_draftSpan_38 rfl rfl ?_
      refine gg_iload K dX0_draftSpan_39 rfl ?_
      refine gg_callRX K k_X0_X0_knownOn (x_knownOn T li j ok (Nat.le_refl T) hl0 hj2 ht rfl rfl) dX0_draftSpan_41 rfl rfl rfl rfl ⟨rfl, rfl⟩ ?_
      refine gX_st_draft j K rfl hj2 dX0_draftSpan_44 ?_
      refine gg_iinc K (v := nI (j + 1)) dX0_draftSpan_45 rfl (nI_inc (j)) (by decide) ?_
      refine gg_goto K (tgt := 3) dX0_draftSpan_48 (by decide) ?_
      refine gg_sub (L' := [(5, .int (nI (j + 1))), (0, .ref X.1), (1, .int (nI li)), (2, .int (nI f)), (3, .int (nI t)), (4, .int v)]) ⟨rfl, rfl, rfl, rfl, rfl, rfl, trivial⟩ ?_
      refine ih _ _ ⟨j + 1, _, by omega, rfl, rfl, by omega, fun d hd => ?_⟩
      unfold upd
      by_cases hdj : d = j
      · rw [if_pos hdj, hdj, if_neg (by omega)]
      · rw [if_neg hdj]
        exact he d (by omega)
    have hge := i_nlt h19
    refine gg_iload K dX0_draftSpan_22 rfl ?_
    refine gg_iload_n K (i := 3) dX0_draftSpan_24 rfl rfl ?_
    refine gg_icmp_ge K (tgt := 33) dX0_draftSpan_25 (by decide) (fun h25 => ?_) (fun h25 => ?_)
    · have hlt := i_le h25
      refine gg_aload_n K (i := 0) dX0_draftSpan_33 rfl rfl ?_
      refine gg_aload_n K (i := 0) dX0_draftSpan_34 rfl rfl ?_
      refine gX_today K dX0_draftSpan_35 ?_
      refine gg_iload_n K (i := 1) dX0_draftSpan_38 rfl rfl ?_
      refine gg_iload K dX0_draftSpan_39 rfl ?_
      refine gg_callRX K k_X0_X0_knownOn (x_knownOn T li j ok (Nat.le_refl T) hl0 hj2 ht rfl rfl) dX0_draftSpan_41 rfl rfl rfl rfl ⟨rfl, rfl⟩ ?_
      refine gX_st_draft j K rfl hj2 dX0_draftSpan_44 ?_
      refine gg_iinc K (v := nI (j + 1)) dX0_draftSpan_45 rfl (nI_inc (j)) (by decide) ?_
      refine gg_goto K (tgt := 3) dX0_draftSpan_48 (by decide) ?_
      refine gg_sub (L' := [(5, .int (nI (j + 1))), (0, .ref X.1), (1, .int (nI li)), (2, .int (nI f)), (3, .int (nI t)), (4, .int v)]) ⟨rfl, rfl, rfl, rfl, rfl, rfl, trivial⟩ ?_
      refine ih _ _ ⟨j + 1, _, by omega, rfl, rfl, by omega, fun d hd => ?_⟩
      unfold upd
      by_cases hdj : d = j
      · rw [if_pos hdj, hdj, if_neg (by omega)]
      · rw [if_neg hdj]
        exact he d (by omega)
    have hlt := i_nle h25
    refine gg_iload K dX0_draftSpan_28 rfl ?_
    refine gg_goto K (tgt := 44) dX0_draftSpan_30 (by decide) ?_
    refine gX_st_draft j K rfl hj2 dX0_draftSpan_44 ?_
    refine gg_iinc K (v := nI (j + 1)) dX0_draftSpan_45 rfl (nI_inc (j)) (by decide) ?_
    refine gg_goto K (tgt := 3) dX0_draftSpan_48 (by decide) ?_
    refine gg_sub (L' := [(5, .int (nI (j + 1))), (0, .ref X.1), (1, .int (nI li)), (2, .int (nI f)), (3, .int (nI t)), (4, .int v)]) ⟨rfl, rfl, rfl, rfl, rfl, rfl, trivial⟩ ?_
    refine ih _ _ ⟨j + 1, _, by omega, rfl, rfl, by omega, fun d hd => ?_⟩
    unfold upd
    by_cases hdj : d = j
    · rw [if_pos hdj, hdj, if_pos ⟨hge, hlt⟩]
    · rw [if_neg hdj]
      exact he d (by omega)
set_option maxRecDepth 100000 in
theorem x_draftRecord {l : Launch} {Z : ZT} {X : XT} {k kp dr : Nat → Int32} {td : Int32} {T : Nat} (li r : Nat) {x y : Int32} (ok : okX kp T) (hl0 : li < 16) (hr0 : r ≤ T) (hx : x = nI li) (hy : y = nI r) : mA l Z.1 (ty3 Z) yX0_draftRecord cX0_draftRecord 4 none (rmk 2 60 0 0) (wX Z X k kp dr td) [.ref X.1, .int x, .int y] (fun v u => v = none ∧ ∃ dr', u = wX Z X k kp dr' td ∧ ∀ d, d < 60 → dr' d = vX k kp T r li d) := by
  refine mA_intro (own := RX0) [(0, .ref X.1), (1, .int x), (2, .int y)] (by decide +kernel) rfl rfl rfl rfl ?_
  intro p e s m args below meth c A K hr hin
  have o1 := ok.1
  subst hx hy
  refine gg_iconst K (v := 0) dX0_draftRecord_0 (by decide) ?_
  refine gg_istore_n K (i := 3) dX0_draftRecord_1 rfl (by decide) ?_
  refine gg_sub (L' := [(3, .int (nI 0)), (0, .ref X.1), (1, .int (nI li)), (2, .int (nI r))]) ⟨rfl, rfl, rfl, rfl, trivial⟩ ?_
  refine gg_loop (fun i w L => ∃ (j : Nat) (dr' : Nat → Int32), j + i = 61 ∧ w = wX Z X k kp dr' td ∧ L = [(3, .int (nI j)), (0, .ref X.1), (1, .int (nI li)), (2, .int (nI r))] ∧ j ≤ 60 ∧ ∀ d, d < j → dr' d = vX k kp T r li d) (fun w L h => ?_) (fun i w L h ih => ?_) 61 _ _ ⟨0, dr, rfl, rfl, rfl, by omega, fun q h => absurd h (by omega)⟩
  · obtain ⟨j, dr', hj, -, -, h2, -⟩ := h
    omega
  · obtain ⟨j, dr', hj, rfl, rfl, -, he⟩ := h
    refine gg_iload_n K (i := 3) dX0_draftRecord_2 rfl rfl ?_
    refine gg_bipush K (v := 60) dX0_draftRecord_3 (by decide) ?_
    refine gg_icmp_ge K (tgt := 27) dX0_draftRecord_5 (by decide) (fun h5 => ?_) (fun h5 => ?_)
    · have hj2 := i_le (a := 60) h5
      exact gg_vret K hr dX0_draftRecord_27 (Nat.zero_le _) (Nat.zero_le _) ⟨rfl, dr', rfl, fun d hd => he d (by omega)⟩
    have hj2 := i_nle (a := 60) h5
    refine gg_aload_n K (i := 0) dX0_draftRecord_8 rfl rfl ?_
    refine gX_draft K dX0_draftRecord_9 ?_
    refine gg_iload_n K (i := 3) dX0_draftRecord_12 rfl rfl ?_
    refine gg_aload_n K (i := 0) dX0_draftRecord_13 rfl rfl ?_
    refine gg_iload_n K (i := 2) dX0_draftRecord_14 rfl rfl ?_
    refine gg_iload_n K (i := 1) dX0_draftRecord_15 rfl rfl ?_
    refine gg_iload_n K (i := 3) dX0_draftRecord_16 rfl rfl ?_
    refine gg_callRX K k_X0_X0_knownOn (x_knownOn r li j ok hr0 hl0 hj2 rfl rfl rfl) dX0_draftRecord_17 rfl rfl rfl rfl ⟨rfl, rfl⟩ ?_
    refine gX_st_draft j K rfl hj2 dX0_draftRecord_20 ?_
    refine gg_iinc K (v := nI (j + 1)) dX0_draftRecord_21 rfl (nI_inc (j)) (by decide) ?_
    refine gg_goto K (tgt := 2) dX0_draftRecord_24 (by decide) ?_
    refine gg_sub (L' := [(3, .int (nI (j + 1))), (0, .ref X.1), (1, .int (nI li)), (2, .int (nI r))]) ⟨rfl, rfl, rfl, rfl, trivial⟩ ?_
    refine ih _ _ ⟨j + 1, _, by omega, rfl, rfl, by omega, fun d hd => ?_⟩
    unfold upd
    by_cases hdj : d = j
    · rw [if_pos hdj, hdj]
    · rw [if_neg hdj]
      exact he d (by omega)
set_option maxRecDepth 100000 in
theorem x_draftKeeps {l : Launch} {Z : ZT} {X : XT} {k kp dr : Nat → Int32} {td : Int32} {T : Nat} (t9 key : Nat) {x y : Int32} (ok : okX kp T) (ht : td = nI T) (ht9 : t9 < 2) (hdr : t9 = 1 → ∀ d, d < 60 → dr d = -1 ∨ ∃ j, dr d = nI j ∧ j < 8) (hx : x = nI t9) (hy : y = nI key) : mR l Z yX0_draftKeepsReferences cX0_draftKeepsReferences 5 (some .boolean) (rmk 3 90 0 0) (wX Z X k kp dr td) [.ref X.1, .int x, .int y] (.int (bI (bP (keepP (vX k kp T) T dr t9 key)))) := by
  refine mA_intro (own := RX0) [(0, .ref X.1), (1, .int x), (2, .int y)] (by decide +kernel) rfl rfl rfl rfl ?_
  intro p e s m args below meth c A K hr hin
  have o1 := ok.1
  subst hx hy
  refine gg_iconst K (v := 0) dX0_draftKeepsReferences_0 (by decide) ?_
  refine gg_istore_n K (i := 3) dX0_draftKeepsReferences_1 rfl (by decide) ?_
  refine gg_sub (L' := [(3, .int (nI 0)), (0, .ref X.1), (1, .int (nI t9)), (2, .int (nI key))]) ⟨rfl, rfl, rfl, rfl, trivial⟩ ?_
  refine gg_loop (fun i w L => ∃ (j : Nat) (z9 : Int32), j + i = 61 ∧ w = wX Z X k kp dr td ∧ L = [(3, .int (nI j)), (0, .ref X.1), (1, .int (nI t9)), (2, .int (nI key))] ∧ j ≤ 60 ∧ ∀ d, d < j → (t9 = 0 → dr d = -1 → ¬ refd (vX k kp T) T (nI key) d) ∧ (t9 = 1 → ¬ dr d = -1 → ¬ vX k kp T T (dr d).toNatClampNeg d = -1)) (fun w L h => ?_) (fun i w L h ih => ?_) 61 _ _ ⟨0, 0, rfl, rfl, rfl, by omega, fun q h => absurd h (by omega)⟩
  · obtain ⟨j, z9, hj, -, -, h2, -⟩ := h
    omega
  · obtain ⟨j, z9, hj, rfl, rfl, -, he⟩ := h
    have next : j < 60 → ((t9 = 0 → dr j = -1 → ¬ refd (vX k kp T) T (nI key) j) ∧ (t9 = 1 → ¬ dr j = -1 → ¬ vX k kp T T (dr j).toNatClampNeg j = -1)) → ∀ d, d < j + 1 → (t9 = 0 → dr d = -1 → ¬ refd (vX k kp T) T (nI key) d) ∧ (t9 = 1 → ¬ dr d = -1 → ¬ vX k kp T T (dr d).toNatClampNeg d = -1) := fun _ h d hd => by
      by_cases hdj : d = j
      · rw [hdj]; exact h
      · exact he d (by omega)
    refine gg_iload_n K (i := 3) dX0_draftKeepsReferences_2 rfl rfl ?_
    refine gg_bipush K (v := 60) dX0_draftKeepsReferences_3 (by decide) ?_
    refine gg_icmp_ge K (tgt := 75) dX0_draftKeepsReferences_5 (by decide) (fun h5 => ?_) (fun h5 => ?_)
    · have hj2 := i_le (a := 60) h5
      refine gg_iconst K (v := 1) dX0_draftKeepsReferences_75 (by decide) ?_
      exact gg_zret K hr dX0_draftKeepsReferences_76 (Or.inr rfl) (Nat.zero_le _) (Nat.zero_le _) ⟨some_int (bI_t (bP_t (fun d hd => he d (by omega)))).symm, rfl⟩
    have hj2 := i_nle (a := 60) h5
    refine gg_aload_n K (i := 0) dX0_draftKeepsReferences_8 rfl rfl ?_
    refine gX_draft K dX0_draftKeepsReferences_9 ?_
    refine gg_iload_n K (i := 3) dX0_draftKeepsReferences_12 rfl rfl ?_
    refine gX_ld_draft j K rfl hj2 dX0_draftKeepsReferences_13 ?_
    refine gg_istore K dX0_draftKeepsReferences_14 (by decide) ?_
    refine gg_iload_n K (i := 1) dX0_draftKeepsReferences_16 rfl rfl ?_
    refine gg_if_ne K (tgt := 37) dX0_draftKeepsReferences_17 (by decide) (fun h17 => ?_) (fun h17 => ?_)
    · have t1 : t9 = 1 := by
        have := i_ne (b := 0) h17
        omega
      refine gg_iload_n K (i := 1) dX0_draftKeepsReferences_37 rfl rfl ?_
      refine gg_iconst K (v := 1) dX0_draftKeepsReferences_38 (by decide) ?_
      refine gg_icmp_ne K (tgt := 69) dX0_draftKeepsReferences_39 (by decide) (fun h39 => ?_) (fun h39 => ?_)
      · exact absurd (by rw [t1]; rfl) h39
      refine gg_iload K dX0_draftKeepsReferences_42 rfl ?_
      refine gg_iconst K (v := (-1)) dX0_draftKeepsReferences_44 (by decide) ?_
      refine gg_icmp_eq K (tgt := 69) dX0_draftKeepsReferences_45 (by decide) (fun h45 => ?_) (fun h45 => ?_)
      · refine gg_iinc K (v := nI (j + 1)) dX0_draftKeepsReferences_69 rfl (nI_inc (j)) (by decide) ?_
        refine gg_goto K (tgt := 2) dX0_draftKeepsReferences_72 (by decide) ?_
        refine gg_sub (L' := [(3, .int (nI (j + 1))), (0, .ref X.1), (1, .int (nI t9)), (2, .int (nI key))]) ⟨rfl, rfl, rfl, rfl, trivial⟩ ?_
        exact ih _ _ ⟨j + 1, 0, by omega, rfl, rfl, by omega, next hj2 ⟨fun q => absurd q (by omega), fun _ q => absurd h45 q⟩⟩
      obtain ⟨i9, hi1, hi2⟩ := (hdr t1 j hj2).resolve_left h45
      refine gg_aload_n K (i := 0) dX0_draftKeepsReferences_48 rfl rfl ?_
      refine gg_aload_n K (i := 0) dX0_draftKeepsReferences_49 rfl rfl ?_
      refine gX_today K dX0_draftKeepsReferences_50 ?_
      refine gg_iconst K (v := 0) dX0_draftKeepsReferences_53 (by decide) ?_
      refine gg_iload K dX0_draftKeepsReferences_54 rfl ?_
      refine gg_callSR K k_X0_X0_line (x_line 0 i9 rfl hi1) dX0_draftKeepsReferences_56 rfl rfl rfl rfl ⟨rfl, rfl⟩ ?_
      refine gg_iload_n K (i := 3) dX0_draftKeepsReferences_59 rfl rfl ?_
      refine gg_callRX K k_X0_X0_knownOn (x_knownOn T i9 j ok (Nat.le_refl T) (by omega) hj2 ht (congrArg nI (by omega)) rfl) dX0_draftKeepsReferences_60 rfl rfl rfl rfl ⟨rfl, rfl⟩ ?_
      have hc : (dr j).toNatClampNeg = i9 := by rw [hi1]; exact nI_clamp (by omega)
      refine gg_iconst K (v := (-1)) dX0_draftKeepsReferences_63 (by decide) ?_
      refine gg_icmp_ne K (tgt := 69) dX0_draftKeepsReferences_64 (by decide) (fun h64 => ?_) (fun h64 => ?_)
      · refine gg_iinc K (v := nI (j + 1)) dX0_draftKeepsReferences_69 rfl (nI_inc (j)) (by decide) ?_
        refine gg_goto K (tgt := 2) dX0_draftKeepsReferences_72 (by decide) ?_
        refine gg_sub (L' := [(3, .int (nI (j + 1))), (0, .ref X.1), (1, .int (nI t9)), (2, .int (nI key))]) ⟨rfl, rfl, rfl, rfl, trivial⟩ ?_
        exact ih _ _ ⟨j + 1, 0, by omega, rfl, rfl, by omega, next hj2 ⟨fun q => absurd q (by omega), fun _ _ => by rw [hc]; exact h64⟩⟩
      · refine gg_iconst K (v := 0) dX0_draftKeepsReferences_67 (by decide) ?_
        exact gg_zret K hr dX0_draftKeepsReferences_68 (Or.inl rfl) (Nat.zero_le _) (Nat.zero_le _) ⟨some_int (bI_f (bP_f (fun q => (q j hj2).2 t1 h45 (by rw [hc]; exact h64)))).symm, rfl⟩
    · have t0 : t9 = 0 := i_eq (b := 0) h17
      refine gg_iload K dX0_draftKeepsReferences_20 rfl ?_
      refine gg_iconst K (v := (-1)) dX0_draftKeepsReferences_22 (by decide) ?_
      refine gg_icmp_ne K (tgt := 37) dX0_draftKeepsReferences_23 (by decide) (fun h23 => ?_) (fun h23 => ?_)
      · refine gg_iload_n K (i := 1) dX0_draftKeepsReferences_37 rfl rfl ?_
        refine gg_iconst K (v := 1) dX0_draftKeepsReferences_38 (by decide) ?_
        refine gg_icmp_ne K (tgt := 69) dX0_draftKeepsReferences_39 (by decide) (fun h39 => ?_) (fun h39 => ?_)
        · refine gg_iinc K (v := nI (j + 1)) dX0_draftKeepsReferences_69 rfl (nI_inc (j)) (by decide) ?_
          refine gg_goto K (tgt := 2) dX0_draftKeepsReferences_72 (by decide) ?_
          refine gg_sub (L' := [(3, .int (nI (j + 1))), (0, .ref X.1), (1, .int (nI t9)), (2, .int (nI key))]) ⟨rfl, rfl, rfl, rfl, trivial⟩ ?_
          exact ih _ _ ⟨j + 1, 0, by omega, rfl, rfl, by omega, next hj2 ⟨fun _ q => absurd q h23, fun q => absurd q (by omega)⟩⟩
        · exact absurd h39 (by rw [t0]; decide)
      refine gg_aload_n K (i := 0) dX0_draftKeepsReferences_26 rfl rfl ?_
      refine gg_iload_n K (i := 2) dX0_draftKeepsReferences_27 rfl rfl ?_
      refine gg_iload_n K (i := 3) dX0_draftKeepsReferences_28 rfl rfl ?_
      refine gg_callRX K k_X0_X0_isReferredTo (x_isReferredTo j ok ht hj2 rfl) dX0_draftKeepsReferences_29 rfl rfl rfl rfl ⟨rfl, rfl⟩ ?_
      refine gg_b_eq K (tgt := 37) dX0_draftKeepsReferences_32 (by decide) (fun h32 => ?_) (fun h32 => ?_)
      · refine gg_iload_n K (i := 1) dX0_draftKeepsReferences_37 rfl rfl ?_
        refine gg_iconst K (v := 1) dX0_draftKeepsReferences_38 (by decide) ?_
        refine gg_icmp_ne K (tgt := 69) dX0_draftKeepsReferences_39 (by decide) (fun h39 => ?_) (fun h39 => ?_)
        · refine gg_iinc K (v := nI (j + 1)) dX0_draftKeepsReferences_69 rfl (nI_inc (j)) (by decide) ?_
          refine gg_goto K (tgt := 2) dX0_draftKeepsReferences_72 (by decide) ?_
          refine gg_sub (L' := [(3, .int (nI (j + 1))), (0, .ref X.1), (1, .int (nI t9)), (2, .int (nI key))]) ⟨rfl, rfl, rfl, rfl, trivial⟩ ?_
          exact ih _ _ ⟨j + 1, 0, by omega, rfl, rfl, by omega, next hj2 ⟨fun _ _ => bP_nf h32, fun q => absurd q (by omega)⟩⟩
        · exact absurd h39 (by rw [t0]; decide)
      · refine gg_iconst K (v := 0) dX0_draftKeepsReferences_35 (by decide) ?_
        exact gg_zret K hr dX0_draftKeepsReferences_36 (Or.inl rfl) (Nat.zero_le _) (Nat.zero_le _) ⟨some_int (bI_f (bP_f (fun q => (q j hj2).1 t0 h23 (bP_iff.mp h32)))).symm, rfl⟩
