/-! Twotimes: what its calls need of their arguments; the store read -/
set_option maxRecDepth 100000 in
theorem x_index {l : Launch} (r li d : Nat) {x y z : Int32} (hx : x = nI r) (hy : y = nI li) (hz : z = nI d) : mS l yX0_index cX0_index 3 (some .int) (rmk 0 0 0 0) [.int x, .int y, .int z] (.int (nI (ix r li d))) := by
  intro D tys
  refine mA_intro (own := RX0) [(0, .int x), (1, .int y), (2, .int z)] (by decide +kernel) rfl rfl rfl rfl ?_
  intro p e s m args below meth c A K hr hin
  subst hx hy hz
  refine gg_iload_n K (i := 0) dX0_index_0 rfl rfl ?_
  refine gg_bipush K (v := 16) dX0_index_1 (by decide) ?_
  refine gg_imul K dX0_index_3 ?_
  refine gg_iload_n K (i := 1) dX0_index_4 rfl rfl ?_
  refine gg_iadd K dX0_index_5 ?_
  refine gg_bipush K (v := 60) dX0_index_6 (by decide) ?_
  refine gg_imul K dX0_index_8 ?_
  refine gg_iload_n K (i := 2) dX0_index_9 rfl rfl ?_
  refine gg_iadd K dX0_index_10 ?_
  exact gg_iret K hr dX0_index_11 (Nat.zero_le _) (Nat.zero_le _) (some_int (by simp only [nI_lit, nI_mul, nI_add]; rfl))
set_option maxRecDepth 100000 in
theorem x_line {l : Launch} (t k : Nat) {x y : Int32} (hx : x = nI t) (hy : y = nI k) : mS l yX0_line cX0_line 2 (some .int) (rmk 0 0 0 0) [.int x, .int y] (.int (nI (t * 8 + k))) := by
  intro D tys
  refine mA_intro (own := RX0) [(0, .int x), (1, .int y)] (by decide +kernel) rfl rfl rfl rfl ?_
  intro p e s m args below meth c A K hr hin
  subst hx hy
  refine gg_iload_n K (i := 0) dX0_line_0 rfl rfl ?_
  refine gg_bipush K (v := 8) dX0_line_1 (by decide) ?_
  refine gg_imul K dX0_line_3 ?_
  refine gg_iload_n K (i := 1) dX0_line_4 rfl rfl ?_
  refine gg_iadd K dX0_line_5 ?_
  exact gg_iret K hr dX0_line_6 (Nat.zero_le _) (Nat.zero_le _) (some_int (by simp only [nI_lit, nI_mul, nI_add]))
set_option maxRecDepth 100000 in
theorem x_valuesOf {l : Launch} {x : Int32} : mS l yX0_valuesOf cX0_valuesOf 1 (some .int) (rmk 0 0 0 0) [.int x] (.int (if x = 0 then 100 else 8)) := by
  intro D tys
  refine mA_intro (own := RX0) [(0, .int x)] (by decide +kernel) rfl rfl rfl rfl ?_
  intro p e s m args below meth c A K hr hin
  refine gg_iload_n K (i := 0) dX0_valuesOf_0 rfl rfl ?_
  refine gg_if_ne K (tgt := 9) dX0_valuesOf_1 (by decide) (fun h1 => ?_) (fun h1 => ?_)
  · refine gg_bipush K (v := 8) dX0_valuesOf_9 (by decide) ?_
    exact gg_iret K hr dX0_valuesOf_11 (Nat.zero_le _) (Nat.zero_le _) (some_int (by rw [if_neg h1]))
  · refine gg_bipush K (v := 100) dX0_valuesOf_4 (by decide) ?_
    refine gg_goto K (tgt := 11) dX0_valuesOf_6 (by decide) ?_
    exact gg_iret K hr dX0_valuesOf_11 (Nat.zero_le _) (Nat.zero_le _) (some_int (by rw [if_pos h1]))
set_option maxRecDepth 100000 in
theorem x_recordOfStart {l : Launch} {x : Int32} : mS l yX0_recordOfStart cX0_recordOfStart 1 (some .int) (rmk 0 0 0 0) [.int x] (.int (x / 60)) := by
  intro D tys
  refine mA_intro (own := RX0) [(0, .int x)] (by decide +kernel) rfl rfl rfl rfl ?_
  intro p e s m args below meth c A K hr hin
  refine gg_iload_n K (i := 0) dX0_recordOfStart_0 rfl rfl ?_
  refine gg_bipush K (v := 60) dX0_recordOfStart_1 (by decide) ?_
  refine gg_idiv K dX0_recordOfStart_3 (by decide) ?_
  exact gg_iret K hr dX0_recordOfStart_4 (Nat.zero_le _) (Nat.zero_le _) rfl
set_option maxRecDepth 100000 in
theorem x_validOfStart {l : Launch} {x : Int32} : mS l yX0_validOfStart cX0_validOfStart 1 (some .int) (rmk 0 0 0 0) [.int x] (.int (x - x / 60 * 60)) := by
  intro D tys
  refine mA_intro (own := RX0) [(0, .int x)] (by decide +kernel) rfl rfl rfl rfl ?_
  intro p e s m args below meth c A K hr hin
  refine gg_iload_n K (i := 0) dX0_validOfStart_0 rfl rfl ?_
  refine gg_bipush K (v := 60) dX0_validOfStart_1 (by decide) ?_
  refine gg_irem K dX0_validOfStart_3 (by decide) ?_
  exact gg_iret K hr dX0_validOfStart_4 (Nat.zero_le _) (Nat.zero_le _) rfl
set_option maxRecDepth 100000 in
theorem x_knownOn {l : Launch} {Z : ZT} {X : XT} {k kp dr : Nat → Int32} {td : Int32} {T : Nat} (r li d : Nat) {x y z : Int32} (ok : okX kp T) (hr0 : r ≤ T) (hl0 : li < 16) (hd0 : d < 60) (hx : x = nI r) (hy : y = nI li) (hz : z = nI d) : mR l Z yX0_knownOn cX0_knownOn 5 (some .int) (rmk 1 30 0 0) (wX Z X k kp dr td) [.ref X.1, .int x, .int y, .int z] (.int (vX k kp T r li d)) := by
  refine mA_intro (own := RX0) [(0, .ref X.1), (1, .int x), (2, .int y), (3, .int z)] (by decide +kernel) rfl rfl rfl rfl ?_
  intro p e s m args below meth c A K hr hin
  obtain ⟨o1, o2, o3, o4⟩ := ok
  obtain ⟨⟨q1, q2⟩, -⟩ := o4 r hr0
  have hv : vX k kp T r li d = k (ix (kq kp r) li d) := if_pos ⟨hr0, hl0, hd0⟩
  have hlt := ix_lt (r := kq kp r) (by omega) hl0 hd0
  subst hx hy hz
  refine gg_iload_n K (i := 1) dX0_knownOn_0 rfl rfl ?_
  refine gg_if_lt K (tgt := 10) dX0_knownOn_1 (by decide) (fun h1 => ?_) (fun h1 => ?_)
  · exact absurd h1 (nI_pos (by omega))
  refine gg_iload_n K (i := 1) dX0_knownOn_4 rfl rfl ?_
  refine gg_bipush K (v := 60) dX0_knownOn_5 (by decide) ?_
  refine gg_icmp_lt K (tgt := 12) dX0_knownOn_7 (by decide) (fun h7 => ?_) (fun h7 => ?_)
  rotate_left
  · exact absurd (nI_lt (b := 60) (by omega) (by omega)) h7
  refine gg_aload_n K (i := 0) dX0_knownOn_12 rfl rfl ?_
  refine gX_keptOn K dX0_knownOn_13 ?_
  refine gg_iload_n K (i := 1) dX0_knownOn_16 rfl rfl ?_
  refine gX_ld_kept r K rfl (by omega) dX0_knownOn_17 ?_
  refine gg_iload_n K (i := 2) dX0_knownOn_18 rfl rfl ?_
  refine gg_iload_n K (i := 3) dX0_knownOn_19 rfl rfl ?_
  refine gg_callSR K k_X0_X0_index (x_index (kq kp r) li d q1 rfl rfl) dX0_knownOn_20 rfl rfl rfl rfl ⟨rfl, rfl⟩ ?_
  refine gg_istore K dX0_knownOn_23 (by decide) ?_
  refine gg_iload K dX0_knownOn_25 rfl ?_
  refine gg_if_lt K (tgt := 40) dX0_knownOn_27 (by decide) (fun h27 => ?_) (fun h27 => ?_)
  · exact absurd h27 (nI_pos (by omega))
  refine gg_iload K dX0_knownOn_30 rfl ?_
  refine gg_aload_n K (i := 0) dX0_knownOn_32 rfl rfl ?_
  refine gX_known K dX0_knownOn_33 ?_
  refine gX_len_known K dX0_knownOn_36 ?_
  refine gg_icmp_lt K (tgt := 44) dX0_knownOn_37 (by decide) (fun h37 => ?_) (fun h37 => ?_)
  rotate_left
  · exact absurd (nI_lt (by omega) (by omega)) h37
  refine gg_aload_n K (i := 0) dX0_knownOn_44 rfl rfl ?_
  refine gX_known K dX0_knownOn_45 ?_
  refine gg_iload K dX0_knownOn_48 rfl ?_
  refine gX_ld_known (ix (kq kp r) li d) K rfl hlt dX0_knownOn_50 ?_
  exact gg_iret K hr dX0_knownOn_51 (Nat.zero_le _) (Nat.zero_le _) ⟨some_int hv.symm, rfl⟩
