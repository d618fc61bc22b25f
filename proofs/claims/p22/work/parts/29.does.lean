/-! areAlike; does; act; isRestoredSo -/
set_option maxRecDepth 100000 in
theorem c_alike {l : Launch} {Z : ZT} {X Y : XT} {k kp dr k2 kp2 dr2 : Nat → Int32} {T : Nat} (ok : okX kp T) (ok2 : okX kp2 T) (hV : vX k2 kp2 T = vX k kp T) : mR l Z yL_areAlike cL_areAlike 5 (some .boolean) (rmk 10 240 0 0) (w2 Z X Y k kp dr (nI T) k2 kp2 dr2 (nI T)) [.ref X.1, .ref Y.1] (.int 1) := by
  have hT9 := ok.1
  refine mA_intro (own := RL) [(0, .ref X.1), (1, .ref Y.1)] (by decide +kernel) rfl rfl rfl rfl ?_
  intro p e s m args below meth c A K hr hin
  refine gg_aload_n K (i := 0) dL_areAlike_0 rfl rfl ?_
  refine gg_2V1 K k_L_X0_today x_today dL_areAlike_1 rfl rfl rfl rfl ⟨rfl, rfl⟩ ?_
  refine gg_aload_n K (i := 1) dL_areAlike_4 rfl rfl ?_
  refine gg_2V2 K k_L_X0_today x_today dL_areAlike_5 rfl rfl rfl rfl ⟨rfl, rfl⟩ ?_
  refine gg_icmp_ne K (tgt := 15) dL_areAlike_8 (by decide) (fun h8 => ?_) (fun h8 => ?_)
  · exact absurd rfl h8
  refine gg_iconst K (v := 1) dL_areAlike_11 (by decide) ?_
  refine gg_goto K (tgt := 16) dL_areAlike_12 (by decide) ?_
  refine gg_istore_n K (i := 2) dL_areAlike_16 rfl (by decide) ?_
  refine gg_iconst K (v := 0) dL_areAlike_17 (by decide) ?_
  refine gg_istore_n K (i := 3) dL_areAlike_18 rfl (by decide) ?_
  refine gg_sub (L' := [(3, .int (nI 0)), (2, .int 1), (0, .ref X.1), (1, .ref Y.1)]) ⟨rfl, rfl, rfl, rfl, trivial⟩ ?_
  refine gg_loop (fun i w L => ∃ (j : Nat), j + i = 9 ∧ w = (w2 Z X Y k kp dr (nI T) k2 kp2 dr2 (nI T)) ∧ j ≤ 8 ∧ L = [(3, .int (nI j)), (2, .int 1), (0, .ref X.1), (1, .ref Y.1)]) (fun w L h => ?_) (fun i w L h ih => ?_) 9 _ _ ⟨0, by omega, rfl, by omega, rfl⟩
  · obtain ⟨j, hj, -, h2, -⟩ := h
    omega
  obtain ⟨j, hj, rfl, hj1, rfl⟩ := h
  refine gg_iload_n K (i := 3) dL_areAlike_19 rfl rfl ?_
  refine gg_bipush K (v := 8) dL_areAlike_20 (by decide) ?_
  refine gg_icmp_ge K (tgt := 201) dL_areAlike_22 (by decide) (fun h22 => ?_) (fun h22 => ?_)
  · refine gg_iload_n K (i := 2) dL_areAlike_201 rfl rfl ?_
    exact gg_zret K hr dL_areAlike_202 (Or.inr rfl) (Nat.le_of_ble_eq_true rfl) (Nat.le_of_ble_eq_true rfl) ⟨rfl, rfl⟩
  have hj2 := i_nle (a := 8) h22
  refine gg_iload_n K (i := 2) dL_areAlike_25 rfl rfl ?_
  refine gg_if_eq K (tgt := 201) dL_areAlike_26 (by decide) (fun h26 => ?_) (fun h26 => ?_)
  · exact absurd h26 (by decide)
  refine gg_aload_n K (i := 0) dL_areAlike_29 rfl rfl ?_
  refine gg_iconst K (v := 0) dL_areAlike_30 (by decide) ?_
  refine gg_iload_n K (i := 3) dL_areAlike_31 rfl rfl ?_
  refine gg_2V1 K k_L_X0_rows (n_rows ok 0 j (by omega) hj2 rfl rfl) dL_areAlike_32 rfl rfl rfl rfl ⟨rfl, rfl⟩ ?_
  refine gg_aload_n K (i := 1) dL_areAlike_35 rfl rfl ?_
  refine gg_iconst K (v := 0) dL_areAlike_36 (by decide) ?_
  refine gg_iload_n K (i := 3) dL_areAlike_37 rfl rfl ?_
  refine gg_2V2 K k_L_X0_rows (n_rows ok2 0 j (by omega) hj2 rfl rfl) dL_areAlike_38 rfl rfl rfl rfl ⟨rfl, rfl⟩ ?_
  refine gg_icmp_ne K (tgt := 109) dL_areAlike_41 (by decide) (fun h41 => ?_) (fun h41 => ?_)
  · exact absurd (by rw [hV]) h41
  refine gg_aload_n K (i := 0) dL_areAlike_44 rfl rfl ?_
  refine gg_iconst K (v := 1) dL_areAlike_45 (by decide) ?_
  refine gg_iload_n K (i := 3) dL_areAlike_46 rfl rfl ?_
  refine gg_2V1 K k_L_X0_rows (n_rows ok 1 j (by omega) hj2 rfl rfl) dL_areAlike_47 rfl rfl rfl rfl ⟨rfl, rfl⟩ ?_
  refine gg_aload_n K (i := 1) dL_areAlike_50 rfl rfl ?_
  refine gg_iconst K (v := 1) dL_areAlike_51 (by decide) ?_
  refine gg_iload_n K (i := 3) dL_areAlike_52 rfl rfl ?_
  refine gg_2V2 K k_L_X0_rows (n_rows ok2 1 j (by omega) hj2 rfl rfl) dL_areAlike_53 rfl rfl rfl rfl ⟨rfl, rfl⟩ ?_
  refine gg_icmp_ne K (tgt := 109) dL_areAlike_56 (by decide) (fun h56 => ?_) (fun h56 => ?_)
  · exact absurd (by rw [hV]) h56
  refine gg_aload_n K (i := 0) dL_areAlike_59 rfl rfl ?_
  refine gg_iconst K (v := 0) dL_areAlike_60 (by decide) ?_
  refine gg_iload_n K (i := 3) dL_areAlike_61 rfl rfl ?_
  refine gg_aload_n K (i := 0) dL_areAlike_62 rfl rfl ?_
  refine gg_2V1 K k_L_X0_today x_today dL_areAlike_63 rfl rfl rfl rfl ⟨rfl, rfl⟩ ?_
  refine gg_2V1 K k_L_X0_runs (n_runs ok 0 j (by omega) hj2 rfl rfl T (Nat.le_refl T) rfl) dL_areAlike_66 rfl rfl rfl rfl ⟨rfl, rfl⟩ ?_
  refine gg_aload_n K (i := 1) dL_areAlike_69 rfl rfl ?_
  refine gg_iconst K (v := 0) dL_areAlike_70 (by decide) ?_
  refine gg_iload_n K (i := 3) dL_areAlike_71 rfl rfl ?_
  refine gg_aload_n K (i := 1) dL_areAlike_72 rfl rfl ?_
  refine gg_2V2 K k_L_X0_today x_today dL_areAlike_73 rfl rfl rfl rfl ⟨rfl, rfl⟩ ?_
  refine gg_2V2 K k_L_X0_runs (n_runs ok2 0 j (by omega) hj2 rfl rfl T (Nat.le_refl T) rfl) dL_areAlike_76 rfl rfl rfl rfl ⟨rfl, rfl⟩ ?_
  refine gg_icmp_ne K (tgt := 109) dL_areAlike_79 (by decide) (fun h79 => ?_) (fun h79 => ?_)
  · exact absurd (by rw [hV]) h79
  refine gg_aload_n K (i := 0) dL_areAlike_82 rfl rfl ?_
  refine gg_iconst K (v := 1) dL_areAlike_83 (by decide) ?_
  refine gg_iload_n K (i := 3) dL_areAlike_84 rfl rfl ?_
  refine gg_aload_n K (i := 0) dL_areAlike_85 rfl rfl ?_
  refine gg_2V1 K k_L_X0_today x_today dL_areAlike_86 rfl rfl rfl rfl ⟨rfl, rfl⟩ ?_
  refine gg_2V1 K k_L_X0_longest (n_longest ok 1 j (by omega) hj2 rfl rfl T (Nat.le_refl T) rfl) dL_areAlike_89 rfl rfl rfl rfl ⟨rfl, rfl⟩ ?_
  refine gg_aload_n K (i := 1) dL_areAlike_92 rfl rfl ?_
  refine gg_iconst K (v := 1) dL_areAlike_93 (by decide) ?_
  refine gg_iload_n K (i := 3) dL_areAlike_94 rfl rfl ?_
  refine gg_aload_n K (i := 1) dL_areAlike_95 rfl rfl ?_
  refine gg_2V2 K k_L_X0_today x_today dL_areAlike_96 rfl rfl rfl rfl ⟨rfl, rfl⟩ ?_
  refine gg_2V2 K k_L_X0_longest (n_longest ok2 1 j (by omega) hj2 rfl rfl T (Nat.le_refl T) rfl) dL_areAlike_99 rfl rfl rfl rfl ⟨rfl, rfl⟩ ?_
  refine gg_icmp_ne K (tgt := 109) dL_areAlike_102 (by decide) (fun h102 => ?_) (fun h102 => ?_)
  · exact absurd (by rw [hV]) h102
  refine gg_iconst K (v := 1) dL_areAlike_105 (by decide) ?_
  refine gg_goto K (tgt := 110) dL_areAlike_106 (by decide) ?_
  refine gg_istore_n K (i := 2) dL_areAlike_110 rfl (by decide) ?_
  refine gg_iconst K (v := 0) dL_areAlike_111 (by decide) ?_
  refine gg_istore K dL_areAlike_112 (by decide) ?_
  refine gg_sub (L' := [(4, .int (nI (4 * 0))), (3, .int (nI j)), (2, .int 1), (0, .ref X.1), (1, .ref Y.1)]) ⟨rfl, rfl, rfl, rfl, rfl, trivial⟩ ?_
  refine gg_loop (fun i w L => ∃ (z : Nat), z + i = 16 ∧ w = (w2 Z X Y k kp dr (nI T) k2 kp2 dr2 (nI T)) ∧ z ≤ 15 ∧ L = [(4, .int (nI (4 * z))), (3, .int (nI j)), (2, .int 1), (0, .ref X.1), (1, .ref Y.1)]) (fun w L h => ?_) (fun i w L h ih2 => ?_) 16 _ _ ⟨0, by omega, rfl, by omega, rfl⟩
  · obtain ⟨z, hz, -, h2, -⟩ := h
    omega
  obtain ⟨z, hz, rfl, hz1, rfl⟩ := h
  refine gg_iload K dL_areAlike_114 rfl ?_
  refine gg_bipush K (v := 60) dL_areAlike_116 (by decide) ?_
  refine gg_icmp_ge K (tgt := 195) dL_areAlike_118 (by decide) (fun h118 => ?_) (fun h118 => ?_)
  · refine gg_iinc K (v := nI (j + 1)) dL_areAlike_195 rfl (nI_inc (j)) (by decide) ?_
    refine gg_goto K (tgt := 19) dL_areAlike_198 (by decide) ?_
    refine gg_sub (L' := [(3, .int (nI (j + 1))), (2, .int 1), (0, .ref X.1), (1, .ref Y.1)]) ⟨rfl, rfl, rfl, rfl, trivial⟩ ?_
    exact ih _ _ ⟨j + 1, by omega, rfl, by omega, rfl⟩
  have hz2 := i_nle (a := 60) h118
  refine gg_iload_n K (i := 2) dL_areAlike_121 rfl rfl ?_
  refine gg_if_eq K (tgt := 195) dL_areAlike_122 (by decide) (fun h122 => ?_) (fun h122 => ?_)
  · exact absurd h122 (by decide)
  refine gg_aload_n K (i := 0) dL_areAlike_125 rfl rfl ?_
  refine gg_iconst K (v := 0) dL_areAlike_126 (by decide) ?_
  refine gg_iload_n K (i := 3) dL_areAlike_127 rfl rfl ?_
  refine gg_iload K dL_areAlike_128 rfl ?_
  refine gg_aload_n K (i := 0) dL_areAlike_130 rfl rfl ?_
  refine gg_2V1 K k_L_X0_today x_today dL_areAlike_131 rfl rfl rfl rfl ⟨rfl, rfl⟩ ?_
  refine gg_2V1 K k_L_X0_value (n_value ok 0 j (by omega) hj2 rfl rfl (4 * z) hz2 rfl T (Nat.le_refl T) rfl) dL_areAlike_134 rfl rfl rfl rfl ⟨rfl, rfl⟩ ?_
  refine gg_aload_n K (i := 1) dL_areAlike_137 rfl rfl ?_
  refine gg_iconst K (v := 0) dL_areAlike_138 (by decide) ?_
  refine gg_iload_n K (i := 3) dL_areAlike_139 rfl rfl ?_
  refine gg_iload K dL_areAlike_140 rfl ?_
  refine gg_aload_n K (i := 1) dL_areAlike_142 rfl rfl ?_
  refine gg_2V2 K k_L_X0_today x_today dL_areAlike_143 rfl rfl rfl rfl ⟨rfl, rfl⟩ ?_
  refine gg_2V2 K k_L_X0_value (n_value ok2 0 j (by omega) hj2 rfl rfl (4 * z) hz2 rfl T (Nat.le_refl T) rfl) dL_areAlike_146 rfl rfl rfl rfl ⟨rfl, rfl⟩ ?_
  refine gg_icmp_ne K (tgt := 187) dL_areAlike_149 (by decide) (fun h149 => ?_) (fun h149 => ?_)
  · exact absurd (by rw [hV]) h149
  refine gg_aload_n K (i := 0) dL_areAlike_152 rfl rfl ?_
  refine gg_iconst K (v := 1) dL_areAlike_153 (by decide) ?_
  refine gg_iload_n K (i := 3) dL_areAlike_154 rfl rfl ?_
  refine gg_iload K dL_areAlike_155 rfl ?_
  refine gg_aload_n K (i := 0) dL_areAlike_157 rfl rfl ?_
  refine gg_2V1 K k_L_X0_today x_today dL_areAlike_158 rfl rfl rfl rfl ⟨rfl, rfl⟩ ?_
  refine gg_iconst K (v := 2) dL_areAlike_161 (by decide) ?_
  refine gg_idiv K dL_areAlike_162 (by decide) ?_
  refine gg_2V1 K k_L_X0_value (n_value ok 1 j (by omega) hj2 rfl rfl (4 * z) hz2 rfl (T / 2) (by omega) (pk_div (a := T) (d := 2) (by omega) (by omega) (by omega))) dL_areAlike_163 rfl rfl rfl rfl ⟨rfl, rfl⟩ ?_
  refine gg_aload_n K (i := 1) dL_areAlike_166 rfl rfl ?_
  refine gg_iconst K (v := 1) dL_areAlike_167 (by decide) ?_
  refine gg_iload_n K (i := 3) dL_areAlike_168 rfl rfl ?_
  refine gg_iload K dL_areAlike_169 rfl ?_
  refine gg_aload_n K (i := 1) dL_areAlike_171 rfl rfl ?_
  refine gg_2V2 K k_L_X0_today x_today dL_areAlike_172 rfl rfl rfl rfl ⟨rfl, rfl⟩ ?_
  refine gg_iconst K (v := 2) dL_areAlike_175 (by decide) ?_
  refine gg_idiv K dL_areAlike_176 (by decide) ?_
  refine gg_2V2 K k_L_X0_value (n_value ok2 1 j (by omega) hj2 rfl rfl (4 * z) hz2 rfl (T / 2) (by omega) (pk_div (a := T) (d := 2) (by omega) (by omega) (by omega))) dL_areAlike_177 rfl rfl rfl rfl ⟨rfl, rfl⟩ ?_
  refine gg_icmp_ne K (tgt := 187) dL_areAlike_180 (by decide) (fun h180 => ?_) (fun h180 => ?_)
  · exact absurd (by rw [hV]) h180
  refine gg_iconst K (v := 1) dL_areAlike_183 (by decide) ?_
  refine gg_goto K (tgt := 188) dL_areAlike_184 (by decide) ?_
  refine gg_istore_n K (i := 2) dL_areAlike_188 rfl (by decide) ?_
  refine gg_iinc K (v := nI (4 * (z + 1))) dL_areAlike_189 rfl (nI_add (4 * z) 4) (by decide) ?_
  refine gg_goto K (tgt := 114) dL_areAlike_192 (by decide) ?_
  refine gg_sub (L' := [(4, .int (nI (4 * (z + 1)))), (3, .int (nI j)), (2, .int 1), (0, .ref X.1), (1, .ref Y.1)]) ⟨rfl, rfl, rfl, rfl, rfl, trivial⟩ ?_
  exact ih2 _ _ ⟨z + 1, by omega, rfl, by omega, rfl⟩
/-- a change, told -/
def toldW (Z : ZT) (X : XT) (S : Int32 → VT → Nat → Prop) : Option Value → va_W → Prop := fun ret u => ∃ (r : Int32) (k' kp' dr' : Nat → Int32) (T' : Nat), ret = some (.int r) ∧ u = wX Z X k' kp' dr' (nI T') ∧ okX kp' T' ∧ S r (vX k' kp' T') T'
set_option maxRecDepth 100000 in
theorem c_does {l : Launch} {Z : ZT} {X : XT} {k kp dr : Nat → Int32} {T : Nat} (hl0 : l.stackTraces = false) (ok : okX kp T) (hv : valOk (vX k kp T) T) {h9 t y x f q : Int32} : mX l Z.1 (ty3 Z) yL_does (Cond.codeWith yL_does cL_does 8 (some .int) [(0, 76, 77, 29), (0, 76, 82, 32), (0, 76, 87, 34)]) (rmk 10 250 8 48) (wX Z X k kp dr (nI T)) [.ref X.1, .int h9, .int t, .int y, .int x, .int f, .int q] (toldW Z X (sDo (vX k kp T) T h9 t y x f q)) (fun _ _ => False) := by
  refine mH_intro (own := RL) [(0, .ref X.1), (1, .int h9), (2, .int t), (3, .int y), (4, .int x), (5, .int f), (6, .int q)] (by decide +kernel) rfl rfl rfl rfl ?_
  intro p e s m args below meth c A K hr T9 htab
  refine gg_iload_n K (i := 1) dL_does_0 rfl rfl ?_
  refine gg_if_ne K (tgt := 19) dL_does_1 (by decide) (fun h1 => ?_) (fun h1 => ?_)
  rotate_left
  · have e0 : h9 = 0 := h1
    refine gg_aload_n K (i := 0) dL_does_4 rfl rfl ?_
    refine gg_iload_n K (i := 2) dL_does_5 rfl rfl ?_
    refine gg_iload_n K (i := 3) dL_does_6 rfl rfl ?_
    refine gg_iload K dL_does_7 rfl ?_
    refine gg_iload K dL_does_9 rfl ?_
    refine gg_iload K dL_does_11 rfl ?_
    refine gg_callJX (wr := []) [0, 1, 2, 3] [] rfl rfl rfl K T9 k_L_X0_put (x_put hl0 ok hv) 0 (ci := 0) (N := 4) (T := TX0) rfl rfl dL_does_13 rfl rfl rfl rfl (fun E u h => ?_) (fun v u h => ?_)
    · obtain ⟨c9, k', kp', dr', T', hm, rfl, ok', hS⟩ := h
      simp only [cAS, List.mem_cons, List.not_mem_nil, or_false, Prod.mk.injEq] at hm
      rcases hm with ⟨rfl, rfl⟩ | ⟨rfl, rfl⟩
      · refine gx_catch K T9 htab [] ⟨0, 76, 77, 29⟩ [⟨0, 76, 82, 32⟩, ⟨0, 76, 87, 34⟩] rfl (fun _ h => absurd h List.not_mem_nil) (by decide) (by decide) wd_29 (List.mem_of_getElem? (i := 0) rfl) (fun q9 => ?_)
        refine gg_astore K dL_does_77 (by decide) ?_
        refine gg_ldc K wd_3 dL_does_79 ?_
        exact gg_x (gg_iret K hr dL_does_81 (Nat.le_of_ble_eq_true rfl) (Nat.le_of_ble_eq_true rfl) ⟨-99999, k', kp', dr', T', rfl, rfl, ok', _, 0, by rw [if_pos e0]; exact hS, rfl⟩)
      · refine gx_catch K T9 htab [⟨0, 76, 77, 29⟩, ⟨0, 76, 82, 32⟩] ⟨0, 76, 87, 34⟩ [] rfl (List.forall_mem_cons.mpr ⟨⟨by decide, eA, wd_29, List.mem_of_getElem? (i := 2) rfl⟩, (List.forall_mem_cons.mpr ⟨⟨by decide, eB, wd_30, List.mem_of_getElem? (i := 3) rfl⟩, (fun _ h => absurd h List.not_mem_nil)⟩)⟩) (by decide) (by decide) wd_31 (List.mem_of_getElem? (i := 1) rfl) (fun q9 => ?_)
        refine gg_astore K dL_does_87 (by decide) ?_
        refine gg_ldc K wd_3 dL_does_89 ?_
        exact gg_x (gg_iret K hr dL_does_91 (Nat.le_of_ble_eq_true rfl) (Nat.le_of_ble_eq_true rfl) ⟨-99999, k', kp', dr', T', rfl, rfl, ok', _, 0, by rw [if_pos e0]; exact hS, rfl⟩)
    obtain ⟨r, k', kp', dr', T', rfl, rfl, ok', hS⟩ := h
    refine gg_goto K (tgt := 76) dL_does_16 (by decide) ?_
    exact gg_x (gg_iret K hr dL_does_76 (Nat.le_of_ble_eq_true rfl) (Nat.le_of_ble_eq_true rfl) ⟨r, k', kp', dr', T', rfl, rfl, ok', 0, r, by rw [if_pos e0]; exact hS, rfl⟩)
  have e0 : ¬ h9 = 0 := h1
  refine gg_iload_n K (i := 1) dL_does_19 rfl rfl ?_
  refine gg_iconst K (v := 1) dL_does_20 (by decide) ?_
  refine gg_icmp_ne K (tgt := 37) dL_does_21 (by decide) (fun h21 => ?_) (fun h21 => ?_)
  rotate_left
  · have e1 : h9 = 1 := h21
    refine gg_aload_n K (i := 0) dL_does_24 rfl rfl ?_
    refine gg_iload_n K (i := 2) dL_does_25 rfl rfl ?_
    refine gg_iload_n K (i := 3) dL_does_26 rfl rfl ?_
    refine gg_iload K dL_does_27 rfl ?_
    refine gg_iload K dL_does_29 rfl ?_
    refine gg_callJX (wr := []) [0, 1, 2, 3] [] rfl rfl rfl K T9 k_L_X0_erase (x_erase hl0 ok hv) 0 (ci := 0) (N := 4) (T := TX0) rfl rfl dL_does_31 rfl rfl rfl rfl (fun E u h => ?_) (fun v u h => ?_)
    · obtain ⟨c9, k', kp', dr', T', hm, rfl, ok', hS⟩ := h
      simp only [cAS, List.mem_cons, List.not_mem_nil, or_false, Prod.mk.injEq] at hm
      rcases hm with ⟨rfl, rfl⟩ | ⟨rfl, rfl⟩
      · refine gx_catch K T9 htab [] ⟨0, 76, 77, 29⟩ [⟨0, 76, 82, 32⟩, ⟨0, 76, 87, 34⟩] rfl (fun _ h => absurd h List.not_mem_nil) (by decide) (by decide) wd_29 (List.mem_of_getElem? (i := 0) rfl) (fun q9 => ?_)
        refine gg_astore K dL_does_77 (by decide) ?_
        refine gg_ldc K wd_3 dL_does_79 ?_
        exact gg_x (gg_iret K hr dL_does_81 (Nat.le_of_ble_eq_true rfl) (Nat.le_of_ble_eq_true rfl) ⟨-99999, k', kp', dr', T', rfl, rfl, ok', _, 0, by rw [if_neg e0, if_pos e1]; exact hS, rfl⟩)
      · refine gx_catch K T9 htab [⟨0, 76, 77, 29⟩, ⟨0, 76, 82, 32⟩] ⟨0, 76, 87, 34⟩ [] rfl (List.forall_mem_cons.mpr ⟨⟨by decide, eA, wd_29, List.mem_of_getElem? (i := 2) rfl⟩, (List.forall_mem_cons.mpr ⟨⟨by decide, eB, wd_30, List.mem_of_getElem? (i := 3) rfl⟩, (fun _ h => absurd h List.not_mem_nil)⟩)⟩) (by decide) (by decide) wd_31 (List.mem_of_getElem? (i := 1) rfl) (fun q9 => ?_)
        refine gg_astore K dL_does_87 (by decide) ?_
        refine gg_ldc K wd_3 dL_does_89 ?_
        exact gg_x (gg_iret K hr dL_does_91 (Nat.le_of_ble_eq_true rfl) (Nat.le_of_ble_eq_true rfl) ⟨-99999, k', kp', dr', T', rfl, rfl, ok', _, 0, by rw [if_neg e0, if_pos e1]; exact hS, rfl⟩)
    obtain ⟨r, k', kp', dr', T', rfl, rfl, ok', hS⟩ := h
    refine gg_goto K (tgt := 76) dL_does_34 (by decide) ?_
    exact gg_x (gg_iret K hr dL_does_76 (Nat.le_of_ble_eq_true rfl) (Nat.le_of_ble_eq_true rfl) ⟨r, k', kp', dr', T', rfl, rfl, ok', 0, r, by rw [if_neg e0, if_pos e1]; exact hS, rfl⟩)
  have e1 : ¬ h9 = 1 := h21
  refine gg_iload_n K (i := 1) dL_does_37 rfl rfl ?_
  refine gg_iconst K (v := 2) dL_does_38 (by decide) ?_
  refine gg_icmp_ne K (tgt := 54) dL_does_39 (by decide) (fun h39 => ?_) (fun h39 => ?_)
  rotate_left
  · have e2 : h9 = 2 := h39
    refine gg_aload_n K (i := 0) dL_does_42 rfl rfl ?_
    refine gg_iload_n K (i := 3) dL_does_43 rfl rfl ?_
    refine gg_iload K dL_does_44 rfl ?_
    refine gg_iload K dL_does_46 rfl ?_
    refine gg_callJX (wr := []) [0, 1, 2, 3] [] rfl rfl rfl K T9 k_L_X0_eraseAll (x_eraseAll hl0 ok) 0 (ci := 0) (N := 4) (T := TX0) rfl rfl dL_does_48 rfl rfl rfl rfl (fun E u h => ?_) (fun v u h => ?_)
    · obtain ⟨c9, k', kp', dr', T', hm, rfl, ok', hS⟩ := h
      simp only [cA1, List.mem_cons, List.not_mem_nil, or_false, Prod.mk.injEq] at hm
      obtain ⟨rfl, rfl⟩ := hm
      refine gx_catch K T9 htab [] ⟨0, 76, 77, 29⟩ [⟨0, 76, 82, 32⟩, ⟨0, 76, 87, 34⟩] rfl (fun _ h => absurd h List.not_mem_nil) (by decide) (by decide) wd_29 (List.mem_of_getElem? (i := 0) rfl) (fun q9 => ?_)
      refine gg_astore K dL_does_77 (by decide) ?_
      refine gg_ldc K wd_3 dL_does_79 ?_
      exact gg_x (gg_iret K hr dL_does_81 (Nat.le_of_ble_eq_true rfl) (Nat.le_of_ble_eq_true rfl) ⟨-99999, k', kp', dr', T', rfl, rfl, ok', _, 0, by rw [if_neg e0, if_neg e1, if_pos e2]; exact hS, rfl⟩)
    obtain ⟨r, k', kp', dr', T', rfl, rfl, ok', hS⟩ := h
    refine gg_goto K (tgt := 76) dL_does_51 (by decide) ?_
    exact gg_x (gg_iret K hr dL_does_76 (Nat.le_of_ble_eq_true rfl) (Nat.le_of_ble_eq_true rfl) ⟨r, k', kp', dr', T', rfl, rfl, ok', 0, r, by rw [if_neg e0, if_neg e1, if_pos e2]; exact hS, rfl⟩)
  have e2 : ¬ h9 = 2 := h39
  refine gg_iload_n K (i := 1) dL_does_54 rfl rfl ?_
  refine gg_iconst K (v := 3) dL_does_55 (by decide) ?_
  refine gg_icmp_ne K (tgt := 70) dL_does_56 (by decide) (fun h56 => ?_) (fun h56 => ?_)
  rotate_left
  · have e3 : h9 = 3 := h56
    refine gg_aload_n K (i := 0) dL_does_59 rfl rfl ?_
    refine gg_iload_n K (i := 2) dL_does_60 rfl rfl ?_
    refine gg_iload_n K (i := 3) dL_does_61 rfl rfl ?_
    refine gg_iload K dL_does_62 rfl ?_
    refine gg_callJX (wr := []) [0, 1, 2, 3] [] rfl rfl rfl K T9 k_L_X0_restore (x_restore hl0 ok hv) 0 (ci := 0) (N := 4) (T := TX0) rfl rfl dL_does_64 rfl rfl rfl rfl (fun E u h => ?_) (fun v u h => ?_)
    · obtain ⟨c9, k', kp', dr', T', hm, rfl, ok', hS⟩ := h
      simp only [cABS, List.mem_cons, List.not_mem_nil, or_false, Prod.mk.injEq] at hm
      rcases hm with ⟨rfl, rfl⟩ | ⟨rfl, rfl⟩ | ⟨rfl, rfl⟩
      · refine gx_catch K T9 htab [] ⟨0, 76, 77, 29⟩ [⟨0, 76, 82, 32⟩, ⟨0, 76, 87, 34⟩] rfl (fun _ h => absurd h List.not_mem_nil) (by decide) (by decide) wd_29 (List.mem_of_getElem? (i := 0) rfl) (fun q9 => ?_)
        refine gg_astore K dL_does_77 (by decide) ?_
        refine gg_ldc K wd_3 dL_does_79 ?_
        exact gg_x (gg_iret K hr dL_does_81 (Nat.le_of_ble_eq_true rfl) (Nat.le_of_ble_eq_true rfl) ⟨-99999, k', kp', dr', T', rfl, rfl, ok', _, 0, by rw [if_neg e0, if_neg e1, if_neg e2, if_pos e3]; exact hS, rfl⟩)
      · refine gx_catch K T9 htab [⟨0, 76, 77, 29⟩] ⟨0, 76, 82, 32⟩ [⟨0, 76, 87, 34⟩] rfl (List.forall_mem_cons.mpr ⟨⟨by decide, eA, wd_29, List.mem_of_getElem? (i := 4) rfl⟩, (fun _ h => absurd h List.not_mem_nil)⟩) (by decide) (by decide) wd_30 (List.mem_of_getElem? (i := 2) rfl) (fun q9 => ?_)
        refine gg_astore K dL_does_82 (by decide) ?_
        refine gg_ldc K wd_3 dL_does_84 ?_
        exact gg_x (gg_iret K hr dL_does_86 (Nat.le_of_ble_eq_true rfl) (Nat.le_of_ble_eq_true rfl) ⟨-99999, k', kp', dr', T', rfl, rfl, ok', _, 0, by rw [if_neg e0, if_neg e1, if_neg e2, if_pos e3]; exact hS, rfl⟩)
      · refine gx_catch K T9 htab [⟨0, 76, 77, 29⟩, ⟨0, 76, 82, 32⟩] ⟨0, 76, 87, 34⟩ [] rfl (List.forall_mem_cons.mpr ⟨⟨by decide, eA, wd_29, List.mem_of_getElem? (i := 2) rfl⟩, (List.forall_mem_cons.mpr ⟨⟨by decide, eB, wd_30, List.mem_of_getElem? (i := 3) rfl⟩, (fun _ h => absurd h List.not_mem_nil)⟩)⟩) (by decide) (by decide) wd_31 (List.mem_of_getElem? (i := 1) rfl) (fun q9 => ?_)
        refine gg_astore K dL_does_87 (by decide) ?_
        refine gg_ldc K wd_3 dL_does_89 ?_
        exact gg_x (gg_iret K hr dL_does_91 (Nat.le_of_ble_eq_true rfl) (Nat.le_of_ble_eq_true rfl) ⟨-99999, k', kp', dr', T', rfl, rfl, ok', _, 0, by rw [if_neg e0, if_neg e1, if_neg e2, if_pos e3]; exact hS, rfl⟩)
    obtain ⟨r, k', kp', dr', T', rfl, rfl, ok', hS⟩ := h
    refine gg_goto K (tgt := 76) dL_does_67 (by decide) ?_
    exact gg_x (gg_iret K hr dL_does_76 (Nat.le_of_ble_eq_true rfl) (Nat.le_of_ble_eq_true rfl) ⟨r, k', kp', dr', T', rfl, rfl, ok', 0, r, by rw [if_neg e0, if_neg e1, if_neg e2, if_pos e3]; exact hS, rfl⟩)
  have e3 : ¬ h9 = 3 := h56
  refine gg_aload_n K (i := 0) dL_does_70 rfl rfl ?_
  refine gg_iload K dL_does_71 rfl ?_
  refine gg_callJX (wr := []) [0, 1, 2, 3] [] rfl rfl rfl K T9 k_L_X0_pass (x_pass hl0 ok) 0 (ci := 0) (N := 4) (T := TX0) rfl rfl dL_does_73 rfl rfl rfl rfl (fun E u h => ?_) (fun v u h => ?_)
  · obtain ⟨c9, k', kp', dr', T', hm, rfl, ok', hS⟩ := h
    simp only [cAS, List.mem_cons, List.not_mem_nil, or_false, Prod.mk.injEq] at hm
    rcases hm with ⟨rfl, rfl⟩ | ⟨rfl, rfl⟩
    · refine gx_catch K T9 htab [] ⟨0, 76, 77, 29⟩ [⟨0, 76, 82, 32⟩, ⟨0, 76, 87, 34⟩] rfl (fun _ h => absurd h List.not_mem_nil) (by decide) (by decide) wd_29 (List.mem_of_getElem? (i := 0) rfl) (fun q9 => ?_)
      refine gg_astore K dL_does_77 (by decide) ?_
      refine gg_ldc K wd_3 dL_does_79 ?_
      exact gg_x (gg_iret K hr dL_does_81 (Nat.le_of_ble_eq_true rfl) (Nat.le_of_ble_eq_true rfl) ⟨-99999, k', kp', dr', T', rfl, rfl, ok', _, 0, by rw [if_neg e0, if_neg e1, if_neg e2, if_neg e3]; exact hS, rfl⟩)
    · refine gx_catch K T9 htab [⟨0, 76, 77, 29⟩, ⟨0, 76, 82, 32⟩] ⟨0, 76, 87, 34⟩ [] rfl (List.forall_mem_cons.mpr ⟨⟨by decide, eA, wd_29, List.mem_of_getElem? (i := 2) rfl⟩, (List.forall_mem_cons.mpr ⟨⟨by decide, eB, wd_30, List.mem_of_getElem? (i := 3) rfl⟩, (fun _ h => absurd h List.not_mem_nil)⟩)⟩) (by decide) (by decide) wd_31 (List.mem_of_getElem? (i := 1) rfl) (fun q9 => ?_)
      refine gg_astore K dL_does_87 (by decide) ?_
      refine gg_ldc K wd_3 dL_does_89 ?_
      exact gg_x (gg_iret K hr dL_does_91 (Nat.le_of_ble_eq_true rfl) (Nat.le_of_ble_eq_true rfl) ⟨-99999, k', kp', dr', T', rfl, rfl, ok', _, 0, by rw [if_neg e0, if_neg e1, if_neg e2, if_neg e3]; exact hS, rfl⟩)
  obtain ⟨r, k', kp', dr', T', rfl, rfl, ok', hS⟩ := h
  exact gg_x (gg_iret K hr dL_does_76 (Nat.le_of_ble_eq_true rfl) (Nat.le_of_ble_eq_true rfl) ⟨r, k', kp', dr', T', rfl, rfl, ok', 0, r, by rw [if_neg e0, if_neg e1, if_neg e2, if_neg e3]; exact hS, rfl⟩)
