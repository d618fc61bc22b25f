/-! isRestoredSo -/
/-- two objects with the same table -/
def lInv (k kp k2 kp2 : Nat → Int32) (T : Nat) : Prop := okX kp T ∧ okX kp2 T ∧ vX k2 kp2 T = vX k kp T ∧ INV (vX k kp T) T
def bothW (Z : ZT) (X Y : XT) (T : Nat) (v : Value) : Option Value → va_W → Prop := fun ret u => ∃ k kp dr k2 kp2 dr2 : Nat → Int32, ret = some v ∧ u = w2 Z X Y k kp dr (nI T) k2 kp2 dr2 (nI T) ∧ lInv k kp k2 kp2 T
set_option maxRecDepth 100000 in
theorem c_restored {l : Launch} {Z : ZT} {X Y : XT} {k kp dr k2 kp2 dr2 : Nat → Int32} {T : Nat} (hl0 : l.stackTraces = false) (hI : lInv k kp k2 kp2 T) (t' y' q' : Nat) {t y q : Int32} (a1 : t' < 2) (b1 : y' < 8) (q1 : q' ≤ T) (a2 : t = nI t') (b2 : y = nI y') (q2 : q = nI q') : mX l Z.1 (ty3 Z) yL_isRestoredSo (.code yL_isRestoredSo cL_isRestoredSo 10 (some .boolean)) (rmk 11 300 16 96) (w2 Z X Y k kp dr (nI T) k2 kp2 dr2 (nI T)) [.ref X.1, .ref Y.1, .int t, .int y, .int q] (bothW Z X Y T (.int 1)) (fun _ _ => False) := by
  obtain ⟨ok, ok2, hV, hi⟩ := hI
  have hT9 := ok.1
  refine mX_intro (own := RL) [(0, .ref X.1), (1, .ref Y.1), (2, .int t), (3, .int y), (4, .int q)] (by decide +kernel) rfl rfl rfl rfl ?_
  intro p e s m args below meth c A K hr T9 htab
  subst a2 b2 q2
  refine gg_aload_n K (i := 0) dL_isRestoredSo_0 rfl rfl ?_
  refine gg_2V1 K k_L_X0_today x_today dL_isRestoredSo_1 rfl rfl rfl rfl ⟨rfl, rfl⟩ ?_
  refine gg_istore K dL_isRestoredSo_4 (by decide) ?_
  refine gg_aload_n K (i := 0) dL_isRestoredSo_6 rfl rfl ?_
  refine gg_iload_n K (i := 2) dL_isRestoredSo_7 rfl rfl ?_
  refine gg_iload_n K (i := 3) dL_isRestoredSo_8 rfl rfl ?_
  refine gg_2V1 K k_L_X0_rows (n_rows ok t' y' a1 b1 rfl rfl) dL_isRestoredSo_9 rfl rfl rfl rfl ⟨rfl, rfl⟩ ?_
  obtain ⟨rw9, hrw⟩ : ∃ rw9, rw9 = nI (fb_ct (rwF (vX k kp T) (t' * 8 + y')) (60 * (T + 1))) := ⟨_, rfl⟩
  rw [← hrw]
  refine gg_istore K dL_isRestoredSo_12 (by decide) ?_
  refine gg_aload_n K (i := 0) dL_isRestoredSo_14 rfl rfl ?_
  refine gg_iconst K (v := 3) dL_isRestoredSo_15 (by decide) ?_
  refine gg_iload_n K (i := 2) dL_isRestoredSo_16 rfl rfl ?_
  refine gg_iload_n K (i := 3) dL_isRestoredSo_17 rfl rfl ?_
  refine gg_iconst K (v := 0) dL_isRestoredSo_18 (by decide) ?_
  refine gg_iload K dL_isRestoredSo_19 rfl ?_
  refine gg_iconst K (v := 0) dL_isRestoredSo_21 (by decide) ?_
  refine gg_callJH (wc := wX Z X k kp dr (nI T)) (wr := wX Z Y k2 kp2 dr2 (nI T)) [0, 1, 2, 3] [4, 5, 6, 7] rfl rfl rfl K T9 k_L_L_does (c_does hl0 ok hi.1) dL_isRestoredSo_22 rfl rfl rfl rfl (fun v0 u h => ?_)
  obtain ⟨r, k3, kp3, dr3, T3, rfl, rfl, ok3, hS⟩ := h
  obtain ⟨e3, hcase⟩ := restore_so a1 b1 hT9 q1 hi hS
  subst e3
  refine gg_perm (ws' := w2 Z X Y k3 kp3 dr3 (nI T3) k2 kp2 dr2 (nI T3)) [4, 5, 6, 7, 0, 1, 2, 3] rfl rfl ?_
  refine gg_istore K dL_isRestoredSo_25 (by decide) ?_
  refine gg_aload_n K (i := 1) dL_isRestoredSo_27 rfl rfl ?_
  refine gg_iconst K (v := 3) dL_isRestoredSo_28 (by decide) ?_
  refine gg_iload_n K (i := 2) dL_isRestoredSo_29 rfl rfl ?_
  refine gg_iload_n K (i := 3) dL_isRestoredSo_30 rfl rfl ?_
  refine gg_iconst K (v := 0) dL_isRestoredSo_31 (by decide) ?_
  refine gg_iload K dL_isRestoredSo_32 rfl ?_
  refine gg_iconst K (v := 0) dL_isRestoredSo_34 (by decide) ?_
  refine gg_callJH (wc := wX Z Y k2 kp2 dr2 (nI T3)) (wr := wX Z X k3 kp3 dr3 (nI T3)) [4, 5, 6, 7] [0, 1, 2, 3] rfl rfl rfl K T9 k_L_L_does (c_does hl0 ok2 (by rw [hV]; exact hi.1)) dL_isRestoredSo_35 rfl rfl rfl rfl (fun v0 u h => ?_)
  obtain ⟨r4, k4, kp4, dr4, T4, rfl, rfl, ok4, hS4⟩ := h
  rw [hV] at hS4
  obtain ⟨e4, e5, e6⟩ := sDo_uq hS4 hS
  subst e4 e6
  refine gg_wsE (ws' := w2 Z X Y k3 kp3 dr3 (nI T4) k4 kp4 dr4 (nI T4)) rfl ?_
  have hi' := sDo_inv hT9 hi hS
  have hI' : lInv k3 kp3 k4 kp4 T4 := ⟨ok3, ok4, e5, hi'⟩
  clear hS hS4
  have hend : ∀ j, (0 ≤ r4 → j ≤ 60) → gg p l e (rmk 11 300 16 96) s m args below meth c Z.1 A 10 16 96 (vx_MQ below (qA Z.1 (ty3 Z) A (bothW Z X Y T4 (.int 1))) (xA Z.1 (ty3 Z) A fun _ _ => False) args s (rmk 11 300 16 96).cells (rmk 11 300 16 96).slots A) (w2 Z X Y k3 kp3 dr3 (nI T4) k4 kp4 dr4 (nI T4)) 118 [(9, .int (nI j)), (8, .int 1), (7, .int r4), (6, .int rw9), (5, .int (nI T4)), (0, .ref X.1), (1, .ref Y.1), (2, .int (nI t')), (3, .int (nI y')), (4, .int (nI q'))] [] := by
    intro j _
    refine gg_iload K dL_isRestoredSo_118 rfl ?_
    refine gg_if_eq K (tgt := 150) dL_isRestoredSo_120 (by decide) (fun h120 => ?_) (fun h120 => ?_)
    · exact absurd h120 (by decide)
    refine gg_cut 139 [(9, .int (nI j)), (8, .int 1), (7, .int r4), (6, .int rw9), (5, .int (nI T4)), (0, .ref X.1), (1, .ref Y.1), (2, .int (nI t')), (3, .int (nI y')), (4, .int (nI q'))] [] ?_ (fun k139 => ?_)
    · refine gg_iload K dL_isRestoredSo_139 rfl ?_
      refine gg_bipush K (v := 60) dL_isRestoredSo_141 (by decide) ?_
      refine gg_icmp_gt K (tgt := 150) dL_isRestoredSo_143 (by decide) (fun h143 => ?_) (fun h143 => ?_)
      · rcases hcase with ⟨z, -⟩ | ⟨n, n1, z, -⟩
        · rw [z] at h143; exact absurd h143 (by decide)
        · rw [z] at h143; exact absurd h143 (nI_nlt (a := 60) n1 (by omega))
      refine gg_iconst K (v := 1) dL_isRestoredSo_146 (by decide) ?_
      refine gg_goto K (tgt := 151) dL_isRestoredSo_147 (by decide) ?_
      exact gg_x (gg_zret K hr dL_isRestoredSo_151 (Or.inr rfl) (Nat.le_refl _) (Nat.le_refl _) ⟨k3, kp3, dr3, k4, kp4, dr4, rfl, rfl, hI'⟩)
    refine gg_iload K dL_isRestoredSo_123 rfl ?_
    refine gg_if_ne K (tgt := 139) dL_isRestoredSo_125 (by decide) (fun h125 => ?_) (fun h125 => ?_)
    · exact k139
    refine gg_aload_n K (i := 0) dL_isRestoredSo_128 rfl rfl ?_
    refine gg_iload_n K (i := 2) dL_isRestoredSo_129 rfl rfl ?_
    refine gg_iload_n K (i := 3) dL_isRestoredSo_130 rfl rfl ?_
    refine gg_2V1 K k_L_X0_rows (n_rows ok3 t' y' a1 b1 rfl rfl) dL_isRestoredSo_131 rfl rfl rfl rfl ⟨rfl, rfl⟩ ?_
    refine gg_iload K dL_isRestoredSo_134 rfl ?_
    refine gg_icmp_ne K (tgt := 150) dL_isRestoredSo_136 (by decide) (fun h136 => ?_) (fun h136 => ?_)
    · refine absurd ?_ h136
      rcases hcase with ⟨z, -⟩ | ⟨n, n1, z, -, z2, -⟩
      · rw [z] at h125; exact absurd h125 (by decide)
      · rw [z] at h125
        rw [z2 (i_eq (b := 0) h125), hrw]
    exact k139
  refine gg_iload K dL_isRestoredSo_38 rfl ?_
  refine gg_icmp_ne K (tgt := 59) dL_isRestoredSo_40 (by decide) (fun h40 => ?_) (fun h40 => ?_)
  · exact absurd rfl h40
  refine gg_cut 55 [(7, .int r4), (6, .int rw9), (5, .int (nI T4)), (0, .ref X.1), (1, .ref Y.1), (2, .int (nI t')), (3, .int (nI y')), (4, .int (nI q'))] [] ?_ (fun k55 => ?_)
  rotate_left
  · refine gg_iload K dL_isRestoredSo_43 rfl ?_
    refine gg_iload K dL_isRestoredSo_45 rfl ?_
    refine gg_icmp_lt K (tgt := 55) dL_isRestoredSo_47 (by decide) (fun h47 => ?_) (fun h47 => ?_)
    · exact k55
    have hqT : q' = T4 := by
      have := i_nlt h47
      omega
    refine gg_iload K dL_isRestoredSo_50 rfl ?_
    refine gg_if_ne K (tgt := 59) dL_isRestoredSo_52 (by decide) (fun h52 => ?_) (fun h52 => ?_)
    · refine absurd ?_ h52
      rcases hcase with ⟨-, -, z⟩ | ⟨n, n1, z, -, -, z2⟩
      · omega
      · rw [z, z2 hqT]; rfl
    exact k55
  refine gg_iconst K (v := 1) dL_isRestoredSo_55 (by decide) ?_
  refine gg_goto K (tgt := 60) dL_isRestoredSo_56 (by decide) ?_
  refine gg_istore K dL_isRestoredSo_60 (by decide) ?_
  refine gg_iconst K (v := 0) dL_isRestoredSo_62 (by decide) ?_
  refine gg_istore K dL_isRestoredSo_63 (by decide) ?_
  refine gg_sub (L' := [(9, .int (nI 0)), (8, .int 1), (7, .int r4), (6, .int rw9), (5, .int (nI T4)), (0, .ref X.1), (1, .ref Y.1), (2, .int (nI t')), (3, .int (nI y')), (4, .int (nI q'))]) ⟨rfl, rfl, rfl, rfl, rfl, rfl, rfl, rfl, rfl, rfl, trivial⟩ ?_
  refine gg_wid (Nat.le_refl 16) (Nat.le_refl 96) ?_
  refine gg_loop (fun i w L => ∃ (j : Nat), j + i = 61 ∧ w = w2 Z X Y k3 kp3 dr3 (nI T4) k4 kp4 dr4 (nI T4) ∧ j ≤ 60 ∧ L = [(9, .int (nI j)), (8, .int 1), (7, .int r4), (6, .int rw9), (5, .int (nI T4)), (0, .ref X.1), (1, .ref Y.1), (2, .int (nI t')), (3, .int (nI y')), (4, .int (nI q'))]) (fun w L h => ?_) (fun i w L h ih => ?_) 61 _ _ ⟨0, by omega, rfl, by omega, rfl⟩
  · obtain ⟨j, hj, -, h2, -⟩ := h
    omega
  obtain ⟨j, hj, rfl, hj1, rfl⟩ := h
  refine gg_iload K dL_isRestoredSo_65 rfl ?_
  refine gg_bipush K (v := 60) dL_isRestoredSo_67 (by decide) ?_
  refine gg_icmp_ge K (tgt := 118) dL_isRestoredSo_69 (by decide) (fun h69 => ?_) (fun h69 => ?_)
  · exact hend j (fun _ => hj1)
  have hj2 := i_nle (a := 60) h69
  refine gg_iload K dL_isRestoredSo_72 rfl ?_
  refine gg_if_lt K (tgt := 118) dL_isRestoredSo_74 (by decide) (fun h74 => ?_) (fun h74 => ?_)
  · exact hend j (fun _ => hj1)
  refine gg_iload K dL_isRestoredSo_77 rfl ?_
  refine gg_if_eq K (tgt := 118) dL_isRestoredSo_79 (by decide) (fun h79 => ?_) (fun h79 => ?_)
  · exact absurd h79 (by decide)
  have hd : vX k3 kp3 T4 T4 (t' * 8 + y') j = vX k3 kp3 T4 q' (t' * 8 + y') j := by
    rcases hcase with ⟨z, -⟩ | ⟨n, n1, z, z2, -⟩
    · rw [z] at h74; exact absurd (show (-99999 : Int32) < 0 by decide) h74
    · exact z2 j hj2
  refine gg_aload_n K (i := 0) dL_isRestoredSo_82 rfl rfl ?_
  refine gg_iload_n K (i := 2) dL_isRestoredSo_83 rfl rfl ?_
  refine gg_iload_n K (i := 3) dL_isRestoredSo_84 rfl rfl ?_
  refine gg_iload K dL_isRestoredSo_85 rfl ?_
  refine gg_iload K dL_isRestoredSo_87 rfl ?_
  refine gg_2V1 K k_L_X0_value (n_value ok3 t' y' a1 b1 rfl rfl j hj2 rfl T4 (Nat.le_refl T4) rfl) dL_isRestoredSo_89 rfl rfl rfl rfl ⟨rfl, rfl⟩ ?_
  refine gg_aload_n K (i := 0) dL_isRestoredSo_92 rfl rfl ?_
  refine gg_iload_n K (i := 2) dL_isRestoredSo_93 rfl rfl ?_
  refine gg_iload_n K (i := 3) dL_isRestoredSo_94 rfl rfl ?_
  refine gg_iload K dL_isRestoredSo_95 rfl ?_
  refine gg_iload K dL_isRestoredSo_97 rfl ?_
  refine gg_2V1 K k_L_X0_value (n_value ok3 t' y' a1 b1 rfl rfl j hj2 rfl q' q1 rfl) dL_isRestoredSo_99 rfl rfl rfl rfl ⟨rfl, rfl⟩ ?_
  refine gg_icmp_ne K (tgt := 109) dL_isRestoredSo_102 (by decide) (fun h102 => ?_) (fun h102 => ?_)
  · exact absurd hd h102
  refine gg_iconst K (v := 1) dL_isRestoredSo_105 (by decide) ?_
  refine gg_goto K (tgt := 110) dL_isRestoredSo_106 (by decide) ?_
  refine gg_istore K dL_isRestoredSo_110 (by decide) ?_
  refine gg_iinc K (v := nI (j + 1)) dL_isRestoredSo_112 rfl (nI_inc (j)) (by decide) ?_
  refine gg_goto K (tgt := 65) dL_isRestoredSo_115 (by decide) ?_
  refine gg_sub (L' := [(9, .int (nI (j + 1))), (8, .int 1), (7, .int r4), (6, .int rw9), (5, .int (nI T4)), (0, .ref X.1), (1, .ref Y.1), (2, .int (nI t')), (3, .int (nI y')), (4, .int (nI q'))]) ⟨rfl, rfl, rfl, rfl, rfl, rfl, rfl, rfl, rfl, rfl, trivial⟩ ?_
  exact ih _ _ ⟨j + 1, by omega, rfl, by omega, rfl⟩
