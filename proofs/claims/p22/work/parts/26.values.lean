/-! the law's questions of one object: areValuesSo, hasRun -/
theorem gg_cut {p : Program} {l : Launch} {e : Env} {R : Room} {s : State} {m : MethodId} {args : Array Value} {below : List Frame} {meth : Method} {c : Code} {D : va_G} {A : Nat → Prop} {n cells slots pc : Nat} {Q : State → Prop} {ws : va_W} {L : List (Nat × Value)} {st : List Value} (pc' : Nat) (L' : List (Nat × Value)) (st' : List Value) (h : gg p l e R s m args below meth c D A n cells slots Q ws pc' L' st') (k : gg p l e R s m args below meth c D A n cells slots Q ws pc' L' st' → gg p l e R s m args below meth c D A n cells slots Q ws pc L st) : gg p l e R s m args below meth c D A n cells slots Q ws pc L st := k h
theorem gg_top_f {p : Program} {l : Launch} {e : Env} {R : Room} {s : State} {m : MethodId} {args : Array Value} {below : List Frame} {meth : Method} {c : Code} {D : va_G} {A : Nat → Prop} {n cells slots pc : Nat} {Q : State → Prop} {ws : va_W} {L : List (Nat × Value)} {st : List Value} {x z : UInt32} (hxz : x = z) (k : gg p l e R s m args below meth c D A n cells slots Q ws pc L (.float z :: st)) : gg p l e R s m args below meth c D A n cells slots Q ws pc L (.float x :: st) := by rw [hxz]; exact k
theorem neg_lt0 : ¬ (0 : Int32) ≤ -1 := by decide
theorem m1_le {n : Nat} (h : n < 2 ^ 31) : ¬ nI n < -1 := fun q => by
  rw [Int32.lt_iff_toInt_lt, nI_toInt h, show (-1 : Int32).toInt = -1 from by decide] at q
  omega
set_option maxRecDepth 100000 in
theorem c_values {l : Launch} {Z : ZT} {X : XT} {k kp dr : Nat → Int32} {T : Nat} (ok : okX kp T) (hi : INV (vX k kp T) T) (r : Nat) {q : Int32} (hr0 : r ≤ T) (q2 : q = nI r) : mR l Z yL_areValuesSo cL_areValuesSo 9 (some .boolean) (rmk 10 240 0 0) (wX Z X k kp dr (nI T)) [.ref X.1, .int q] (.int 1) := by
  have hT9 := ok.1
  refine mA_intro (own := RL) [(0, .ref X.1), (1, .int q)] (by decide +kernel) rfl rfl rfl rfl ?_
  intro p e s m args below meth c A K hr hin
  subst q2
  refine gg_iconst K (v := 1) dL_areValuesSo_0 (by decide) ?_
  refine gg_istore_n K (i := 2) dL_areValuesSo_1 rfl (by decide) ?_
  refine gg_iconst K (v := 0) dL_areValuesSo_2 (by decide) ?_
  refine gg_istore_n K (i := 3) dL_areValuesSo_3 rfl (by decide) ?_
  refine gg_sub (L' := [(3, .int (nI 0)), (2, .int 1), (0, .ref X.1), (1, .int (nI r))]) ⟨rfl, rfl, rfl, rfl, trivial⟩ ?_
  refine gg_loop (fun i w L => ∃ (d : Nat), d + i = 61 ∧ w = wX Z X k kp dr (nI T) ∧ d ≤ 60 ∧ L = [(3, .int (nI d)), (2, .int 1), (0, .ref X.1), (1, .int (nI r))]) (fun w L h => ?_) (fun i w L h ih => ?_) 61 _ _ ⟨0, by omega, rfl, by omega, rfl⟩
  · obtain ⟨d, hj, -, h2, -⟩ := h
    omega
  obtain ⟨d, hd, rfl, hd1, rfl⟩ := h
  refine gg_iload_n K (i := 3) dL_areValuesSo_4 rfl rfl ?_
  refine gg_bipush K (v := 60) dL_areValuesSo_5 (by decide) ?_
  refine gg_icmp_ge K (tgt := 185) dL_areValuesSo_7 (by decide) (fun h7 => ?_) (fun h7 => ?_)
  · refine gg_iload_n K (i := 2) dL_areValuesSo_185 rfl rfl ?_
    exact gg_zret K hr dL_areValuesSo_186 (Or.inr rfl) (Nat.le_of_ble_eq_true rfl) (Nat.le_of_ble_eq_true rfl) ⟨rfl, rfl⟩
  have hd2 := i_nle (a := 60) h7
  refine gg_iload_n K (i := 2) dL_areValuesSo_10 rfl rfl ?_
  refine gg_if_eq K (tgt := 185) dL_areValuesSo_11 (by decide) (fun h11 => ?_) (fun h11 => ?_)
  · exact absurd h11 (by decide)
  refine gg_aload_n K (i := 0) dL_areValuesSo_14 rfl rfl ?_
  refine gg_iconst K (v := 0) dL_areValuesSo_15 (by decide) ?_
  refine gg_iload_n K (i := 3) dL_areValuesSo_16 rfl rfl ?_
  refine gg_iload_n K (i := 1) dL_areValuesSo_17 rfl rfl ?_
  refine gg_callRX K k_L_X0_keys (n_keys ok 0 (by omega) rfl d hd2 rfl r hr0 rfl) dL_areValuesSo_18 rfl rfl rfl rfl ⟨rfl, rfl⟩ ?_
  refine gg_istore K dL_areValuesSo_21 (by decide) ?_
  refine gg_aload_n K (i := 0) dL_areValuesSo_23 rfl rfl ?_
  refine gg_iconst K (v := 1) dL_areValuesSo_24 (by decide) ?_
  refine gg_iload_n K (i := 3) dL_areValuesSo_25 rfl rfl ?_
  refine gg_iload_n K (i := 1) dL_areValuesSo_26 rfl rfl ?_
  refine gg_callRX K k_L_X0_keys (n_keys ok 1 (by omega) rfl d hd2 rfl r hr0 rfl) dL_areValuesSo_27 rfl rfl rfl rfl ⟨rfl, rfl⟩ ?_
  refine gg_istore K dL_areValuesSo_30 (by decide) ?_
  refine gg_iconst K (v := 0) dL_areValuesSo_32 (by decide) ?_
  refine gg_istore K dL_areValuesSo_33 (by decide) ?_
  refine gg_sub (L' := [(6, .int (nI 0)), (5, .int (kyF (fun i => vX k kp T r (1 * 8 + i) d) 8)), (4, .int (kyF (fun i => vX k kp T r (0 * 8 + i) d) 8)), (3, .int (nI d)), (2, .int 1), (0, .ref X.1), (1, .int (nI r))]) ⟨rfl, rfl, rfl, rfl, rfl, rfl, rfl, trivial⟩ ?_
  refine gg_loop (fun i w L => ∃ (j : Nat), j + i = 9 ∧ w = wX Z X k kp dr (nI T) ∧ j ≤ 8 ∧ L = [(6, .int (nI j)), (5, .int (kyF (fun i => vX k kp T r (1 * 8 + i) d) 8)), (4, .int (kyF (fun i => vX k kp T r (0 * 8 + i) d) 8)), (3, .int (nI d)), (2, .int 1), (0, .ref X.1), (1, .int (nI r))]) (fun w L h => ?_) (fun i w L h ih2 => ?_) 9 _ _ ⟨0, by omega, rfl, by omega, rfl⟩
  · obtain ⟨j, hj, -, h2, -⟩ := h
    omega
  obtain ⟨j, hj, rfl, hj1, rfl⟩ := h
  refine gg_iload K dL_areValuesSo_35 rfl ?_
  refine gg_bipush K (v := 8) dL_areValuesSo_37 (by decide) ?_
  refine gg_icmp_ge K (tgt := 179) dL_areValuesSo_39 (by decide) (fun h39 => ?_) (fun h39 => ?_)
  · refine gg_iinc K (v := nI (d + 1)) dL_areValuesSo_179 rfl (nI_inc (d)) (by decide) ?_
    refine gg_goto K (tgt := 4) dL_areValuesSo_182 (by decide) ?_
    refine gg_sub (L' := [(3, .int (nI (d + 1))), (2, .int 1), (0, .ref X.1), (1, .int (nI r))]) ⟨rfl, rfl, rfl, rfl, trivial⟩ ?_
    exact ih _ _ ⟨d + 1, by omega, rfl, by omega, rfl⟩
  have hj2 := i_nle (a := 8) h39
  refine gg_iload_n K (i := 2) dL_areValuesSo_42 rfl rfl ?_
  refine gg_if_eq K (tgt := 179) dL_areValuesSo_43 (by decide) (fun h43 => ?_) (fun h43 => ?_)
  · exact absurd h43 (by decide)
  refine gg_aload_n K (i := 0) dL_areValuesSo_46 rfl rfl ?_
  refine gg_iconst K (v := 0) dL_areValuesSo_47 (by decide) ?_
  refine gg_iload K dL_areValuesSo_48 rfl ?_
  refine gg_iload_n K (i := 3) dL_areValuesSo_50 rfl rfl ?_
  refine gg_iload_n K (i := 1) dL_areValuesSo_51 rfl rfl ?_
  refine gg_callRX K k_L_X0_value (n_value ok 0 j (by omega) hj2 rfl rfl d hd2 rfl r hr0 rfl) dL_areValuesSo_52 rfl rfl rfl rfl ⟨rfl, rfl⟩ ?_
  refine gg_istore K dL_areValuesSo_55 (by decide) ?_
  refine gg_aload_n K (i := 0) dL_areValuesSo_57 rfl rfl ?_
  refine gg_iconst K (v := 1) dL_areValuesSo_58 (by decide) ?_
  refine gg_iload K dL_areValuesSo_59 rfl ?_
  refine gg_iload_n K (i := 3) dL_areValuesSo_61 rfl rfl ?_
  refine gg_iload_n K (i := 1) dL_areValuesSo_62 rfl rfl ?_
  refine gg_callRX K k_L_X0_value (n_value ok 1 j (by omega) hj2 rfl rfl d hd2 rfl r hr0 rfl) dL_areValuesSo_63 rfl rfl rfl rfl ⟨rfl, rfl⟩ ?_
  refine gg_istore K dL_areValuesSo_66 (by decide) ?_
  refine gg_sub (L' := [(8, .int (vX k kp T r (1 * 8 + j) d)), (7, .int (vX k kp T r (0 * 8 + j) d)), (6, .int (nI j)), (5, .int (kyF (fun i => vX k kp T r (1 * 8 + i) d) 8)), (4, .int (kyF (fun i => vX k kp T r (0 * 8 + i) d) 8)), (3, .int (nI d)), (2, .int 1), (0, .ref X.1), (1, .int (nI r))]) ⟨rfl, rfl, rfl, rfl, rfl, rfl, rfl, rfl, rfl, trivial⟩ ?_
  have e0 := kyF_bit (fun i => vX k kp T r (0 * 8 + i) d) hj2
  have e1 := kyF_bit (fun i => vX k kp T r (1 * 8 + i) d) hj2
  have v0 : vX k kp T r (0 * 8 + j) d = -1 ∨ ∃ i, vX k kp T r (0 * 8 + j) d = nI i ∧ i < 100 := by
    rcases hi.1 r (0 * 8 + j) d hr0 (by omega) hd2 with z | ⟨i, z1, z2, -⟩
    · exact Or.inl z
    · exact Or.inr ⟨i, z1, z2⟩
  have v1 : vX k kp T r (1 * 8 + j) d = -1 ∨ ∃ i, vX k kp T r (1 * 8 + j) d = nI i ∧ i < 8 ∧ ¬ vX k kp T r (0 * 8 + i) d = -1 := by
    rcases hi.2 r j d hr0 hj2 hd2 with z | ⟨i, z1, z2, z3⟩
    · exact Or.inl z
    · exact Or.inr ⟨i, z1, z2, by rw [show 0 * 8 + i = i by omega]; exact z3⟩
  refine gg_iload K dL_areValuesSo_68 rfl ?_
  refine gg_iload K dL_areValuesSo_70 rfl ?_
  refine gg_ishr K dL_areValuesSo_72 ?_
  refine gg_iconst K (v := 1) dL_areValuesSo_73 (by decide) ?_
  refine gg_iand K dL_areValuesSo_74 ?_
  refine gg_iload K dL_areValuesSo_75 rfl ?_
  refine gg_cut 88 [(8, .int (vX k kp T r (1 * 8 + j) d)), (7, .int (vX k kp T r (0 * 8 + j) d)), (6, .int (nI j)), (5, .int (kyF (fun i => vX k kp T r (1 * 8 + i) d) 8)), (4, .int (kyF (fun i => vX k kp T r (0 * 8 + i) d) 8)), (3, .int (nI d)), (2, .int 1), (0, .ref X.1), (1, .int (nI r))] [] ?_ (fun k88 => ?_)
  rotate_left
  · rcases v0 with z | ⟨i, z, zi⟩
    · refine gg_if_ge K (tgt := 84) dL_areValuesSo_77 (by decide) (fun h77 => ?_) (fun h77 => ?_)
      · rw [z] at h77; exact absurd h77 neg_lt0
      refine gg_iconst K (v := 0) dL_areValuesSo_80 (by decide) ?_
      refine gg_goto K (tgt := 85) dL_areValuesSo_81 (by decide) ?_
      refine gg_icmp_ne K (tgt := 171) dL_areValuesSo_85 (by decide) (fun h85 => ?_) (fun h85 => ?_)
      · exact absurd (e0.trans (if_pos z)) h85
      exact k88
    · refine gg_if_ge K (tgt := 84) dL_areValuesSo_77 (by decide) (fun h77 => ?_) (fun h77 => ?_)
      · refine gg_iconst K (v := 1) dL_areValuesSo_84 (by decide) ?_
        refine gg_icmp_ne K (tgt := 171) dL_areValuesSo_85 (by decide) (fun h85 => ?_) (fun h85 => ?_)
        · exact absurd (e0.trans (if_neg (by rw [z]; exact nI_m1 (by omega)))) h85
        exact k88
      · rw [z] at h77; exact absurd (nI_pos' (by omega)) h77
  refine gg_iload K dL_areValuesSo_88 rfl ?_
  refine gg_iload K dL_areValuesSo_90 rfl ?_
  refine gg_ishr K dL_areValuesSo_92 ?_
  refine gg_iconst K (v := 1) dL_areValuesSo_93 (by decide) ?_
  refine gg_iand K dL_areValuesSo_94 ?_
  refine gg_iload K dL_areValuesSo_95 rfl ?_
  refine gg_cut 108 [(8, .int (vX k kp T r (1 * 8 + j) d)), (7, .int (vX k kp T r (0 * 8 + j) d)), (6, .int (nI j)), (5, .int (kyF (fun i => vX k kp T r (1 * 8 + i) d) 8)), (4, .int (kyF (fun i => vX k kp T r (0 * 8 + i) d) 8)), (3, .int (nI d)), (2, .int 1), (0, .ref X.1), (1, .int (nI r))] [] ?_ (fun k108 => ?_)
  rotate_left
  · rcases v1 with z | ⟨i, z, zi, -⟩
    · refine gg_if_ge K (tgt := 104) dL_areValuesSo_97 (by decide) (fun h97 => ?_) (fun h97 => ?_)
      · rw [z] at h97; exact absurd h97 neg_lt0
      refine gg_iconst K (v := 0) dL_areValuesSo_100 (by decide) ?_
      refine gg_goto K (tgt := 105) dL_areValuesSo_101 (by decide) ?_
      refine gg_icmp_ne K (tgt := 171) dL_areValuesSo_105 (by decide) (fun h105 => ?_) (fun h105 => ?_)
      · exact absurd (e1.trans (if_pos z)) h105
      exact k108
    · refine gg_if_ge K (tgt := 104) dL_areValuesSo_97 (by decide) (fun h97 => ?_) (fun h97 => ?_)
      · refine gg_iconst K (v := 1) dL_areValuesSo_104 (by decide) ?_
        refine gg_icmp_ne K (tgt := 171) dL_areValuesSo_105 (by decide) (fun h105 => ?_) (fun h105 => ?_)
        · exact absurd (e1.trans (if_neg (by rw [z]; exact nI_m1 (by omega)))) h105
        exact k108
      · rw [z] at h97; exact absurd (nI_pos' (by omega)) h97
  refine gg_iload K dL_areValuesSo_108 rfl ?_
  refine gg_bipush K (v := 99) dL_areValuesSo_110 (by decide) ?_
  refine gg_icmp_gt K (tgt := 171) dL_areValuesSo_112 (by decide) (fun h112 => ?_) (fun h112 => ?_)
  · rcases v0 with z | ⟨i, z, zi⟩
    · rw [z] at h112; exact absurd h112 (by decide)
    · rw [z] at h112; exact absurd h112 (nI_nlt (a := 99) (b := i) (by omega) (by omega))
  refine gg_iload K dL_areValuesSo_115 rfl ?_
  refine gg_bipush K (v := 7) dL_areValuesSo_117 (by decide) ?_
  refine gg_icmp_gt K (tgt := 171) dL_areValuesSo_119 (by decide) (fun h119 => ?_) (fun h119 => ?_)
  · rcases v1 with z | ⟨i, z, zi, -⟩
    · rw [z] at h119; exact absurd h119 (by decide)
    · rw [z] at h119; exact absurd h119 (nI_nlt (a := 7) (b := i) (by omega) (by omega))
  refine gg_cut 167 [(8, .int (vX k kp T r (1 * 8 + j) d)), (7, .int (vX k kp T r (0 * 8 + j) d)), (6, .int (nI j)), (5, .int (kyF (fun i => vX k kp T r (1 * 8 + i) d) 8)), (4, .int (kyF (fun i => vX k kp T r (0 * 8 + i) d) 8)), (3, .int (nI d)), (2, .int 1), (0, .ref X.1), (1, .int (nI r))] [] ?_ (fun k167 => ?_)
  · refine gg_iconst K (v := 1) dL_areValuesSo_167 (by decide) ?_
    refine gg_goto K (tgt := 172) dL_areValuesSo_168 (by decide) ?_
    refine gg_istore_n K (i := 2) dL_areValuesSo_172 rfl (by decide) ?_
    refine gg_iinc K (v := nI (j + 1)) dL_areValuesSo_173 rfl (nI_inc (j)) (by decide) ?_
    refine gg_goto K (tgt := 35) dL_areValuesSo_176 (by decide) ?_
    refine gg_sub (L' := [(6, .int (nI (j + 1))), (5, .int (kyF (fun i => vX k kp T r (1 * 8 + i) d) 8)), (4, .int (kyF (fun i => vX k kp T r (0 * 8 + i) d) 8)), (3, .int (nI d)), (2, .int 1), (0, .ref X.1), (1, .int (nI r))]) ⟨rfl, rfl, rfl, rfl, rfl, rfl, rfl, trivial⟩ ?_
    exact ih2 _ _ ⟨j + 1, by omega, rfl, by omega, rfl⟩
  rcases v1 with z | ⟨i, z, zi, zn⟩
  · refine gg_iload K dL_areValuesSo_122 rfl ?_
    refine gg_if_lt K (tgt := 138) dL_areValuesSo_124 (by decide) (fun h124 => ?_) (fun h124 => ?_)
    rotate_left
    · rw [z] at h124; exact absurd (show (-1 : Int32) < 0 by decide) h124
    refine gg_aload_n K (i := 0) dL_areValuesSo_138 rfl rfl ?_
    refine gg_iload K dL_areValuesSo_139 rfl ?_
    refine gg_iload_n K (i := 3) dL_areValuesSo_141 rfl rfl ?_
    refine gg_iload_n K (i := 1) dL_areValuesSo_142 rfl rfl ?_
    refine gg_callRX K k_L_X0_joined (n_joined ok hi.1 j hj2 rfl d hd2 rfl r hr0 rfl) dL_areValuesSo_143 rfl rfl rfl rfl ⟨rfl, rfl⟩ ?_
    refine gg_iload K dL_areValuesSo_146 rfl ?_
    refine gg_if_ge K (tgt := 155) dL_areValuesSo_148 (by decide) (fun h148 => ?_) (fun h148 => ?_)
    · rw [z] at h148; exact absurd h148 neg_lt0
    refine gg_iconst K (v := (-1)) dL_areValuesSo_151 (by decide) ?_
    refine gg_goto K (tgt := 164) dL_areValuesSo_152 (by decide) ?_
    refine gg_icmp_ne K (tgt := 171) dL_areValuesSo_164 (by decide) (fun h164 => ?_) (fun h164 => ?_)
    · exact absurd (show jnF (vX k kp T) r j d = -1 from if_pos z) h164
    exact k167
  · have ez : vX k kp T r (8 + j) d = nI i := z
    have hne : ¬ vX k kp T r (8 + j) d = -1 := by rw [ez]; exact nI_m1 (by omega)
    have e3 := kyF_bit (fun i => vX k kp T r (0 * 8 + i) d) zi
    refine gg_iload K dL_areValuesSo_122 rfl ?_
    refine gg_if_lt K (tgt := 138) dL_areValuesSo_124 (by decide) (fun h124 => ?_) (fun h124 => ?_)
    · rw [z] at h124; exact absurd h124 (nI_pos (by omega))
    refine gg_iload K dL_areValuesSo_127 rfl ?_
    refine gg_iload K dL_areValuesSo_129 rfl ?_
    refine gg_ishr K dL_areValuesSo_131 ?_
    refine gg_iconst K (v := 1) dL_areValuesSo_132 (by decide) ?_
    refine gg_iand K dL_areValuesSo_133 ?_
    refine gg_iconst K (v := 1) dL_areValuesSo_134 (by decide) ?_
    refine gg_cut 138 [(8, .int (vX k kp T r (1 * 8 + j) d)), (7, .int (vX k kp T r (0 * 8 + j) d)), (6, .int (nI j)), (5, .int (kyF (fun i => vX k kp T r (1 * 8 + i) d) 8)), (4, .int (kyF (fun i => vX k kp T r (0 * 8 + i) d) 8)), (3, .int (nI d)), (2, .int 1), (0, .ref X.1), (1, .int (nI r))] [] ?_ (fun k138 => ?_)
    rotate_left
    · refine gg_icmp_ne K (tgt := 171) dL_areValuesSo_135 (by decide) (fun h135 => ?_) (fun h135 => ?_)
      · rw [z] at h135; exact absurd (e3.trans (if_neg zn)) h135
      exact k138
    refine gg_aload_n K (i := 0) dL_areValuesSo_138 rfl rfl ?_
    refine gg_iload K dL_areValuesSo_139 rfl ?_
    refine gg_iload_n K (i := 3) dL_areValuesSo_141 rfl rfl ?_
    refine gg_iload_n K (i := 1) dL_areValuesSo_142 rfl rfl ?_
    refine gg_callRX K k_L_X0_joined (n_joined ok hi.1 j hj2 rfl d hd2 rfl r hr0 rfl) dL_areValuesSo_143 rfl rfl rfl rfl ⟨rfl, rfl⟩ ?_
    refine gg_iload K dL_areValuesSo_146 rfl ?_
    refine gg_if_ge K (tgt := 155) dL_areValuesSo_148 (by decide) (fun h148 => ?_) (fun h148 => ?_)
    rotate_left
    · rw [z] at h148; exact absurd (nI_pos' (by omega)) h148
    refine gg_aload_n K (i := 0) dL_areValuesSo_155 rfl rfl ?_
    refine gg_iconst K (v := 0) dL_areValuesSo_156 (by decide) ?_
    refine gg_iload K dL_areValuesSo_157 rfl ?_
    refine gg_iload_n K (i := 3) dL_areValuesSo_159 rfl rfl ?_
    refine gg_iload_n K (i := 1) dL_areValuesSo_160 rfl rfl ?_
    refine gg_callRX K k_L_X0_value (n_value ok 0 i (by omega) (by omega) rfl z d hd2 rfl r hr0 rfl) dL_areValuesSo_161 rfl rfl rfl rfl ⟨rfl, rfl⟩ ?_
    refine gg_icmp_ne K (tgt := 171) dL_areValuesSo_164 (by decide) (fun h164 => ?_) (fun h164 => ?_)
    · refine absurd ?_ h164
      rw [show jnF (vX k kp T) r j d = _ from if_neg hne, ez, nI_clamp (by omega), show 0 * 8 + i = i by omega]
    exact k167
theorem among_0 (f : Nat → Int32) (run : Int32) : ¬ amongR f run 0 := fun ⟨i, h, _⟩ => absurd h (by omega)
theorem among_s {f : Nat → Int32} {run : Int32} {j : Nat} : amongR f run (j + 1) ↔ amongR f run j ∨ runN f (kthD (stF f) j 60) = run := by
  constructor
  · rintro ⟨i, h1, h2⟩
    by_cases hi : i = j
    · exact Or.inr (by rw [← hi]; exact h2)
    · exact Or.inl ⟨i, by omega, h2⟩
  · rintro (⟨i, h1, h2⟩ | h)
    · exact ⟨i, by omega, h2⟩
    · exact ⟨j, by omega, h⟩
set_option maxRecDepth 100000 in
theorem c_hasRun {l : Launch} {Z : ZT} {X : XT} {k kp dr : Nat → Int32} {T : Nat} (ok : okX kp T) (t' y' : Nat) {t y : Int32} (a1 : t' < 2) (b1 : y' < 8) (a2 : t = nI t') (b2 : y = nI y') (r : Nat) {q run fr en : Int32} (hr0 : r ≤ T) (q2 : q = nI r) : mR l Z yL_hasRun cL_hasRun 9 (some .boolean) (rmk 10 240 0 0) (wX Z X k kp dr (nI T)) [.ref X.1, .int t, .int y, .int q, .int run, .int fr, .int en] (.int (bI (bP (fr ≤ nI r ∧ nI r < en ∧ amongR (vX k kp T r (t' * 8 + y')) run (fb_ct (stF (vX k kp T r (t' * 8 + y'))) 60))))) := by
  have hT9 := ok.1
  refine mA_intro (own := RL) [(0, .ref X.1), (1, .int t), (2, .int y), (3, .int q), (4, .int run), (5, .int fr), (6, .int en)] (by decide +kernel) rfl rfl rfl rfl ?_
  intro p e s m args below meth c A K hr hin
  subst q2
  have hfb := fb_ct_le (stF (vX k kp T r (t' * 8 + y'))) 60
  refine gg_iconst K (v := 0) dL_hasRun_0 (by decide) ?_
  refine gg_istore K dL_hasRun_1 (by decide) ?_
  refine gg_iconst K (v := 0) dL_hasRun_3 (by decide) ?_
  refine gg_istore K dL_hasRun_4 (by decide) ?_
  refine gg_sub (L' := [(8, .int (nI 0)), (7, .int 0), (0, .ref X.1), (1, .int t), (2, .int y), (3, .int (nI r)), (4, .int run), (5, .int fr), (6, .int en)]) ⟨rfl, rfl, rfl, rfl, rfl, rfl, rfl, rfl, rfl, trivial⟩ ?_
  refine gg_loop (fun i w L => ∃ (j : Nat), j + i = 62 ∧ w = wX Z X k kp dr (nI T) ∧ j ≤ fb_ct (stF (vX k kp T r (t' * 8 + y'))) 60 ∧ (0 < j → fr ≤ nI r ∧ nI r < en) ∧ L = [(8, .int (nI j)), (7, .int (bI (bP (amongR (vX k kp T r (t' * 8 + y')) run j)))), (0, .ref X.1), (1, .int t), (2, .int y), (3, .int (nI r)), (4, .int run), (5, .int fr), (6, .int en)]) (fun w L h => ?_) (fun i w L h ih => ?_) 62 _ _ ⟨0, by omega, rfl, by omega, fun z => absurd z (by omega), by rw [bP_f (among_0 _ _)]; rfl⟩
  · obtain ⟨j, hj, -, h2, -⟩ := h
    omega
  obtain ⟨j, hj, rfl, hj1, hc, rfl⟩ := h
  refine gg_iload K dL_hasRun_6 rfl ?_
  refine gg_aload_n K (i := 0) dL_hasRun_8 rfl rfl ?_
  refine gg_iload_n K (i := 1) dL_hasRun_9 rfl rfl ?_
  refine gg_iload_n K (i := 2) dL_hasRun_10 rfl rfl ?_
  refine gg_iload_n K (i := 3) dL_hasRun_11 rfl rfl ?_
  refine gg_callRX K k_L_X0_runs (n_runs ok t' y' a1 b1 a2 b2 r hr0 rfl) dL_hasRun_12 rfl rfl rfl rfl ⟨rfl, rfl⟩ ?_
  refine gg_icmp_ge K (tgt := 62) dL_hasRun_15 (by decide) (fun h15 => ?_) (fun h15 => ?_)
  · have hj2 := i_le h15
    refine gg_iload K dL_hasRun_62 rfl ?_
    refine gg_zret K hr dL_hasRun_64 (bI_01 _) (Nat.le_of_ble_eq_true rfl) (Nat.le_of_ble_eq_true rfl) ⟨some_int ?_, rfl⟩
    rw [show j = fb_ct (stF (vX k kp T r (t' * 8 + y'))) 60 by omega]
    by_cases ha : amongR (vX k kp T r (t' * 8 + y')) run (fb_ct (stF (vX k kp T r (t' * 8 + y'))) 60)
    · have h0 : 0 < j := by
        obtain ⟨i9, w1, -⟩ := ha
        omega
      rw [bP_t ha, bP_t ⟨(hc h0).1, (hc h0).2, ha⟩]
    · rw [bP_f ha, bP_f (fun z => ha z.2.2)]
  have hj2 := i_nle h15
  refine gg_iload_n K (i := 3) dL_hasRun_18 rfl rfl ?_
  refine gg_iload K dL_hasRun_19 rfl ?_
  refine gg_icmp_lt K (tgt := 62) dL_hasRun_21 (by decide) (fun h21 => ?_) (fun h21 => ?_)
  · have hlt : ¬ fr ≤ nI r := by
      rw [Int32.lt_iff_toInt_lt] at h21
      rw [Int32.le_iff_toInt_le]
      omega
    have h0 : j = 0 := Nat.eq_zero_of_not_pos (fun z => hlt (hc z).1)
    refine gg_iload K dL_hasRun_62 rfl ?_
    subst h0
    refine gg_zret K hr dL_hasRun_64 (bI_01 _) (Nat.le_of_ble_eq_true rfl) (Nat.le_of_ble_eq_true rfl) ⟨some_int ?_, rfl⟩
    rw [bP_f (among_0 _ _), bP_f (fun z => hlt z.1)]
  have hfr : fr ≤ nI r := by
    rw [Int32.lt_iff_toInt_lt] at h21
    rw [Int32.le_iff_toInt_le]
    omega
  refine gg_iload_n K (i := 3) dL_hasRun_24 rfl rfl ?_
  refine gg_iload K dL_hasRun_25 rfl ?_
  refine gg_icmp_ge K (tgt := 62) dL_hasRun_27 (by decide) (fun h27 => ?_) (fun h27 => ?_)
  · have hlt : ¬ nI r < en := by
      rw [Int32.le_iff_toInt_le] at h27
      rw [Int32.lt_iff_toInt_lt]
      omega
    have h0 : j = 0 := Nat.eq_zero_of_not_pos (fun z => hlt (hc z).2)
    refine gg_iload K dL_hasRun_62 rfl ?_
    subst h0
    refine gg_zret K hr dL_hasRun_64 (bI_01 _) (Nat.le_of_ble_eq_true rfl) (Nat.le_of_ble_eq_true rfl) ⟨some_int ?_, rfl⟩
    rw [bP_f (among_0 _ _), bP_f (fun z => hlt z.2.1)]
  have hen : nI r < en := by
    rw [Int32.le_iff_toInt_le] at h27
    rw [Int32.lt_iff_toInt_lt]
    omega
  refine gg_cut 54 [(8, .int (nI j)), (7, .int (bI (bP (amongR (vX k kp T r (t' * 8 + y')) run j)))), (0, .ref X.1), (1, .int t), (2, .int y), (3, .int (nI r)), (4, .int run), (5, .int fr), (6, .int en)] [.int (bI (bP (amongR (vX k kp T r (t' * 8 + y')) run (j + 1))))] ?_ (fun k54 => ?_)
  · refine gg_istore K dL_hasRun_54 (by decide) ?_
    refine gg_iinc K (v := nI (j + 1)) dL_hasRun_56 rfl (nI_inc (j)) (by decide) ?_
    refine gg_goto K (tgt := 6) dL_hasRun_59 (by decide) ?_
    refine gg_sub (L' := [(8, .int (nI (j + 1))), (7, .int (bI (bP (amongR (vX k kp T r (t' * 8 + y')) run (j + 1))))), (0, .ref X.1), (1, .int t), (2, .int y), (3, .int (nI r)), (4, .int run), (5, .int fr), (6, .int en)]) ⟨rfl, rfl, rfl, rfl, rfl, rfl, rfl, rfl, rfl, trivial⟩ ?_
    exact ih _ _ ⟨j + 1, by omega, rfl, by omega, fun _ => ⟨hfr, hen⟩, rfl⟩
  refine gg_iload K dL_hasRun_30 rfl ?_
  refine gg_b_ne K (tgt := 49) dL_hasRun_32 (by decide) (fun h32 => ?_) (fun h32 => ?_)
  · refine gg_iconst K (v := 1) dL_hasRun_49 (by decide) ?_
    refine gg_goto K (tgt := 54) dL_hasRun_50 (by decide) ?_
    rw [bP_t (among_s.mpr (Or.inl (bP_iff.mp h32)))] at k54
    exact k54
  refine gg_aload_n K (i := 0) dL_hasRun_35 rfl rfl ?_
  refine gg_iload_n K (i := 1) dL_hasRun_36 rfl rfl ?_
  refine gg_iload_n K (i := 2) dL_hasRun_37 rfl rfl ?_
  refine gg_iload_n K (i := 3) dL_hasRun_38 rfl rfl ?_
  refine gg_iload K dL_hasRun_39 rfl ?_
  refine gg_callRX K k_L_X0_run (n_run ok t' y' a1 b1 a2 b2 r hr0 rfl j hj2 rfl) dL_hasRun_41 rfl rfl rfl rfl ⟨rfl, rfl⟩ ?_
  refine gg_iload K dL_hasRun_44 rfl ?_
  refine gg_icmp_ne K (tgt := 53) dL_hasRun_46 (by decide) (fun h46 => ?_) (fun h46 => ?_)
  · refine gg_iconst K (v := 0) dL_hasRun_53 (by decide) ?_
    rw [bP_f (fun z => (among_s.mp z).elim (bP_nf h32) h46)] at k54
    exact k54
  refine gg_iconst K (v := 1) dL_hasRun_49 (by decide) ?_
  refine gg_goto K (tgt := 54) dL_hasRun_50 (by decide) ?_
  rw [bP_t (among_s.mpr (Or.inr h46))] at k54
  exact k54
