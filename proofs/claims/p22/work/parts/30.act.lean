/-! act; isRestoredSo -/
abbrev shF (v n : Int32) : Int32 := v >>> (n &&& 31)
/-- what the law's 'act' draws out of a cell -/
abbrev oddP (v : Int32) : Prop := lowF (shF v 24) 8 = 0
def dOb (v : Int32) : Int32 := if oddP v then 1 else 0
def dT (v : Int32) : Int32 := if oddP v then lowF (shF v 4) 4 - 1 else shF v 4 &&& 1
def dY (v : Int32) : Int32 := if oddP v then lowF (shF v 5) 11 else lowF (shF v 5) 4
def dF (v : Int32) : Int32 := if oddP v then lowF (shF v 3) 64 - 2 else lowF (shF v 3) 60
def dW (v : Int32) : Int32 := if shF v 15 &&& 1 = 0 then 60 - dF v else if 60 - dF v < 12 then 60 - dF v else 12
def dQ (v : Int32) : Int32 := if oddP v then lowF (shF v 8) 66 else dF v + 1 + lowF (shF v 8) (dW v)
def dX (v : Int32) : Int32 := if oddP v then 110 else if dT v = 0 then 6 else 4
def dR (v : Int32) (T : Nat) : Int32 := if oddP v then dF v else lowF (shF v 9) (nI T + 1)
def dP (v : Int32) : Int32 := if oddP v then lowF (shF v 6) 70 else 1 + lowF (shF v 6) 5
def sAct (V : VT) (T : Nat) (v : Int32) (r : Int32) (V' : VT) (T' : Nat) : Prop :=
  if 9 ≤ lowF v 20 then (if 13 ≤ lowF v 20 then (if 16 ≤ lowF v 20 then sDo V T 4 0 0 (dP v) 0 0 r V' T' else sDo V T 3 (dT v) (dY v) 0 (dR v T) 0 r V' T') else sDo V T (if 12 ≤ lowF v 20 then 2 else 1) (dT v) (dY v) 0 (dF v) (dQ v) r V' T') else sDo V T 0 (dT v) (dY v) (lowF (shF v 10) (dX v)) (dF v) (dQ v) r V' T'
/-- an act is one change -/
theorem sAct_one (V : VT) (T : Nat) (v : Int32) : ∃ h t y x f q : Int32, ∀ (r : Int32) (V' : VT) (T' : Nat), sAct V T v r V' T' ↔ sDo V T h t y x f q r V' T' := by
  by_cases h1 : 9 ≤ lowF v 20
  · by_cases h2 : 13 ≤ lowF v 20
    · by_cases h3 : 16 ≤ lowF v 20
      · exact ⟨4, 0, 0, dP v, 0, 0, fun r V' T' => by unfold sAct; rw [if_pos h1, if_pos h2, if_pos h3]⟩
      · exact ⟨3, dT v, dY v, 0, dR v T, 0, fun r V' T' => by unfold sAct; rw [if_pos h1, if_pos h2, if_neg h3]⟩
    · exact ⟨if 12 ≤ lowF v 20 then 2 else 1, dT v, dY v, 0, dF v, dQ v, fun r V' T' => by unfold sAct; rw [if_pos h1, if_neg h2]⟩
  · exact ⟨0, dT v, dY v, lowF (shF v 10) (dX v), dF v, dQ v, fun r V' T' => by unfold sAct; rw [if_neg h1]⟩
theorem sAct_uq {V : VT} {T : Nat} {v r r2 : Int32} {V1 V2 : VT} {T1 T2 : Nat} (h1 : sAct V T v r V1 T1) (h2 : sAct V T v r2 V2 T2) : r = r2 ∧ V1 = V2 ∧ T1 = T2 := by
  obtain ⟨h, t, y, x, f, q, e⟩ := sAct_one V T v
  exact sDo_uq ((e _ _ _).mp h1) ((e _ _ _).mp h2)
theorem sAct_inv {V : VT} {T : Nat} {v r : Int32} {V1 : VT} {T1 : Nat} (hT : T < 60) (hi : INV V T) (h1 : sAct V T v r V1 T1) : INV V1 T1 := by
  obtain ⟨h, t, y, x, f, q, e⟩ := sAct_one V T v
  exact sDo_inv hT hi ((e _ _ _).mp h1)
theorem sAct_off {V : VT} {T : Nat} {v r : Int32} {V1 : VT} {T1 : Nat} (h1 : sAct V T v r V1 T1) (hr : r = -99999) : V1 = V ∧ T1 = T := by
  obtain ⟨h, t, y, x, f, q, e⟩ := sAct_one V T v
  exact sDo_off ((e _ _ _).mp h1) hr
theorem dW_ne {v : Int32} (ho : ¬ oddP v) : ¬ dW v = 0 := by
  obtain ⟨a, a1, a2⟩ := lowF_nI (v := shF v 3) (n := 60) (by omega) (by omega)
  have e : dF v = nI a := (if_neg ho).trans a2
  unfold dW
  rw [e, show (60 : Int32) - nI a = nI (60 - a) from pk_sub (a := 60) (by omega)]
  have h1 : ¬ nI (60 - a) = 0 := fun z => by
    have := i_eq (b := 0) z
    omega
  split
  · exact h1
  · split
    · exact h1
    · decide
theorem dX_ne (v : Int32) : ¬ dX v = 0 := by
  unfold dX
  split
  · decide
  · split <;> decide
set_option maxRecDepth 100000 in
theorem c_act {l : Launch} {Z : ZT} {X : XT} {k kp dr : Nat → Int32} {T : Nat} (hl0 : l.stackTraces = false) (ok : okX kp T) (hv : valOk (vX k kp T) T) {v : Int32} : mX l Z.1 (ty3 Z) yL_act (.code yL_act cL_act 8 (some .int)) (rmk 11 300 8 48) (wX Z X k kp dr (nI T)) [.ref X.1, .int v] (toldW Z X (sAct (vX k kp T) T v)) (fun _ _ => False) := by
  have hT9 := ok.1
  refine mX_intro (own := RL) [(0, .ref X.1), (1, .int v)] (by decide +kernel) rfl rfl rfl rfl ?_
  intro p e s m args below meth c A K hr T9 htab
  refine gg_cut 160 [(7, .int (dQ v)), (6, .int (dF v)), (5, .int (dY v)), (4, .int (dT v)), (3, .int (lowF v 20)), (2, .int (dOb v)), (0, .ref X.1), (1, .int v)] [] ?_ (fun k160 => ?_)
  rotate_left
  · by_cases ho : oddP v
    · have e1 : dOb v = 1 := if_pos ho
      have e2 : dT v = _ := if_pos ho
      have e3 : dY v = _ := if_pos ho
      have e4 : dF v = _ := if_pos ho
      have e5 : dQ v = _ := if_pos ho
      refine gg_iload_n K (i := 1) dL_act_0 rfl rfl ?_
      refine gg_bipush K (v := 24) dL_act_1 (by decide) ?_
      refine gg_ishr K dL_act_3 ?_
      refine gg_bipush K (v := 8) dL_act_4 (by decide) ?_
      refine gg_callSR K k_L_L_low (n_low (by decide)) dL_act_6 rfl rfl rfl rfl ⟨rfl, rfl⟩ ?_
      refine gg_if_ne K (tgt := 16) dL_act_9 (by decide) (fun h9 => ?_) (fun h9 => ?_)
      · exact absurd ho h9
      refine gg_iconst K (v := 1) dL_act_12 (by decide) ?_
      refine gg_goto K (tgt := 17) dL_act_13 (by decide) ?_
      refine gg_istore_n K (i := 2) dL_act_17 rfl (by decide) ?_
      refine gg_iload_n K (i := 1) dL_act_18 rfl rfl ?_
      refine gg_bipush K (v := 20) dL_act_19 (by decide) ?_
      refine gg_callSR K k_L_L_low (n_low (by decide)) dL_act_21 rfl rfl rfl rfl ⟨rfl, rfl⟩ ?_
      refine gg_istore_n K (i := 3) dL_act_24 rfl (by decide) ?_
      refine gg_iload_n K (i := 2) dL_act_25 rfl rfl ?_
      refine gg_if_eq K (tgt := 41) dL_act_26 (by decide) (fun h26 => ?_) (fun h26 => ?_)
      · exact absurd h26 (by decide)
      refine gg_iload_n K (i := 1) dL_act_29 rfl rfl ?_
      refine gg_iconst K (v := 4) dL_act_30 (by decide) ?_
      refine gg_ishr K dL_act_31 ?_
      refine gg_iconst K (v := 4) dL_act_32 (by decide) ?_
      refine gg_callSR K k_L_L_low (n_low (by decide)) dL_act_33 rfl rfl rfl rfl ⟨rfl, rfl⟩ ?_
      refine gg_iconst K (v := 1) dL_act_36 (by decide) ?_
      refine gg_isub K dL_act_37 ?_
      refine gg_goto K (tgt := 46) dL_act_38 (by decide) ?_
      refine gg_istore K dL_act_46 (by decide) ?_
      refine gg_iload_n K (i := 1) dL_act_48 rfl rfl ?_
      refine gg_iconst K (v := 5) dL_act_49 (by decide) ?_
      refine gg_ishr K dL_act_50 ?_
      refine gg_iload_n K (i := 2) dL_act_51 rfl rfl ?_
      refine gg_if_eq K (tgt := 60) dL_act_52 (by decide) (fun h52 => ?_) (fun h52 => ?_)
      · exact absurd h52 (by decide)
      refine gg_bipush K (v := 11) dL_act_55 (by decide) ?_
      refine gg_goto K (tgt := 61) dL_act_57 (by decide) ?_
      refine gg_callSR K k_L_L_low (n_low (by decide)) dL_act_61 rfl rfl rfl rfl ⟨rfl, rfl⟩ ?_
      refine gg_istore K dL_act_64 (by decide) ?_
      refine gg_iload_n K (i := 2) dL_act_66 rfl rfl ?_
      refine gg_if_eq K (tgt := 83) dL_act_67 (by decide) (fun h67 => ?_) (fun h67 => ?_)
      · exact absurd h67 (by decide)
      refine gg_iload_n K (i := 1) dL_act_70 rfl rfl ?_
      refine gg_iconst K (v := 3) dL_act_71 (by decide) ?_
      refine gg_ishr K dL_act_72 ?_
      refine gg_bipush K (v := 64) dL_act_73 (by decide) ?_
      refine gg_callSR K k_L_L_low (n_low (by decide)) dL_act_75 rfl rfl rfl rfl ⟨rfl, rfl⟩ ?_
      refine gg_iconst K (v := 2) dL_act_78 (by decide) ?_
      refine gg_isub K dL_act_79 ?_
      refine gg_goto K (tgt := 91) dL_act_80 (by decide) ?_
      refine gg_istore K dL_act_91 (by decide) ?_
      refine gg_iload_n K (i := 2) dL_act_93 rfl rfl ?_
      refine gg_if_eq K (tgt := 109) dL_act_94 (by decide) (fun h94 => ?_) (fun h94 => ?_)
      · exact absurd h94 (by decide)
      refine gg_iload_n K (i := 1) dL_act_97 rfl rfl ?_
      refine gg_bipush K (v := 8) dL_act_98 (by decide) ?_
      refine gg_ishr K dL_act_100 ?_
      refine gg_bipush K (v := 66) dL_act_101 (by decide) ?_
      refine gg_callSR K k_L_L_low (n_low (by decide)) dL_act_103 rfl rfl rfl rfl ⟨rfl, rfl⟩ ?_
      refine gg_goto K (tgt := 158) dL_act_106 (by decide) ?_
      refine gg_istore K dL_act_158 (by decide) ?_
      refine gg_sub (L' := [(7, .int (dQ v)), (6, .int (dF v)), (5, .int (dY v)), (4, .int (dT v)), (3, .int (lowF v 20)), (2, .int (dOb v)), (0, .ref X.1), (1, .int v)]) ⟨by rw [e5]; rfl, by rw [e4]; rfl, by rw [e3]; rfl, by rw [e2]; rfl, rfl, by rw [e1]; rfl, rfl, rfl, trivial⟩ ?_
      exact k160
    · have e1 : dOb v = 0 := if_neg ho
      have e2 : dT v = _ := if_neg ho
      have e3 : dY v = _ := if_neg ho
      have e4 : dF v = _ := if_neg ho
      have e5 : dQ v = _ := if_neg ho
      refine gg_iload_n K (i := 1) dL_act_0 rfl rfl ?_
      refine gg_bipush K (v := 24) dL_act_1 (by decide) ?_
      refine gg_ishr K dL_act_3 ?_
      refine gg_bipush K (v := 8) dL_act_4 (by decide) ?_
      refine gg_callSR K k_L_L_low (n_low (by decide)) dL_act_6 rfl rfl rfl rfl ⟨rfl, rfl⟩ ?_
      refine gg_if_ne K (tgt := 16) dL_act_9 (by decide) (fun h9 => ?_) (fun h9 => ?_)
      rotate_left
      · exact absurd h9 ho
      refine gg_iconst K (v := 0) dL_act_16 (by decide) ?_
      refine gg_istore_n K (i := 2) dL_act_17 rfl (by decide) ?_
      refine gg_iload_n K (i := 1) dL_act_18 rfl rfl ?_
      refine gg_bipush K (v := 20) dL_act_19 (by decide) ?_
      refine gg_callSR K k_L_L_low (n_low (by decide)) dL_act_21 rfl rfl rfl rfl ⟨rfl, rfl⟩ ?_
      refine gg_istore_n K (i := 3) dL_act_24 rfl (by decide) ?_
      refine gg_iload_n K (i := 2) dL_act_25 rfl rfl ?_
      refine gg_if_eq K (tgt := 41) dL_act_26 (by decide) (fun h26 => ?_) (fun h26 => ?_)
      rotate_left
      · exact absurd rfl h26
      refine gg_iload_n K (i := 1) dL_act_41 rfl rfl ?_
      refine gg_iconst K (v := 4) dL_act_42 (by decide) ?_
      refine gg_ishr K dL_act_43 ?_
      refine gg_iconst K (v := 1) dL_act_44 (by decide) ?_
      refine gg_iand K dL_act_45 ?_
      refine gg_istore K dL_act_46 (by decide) ?_
      refine gg_iload_n K (i := 1) dL_act_48 rfl rfl ?_
      refine gg_iconst K (v := 5) dL_act_49 (by decide) ?_
      refine gg_ishr K dL_act_50 ?_
      refine gg_iload_n K (i := 2) dL_act_51 rfl rfl ?_
      refine gg_if_eq K (tgt := 60) dL_act_52 (by decide) (fun h52 => ?_) (fun h52 => ?_)
      rotate_left
      · exact absurd rfl h52
      refine gg_iconst K (v := 4) dL_act_60 (by decide) ?_
      refine gg_callSR K k_L_L_low (n_low (by decide)) dL_act_61 rfl rfl rfl rfl ⟨rfl, rfl⟩ ?_
      refine gg_istore K dL_act_64 (by decide) ?_
      refine gg_iload_n K (i := 2) dL_act_66 rfl rfl ?_
      refine gg_if_eq K (tgt := 83) dL_act_67 (by decide) (fun h67 => ?_) (fun h67 => ?_)
      rotate_left
      · exact absurd rfl h67
      refine gg_iload_n K (i := 1) dL_act_83 rfl rfl ?_
      refine gg_iconst K (v := 3) dL_act_84 (by decide) ?_
      refine gg_ishr K dL_act_85 ?_
      refine gg_bipush K (v := 60) dL_act_86 (by decide) ?_
      refine gg_callSR K k_L_L_low (n_low (by decide)) dL_act_88 rfl rfl rfl rfl ⟨rfl, rfl⟩ ?_
      refine gg_top (y := dF v) e4.symm ?_
      refine gg_istore K dL_act_91 (by decide) ?_
      refine gg_iload_n K (i := 2) dL_act_93 rfl rfl ?_
      refine gg_if_eq K (tgt := 109) dL_act_94 (by decide) (fun h94 => ?_) (fun h94 => ?_)
      rotate_left
      · exact absurd rfl h94
      refine gg_iload K dL_act_109 rfl ?_
      refine gg_iconst K (v := 1) dL_act_111 (by decide) ?_
      refine gg_iadd K dL_act_112 ?_
      refine gg_iload_n K (i := 1) dL_act_113 rfl rfl ?_
      refine gg_bipush K (v := 8) dL_act_114 (by decide) ?_
      refine gg_ishr K dL_act_116 ?_
      refine gg_iload_n K (i := 1) dL_act_117 rfl rfl ?_
      refine gg_bipush K (v := 15) dL_act_118 (by decide) ?_
      refine gg_ishr K dL_act_120 ?_
      refine gg_iconst K (v := 1) dL_act_121 (by decide) ?_
      refine gg_iand K dL_act_122 ?_
      refine gg_cut 154 [(6, .int (dF v)), (5, .int (dY v)), (4, .int (dT v)), (3, .int (lowF v 20)), (2, .int (dOb v)), (0, .ref X.1), (1, .int v)] [.int (dW v), .int (shF v 8), .int (dF v + 1)] ?_ (fun k154 => ?_)
      · refine gg_callSR K k_L_L_low (n_low (dW_ne ho)) dL_act_154 rfl rfl rfl rfl ⟨rfl, rfl⟩ ?_
        refine gg_iadd K dL_act_157 ?_
        refine gg_top (y := dQ v) e5.symm ?_
        refine gg_istore K dL_act_158 (by decide) ?_
        exact k160
      · refine gg_if_ne K (tgt := 134) dL_act_123 (by decide) (fun h123 => ?_) (fun h123 => ?_)
        · have w : dW v = (if 60 - dF v < 12 then 60 - dF v else 12) := if_neg h123
          refine gg_bipush K (v := 60) dL_act_134 (by decide) ?_
          refine gg_iload K dL_act_136 rfl ?_
          refine gg_isub K dL_act_138 ?_
          refine gg_bipush K (v := 12) dL_act_139 (by decide) ?_
          refine gg_icmp_ge K (tgt := 152) dL_act_141 (by decide) (fun h141 => ?_) (fun h141 => ?_)
          · have w2 : (if 60 - dF v < 12 then 60 - dF v else (12 : Int32)) = 12 := if_neg (show ¬ 60 - dF v < 12 from fun z => by
              rw [Int32.le_iff_toInt_le] at h141
              rw [Int32.lt_iff_toInt_lt] at z
              omega)
            refine gg_bipush K (v := 12) dL_act_152 (by decide) ?_
            refine gg_sub (L' := [(6, .int (dF v)), (5, .int (dY v)), (4, .int (dT v)), (3, .int (lowF v 20)), (2, .int (dOb v)), (0, .ref X.1), (1, .int v)]) ⟨rfl, by rw [e3]; rfl, by rw [e2]; rfl, rfl, by rw [e1]; rfl, rfl, rfl, trivial⟩ ?_
            refine gg_top (y := dW v) (w.trans w2).symm ?_
            exact k154
          · have w2 : (if 60 - dF v < 12 then 60 - dF v else (12 : Int32)) = 60 - dF v := if_pos (show 60 - dF v < 12 by
              rw [Int32.le_iff_toInt_le] at h141
              rw [Int32.lt_iff_toInt_lt]
              omega)
            refine gg_bipush K (v := 60) dL_act_144 (by decide) ?_
            refine gg_iload K dL_act_146 rfl ?_
            refine gg_isub K dL_act_148 ?_
            refine gg_goto K (tgt := 154) dL_act_149 (by decide) ?_
            refine gg_sub (L' := [(6, .int (dF v)), (5, .int (dY v)), (4, .int (dT v)), (3, .int (lowF v 20)), (2, .int (dOb v)), (0, .ref X.1), (1, .int v)]) ⟨rfl, by rw [e3]; rfl, by rw [e2]; rfl, rfl, by rw [e1]; rfl, rfl, rfl, trivial⟩ ?_
            refine gg_top (y := dW v) (w.trans w2).symm ?_
            exact k154
        · have w : dW v = 60 - dF v := if_pos h123
          refine gg_bipush K (v := 60) dL_act_126 (by decide) ?_
          refine gg_iload K dL_act_128 rfl ?_
          refine gg_isub K dL_act_130 ?_
          refine gg_goto K (tgt := 154) dL_act_131 (by decide) ?_
          refine gg_sub (L' := [(6, .int (dF v)), (5, .int (dY v)), (4, .int (dT v)), (3, .int (lowF v 20)), (2, .int (dOb v)), (0, .ref X.1), (1, .int v)]) ⟨rfl, by rw [e3]; rfl, by rw [e2]; rfl, rfl, by rw [e1]; rfl, rfl, rfl, trivial⟩ ?_
          refine gg_top (y := dW v) w.symm ?_
          exact k154
  refine gg_iload_n K (i := 3) dL_act_160 rfl rfl ?_
  refine gg_bipush K (v := 9) dL_act_161 (by decide) ?_
  refine gg_icmp_ge K (tgt := 207) dL_act_163 (by decide) (fun h163 => ?_) (fun h163 => ?_)
  rotate_left
  · -- put
    refine gg_aload_n K (i := 0) dL_act_166 rfl rfl ?_
    refine gg_iconst K (v := 0) dL_act_167 (by decide) ?_
    refine gg_iload K dL_act_168 rfl ?_
    refine gg_iload K dL_act_170 rfl ?_
    refine gg_iload_n K (i := 1) dL_act_172 rfl rfl ?_
    refine gg_bipush K (v := 10) dL_act_173 (by decide) ?_
    refine gg_ishr K dL_act_175 ?_
    refine gg_cut 196 [(7, .int (dQ v)), (6, .int (dF v)), (5, .int (dY v)), (4, .int (dT v)), (3, .int (lowF v 20)), (2, .int (dOb v)), (0, .ref X.1), (1, .int v)] [.int (dX v), .int (shF v 10), .int (dY v), .int (dT v), .int 0, .ref X.1] ?_ (fun k196 => ?_)
    rotate_left
    · by_cases ho : oddP v
      · have e1 : dOb v = 1 := if_pos ho
        refine gg_iload_n K (i := 2) dL_act_176 rfl rfl ?_
        refine gg_if_eq K (tgt := 185) dL_act_177 (by decide) (fun h177 => ?_) (fun h177 => ?_)
        · exact absurd (e1.symm.trans h177) (by decide)
        refine gg_bipush K (v := 110) dL_act_180 (by decide) ?_
        refine gg_goto K (tgt := 196) dL_act_182 (by decide) ?_
        refine gg_top (y := dX v) (show dX v = 110 from if_pos ho).symm ?_
        exact k196
      · have e1 : dOb v = 0 := if_neg ho
        refine gg_iload_n K (i := 2) dL_act_176 rfl rfl ?_
        refine gg_if_eq K (tgt := 185) dL_act_177 (by decide) (fun h177 => ?_) (fun h177 => ?_)
        rotate_left
        · exact absurd e1 h177
        have w : dX v = _ := if_neg ho
        refine gg_iload K dL_act_185 rfl ?_
        refine gg_if_ne K (tgt := 195) dL_act_187 (by decide) (fun h187 => ?_) (fun h187 => ?_)
        · refine gg_iconst K (v := 4) dL_act_195 (by decide) ?_
          refine gg_top (y := dX v) (w.trans (if_neg h187)).symm ?_
          exact k196
        · refine gg_bipush K (v := 6) dL_act_190 (by decide) ?_
          refine gg_goto K (tgt := 196) dL_act_192 (by decide) ?_
          refine gg_top (y := dX v) (w.trans (if_pos h187)).symm ?_
          exact k196
    refine gg_callSR K k_L_L_low (n_low (dX_ne v)) dL_act_196 rfl rfl rfl rfl ⟨rfl, rfl⟩ ?_
    refine gg_iload K dL_act_199 rfl ?_
    refine gg_iload K dL_act_201 rfl ?_
    refine gg_callJH (wc := wX Z X k kp dr (nI T)) (wr := []) [0, 1, 2, 3] [] rfl rfl rfl K T9 k_L_L_does (c_does hl0 ok hv) dL_act_203 rfl rfl rfl rfl (fun v0 u h => ?_)
    obtain ⟨r, k', kp', dr', T', rfl, rfl, ok', hS⟩ := h
    exact gg_x (gg_iret K hr dL_act_206 (Nat.le_of_ble_eq_true rfl) (Nat.le_of_ble_eq_true rfl) ⟨r, k', kp', dr', T', rfl, rfl, ok', by unfold sAct; rw [if_neg h163]; exact hS⟩)
  refine gg_iload_n K (i := 3) dL_act_207 rfl rfl ?_
  refine gg_bipush K (v := 13) dL_act_208 (by decide) ?_
  refine gg_icmp_ge K (tgt := 238) dL_act_210 (by decide) (fun h210 => ?_) (fun h210 => ?_)
  rotate_left
  · -- erase, eraseAll
    refine gg_aload_n K (i := 0) dL_act_213 rfl rfl ?_
    refine gg_cut 225 [(7, .int (dQ v)), (6, .int (dF v)), (5, .int (dY v)), (4, .int (dT v)), (3, .int (lowF v 20)), (2, .int (dOb v)), (0, .ref X.1), (1, .int v)] [.int (if 12 ≤ lowF v 20 then 2 else 1), .ref X.1] ?_ (fun k225 => ?_)
    rotate_left
    · refine gg_iload_n K (i := 3) dL_act_214 rfl rfl ?_
      refine gg_bipush K (v := 12) dL_act_215 (by decide) ?_
      refine gg_icmp_ge K (tgt := 224) dL_act_217 (by decide) (fun h217 => ?_) (fun h217 => ?_)
      · refine gg_iconst K (v := 2) dL_act_224 (by decide) ?_
        rw [if_pos h217] at k225
        exact k225
      · refine gg_iconst K (v := 1) dL_act_220 (by decide) ?_
        refine gg_goto K (tgt := 225) dL_act_221 (by decide) ?_
        rw [if_neg h217] at k225
        exact k225
    refine gg_iload K dL_act_225 rfl ?_
    refine gg_iload K dL_act_227 rfl ?_
    refine gg_iconst K (v := 0) dL_act_229 (by decide) ?_
    refine gg_iload K dL_act_230 rfl ?_
    refine gg_iload K dL_act_232 rfl ?_
    refine gg_callJH (wc := wX Z X k kp dr (nI T)) (wr := []) [0, 1, 2, 3] [] rfl rfl rfl K T9 k_L_L_does (c_does hl0 ok hv) dL_act_234 rfl rfl rfl rfl (fun v0 u h => ?_)
    obtain ⟨r, k', kp', dr', T', rfl, rfl, ok', hS⟩ := h
    exact gg_x (gg_iret K hr dL_act_237 (Nat.le_of_ble_eq_true rfl) (Nat.le_of_ble_eq_true rfl) ⟨r, k', kp', dr', T', rfl, rfl, ok', by unfold sAct; rw [if_pos h163, if_neg h210]; exact hS⟩)
  refine gg_iload_n K (i := 3) dL_act_238 rfl rfl ?_
  refine gg_bipush K (v := 16) dL_act_239 (by decide) ?_
  refine gg_icmp_ge K (tgt := 280) dL_act_241 (by decide) (fun h241 => ?_) (fun h241 => ?_)
  rotate_left
  · -- restore
    refine gg_aload_n K (i := 0) dL_act_244 rfl rfl ?_
    refine gg_iconst K (v := 3) dL_act_245 (by decide) ?_
    refine gg_iload K dL_act_246 rfl ?_
    refine gg_iload K dL_act_248 rfl ?_
    refine gg_iconst K (v := 0) dL_act_250 (by decide) ?_
    refine gg_cut 273 [(7, .int (dQ v)), (6, .int (dF v)), (5, .int (dY v)), (4, .int (dT v)), (3, .int (lowF v 20)), (2, .int (dOb v)), (0, .ref X.1), (1, .int v)] [.int (dR v T), .int 0, .int (dY v), .int (dT v), .int 3, .ref X.1] ?_ (fun k273 => ?_)
    rotate_left
    · by_cases ho : oddP v
      · have e1 : dOb v = 1 := if_pos ho
        refine gg_iload_n K (i := 2) dL_act_251 rfl rfl ?_
        refine gg_if_eq K (tgt := 260) dL_act_252 (by decide) (fun h252 => ?_) (fun h252 => ?_)
        · exact absurd (e1.symm.trans h252) (by decide)
        refine gg_iload K dL_act_255 rfl ?_
        refine gg_goto K (tgt := 273) dL_act_257 (by decide) ?_
        refine gg_top (y := dR v T) (show dR v T = dF v from if_pos ho).symm ?_
        exact k273
      · have e1 : dOb v = 0 := if_neg ho
        refine gg_iload_n K (i := 2) dL_act_251 rfl rfl ?_
        refine gg_if_eq K (tgt := 260) dL_act_252 (by decide) (fun h252 => ?_) (fun h252 => ?_)
        rotate_left
        · exact absurd e1 h252
        refine gg_iload_n K (i := 1) dL_act_260 rfl rfl ?_
        refine gg_bipush K (v := 9) dL_act_261 (by decide) ?_
        refine gg_ishr K dL_act_263 ?_
        refine gg_aload_n K (i := 0) dL_act_264 rfl rfl ?_
        refine gg_callRX K k_L_X0_today x_today dL_act_265 rfl rfl rfl rfl ⟨rfl, rfl⟩ ?_
        refine gg_iconst K (v := 1) dL_act_268 (by decide) ?_
        refine gg_iadd K dL_act_269 ?_
        refine gg_callSR K k_L_L_low (n_low (fun z => by
          rw [nI_1] at z
          have := i_eq (b := 0) z
          omega)) dL_act_270 rfl rfl rfl rfl ⟨rfl, rfl⟩ ?_
        refine gg_top (y := dR v T) (show dR v T = _ from if_neg ho).symm ?_
        exact k273
    refine gg_iconst K (v := 0) dL_act_273 (by decide) ?_
    refine gg_callJH (wc := wX Z X k kp dr (nI T)) (wr := []) [0, 1, 2, 3] [] rfl rfl rfl K T9 k_L_L_does (c_does hl0 ok hv) dL_act_274 rfl rfl rfl rfl (fun v0 u h => ?_)
    obtain ⟨r, k', kp', dr', T', rfl, rfl, ok', hS⟩ := h
    refine gg_goto K (tgt := 315) dL_act_277 (by decide) ?_
    exact gg_x (gg_iret K hr dL_act_315 (Nat.le_of_ble_eq_true rfl) (Nat.le_of_ble_eq_true rfl) ⟨r, k', kp', dr', T', rfl, rfl, ok', by unfold sAct; rw [if_pos h163, if_pos h210, if_neg h241]; exact hS⟩)
  refine gg_aload_n K (i := 0) dL_act_280 rfl rfl ?_
  refine gg_iconst K (v := 4) dL_act_281 (by decide) ?_
  refine gg_iconst K (v := 0) dL_act_282 (by decide) ?_
  refine gg_iconst K (v := 0) dL_act_283 (by decide) ?_
  refine gg_cut 310 [(7, .int (dQ v)), (6, .int (dF v)), (5, .int (dY v)), (4, .int (dT v)), (3, .int (lowF v 20)), (2, .int (dOb v)), (0, .ref X.1), (1, .int v)] [.int (dP v), .int 0, .int 0, .int 4, .ref X.1] ?_ (fun k310 => ?_)
  rotate_left
  · by_cases ho : oddP v
    · have e1 : dOb v = 1 := if_pos ho
      refine gg_iload_n K (i := 2) dL_act_284 rfl rfl ?_
      refine gg_if_eq K (tgt := 300) dL_act_285 (by decide) (fun h285 => ?_) (fun h285 => ?_)
      · exact absurd (e1.symm.trans h285) (by decide)
      refine gg_iload_n K (i := 1) dL_act_288 rfl rfl ?_
      refine gg_bipush K (v := 6) dL_act_289 (by decide) ?_
      refine gg_ishr K dL_act_291 ?_
      refine gg_bipush K (v := 70) dL_act_292 (by decide) ?_
      refine gg_callSR K k_L_L_low (n_low (by decide)) dL_act_294 rfl rfl rfl rfl ⟨rfl, rfl⟩ ?_
      refine gg_goto K (tgt := 310) dL_act_297 (by decide) ?_
      refine gg_top (y := dP v) (show dP v = _ from if_pos ho).symm ?_
      exact k310
    · have e1 : dOb v = 0 := if_neg ho
      refine gg_iload_n K (i := 2) dL_act_284 rfl rfl ?_
      refine gg_if_eq K (tgt := 300) dL_act_285 (by decide) (fun h285 => ?_) (fun h285 => ?_)
      rotate_left
      · exact absurd e1 h285
      refine gg_iconst K (v := 1) dL_act_300 (by decide) ?_
      refine gg_iload_n K (i := 1) dL_act_301 rfl rfl ?_
      refine gg_bipush K (v := 6) dL_act_302 (by decide) ?_
      refine gg_ishr K dL_act_304 ?_
      refine gg_iconst K (v := 5) dL_act_305 (by decide) ?_
      refine gg_callSR K k_L_L_low (n_low (by decide)) dL_act_306 rfl rfl rfl rfl ⟨rfl, rfl⟩ ?_
      refine gg_iadd K dL_act_309 ?_
      refine gg_top (y := dP v) (show dP v = _ from if_neg ho).symm ?_
      exact k310
  refine gg_iconst K (v := 0) dL_act_310 (by decide) ?_
  refine gg_iconst K (v := 0) dL_act_311 (by decide) ?_
  refine gg_callJH (wc := wX Z X k kp dr (nI T)) (wr := []) [0, 1, 2, 3] [] rfl rfl rfl K T9 k_L_L_does (c_does hl0 ok hv) dL_act_312 rfl rfl rfl rfl (fun v0 u h => ?_)
  obtain ⟨r, k', kp', dr', T', rfl, rfl, ok', hS⟩ := h
  exact gg_x (gg_iret K hr dL_act_315 (Nat.le_of_ble_eq_true rfl) (Nat.le_of_ble_eq_true rfl) ⟨r, k', kp', dr', T', rfl, rfl, ok', by unfold sAct; rw [if_pos h163, if_pos h210, if_pos h241]; exact hS⟩)
