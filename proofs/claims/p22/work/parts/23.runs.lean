/-! runs of a line of days: told by their numbers, walked one behind the other -/
def okF (f : Nat → Int32) : Prop := ∀ d, d < 60 → f d = -1 ∨ ∃ j, f d = nI j ∧ j < 100
theorem okF_of {V : VT} {T r l : Nat} (hv : valOk V T) (hr : r ≤ T) (hl : l < 16) : okF (V r l) := fun d hd => by
  rcases hv r l d hr hl hd with z | ⟨j, h1, h2, -⟩
  · exact Or.inl z
  · exact Or.inr ⟨j, h1, h2⟩
theorem stF_iff {f : Nat → Int32} {d : Nat} : stF f d = true ↔ ¬ f d = -1 ∧ (d = 0 ∨ ¬ f (d - 1) = f d) := ⟨fun h => of_decide_eq_true h, fun h => stF_t h.1 h.2⟩
theorem enF_spec (f : Nat → Int32) (v : Int32) : ∀ n d : Nat, (∀ x, d ≤ x → x < enF f v n d → f x = v) ∧ (enF f v n d < d + n → ¬ f (enF f v n d) = v)
  | 0, d => ⟨fun x h1 h2 => absurd h2 (by unfold enF; omega), fun h => absurd h (by unfold enF; omega)⟩
  | n + 1, d => by
    unfold enF
    by_cases h : f d = v
    · rw [if_pos h]
      obtain ⟨h1, h2⟩ := enF_spec f v n (d + 1)
      refine ⟨fun x h3 h4 => ?_, fun h3 => h2 (by omega)⟩
      by_cases hx : x = d
      · rw [hx]; exact h
      · exact h1 x (by omega) h4
    · rw [if_neg h]
      exact ⟨fun x h1 h2 => absurd h2 (by omega), fun _ => h⟩
theorem endF_in {f : Nat → Int32} {d x : Nat} (h1 : d ≤ x) (h2 : x < endF f d) : f x = f d := by
  by_cases hx : x = d
  · rw [hx]
  · exact (enF_spec f (f d) (59 - d) (d + 1)).1 x (by omega) h2
theorem endF_out {f : Nat → Int32} {d : Nat} (hd : d < 60) (h : endF f d < 60) : ¬ f (endF f d) = f d := (enF_spec f (f d) (59 - d) (d + 1)).2 (by unfold endF at h; omega)
/-- a run's number -/
theorem runN_nI {f : Nat → Int32} {d v : Nat} (h : f d = nI v) : runN f d = nI (10000 * d + 100 * endF f d + v) := by
  unfold runN
  rw [h, nI_mul, nI_mul, nI_add, nI_add]
theorem runN_inj {f g : Nat → Int32} {d e v w : Nat} (hd : d < 60) (he : e < 60) (hf : f d = nI v) (hg : g e = nI w) (hv : v < 100) (hw : w < 100) (h : runN f d = runN g e) : d = e ∧ endF f d = endF g e ∧ v = w := by
  rw [runN_nI hf, runN_nI hg] at h
  have h1 := endF_le (f := f) hd
  have h2 := endF_le (f := g) he
  have h3 := i_eq h
  omega
theorem run_from {d e v : Nat} (hd : d < 60) (he : e ≤ 60) (hv : v < 100) : nI (10000 * d + 100 * e + v) / nI 10000 = nI d := by
  rw [pk_div (by omega) (by omega) (by omega)]
  exact congrArg nI (by omega)
theorem run_to {d e v : Nat} (hd : d < 60) (he : e ≤ 60) (hv : v < 100) : nI (10000 * d + 100 * e + v) / nI 100 - nI (10000 * d + 100 * e + v) / nI 100 / nI 100 * nI 100 = nI e := by
  rw [pk_div (a := 10000 * d + 100 * e + v) (d := 100) (by omega) (by omega) (by omega), pk_rem (by omega) (by omega) (by omega)]
  exact congrArg nI (by omega)
theorem run_val {d e v : Nat} (hd : d < 60) (he : e ≤ 60) (hv : v < 100) : nI (10000 * d + 100 * e + v) - nI (10000 * d + 100 * e + v) / nI 100 * nI 100 = nI v := by
  rw [pk_rem (by omega) (by omega) (by omega)]
  exact congrArg nI (by omega)
theorem st_val {f : Nat → Int32} (hf : okF f) {d : Nat} (hd : d < 60) (h : stF f d = true) : ∃ v, f d = nI v ∧ v < 100 := (hf d hd).resolve_left (stF_iff.mp h).1
/-- no run begins from a border on: no values there -/
theorem gap_none {f : Nat → Int32} {a b : Nat} (h0 : a = 0 ∨ ¬ f (a - 1) = f a) (h : ∀ x, a ≤ x → x < b → stF f x = false) : ∀ n x : Nat, x = a + n → x < b → f x = -1
  | 0, x, e, hb => by
    have h1 := h x (by omega) hb
    rw [show a + 0 = a from rfl] at e
    subst e
    by_cases hx : f x = -1
    · exact hx
    · rw [stF_t hx h0] at h1
      cases h1
  | n + 1, x, e, hb => by
    have h1 := h x (by omega) hb
    have ih := gap_none h0 h n (x - 1) (by omega) (by omega)
    by_cases hx : f x = -1
    · exact hx
    · rw [stF_t hx (Or.inr (fun z => hx (by rw [← z]; exact ih)))] at h1
      cases h1
theorem ct_gap {q : Nat → Bool} {a b : Nat} (h : a ≤ b) (e : fb_ct q a = fb_ct q b) : ∀ x, a ≤ x → x < b → q x = false := fun x h1 h2 => by
  cases hq : q x with
  | false => rfl
  | true =>
    have h3 := fb_ct_mono q h1
    have h4 := fb_ct_mono q (show x + 1 ≤ b from h2)
    rw [fb_ct_succ, if_pos hq] at h4
    omega
theorem ct_skip {q : Nat → Bool} {a b : Nat} (h : a ≤ b) (e : ∀ x, a ≤ x → x < b → q x = false) : fb_ct q b = fb_ct q a := by
  have h1 := fb_ct_flat (q := q) (a := a) (n := b - a) (fun x h1 h2 => e x h1 (by omega))
  rwa [show a + (b - a) = b by omega] at h1
theorem lg_skip {f : Nat → Int32} {a : Nat} : ∀ n : Nat, (∀ x, a ≤ x → x < a + n → stF f x = false) → lgF f (a + n) = lgF f a
  | 0, _ => rfl
  | n + 1, h => by
    have h9 : ¬ stF f (a + n) = true := fun z => by
      rw [h (a + n) (by omega) (by omega)] at z
      cases z
    rw [show lgF f (a + (n + 1)) = lgF f (a + n) from if_neg h9]
    exact lg_skip n (fun x h1 h2 => h x h1 (by omega))
theorem sm_skip {f : Nat → Int32} {a : Nat} : ∀ n : Nat, (∀ x, a ≤ x → x < a + n → f x = -1) → smV f (a + n) = smV f a
  | 0, _ => rfl
  | n + 1, h => by
    rw [show smV f (a + (n + 1)) = smV f (a + n) from if_pos (h (a + n) (by omega) (by omega))]
    exact sm_skip n (fun x h1 h2 => h x h1 (by omega))
theorem sm_run {f : Nat → Int32} {a v : Nat} (hv : v < 100) : ∀ n : Nat, (∀ x, a ≤ x → x < a + n → f x = nI v) → smV f (a + n) = smV f a + nI (n * v)
  | 0, _ => by rw [Nat.zero_mul]; exact (Int32.add_zero _).symm
  | n + 1, h => by
    have h1 := h (a + n) (by omega) (by omega)
    have h9 : ¬ f (a + n) = -1 := by
      rw [h1]
      exact nI_m1 (by omega)
    rw [show smV f (a + (n + 1)) = smV f (a + n) + f (a + n) from if_neg h9, sm_run hv n (fun x h1 h2 => h x h1 (by omega)), h1, Int32.add_assoc, nI_add, Nat.succ_mul]
theorem ct_run {f : Nat → Int32} {a v : Nat} (hv : v < 100) : ∀ n : Nat, (∀ x, a ≤ x → x < a + n → f x = nI v) → ctV f (a + n) = ctV f a + n
  | 0, _ => rfl
  | n + 1, h => by
    have h1 := h (a + n) (by omega) (by omega)
    have ih := ct_run hv n (fun x h1 h2 => h x h1 (by omega))
    unfold ctV at ih ⊢
    rw [show a + (n + 1) = (a + n) + 1 from rfl, fb_ct_succ, if_pos (bP_t (by rw [h1]; exact nI_m1 (by omega))), ih]
    omega
theorem ct_skipV {f : Nat → Int32} {a b : Nat} (h : a ≤ b) (e : ∀ x, a ≤ x → x < b → f x = -1) : ctV f b = ctV f a := ct_skip h (fun x h1 h2 => bP_f (fun z => z (e x h1 h2)))
/-- the walk stands behind k runs, at the border en -/
def atR (f : Nat → Int32) (k en : Nat) : Prop := en ≤ 60 ∧ fb_ct (stF f) en = k ∧ (k = 0 → en = 0) ∧ (en = 0 → k = 0) ∧ (en = 0 ∨ en = 60 ∨ ¬ f (en - 1) = f en)
theorem atR_0 (f : Nat → Int32) : atR f 0 0 := ⟨by omega, rfl, fun _ => rfl, fun _ => rfl, Or.inl rfl⟩
/-- the next run: where it begins and ends, and what the walk has then -/
theorem atR_next {f : Nat → Int32} (hf : okF f) {k en : Nat} (h : atR f k en) (hk : k < fb_ct (stF f) 60) :
    ∃ s v, kthD (stF f) k 60 = s ∧ s < 60 ∧ en ≤ s ∧ f s = nI v ∧ v < 100 ∧ s < endF f s ∧ endF f s ≤ 60 ∧ f (endF f s - 1) = nI v ∧ (en < s → f (s - 1) = -1) ∧ (¬ k = 0 → en = s → ¬ f (en - 1) = nI v) ∧ atR f (k + 1) (endF f s) ∧ lgF f (endF f s) = (if lgF f en < endF f s - s then endF f s - s else lgF f en) ∧ ctV f (endF f s) = ctV f en + (endF f s - s) ∧ smV f (endF f s) = smV f en + nI ((endF f s - s) * v) := by
  obtain ⟨h1, h2, h3, h4, h5⟩ := h
  obtain ⟨g1, g2, g3⟩ := kthD_at hk
  generalize kthD (stF f) k 60 = s at g1 g2 g3
  obtain ⟨v, v1, v2⟩ := st_val hf g1 g2
  have e1 := endF_gt f s
  have e2 := endF_le (f := f) g1
  have hen : en ≤ s := by
    apply Nat.not_lt.mp
    intro hlt
    have := fb_ct_mono (stF f) (show s + 1 ≤ en from hlt)
    rw [fb_ct_succ, if_pos g2] at this
    omega
  have hgap := ct_gap hen (h2.trans g3.symm)
  have hb : en < s → (en = 0 ∨ ¬ f (en - 1) = f en) := fun hlt => h5.elim Or.inl (fun z => z.elim (fun z => absurd z (by omega)) Or.inr)
  have hno : ∀ x, en ≤ x → x < s → f x = -1 := fun x x1 x2 => gap_none (hb (by omega)) hgap (x - en) x (by omega) x2
  have hin : ∀ x, s ≤ x → x < endF f s → f x = nI v := fun x x1 x2 => (endF_in x1 x2).trans v1
  have hst : ∀ x, s + 1 ≤ x → x < endF f s → stF f x = false := fun x x1 x2 => stF_f (fun z => by
    rcases z.2 with z1 | z1
    · omega
    · exact z1 ((hin (x - 1) (by omega) (by omega)).trans (hin x (by omega) x2).symm))
  have hlast := hin (endF f s - 1) (by omega) (by omega)
  have c1 : fb_ct (stF f) (endF f s) = k + 1 := by
    rw [ct_skip (show s + 1 ≤ endF f s from e1) hst, fb_ct_succ, if_pos g2, g3]
  refine ⟨s, v, rfl, g1, hen, v1, v2, e1, e2, hlast, fun hlt => hno (s - 1) (by omega) (by omega), fun hk0 he => ?_, ⟨e2, c1, by omega, by omega, ?_⟩, ?_, ?_, ?_⟩
  · subst he
    rcases (stF_iff.mp g2).2 with z | z
    · exact absurd (h4 z) hk0
    · rw [v1] at z; exact z
  · by_cases h60 : endF f s = 60
    · exact Or.inr (Or.inl h60)
    · refine Or.inr (Or.inr (fun z => endF_out (f := f) g1 (by omega) ?_))
      rw [← z, hlast, v1]
  · have l1 : lgF f s = lgF f en := by
      have := lg_skip (f := f) (a := en) (s - en) (fun x x1 x2 => hgap x x1 (by omega))
      rwa [show en + (s - en) = s by omega] at this
    have l2 : lgF f (endF f s) = lgF f (s + 1) := by
      have := lg_skip (f := f) (a := s + 1) (endF f s - (s + 1)) (fun x x1 x2 => hst x x1 (by omega))
      rwa [show s + 1 + (endF f s - (s + 1)) = endF f s by omega] at this
    rw [l2, show lgF f (s + 1) = _ from if_pos g2, l1]
  · have l1 := ct_skipV hen hno
    have l2 := ct_run (f := f) (a := s) v2 (endF f s - s) (fun x x1 x2 => hin x x1 (by omega))
    rw [show s + (endF f s - s) = endF f s by omega] at l2
    omega
  · have l1 := sm_skip (f := f) (a := en) (s - en) (fun x x1 x2 => hno x x1 (by omega))
    rw [show en + (s - en) = s by omega] at l1
    have l2 := sm_run (f := f) (a := s) v2 (endF f s - s) (fun x x1 x2 => hin x x1 (by omega))
    rw [show s + (endF f s - s) = endF f s by omega] at l2
    rw [l2, l1]
/-- behind the last run -/
theorem atR_end {f : Nat → Int32} {k en : Nat} (h : atR f k en) (hk : fb_ct (stF f) 60 ≤ k) : (en = 60 ∨ f en = -1) ∧ lgF f 60 = lgF f en ∧ ctV f 60 = ctV f en ∧ smV f 60 = smV f en := by
  obtain ⟨h1, h2, h3, h4, h5⟩ := h
  have hm := fb_ct_mono (stF f) h1
  have hgap := ct_gap (q := stF f) h1 (by omega)
  by_cases h60 : en = 60
  · subst h60
    exact ⟨Or.inl rfl, rfl, rfl, rfl⟩
  have hb : en = 0 ∨ ¬ f (en - 1) = f en := h5.elim Or.inl (fun z => z.elim (fun z => absurd z h60) Or.inr)
  have hno : ∀ x, en ≤ x → x < 60 → f x = -1 := fun x x1 x2 => gap_none hb hgap (x - en) x (by omega) x2
  refine ⟨Or.inr (hno en (by omega) (by omega)), ?_, ct_skipV h1 hno, ?_⟩
  · have := lg_skip (f := f) (a := en) (60 - en) (fun x x1 x2 => hgap x x1 (by omega))
    rwa [show en + (60 - en) = 60 by omega] at this
  · have := sm_skip (f := f) (a := en) (60 - en) (fun x x1 x2 => hno x x1 (by omega))
    rwa [show en + (60 - en) = 60 by omega] at this
/-- among the runs of a day of record -/
def amongR (f : Nat → Int32) (run : Int32) (k : Nat) : Prop := ∃ i, i < k ∧ runN f (kthD (stF f) i 60) = run
theorem among_iff {f g : Nat → Int32} (hf : okF f) (hg : okF g) {d : Nat} (hd : d < 60) (hs : stF g d = true) : amongR f (runN g d) (fb_ct (stF f) 60) ↔ smF g f d = true := by
  obtain ⟨w, w1, w2⟩ := st_val hg hd hs
  constructor
  · rintro ⟨i, hi, e⟩
    obtain ⟨g1, g2, g3⟩ := kthD_at hi
    obtain ⟨v, v1, v2⟩ := st_val hf g1 g2
    obtain ⟨a, b, cc⟩ := runN_inj g1 hd v1 w1 v2 w2 e
    rw [a] at g2 b v1
    exact bP_t ⟨g2, by rw [v1, w1, cc], b⟩
  · intro h
    obtain ⟨h1, h2, h3⟩ := bP_iff.mp h
    have hc : fb_ct (stF f) d < fb_ct (stF f) 60 := by
      have h6 := fb_ct_mono (stF f) (show d + 1 ≤ 60 by omega)
      rw [fb_ct_succ, if_pos h1] at h6
      omega
    refine ⟨fb_ct (stF f) d, hc, ?_⟩
    rw [kthD_eq h1 rfl hd]
    unfold runN
    rw [h2, h3]
/-- joined runs are no fewer -/
theorem joined_ge {V : VT} {r y : Nat} : fb_ct (stF (V r (8 + y))) 60 ≤ fb_ct (jsF V r y) 60 := fb_ct_sub (fun d _ h => bP_t ⟨(stF_iff.mp h).1, Or.inl h⟩)
/-- the bits of a set of keys -/
def bit8 (b : Bool) (k : Nat) (s : Int32) : Int32 := if b = true then s else s ||| (1 <<< (nI k &&& 31))
theorem bits8 : ∀ b0 b1 b2 b3 b4 b5 b6 b7 : Bool, ∀ j : Fin 8, (bit8 b7 7 (bit8 b6 6 (bit8 b5 5 (bit8 b4 4 (bit8 b3 3 (bit8 b2 2 (bit8 b1 1 (bit8 b0 0 0))))))) >>> (nI j &&& 31)) &&& 1 = (if (match j with | 0 => b0 | 1 => b1 | 2 => b2 | 3 => b3 | 4 => b4 | 5 => b5 | 6 => b6 | 7 => b7) = true then 0 else 1) := by decide +kernel
theorem kyF_8 (g : Nat → Int32) : kyF g 8 = bit8 (decide (g 7 = -1)) 7 (bit8 (decide (g 6 = -1)) 6 (bit8 (decide (g 5 = -1)) 5 (bit8 (decide (g 4 = -1)) 4 (bit8 (decide (g 3 = -1)) 3 (bit8 (decide (g 2 = -1)) 2 (bit8 (decide (g 1 = -1)) 1 (bit8 (decide (g 0 = -1)) 0 0))))))) := by
  simp only [kyF, bit8, decide_eq_true_eq]
theorem kyF_bit (g : Nat → Int32) {j : Nat} (hj : j < 8) : (kyF g 8 >>> (nI j &&& 31)) &&& 1 = if g j = -1 then 0 else 1 := by
  rw [kyF_8]
  rcases (show j = 0 ∨ j = 1 ∨ j = 2 ∨ j = 3 ∨ j = 4 ∨ j = 5 ∨ j = 6 ∨ j = 7 by omega) with rfl | rfl | rfl | rfl | rfl | rfl | rfl | rfl
  · refine (bits8 _ _ _ _ _ _ _ _ 0).trans ?_
    simp only [decide_eq_true_eq]
  · refine (bits8 _ _ _ _ _ _ _ _ 1).trans ?_
    simp only [decide_eq_true_eq]
  · refine (bits8 _ _ _ _ _ _ _ _ 2).trans ?_
    simp only [decide_eq_true_eq]
  · refine (bits8 _ _ _ _ _ _ _ _ 3).trans ?_
    simp only [decide_eq_true_eq]
  · refine (bits8 _ _ _ _ _ _ _ _ 4).trans ?_
    simp only [decide_eq_true_eq]
  · refine (bits8 _ _ _ _ _ _ _ _ 5).trans ?_
    simp only [decide_eq_true_eq]
  · refine (bits8 _ _ _ _ _ _ _ _ 6).trans ?_
    simp only [decide_eq_true_eq]
  · refine (bits8 _ _ _ _ _ _ _ _ 7).trans ?_
    simp only [decide_eq_true_eq]
