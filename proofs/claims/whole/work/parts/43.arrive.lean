/-! an hour's arrivals -/
def arrB (h : Hp) (nw r : Nat) : Bool := decide (r < pC h 2 ∧ pI h 45 0 r = 2 ∧ pI h 49 0 r = nI nw)
def crw (h : Hp) (r : Nat) : Nat := match pR h 2 r 4 with
  | none => 99
  | some c => c
def rfc (h : Hp) (c : Nat) : Nat := match pR h 0 c 3 with
  | none => 99
  | some r => r
def abB (h : Hp) (nw c : Nat) : Bool := decide (c < pC h 0 ∧ pR h 0 c 3 ≠ none ∧ arrB h nw (rfc h c) = true)
def wkB (h : Hp) (nw c : Nat) : Bool := decide (c < pC h 0 ∧ pI h 51 0 c = 2 ∧ pI h 54 0 c = nI nw)
theorem crw_S {h : Hp} {r c : Nat} (e : pR h 2 r 4 = some c) : crw h r = c := by unfold crw; rw [e]
theorem rfc_S {h : Hp} {r c : Nat} (e : pR h 0 c 3 = some r) : rfc h c = r := by unfold rfc; rw [e]
def x0W (h : Hp) (nw i : Nat) : Nat → Nat → Int32 := upk id (wkB h nw) (fun c => up1 (up1 (pI h 0 c) 4 (-1)) 5 (nI nw)) (pI h 0) i
def x0I (h : Hp) (nw i : Nat) : Nat → Nat → Int32 := upk id (abB h nw) (fun c => up1 (pI h 0 c) 5 (nI nw)) (x0W h nw i) i
def x0V (h : Hp) (nw i : Nat) : Nat → Nat → Option Nat := upk id (wkB h nw) (fun c => up1 (pR h 0 c) 2 (pR h 0 c 1)) (pR h 0) i
def x0R (h : Hp) (nw i : Nat) : Nat → Nat → Option Nat := upk id (abB h nw) (fun c => up1 (up1 (pR h 0 c) 3 none) 2 (pR h 2 (rfc h c) 3)) (x0V h nw i) i
def x2I (h : Hp) (nw i : Nat) : Nat → Nat → Int32 := upk (crw h) (arrB h nw) (fun r => up1 (pI h 2 r) 5 (-1)) (pI h 2) i
def x2R (h : Hp) (nw i : Nat) : Nat → Nat → Option Nat := upk (crw h) (arrB h nw) (fun r => up1 (pR h 2 r) 4 none) (pR h 2) i
def ArrC (h : Hp) (nw i : Nat) (g : Hp) : Prop := pI g 0 = x0I h nw i ∧ pR g 0 = x0R h nw i ∧ pI g 2 = x2I h nw i ∧ pR g 2 = x2R h nw i ∧ (∀ k, isM k = false → k ≠ 0 → k ≠ 2 → pI g k = pI h k ∧ pR g k = pR h k) ∧ ∀ k, isM k = false → pL g k = pL h k ∧ pC g k = pC h k
theorem ArrC.same {h g : Hp} {nw i : Nat} (a : ArrC h nw i g) (h1 : abB h nw i = false) (h2 : wkB h nw i = false) (h3 : ∀ r, arrB h nw r = true → crw h r ≠ i) : ArrC h nw (i + 1) g := by
  obtain ⟨a1, a2, a3, a4, a5, a6⟩ := a
  have n1 : ∀ c, abB h nw c = true → id c ≠ i := fun c hc e => by rw [show c = i from e, h1] at hc; cases hc
  have n2 : ∀ c, wkB h nw c = true → id c ≠ i := fun c hc e => by rw [show c = i from e, h2] at hc; cases hc
  refine ⟨?_, ?_, ?_, ?_, a5, a6⟩
  · rw [a1]; unfold x0I x0W; rw [upk_f n1, upk_f n2]
  · rw [a2]; unfold x0R x0V; rw [upk_f n1, upk_f n2]
  · rw [a3]; unfold x2I; rw [upk_f h3]
  · rw [a4]; unfold x2R; rw [upk_f h3]
section OPS
variable {nw : Nat} {z : Nat → Nat} {ro : Nat → Nat → Nat} {w : Nat → Nat} {tt : Nat → Nat → Nat} {q0 : Nat} {h : Hp}
theorem SimG.state2g (I : SimG nw z ro w tt q0 h) {g : Hp} {r : Nat} (hr : r < pC h 2) (g1 : pI g 2 r = pI h 2 r) (g2 : pR g 2 r = pR h 2 r) : F_X2_state r g = some (pI h 45 0 r, g) := by
  obtain ⟨⟨-, a2, a5, -⟩, b⟩ := I.rf r hr
  rw [F_X2_state, g1, g2, a2, a5]
  rcases b with ⟨b1, b2, b3, b4, b5, b6⟩ | ⟨b1, b2, b3, b4, b5, b6⟩ | ⟨b1, b2, b3, ⟨c, c1, c2, -⟩, b5⟩ | ⟨b1, b2, b3, ⟨c, c1, c2, -⟩, a, a1, a3, a4⟩
  · rw [if_pos b2, b1]
  · rw [if_neg b2, b4, e_onnN, b1]
  · rw [if_neg b2, c2, e_onnS, if_pos b5, b1]
  · rw [if_neg b2, c2, e_onnS, a4, q_m1 (by omega), b1]
/-- a raft that comes: its crew -/
theorem SimG.arrS (I : SimG nw z ro w tt q0 h) {r : Nat} (ha : arrB h nw r = true) : r < pC h 2 ∧ pI h 45 0 r = 2 ∧ pI h 49 0 r = nI nw ∧ pI h 47 0 r ≠ 0 ∧ (∃ p, p < pC h 4 ∧ pR h 2 r 3 = some p ∧ pI h 46 0 r = nI p) ∧ ∃ c, c < pC h 0 ∧ pR h 2 r 4 = some c ∧ pI h 48 0 r = nI c ∧ pR h 0 c 3 = some r ∧ crw h r = c ∧ rfc h c = r ∧ abB h nw c = true ∧ wkB h nw c = false := by
  obtain ⟨h1, h2, h3⟩ := of_decide_eq_true ha
  obtain ⟨-, b⟩ := I.rf r h1
  rcases b with ⟨b1, -⟩ | ⟨b1, -⟩ | ⟨b1, -⟩ | ⟨b1, b2, b3, ⟨c, c1, c2, c3, c4⟩, -⟩
  · rw [h2] at b1; exact absurd b1 (by decide)
  · rw [h2] at b1; exact absurd b1 (by decide)
  · rw [h2] at b1; exact absurd b1 (by decide)
  · refine ⟨h1, h2, h3, b2, b3, c, c1, c2, c3, c4, crw_S c2, rfc_S c4, decide_eq_true ⟨c1, by rw [c4]; simp, by rw [rfc_S c4]; exact ha⟩, decide_eq_false (fun ⟨_, q, _⟩ => ?_)⟩
    obtain ⟨-, s⟩ := I.cr.1 c c1
    rcases s with ⟨s1, -⟩ | ⟨s1, -⟩ | ⟨s1, s2, s3, -⟩
    · rw [s1] at q; exact absurd q (by decide)
    · rw [s1] at q; exact absurd q (by decide)
    · rw [c4] at s3; cases s3
theorem SimG.abS (I : SimG nw z ro w tt q0 h) {c : Nat} (ha : abB h nw c = true) : c < pC h 0 ∧ ∃ r, pR h 0 c 3 = some r ∧ rfc h c = r ∧ arrB h nw r = true ∧ pR h 2 r 4 = some c ∧ crw h r = c ∧ pI h 51 0 c = 1 ∧ pI h 0 c 4 = -1 ∧ wkB h nw c = false := by
  obtain ⟨h1, h2, h3⟩ := of_decide_eq_true ha
  obtain ⟨-, s⟩ := I.cr.1 c h1
  rcases s with ⟨s1, s2, s3, -⟩ | ⟨s1, s2, ⟨r, r1, r2, r3, r4⟩, s4, -⟩ | ⟨s1, s2, s3, -⟩
  · exact absurd s3 h2
  · refine ⟨h1, r, r2, rfc_S r2, by rw [← rfc_S r2]; exact h3, r3, crw_S r3, s1, s4, decide_eq_false (fun ⟨_, q, _⟩ => ?_)⟩
    rw [s1] at q; exact absurd q (by decide)
  · exact absurd s3 h2
theorem SimG.wkS (I : SimG nw z ro w tt q0 h) {c : Nat} (ha : wkB h nw c = true) : c < pC h 0 ∧ pI h 51 0 c = 2 ∧ pR h 0 c 2 = none ∧ pR h 0 c 3 = none ∧ pI h 0 c 4 = nI nw ∧ pI h 54 0 c = nI nw ∧ abB h nw c = false ∧ ∃ p, p < pC h 4 ∧ pR h 0 c 1 = some p ∧ pI h 50 0 c = nI p := by
  obtain ⟨h1, h2, h3⟩ := of_decide_eq_true ha
  obtain ⟨⟨-, q⟩, s⟩ := I.cr.1 c h1
  rcases s with ⟨s1, -⟩ | ⟨s1, -⟩ | ⟨s1, s2, s3, a, s4, s5, s6, s7⟩
  · rw [s1] at h2; exact absurd h2 (by decide)
  · rw [s1] at h2; exact absurd h2 (by decide)
  · exact ⟨h1, s1, s2, s3, by rw [s6, ← s7]; exact h3, h3, decide_eq_false (fun ⟨_, q, _⟩ => q s3), q⟩
theorem arrC_step (I : SimG nw z ro w tt q0 h) {i : Nat} {g : Hp} (hi : i < pC h 0) (a : ArrC h nw i g) : ∃ g1, F_X0_comeBy i (nI nw) g = some ((), g1) ∧ ArrC h nw (i + 1) g1 ∧ ME g g1 := by
  obtain ⟨a1, a2, a3, a4, a5, a6⟩ := id a
  obtain ⟨n1, n2, n3⟩ := I.gnw
  have c0 : pI g 0 i = pI h 0 i := by rw [a1]; unfold x0I x0W; rw [upk_at (Nat.lt_irrefl i), upk_at (Nat.lt_irrefl i)]
  have c1 : pR g 0 i = pR h 0 i := by rw [a2]; unfold x0R x0V; rw [upk_at (Nat.lt_irrefl i), upk_at (Nat.lt_irrefl i)]
  obtain ⟨⟨-, q⟩, s⟩ := I.cr.1 i hi
  have nor : pR h 0 i 3 = none → ∀ r, arrB h nw r = true → crw h r ≠ i := by
    intro e r hr hc
    obtain ⟨-, -, -, -, -, c, d1, d2, d3, d4, d5, -⟩ := I.arrS hr
    rw [d5] at hc; subst hc; rw [e] at d4; cases d4
  rcases s with ⟨s1, s2, s3, s4, -⟩ | ⟨s1, s2, ⟨r, r1, r2, r3, r4⟩, s4, -⟩ | ⟨s1, s2, s3, b, s4, s5, s6, s7⟩
  · refine ⟨g, ?_, a.same (decide_eq_false (fun e => e.2.1 s3)) (decide_eq_false (fun e => by rw [s1] at e; exact absurd e.2.1 (by decide))) (nor s3), ME.refl g⟩
    rw [F_X0_comeBy, c0, s4, if_pos rfl, c1, s3, e_onnN]
  · have e1 : pI g 2 r = pI h 2 r := by rw [a3]; unfold x2I; rw [upk_at (by rw [crw_S r3]; exact Nat.lt_irrefl i)]
    have e2 : pR g 2 r = pR h 2 r := by rw [a4]; unfold x2R; rw [upk_at (by rw [crw_S r3]; exact Nat.lt_irrefl i)]
    have wk : wkB h nw i = false := decide_eq_false (fun e => by rw [s1] at e; exact absurd e.2.1 (by decide))
    have uniq : ∀ r', arrB h nw r' = true → crw h r' = i → r' = r := by
      intro r' hr' hc
      obtain ⟨-, -, -, -, -, c, d1, d2, d3, d4, d5, -⟩ := I.arrS hr'
      rw [d5] at hc; subst hc; rw [r2] at d4; cases d4; rfl
    have same : arrB h nw r = false → ArrC h nw (i + 1) g := fun hr => a.same (decide_eq_false (fun e => by rw [rfc_S r2, hr] at e; cases e.2.2)) wk (fun r' hr' hc => by rw [uniq r' hr' hc, hr] at hr'; cases hr')
    rw [F_X0_comeBy, c0, s4, if_pos rfl, c1, r2, e_onnS, I.state2g r1 e1 e2, e_cl]
    by_cases c2 : pI h 45 0 r = 2
    rotate_left
    · exact ⟨g, by rw [if_neg c2], same (decide_eq_false (fun e => c2 e.2.1)), ME.refl g⟩
    obtain ⟨⟨-, -, b5, -⟩, b⟩ := I.rf r r1
    obtain ⟨av, v1, v2, v3⟩ : ∃ a, nw ≤ a ∧ a ≤ 30000 ∧ pI h 49 0 r = nI a := by
      rcases b with ⟨b1, -⟩ | ⟨b1, -⟩ | ⟨b1, -⟩ | ⟨-, -, -, -, b⟩
      · rw [c2] at b1; exact absurd b1 (by decide)
      · rw [c2] at b1; exact absurd b1 (by decide)
      · rw [c2] at b1; exact absurd b1 (by decide)
      · exact b
    rw [if_pos c2, c1, r2, e_nn, e1, b5, v3]
    by_cases c3 : nw < av
    · exact ⟨g, by rw [q_lt c3 (by omega)], same (decide_eq_false (fun e => by rw [v3] at e; have := e.2.2; rw [i_eq (by omega) (by omega)] at this; omega)), ME.refl g⟩
    have : av = nw := by omega
    subst this
    have har : arrB h av r = true := decide_eq_true ⟨r1, c2, v3⟩
    have hab : abB h av i = true := decide_eq_true ⟨hi, by rw [r2]; simp, by rw [rfc_S r2]; exact har⟩
    refine ⟨(wI (wI (wR (wR (wR g 0 i 3 none) 0 i 2 (pR h 2 r 3)) 2 r 4 none) 2 r 5 (-1)) 0 i 5 (nI av)), ?_, ?_, ?_⟩
    · rw [q_nlt (Nat.le_refl _) (by omega), F_X2_landCrew, e2, r3, e_onnS]
      simp (disch := omega) only [e_nn, e_onnN, e_onnS, e_ck, e_lt, e_cl, F_within, F_in, isz0, isz1, i10, ↓reduceIte, sl_RI, sl_CI, sl_LI, sl_IR, sl_CR, sl_LR, sl_II, sl_Ie, sl_RR, sl_Re, sl_CN, sl_Ce, sl_LN, sl_Le, sl_IN, sl_INe, sl_RN, sl_RNe, up2_s, up2_n, up1_s, up1_n, upN_s, upN_n, ne_eq, not_false_eq_true, reduceCtorEq, e2]
    · have n1 : ∀ c, wkB h av c = true → id c ≠ i := fun c hc e => by rw [show c = i from e, wk] at hc; cases hc
      refine ⟨?_, ?_, ?_, ?_, ?_, ?_⟩
      · simp (disch := omega) only [sl_RI, sl_CI, sl_LI, sl_IR, sl_CR, sl_LR, sl_II, sl_Ie, sl_RR, sl_Re, sl_CN, sl_Ce, sl_LN, sl_Le, sl_IN, sl_INe, sl_RN, sl_RNe, up2_s, up2_n, up1_s, up1_n, upN_s, upN_n, ne_eq, not_false_eq_true, reduceCtorEq]
        rw [up2_up1, c0, a1]; unfold x0I x0W
        rw [upk_f n1, upk_s (κ := id) (i := i) (r := i) hab rfl (fun r' _ e => e)]
      · simp (disch := omega) only [sl_RI, sl_CI, sl_LI, sl_IR, sl_CR, sl_LR, sl_II, sl_Ie, sl_RR, sl_Re, sl_CN, sl_Ce, sl_LN, sl_Le, sl_IN, sl_INe, sl_RN, sl_RNe, up2_s, up2_n, up1_s, up1_n, upN_s, upN_n, ne_eq, not_false_eq_true, reduceCtorEq]
        rw [up2_up1, up2_up1, up1_up1, up1_s, c1, a2]; unfold x0R x0V
        rw [upk_f n1, upk_s (κ := id) (i := i) (r := i) hab rfl (fun r' _ e => e), rfc_S r2]
      · simp (disch := omega) only [sl_RI, sl_CI, sl_LI, sl_IR, sl_CR, sl_LR, sl_II, sl_Ie, sl_RR, sl_Re, sl_CN, sl_Ce, sl_LN, sl_Le, sl_IN, sl_INe, sl_RN, sl_RNe, up2_s, up2_n, up1_s, up1_n, upN_s, upN_n, ne_eq, not_false_eq_true, reduceCtorEq]
        rw [up2_up1, e1, a3]; unfold x2I
        rw [upk_s (r := r) har (crw_S r3) uniq]
      · simp (disch := omega) only [sl_RI, sl_CI, sl_LI, sl_IR, sl_CR, sl_LR, sl_II, sl_Ie, sl_RR, sl_Re, sl_CN, sl_Ce, sl_LN, sl_Le, sl_IN, sl_INe, sl_RN, sl_RNe, up2_s, up2_n, up1_s, up1_n, upN_s, upN_n, ne_eq, not_false_eq_true, reduceCtorEq]
        rw [up2_up1, e2, a4]; unfold x2R
        rw [upk_s (r := r) har (crw_S r3) uniq]
      · intro k hk k0 k2
        simp (disch := omega) only [sl_RI, sl_CI, sl_LI, sl_IR, sl_CR, sl_LR, sl_II, sl_Ie, sl_RR, sl_Re, sl_CN, sl_Ce, sl_LN, sl_Le, sl_IN, sl_INe, sl_RN, sl_RNe, up2_s, up2_n, up1_s, up1_n, upN_s, upN_n, ne_eq, not_false_eq_true, reduceCtorEq]
        exact a5 k hk k0 k2
      · intro k hk
        simp (disch := omega) only [sl_RI, sl_CI, sl_LI, sl_IR, sl_CR, sl_LR, sl_II, sl_Ie, sl_RR, sl_Re, sl_CN, sl_Ce, sl_LN, sl_Le, sl_IN, sl_INe, sl_RN, sl_RNe, up2_s, up2_n, up1_s, up1_n, upN_s, upN_n, ne_eq, not_false_eq_true, reduceCtorEq]
        exact a6 k hk
    · exact ((((((ME.refl g).wRr (by decide)).wRr (by decide)).wRr (by decide)).wIr (by decide)).wIr (by decide))
  · rw [F_X0_comeBy, c0, s6, q_m1 (by omega)]
    have ab : abB h nw i = false := decide_eq_false (fun e => e.2.1 s3)
    by_cases c3 : nw < b
    · refine ⟨g, by rw [q_lt c3 (by omega), c1, s3, e_onnN], a.same ab (decide_eq_false (fun e => by rw [s7] at e; have := e.2.2; rw [i_eq (by omega) (by omega)] at this; omega)) (nor s3), ME.refl g⟩
    have : b = nw := by omega
    subst this
    have hwk : wkB h b i = true := decide_eq_true ⟨hi, s1, s7⟩
    refine ⟨(wI (wI (wR g 0 i 2 (pR h 0 i 1)) 0 i 4 (-1)) 0 i 5 (nI b)), ?_, ?_, ?_⟩
    · rw [q_nlt (Nat.le_refl _) (by omega), c1]
      simp only [e_lt]
    · have n1 : ∀ c, abB h b c = true → id c ≠ i := fun c hc e => by rw [show c = i from e, ab] at hc; cases hc
      refine ⟨?_, ?_, ?_, ?_, ?_, ?_⟩
      · simp (disch := omega) only [sl_RI, sl_CI, sl_LI, sl_IR, sl_CR, sl_LR, sl_II, sl_Ie, sl_RR, sl_Re, sl_CN, sl_Ce, sl_LN, sl_Le, sl_IN, sl_INe, sl_RN, sl_RNe, up2_s, up2_n, up1_s, up1_n, upN_s, upN_n, ne_eq, not_false_eq_true, reduceCtorEq]
        rw [up2_up1, up2_up1, up1_up1, up1_s, c0, a1]; unfold x0I x0W
        rw [upk_f n1, upk_s (κ := id) (i := i) (r := i) hwk rfl (fun r' _ e => e), upk_b (κ := id) (i := i) (r := i) (Nat.lt_irrefl i)]
      · simp (disch := omega) only [sl_RI, sl_CI, sl_LI, sl_IR, sl_CR, sl_LR, sl_II, sl_Ie, sl_RR, sl_Re, sl_CN, sl_Ce, sl_LN, sl_Le, sl_IN, sl_INe, sl_RN, sl_RNe, up2_s, up2_n, up1_s, up1_n, upN_s, upN_n, ne_eq, not_false_eq_true, reduceCtorEq]
        rw [up2_up1, c1, a2]; unfold x0R x0V
        rw [upk_f n1, upk_s (κ := id) (i := i) (r := i) hwk rfl (fun r' _ e => e), upk_b (κ := id) (i := i) (r := i) (Nat.lt_irrefl i)]
      · simp (disch := omega) only [sl_RI, sl_CI, sl_LI, sl_IR, sl_CR, sl_LR, sl_II, sl_Ie, sl_RR, sl_Re, sl_CN, sl_Ce, sl_LN, sl_Le, sl_IN, sl_INe, sl_RN, sl_RNe, up2_s, up2_n, up1_s, up1_n, upN_s, upN_n, ne_eq, not_false_eq_true, reduceCtorEq]
        rw [a3]; unfold x2I; rw [upk_f (nor s3)]
      · simp (disch := omega) only [sl_RI, sl_CI, sl_LI, sl_IR, sl_CR, sl_LR, sl_II, sl_Ie, sl_RR, sl_Re, sl_CN, sl_Ce, sl_LN, sl_Le, sl_IN, sl_INe, sl_RN, sl_RNe, up2_s, up2_n, up1_s, up1_n, upN_s, upN_n, ne_eq, not_false_eq_true, reduceCtorEq]
        rw [a4]; unfold x2R; rw [upk_f (nor s3)]
      · intro k hk k0 k2
        simp (disch := omega) only [sl_RI, sl_CI, sl_LI, sl_IR, sl_CR, sl_LR, sl_II, sl_Ie, sl_RR, sl_Re, sl_CN, sl_Ce, sl_LN, sl_Le, sl_IN, sl_INe, sl_RN, sl_RNe, up2_s, up2_n, up1_s, up1_n, upN_s, upN_n, ne_eq, not_false_eq_true, reduceCtorEq]
        exact a5 k hk k0 k2
      · intro k hk
        simp (disch := omega) only [sl_RI, sl_CI, sl_LI, sl_IR, sl_CR, sl_LR, sl_II, sl_Ie, sl_RR, sl_Re, sl_CN, sl_Ce, sl_LN, sl_Le, sl_IN, sl_INe, sl_RN, sl_RNe, up2_s, up2_n, up1_s, up1_n, upN_s, upN_n, ne_eq, not_false_eq_true, reduceCtorEq]
        exact a6 k hk
    · exact (((ME.refl g).wRr (by decide)).wIr (by decide)).wIr (by decide)
theorem arrC_l (I : SimG nw z ro w tt q0 h) {β : Type} (ka : Hp → Option β) : ∀ m i f g, i + m = pC h 0 → m < f → ArrC h nw i g → ∃ g', L_X7_passHour_2 0 ka f (nI i) g = ka g' ∧ ArrC h nw (pC h 0) g' ∧ ME g g' := by
  obtain ⟨n1, n2, n3⟩ := I.gnw
  have hC := I.c_hC
  intro m
  induction m with
  | zero =>
    intro i f g hi hf a
    obtain ⟨f, rfl⟩ := fu_1 hf
    obtain ⟨a1, a2, a3, a4, a5, a6⟩ := id a
    refine ⟨g, ?_, by rw [show pC h 0 = i by omega]; exact a, ME.refl g⟩
    rw [L_X7_passHour_2, (a5 7 (by decide) (by decide) (by decide)).1, I.c_i7, q_le (by omega) (by omega)]
  | succ m ih =>
    intro i f g hi hf a
    obtain ⟨f, rfl⟩ := fu_1 hf
    obtain ⟨a1, a2, a3, a4, a5, a6⟩ := id a
    obtain ⟨g1, e1, b1, m1⟩ := arrC_step I (by omega) a
    obtain ⟨g', e, b, m2⟩ := ih (i + 1) f g1 (by omega) (by omega) b1
    refine ⟨g', ?_, b, m1.trans m2⟩
    rw [L_X7_passHour_2, (a5 7 (by decide) (by decide) (by decide)).1, I.c_i7, q_nle (by omega) (by omega), (a5 7 (by decide) (by decide) (by decide)).2, I.r7_6, e_nn, (a6 22 (by decide)).1, I.l22_0, i_inb (by omega) (by omega), e_ck, i_cl (by omega), (a5 22 (by decide) (by decide) (by decide)).2, I.a22 i (by omega), e_nn, n1, e1, e_cl, nI_1]
    exact e
theorem ArrC.start {g : Hp} (c : CE h g) : ArrC h nw 0 g := by
  refine ⟨?_, ?_, ?_, ?_, fun k hk _ _ => ⟨c.I hk, c.R hk⟩, fun k hk => ⟨c.L hk, c.C hk⟩⟩
  · unfold x0I x0W; rw [upk_0, upk_0]; exact c.I (by decide)
  · unfold x0R x0V; rw [upk_0, upk_0]; exact c.R (by decide)
  · unfold x2I; rw [upk_0]; exact c.I (by decide)
  · unfold x2R; rw [upk_0]; exact c.R (by decide)
end OPS
