def y45 (h : Hp) (nw i : Nat) : Nat → Int32 := upk id (arrB h nw) (fun _ => 0) (pI h 45 0) i
def y48 (h : Hp) (nw i : Nat) : Nat → Int32 := upk id (arrB h nw) (fun _ => -1) (pI h 48 0) i
def y49 (h : Hp) (nw i : Nat) : Nat → Int32 := upk id (arrB h nw) (fun _ => -1) (pI h 49 0) i
def y51 (h : Hp) (nw i : Nat) : Nat → Int32 := upk (rfc h) (abB h nw) (fun _ => 0) (pI h 51 0) i
def y52 (h : Hp) (nw i : Nat) : Nat → Int32 := upk (rfc h) (abB h nw) (fun c => pI h 46 0 (rfc h c)) (pI h 52 0) i
def y53 (h : Hp) (nw i : Nat) : Nat → Int32 := upk (rfc h) (abB h nw) (fun _ => nI nw) (pI h 53 0) i
def y54 (h : Hp) (nw i : Nat) : Nat → Int32 := upk (rfc h) (abB h nw) (fun _ => -1) (pI h 54 0) i
def z51 (h : Hp) (nw R i : Nat) : Nat → Int32 := upk id (wkB h nw) (fun _ => 0) (y51 h nw R) i
def z52 (h : Hp) (nw R i : Nat) : Nat → Int32 := upk id (wkB h nw) (fun c => pI h 50 0 c) (y52 h nw R) i
def z53 (h : Hp) (nw R i : Nat) : Nat → Int32 := upk id (wkB h nw) (fun _ => nI nw) (y53 h nw R) i
def z54 (h : Hp) (nw R i : Nat) : Nat → Int32 := upk id (wkB h nw) (fun _ => -1) (y54 h nw R) i
def am7 (k : Nat) : Prop := k ≠ 45 ∧ k ≠ 48 ∧ k ≠ 49 ∧ k ≠ 51 ∧ k ≠ 52 ∧ k ≠ 53 ∧ k ≠ 54
def ArrM (f45 f48 f49 f51 f52 f53 f54 : Nat → Int32) (h g : Hp) : Prop := (pI g 45 = rw0 (pI h 45) f45 ∧ pI g 48 = rw0 (pI h 48) f48 ∧ pI g 49 = rw0 (pI h 49) f49 ∧ pI g 51 = rw0 (pI h 51) f51 ∧ pI g 52 = rw0 (pI h 52) f52 ∧ pI g 53 = rw0 (pI h 53) f53 ∧ pI g 54 = rw0 (pI h 54) f54) ∧ (∀ k, isM k = true → am7 k → pI g k = pI h k) ∧ ∀ k, isM k = true → pR g k = pR h k ∧ pL g k = pL h k ∧ pC g k = pC h k
section OPS
variable {nw : Nat} {z : Nat → Nat} {ro : Nat → Nat → Nat} {w : Nat → Nat} {tt : Nat → Nat → Nat} {q0 : Nat} {h : Hp}
theorem ArrM.start {g : Hp} (c : ME h g) : ArrM (y45 h nw 0) (y48 h nw 0) (y49 h nw 0) (y51 h nw 0) (y52 h nw 0) (y53 h nw 0) (y54 h nw 0) h g := by
  refine ⟨⟨?_, ?_, ?_, ?_, ?_, ?_, ?_⟩, fun k hk _ => c.I hk, fun k hk => ⟨c.R hk, c.L hk, c.C hk⟩⟩
  · unfold y45; rw [upk_0, rw0_id]; exact c.I (by decide)
  · unfold y48; rw [upk_0, rw0_id]; exact c.I (by decide)
  · unfold y49; rw [upk_0, rw0_id]; exact c.I (by decide)
  · unfold y51; rw [upk_0, rw0_id]; exact c.I (by decide)
  · unfold y52; rw [upk_0, rw0_id]; exact c.I (by decide)
  · unfold y53; rw [upk_0, rw0_id]; exact c.I (by decide)
  · unfold y54; rw [upk_0, rw0_id]; exact c.I (by decide)
theorem arrM_l (I : SimG nw z ro w tt q0 h) {β : Type} (ka : Hp → Option β) : ∀ m i f g, i + m = pC h 2 → m < f → ArrM (y45 h nw i) (y48 h nw i) (y49 h nw i) (y51 h nw i) (y52 h nw i) (y53 h nw i) (y54 h nw i) h g →
    ∃ g', L_X8_arrivals_2 0 ka f (nI i) g = ka g' ∧ ArrM (y45 h nw (pC h 2)) (y48 h nw (pC h 2)) (y49 h nw (pC h 2)) (y51 h nw (pC h 2)) (y52 h nw (pC h 2)) (y53 h nw (pC h 2)) (y54 h nw (pC h 2)) h g' ∧ CE g g' := by
  obtain ⟨n1, n2, n3⟩ := I.gnw
  have hR := I.c_hR
  have hC := I.c_hC
  intro m
  induction m with
  | zero =>
    intro i f g hi hf a
    obtain ⟨f, rfl⟩ := fu_1 hf
    obtain ⟨⟨a1, a2, a3, a4, a5, a6, a7⟩, a8, a9⟩ := id a
    refine ⟨g, ?_, by rw [show pC h 2 = i by omega]; exact a, CE.refl g⟩
    rw [L_X8_arrivals_2, a8 8 (by decide) (by unfold am7; decide), I.c_j24, q_le (by omega) (by omega)]
  | succ m ih =>
    intro i f g hi hf a
    obtain ⟨f, rfl⟩ := fu_1 hf
    obtain ⟨⟨a1, a2, a3, a4, a5, a6, a7⟩, a8, a9⟩ := id a
    have w8 : pR g 8 = pR h 8 := (a9 8 (by decide)).1
    have i8 : pI g 8 = pI h 8 := a8 8 (by decide) (by unfold am7; decide)
    have i46 : pI g 46 = pI h 46 := a8 46 (by decide) (by unfold am7; decide)
    have l45 : pL g 45 = pL h 45 := (a9 45 (by decide)).2.1
    have l46 : pL g 46 = pL h 46 := (a9 46 (by decide)).2.1
    have l48 : pL g 48 = pL h 48 := (a9 48 (by decide)).2.1
    have l49 : pL g 49 = pL h 49 := (a9 49 (by decide)).2.1
    have l51 : pL g 51 = pL h 51 := (a9 51 (by decide)).2.1
    have l52 : pL g 52 = pL h 52 := (a9 52 (by decide)).2.1
    have l53 : pL g 53 = pL h 53 := (a9 53 (by decide)).2.1
    have l54 : pL g 54 = pL h 54 := (a9 54 (by decide)).2.1
    have v45 : pI g 45 0 i = pI h 45 0 i := by rw [a1, rw0_0]; unfold y45; rw [upk_at (Nat.lt_irrefl i)]
    have v48 : pI g 48 0 i = pI h 48 0 i := by rw [a2, rw0_0]; unfold y48; rw [upk_at (Nat.lt_irrefl i)]
    have v49 : pI g 49 0 i = pI h 49 0 i := by rw [a3, rw0_0]; unfold y49; rw [upk_at (Nat.lt_irrefl i)]
    have skip : arrB h nw i = false → ArrM (y45 h nw (i + 1)) (y48 h nw (i + 1)) (y49 h nw (i + 1)) (y51 h nw (i + 1)) (y52 h nw (i + 1)) (y53 h nw (i + 1)) (y54 h nw (i + 1)) h g := by
      intro hb
      have k1 : ∀ r, arrB h nw r = true → id r ≠ i := fun r hr e => by rw [show r = i from e, hb] at hr; cases hr
      have k2 : ∀ c, abB h nw c = true → rfc h c ≠ i := fun c hc e => by
        obtain ⟨-, r, -, e2, e3, -⟩ := I.abS hc
        rw [e] at e2; rw [← e2, hb] at e3; cases e3
      unfold y45 y48 y49 y51 y52 y53 y54 at a ⊢
      rw [upk_f k1, upk_f k1, upk_f k1, upk_f k2, upk_f k2, upk_f k2, upk_f k2]
      exact a
    have go1 : arrB h nw i = false → L_X8_arrivals_2 0 ka (f + 1) (nI i) g = L_X8_arrivals_2 0 ka f (nI (i + 1)) g → ∃ g', L_X8_arrivals_2 0 ka (f + 1) (nI i) g = ka g' ∧ ArrM (y45 h nw (pC h 2)) (y48 h nw (pC h 2)) (y49 h nw (pC h 2)) (y51 h nw (pC h 2)) (y52 h nw (pC h 2)) (y53 h nw (pC h 2)) (y54 h nw (pC h 2)) h g' ∧ CE g g' := by
      intro hb e1
      obtain ⟨g', e, b, c⟩ := ih (i + 1) f g (by omega) (by omega) (skip hb)
      exact ⟨g', e1.trans e, b, c⟩
    by_cases c1 : pI h 45 0 i = 2
    rotate_left
    · refine go1 (decide_eq_false (fun e => c1 e.2.1)) ?_
      rw [L_X8_arrivals_2, i8, I.c_j24, q_nle (by omega) (by omega), w8, I.r8_25, e_nn, l45, I.l45_0, i_inb (by omega) (by omega), e_ck, i_cl (by omega), v45, if_neg c1, nI_1]
    by_cases c2 : pI h 49 0 i = nI nw
    rotate_left
    · refine go1 (decide_eq_false (fun e => c2 e.2.2)) ?_
      rw [L_X8_arrivals_2, i8, I.c_j24, q_nle (by omega) (by omega), w8, I.r8_25, e_nn, l45, I.l45_0, i_inb (by omega) (by omega), e_ck, i_cl (by omega), v45, if_pos c1, I.r8_29, e_nn, l49, I.l49_0, i_inb (by omega) (by omega), e_ck, v49, n2, if_neg c2, nI_1]
    have har : arrB h nw i = true := decide_eq_true ⟨by omega, c1, c2⟩
    obtain ⟨-, -, -, -, ⟨p, p1, p2, p3⟩, c, d1, d2, d3, d4, d5, d6, d7, d8⟩ := I.arrS har
    have uq : ∀ c', abB h nw c' = true → rfc h c' = i → c' = c := by
      intro c' hc' e
      obtain ⟨-, r, -, e2, -, e3, -⟩ := I.abS hc'
      rw [e] at e2; subst e2; rw [d2] at e3; cases e3; rfl
    have b1 : ArrM (y45 h nw (i + 1)) (y48 h nw (i + 1)) (y49 h nw (i + 1)) (y51 h nw (i + 1)) (y52 h nw (i + 1)) (y53 h nw (i + 1)) (y54 h nw (i + 1)) h (wI (wI (wI (wI (wI (wI (wI g 45 0 i 0) 49 0 i (-1)) 51 0 c 0) 52 0 c (pI h 46 0 i)) 53 0 c (nI nw)) 54 0 c (-1)) 48 0 i (-1)) := by
      refine ⟨⟨?_, ?_, ?_, ?_, ?_, ?_, ?_⟩, fun k hk h7 => ?_, fun k hk => ?_⟩
      · simp (disch := omega) only [sl_RI, sl_CI, sl_LI, sl_IR, sl_CR, sl_LR, sl_II, sl_Ie, sl_RR, sl_Re, sl_CN, sl_Ce, sl_LN, sl_Le, sl_IN, sl_INe, sl_RN, sl_RNe, up2_s, up2_n, up1_s, up1_n, upN_s, upN_n, ne_eq, not_false_eq_true, reduceCtorEq]
        rw [a1, rw0_up]; unfold y45; rw [upk_s (κ := id) (i := i) (r := i) har rfl (fun r' _ e => e)]
      · simp (disch := omega) only [sl_RI, sl_CI, sl_LI, sl_IR, sl_CR, sl_LR, sl_II, sl_Ie, sl_RR, sl_Re, sl_CN, sl_Ce, sl_LN, sl_Le, sl_IN, sl_INe, sl_RN, sl_RNe, up2_s, up2_n, up1_s, up1_n, upN_s, upN_n, ne_eq, not_false_eq_true, reduceCtorEq]
        rw [a2, rw0_up]; unfold y48; rw [upk_s (κ := id) (i := i) (r := i) har rfl (fun r' _ e => e)]
      · simp (disch := omega) only [sl_RI, sl_CI, sl_LI, sl_IR, sl_CR, sl_LR, sl_II, sl_Ie, sl_RR, sl_Re, sl_CN, sl_Ce, sl_LN, sl_Le, sl_IN, sl_INe, sl_RN, sl_RNe, up2_s, up2_n, up1_s, up1_n, upN_s, upN_n, ne_eq, not_false_eq_true, reduceCtorEq]
        rw [a3, rw0_up]; unfold y49; rw [upk_s (κ := id) (i := i) (r := i) har rfl (fun r' _ e => e)]
      · simp (disch := omega) only [sl_RI, sl_CI, sl_LI, sl_IR, sl_CR, sl_LR, sl_II, sl_Ie, sl_RR, sl_Re, sl_CN, sl_Ce, sl_LN, sl_Le, sl_IN, sl_INe, sl_RN, sl_RNe, up2_s, up2_n, up1_s, up1_n, upN_s, upN_n, ne_eq, not_false_eq_true, reduceCtorEq]
        rw [a4, rw0_up]; unfold y51; rw [upk_s (r := c) d7 d6 uq]
      · simp (disch := omega) only [sl_RI, sl_CI, sl_LI, sl_IR, sl_CR, sl_LR, sl_II, sl_Ie, sl_RR, sl_Re, sl_CN, sl_Ce, sl_LN, sl_Le, sl_IN, sl_INe, sl_RN, sl_RNe, up2_s, up2_n, up1_s, up1_n, upN_s, upN_n, ne_eq, not_false_eq_true, reduceCtorEq]
        rw [a5, rw0_up]; unfold y52; rw [upk_s (r := c) d7 d6 uq, d6]
      · simp (disch := omega) only [sl_RI, sl_CI, sl_LI, sl_IR, sl_CR, sl_LR, sl_II, sl_Ie, sl_RR, sl_Re, sl_CN, sl_Ce, sl_LN, sl_Le, sl_IN, sl_INe, sl_RN, sl_RNe, up2_s, up2_n, up1_s, up1_n, upN_s, upN_n, ne_eq, not_false_eq_true, reduceCtorEq]
        rw [a6, rw0_up]; unfold y53; rw [upk_s (r := c) d7 d6 uq]
      · simp (disch := omega) only [sl_RI, sl_CI, sl_LI, sl_IR, sl_CR, sl_LR, sl_II, sl_Ie, sl_RR, sl_Re, sl_CN, sl_Ce, sl_LN, sl_Le, sl_IN, sl_INe, sl_RN, sl_RNe, up2_s, up2_n, up1_s, up1_n, upN_s, upN_n, ne_eq, not_false_eq_true, reduceCtorEq]
        rw [a7, rw0_up]; unfold y54; rw [upk_s (r := c) d7 d6 uq]
      · obtain ⟨k1, k2, k3, k4, k5, k6, k7⟩ := id h7
        simp (disch := omega) only [sl_RI, sl_CI, sl_LI, sl_IR, sl_CR, sl_LR, sl_II, sl_Ie, sl_RR, sl_Re, sl_CN, sl_Ce, sl_LN, sl_Le, sl_IN, sl_INe, sl_RN, sl_RNe, up2_s, up2_n, up1_s, up1_n, upN_s, upN_n, ne_eq, not_false_eq_true, reduceCtorEq]
        exact a8 k hk h7
      · simp (disch := omega) only [sl_RI, sl_CI, sl_LI, sl_IR, sl_CR, sl_LR, sl_II, sl_Ie, sl_RR, sl_Re, sl_CN, sl_Ce, sl_LN, sl_Le, sl_IN, sl_INe, sl_RN, sl_RNe, up2_s, up2_n, up1_s, up1_n, upN_s, upN_n, ne_eq, not_false_eq_true, reduceCtorEq]
        exact a9 k hk
    obtain ⟨g', e, b, ce⟩ := ih (i + 1) f (wI (wI (wI (wI (wI (wI (wI g 45 0 i 0) 49 0 i (-1)) 51 0 c 0) 52 0 c (pI h 46 0 i)) 53 0 c (nI nw)) 54 0 c (-1)) 48 0 i (-1)) (by omega) (by omega) b1
    refine ⟨g', ?_, b, ?_⟩
    · have fl := F_lands (h := wI (wI g 45 0 i 0) 49 0 i (-1)) (c := c) (by omega) (p := pI h 46 0 i) (f := nI nw) (by rw [sl_RI, sl_RI, w8]; exact I.r8_32) (by rw [sl_RI, sl_RI, w8]; exact I.r8_33) (by rw [sl_RI, sl_RI, w8]; exact I.r8_34) (by rw [sl_RI, sl_RI, w8]; exact I.r8_35) (by rw [sl_LI, sl_LI, l51]; exact I.l51_0) (by rw [sl_LI, sl_LI, l52]; exact I.l52_0) (by rw [sl_LI, sl_LI, l53]; exact I.l53_0) (by rw [sl_LI, sl_LI, l54]; exact I.l54_0)
      rw [L_X8_arrivals_2, i8, I.c_j24, q_nle (by omega) (by omega), w8, I.r8_25, e_nn, l45, I.l45_0, i_inb (by omega) (by omega), e_ck, i_cl (by omega), v45, if_pos c1, I.r8_29, e_nn, l49, I.l49_0, i_inb (by omega) (by omega), e_ck, v49, n2, if_pos c2, e_ck]
      simp (disch := omega) only [e_nn, e_onnN, e_onnS, e_ck, e_lt, e_cl, F_within, F_in, isz0, isz1, i10, ↓reduceIte, sl_RI, sl_CI, sl_LI, sl_IR, sl_CR, sl_LR, sl_II, sl_Ie, sl_RR, sl_Re, sl_CN, sl_Ce, sl_LN, sl_Le, sl_IN, sl_INe, sl_RN, sl_RNe, up2_s, up2_n, up1_s, up1_n, upN_s, upN_n, ne_eq, not_false_eq_true, reduceCtorEq, i_le, i_lt, i_eq, i_cl, i_inb, nI_add, nI_1, i_n1, i_1n, i_sub, w8, i8, i46, I.r8_29, I.r8_28, I.r8_26, l49, l48, l46, I.l49_0, I.l48_0, I.l46_0, v48, d3, n2, fl]
      exact e
    · exact ((((((((CE.refl g).wIr (by decide)).wIr (by decide)).wIr (by decide)).wIr (by decide)).wIr (by decide)).wIr (by decide)).wIr (by decide)).trans ce
theorem arrW_l (I : SimG nw z ro w tt q0 h) {β : Type} (ka : Hp → Option β) {f45 f48 f49 : Nat → Int32} : ∀ m i f g, i + m = pC h 0 → m < f → ArrM f45 f48 f49 (z51 h nw (pC h 2) i) (z52 h nw (pC h 2) i) (z53 h nw (pC h 2) i) (z54 h nw (pC h 2) i) h g →
    ∃ g', L_X8_arrivals_85 0 ka f (nI i) g = ka g' ∧ ArrM f45 f48 f49 (z51 h nw (pC h 2) (pC h 0)) (z52 h nw (pC h 2) (pC h 0)) (z53 h nw (pC h 2) (pC h 0)) (z54 h nw (pC h 2) (pC h 0)) h g' ∧ CE g g' := by
  obtain ⟨n1, n2, n3⟩ := I.gnw
  have hR := I.c_hR
  have hC := I.c_hC
  intro m
  induction m with
  | zero =>
    intro i f g hi hf a
    obtain ⟨f, rfl⟩ := fu_1 hf
    obtain ⟨⟨a1, a2, a3, a4, a5, a6, a7⟩, a8, a9⟩ := id a
    refine ⟨g, ?_, by rw [show pC h 0 = i by omega]; exact a, CE.refl g⟩
    rw [L_X8_arrivals_85, a8 8 (by decide) (by unfold am7; decide), I.c_j30, q_le (by omega) (by omega)]
  | succ m ih =>
    intro i f g hi hf a
    obtain ⟨f, rfl⟩ := fu_1 hf
    obtain ⟨⟨a1, a2, a3, a4, a5, a6, a7⟩, a8, a9⟩ := id a
    have w8 : pR g 8 = pR h 8 := (a9 8 (by decide)).1
    have i8 : pI g 8 = pI h 8 := a8 8 (by decide) (by unfold am7; decide)
    have i50 : pI g 50 = pI h 50 := a8 50 (by decide) (by unfold am7; decide)
    have l50 : pL g 50 = pL h 50 := (a9 50 (by decide)).2.1
    have l51 : pL g 51 = pL h 51 := (a9 51 (by decide)).2.1
    have l52 : pL g 52 = pL h 52 := (a9 52 (by decide)).2.1
    have l53 : pL g 53 = pL h 53 := (a9 53 (by decide)).2.1
    have l54 : pL g 54 = pL h 54 := (a9 54 (by decide)).2.1
    have v51 : pI g 51 0 i = y51 h nw (pC h 2) i := by rw [a4, rw0_0]; unfold z51; rw [upk_at (Nat.lt_irrefl i)]
    have v54 : pI g 54 0 i = y54 h nw (pC h 2) i := by rw [a7, rw0_0]; unfold z54; rw [upk_at (Nat.lt_irrefl i)]
    have go1 : wkB h nw i = false → L_X8_arrivals_85 0 ka (f + 1) (nI i) g = L_X8_arrivals_85 0 ka f (nI (i + 1)) g → ∃ g', L_X8_arrivals_85 0 ka (f + 1) (nI i) g = ka g' ∧ ArrM f45 f48 f49 (z51 h nw (pC h 2) (pC h 0)) (z52 h nw (pC h 2) (pC h 0)) (z53 h nw (pC h 2) (pC h 0)) (z54 h nw (pC h 2) (pC h 0)) h g' ∧ CE g g' := by
      intro hb e1
      have k1 : ∀ r, wkB h nw r = true → id r ≠ i := fun r hr e => by rw [show r = i from e, hb] at hr; cases hr
      obtain ⟨g', e, b, c⟩ := ih (i + 1) f g (by omega) (by omega) (by unfold z51 z52 z53 z54 at a ⊢; rw [upk_f k1, upk_f k1, upk_f k1, upk_f k1]; exact a)
      exact ⟨g', e1.trans e, b, c⟩
    have key : (pI g 51 0 i = 2 ∧ pI g 54 0 i = nI nw) ↔ wkB h nw i = true := by
      rw [v51, v54]
      cases e : abB h nw i with
      | true =>
        obtain ⟨q1, r, q2, q3, q4, q5, q6, q7, q8, q9⟩ := I.abS e
        have hr := (I.arrS q4).1
        unfold y51 y54
        rw [upk_y e (by rw [q3]; exact hr), upk_y e (by rw [q3]; exact hr), q9]
        exact ⟨fun q => absurd q.1 (by decide), fun q => by cases q⟩
      | false =>
        unfold y51 y54
        rw [upk_n e, upk_n e]
        exact ⟨fun q => decide_eq_true ⟨by omega, q.1, q.2⟩, fun q => (of_decide_eq_true q).2⟩
    by_cases c1 : pI g 51 0 i = 2
    rotate_left
    · refine go1 (by cases e : wkB h nw i with | false => rfl | true => exact absurd (key.mpr e).1 c1) ?_
      rw [L_X8_arrivals_85, i8, I.c_j30, q_nle (by omega) (by omega), w8, I.r8_32, e_nn, l51, I.l51_0, i_inb (by omega) (by omega), e_ck, i_cl (by omega), if_neg c1, nI_1]
    by_cases c2 : pI g 54 0 i = nI nw
    rotate_left
    · refine go1 (by cases e : wkB h nw i with | false => rfl | true => exact absurd (key.mpr e).2 c2) ?_
      rw [L_X8_arrivals_85, i8, I.c_j30, q_nle (by omega) (by omega), w8, I.r8_32, e_nn, l51, I.l51_0, i_inb (by omega) (by omega), e_ck, i_cl (by omega), if_pos c1, I.r8_35, e_nn, l54, I.l54_0, i_inb (by omega) (by omega), e_ck, n2, if_neg c2, nI_1]
    have hwk := key.mp ⟨c1, c2⟩
    have b1 : ArrM f45 f48 f49 (z51 h nw (pC h 2) (i + 1)) (z52 h nw (pC h 2) (i + 1)) (z53 h nw (pC h 2) (i + 1)) (z54 h nw (pC h 2) (i + 1)) h (wI (wI (wI (wI g 51 0 i 0) 52 0 i (pI h 50 0 i)) 53 0 i (nI nw)) 54 0 i (-1)) := by
      refine ⟨⟨?_, ?_, ?_, ?_, ?_, ?_, ?_⟩, fun k hk h7 => ?_, fun k hk => ?_⟩
      · simp (disch := omega) only [sl_RI, sl_CI, sl_LI, sl_IR, sl_CR, sl_LR, sl_II, sl_Ie, sl_RR, sl_Re, sl_CN, sl_Ce, sl_LN, sl_Le, sl_IN, sl_INe, sl_RN, sl_RNe, up2_s, up2_n, up1_s, up1_n, upN_s, upN_n, ne_eq, not_false_eq_true, reduceCtorEq]
        exact a1
      · simp (disch := omega) only [sl_RI, sl_CI, sl_LI, sl_IR, sl_CR, sl_LR, sl_II, sl_Ie, sl_RR, sl_Re, sl_CN, sl_Ce, sl_LN, sl_Le, sl_IN, sl_INe, sl_RN, sl_RNe, up2_s, up2_n, up1_s, up1_n, upN_s, upN_n, ne_eq, not_false_eq_true, reduceCtorEq]
        exact a2
      · simp (disch := omega) only [sl_RI, sl_CI, sl_LI, sl_IR, sl_CR, sl_LR, sl_II, sl_Ie, sl_RR, sl_Re, sl_CN, sl_Ce, sl_LN, sl_Le, sl_IN, sl_INe, sl_RN, sl_RNe, up2_s, up2_n, up1_s, up1_n, upN_s, upN_n, ne_eq, not_false_eq_true, reduceCtorEq]
        exact a3
      · simp (disch := omega) only [sl_RI, sl_CI, sl_LI, sl_IR, sl_CR, sl_LR, sl_II, sl_Ie, sl_RR, sl_Re, sl_CN, sl_Ce, sl_LN, sl_Le, sl_IN, sl_INe, sl_RN, sl_RNe, up2_s, up2_n, up1_s, up1_n, upN_s, upN_n, ne_eq, not_false_eq_true, reduceCtorEq]
        rw [a4, rw0_up]; unfold z51; rw [upk_s (κ := id) (i := i) (r := i) hwk rfl (fun r' _ e => e)]
      · simp (disch := omega) only [sl_RI, sl_CI, sl_LI, sl_IR, sl_CR, sl_LR, sl_II, sl_Ie, sl_RR, sl_Re, sl_CN, sl_Ce, sl_LN, sl_Le, sl_IN, sl_INe, sl_RN, sl_RNe, up2_s, up2_n, up1_s, up1_n, upN_s, upN_n, ne_eq, not_false_eq_true, reduceCtorEq]
        rw [a5, rw0_up]; unfold z52; rw [upk_s (κ := id) (i := i) (r := i) hwk rfl (fun r' _ e => e)]
      · simp (disch := omega) only [sl_RI, sl_CI, sl_LI, sl_IR, sl_CR, sl_LR, sl_II, sl_Ie, sl_RR, sl_Re, sl_CN, sl_Ce, sl_LN, sl_Le, sl_IN, sl_INe, sl_RN, sl_RNe, up2_s, up2_n, up1_s, up1_n, upN_s, upN_n, ne_eq, not_false_eq_true, reduceCtorEq]
        rw [a6, rw0_up]; unfold z53; rw [upk_s (κ := id) (i := i) (r := i) hwk rfl (fun r' _ e => e)]
      · simp (disch := omega) only [sl_RI, sl_CI, sl_LI, sl_IR, sl_CR, sl_LR, sl_II, sl_Ie, sl_RR, sl_Re, sl_CN, sl_Ce, sl_LN, sl_Le, sl_IN, sl_INe, sl_RN, sl_RNe, up2_s, up2_n, up1_s, up1_n, upN_s, upN_n, ne_eq, not_false_eq_true, reduceCtorEq]
        rw [a7, rw0_up]; unfold z54; rw [upk_s (κ := id) (i := i) (r := i) hwk rfl (fun r' _ e => e)]
      · obtain ⟨k1, k2, k3, k4, k5, k6, k7⟩ := id h7
        simp (disch := omega) only [sl_RI, sl_CI, sl_LI, sl_IR, sl_CR, sl_LR, sl_II, sl_Ie, sl_RR, sl_Re, sl_CN, sl_Ce, sl_LN, sl_Le, sl_IN, sl_INe, sl_RN, sl_RNe, up2_s, up2_n, up1_s, up1_n, upN_s, upN_n, ne_eq, not_false_eq_true, reduceCtorEq]
        exact a8 k hk h7
      · simp (disch := omega) only [sl_RI, sl_CI, sl_LI, sl_IR, sl_CR, sl_LR, sl_II, sl_Ie, sl_RR, sl_Re, sl_CN, sl_Ce, sl_LN, sl_Le, sl_IN, sl_INe, sl_RN, sl_RNe, up2_s, up2_n, up1_s, up1_n, upN_s, upN_n, ne_eq, not_false_eq_true, reduceCtorEq]
        exact a9 k hk
    obtain ⟨g', e, b, ce⟩ := ih (i + 1) f (wI (wI (wI (wI g 51 0 i 0) 52 0 i (pI h 50 0 i)) 53 0 i (nI nw)) 54 0 i (-1)) (by omega) (by omega) b1
    refine ⟨g', ?_, b, ?_⟩
    · have fl := F_lands (h := g) (c := i) (by omega) (p := pI h 50 0 i) (f := nI nw) (by rw [w8]; exact I.r8_32) (by rw [w8]; exact I.r8_33) (by rw [w8]; exact I.r8_34) (by rw [w8]; exact I.r8_35) (by rw [l51]; exact I.l51_0) (by rw [l52]; exact I.l52_0) (by rw [l53]; exact I.l53_0) (by rw [l54]; exact I.l54_0)
      rw [L_X8_arrivals_85, i8, I.c_j30, q_nle (by omega) (by omega), w8, I.r8_32, e_nn, l51, I.l51_0, i_inb (by omega) (by omega), e_ck, i_cl (by omega), if_pos c1, I.r8_35, e_nn, l54, I.l54_0, i_inb (by omega) (by omega), e_ck, n2, if_pos c2, I.r8_31, e_nn, l50, I.l50_0, i_inb (by omega) (by omega), e_ck, i50, fl, e_cl, nI_1]
      exact e
    · exact (((((CE.refl g).wIr (by decide)).wIr (by decide)).wIr (by decide)).wIr (by decide)).trans ce
end OPS
