/-- nothing is left to come in this hour -/
def Qn (h : Hp) (nw : Nat) : Prop := (∀ r, r < pC h 2 → pI h 45 0 r = 2 → pI h 49 0 r ≠ nI nw) ∧ ∀ c, c < pC h 0 → pI h 51 0 c = 2 → pI h 54 0 c ≠ nI nw
def Mid (S nw : Nat) (h : Hp) : Prop := pC h 4 = S ∧ Qn h nw ∧ ∃ z ro w tt q0, SimG nw z ro w tt q0 h
theorem x2I_c {h : Hp} {nw i r j : Nat} (hj : j ≠ 5) : x2I h nw i r j = pI h 2 r j := by
  unfold x2I upk
  split
  · exact up1_n _ _ hj
  · rfl
theorem x2R_c {h : Hp} {nw i r j : Nat} (hj : j ≠ 4) : x2R h nw i r j = pR h 2 r j := by
  unfold x2R upk
  split
  · exact up1_n _ _ hj
  · rfl
theorem isM_f {k : Nat} (h : isM k = false) : k ≠ 8 ∧ k < 25 := by
  simp only [isM, Bool.or_eq_false_iff, beq_eq_false_iff_ne, ne_eq, decide_eq_false_iff_not] at h
  omega
theorem isM_t {k : Nat} (h : isM k = true) : k = 8 ∨ 25 ≤ k := by
  simpa only [isM, Bool.or_eq_true, beq_iff_eq, decide_eq_true_eq] using h
section OPS
variable {nw : Nat} {z : Nat → Nat} {ro : Nat → Nat → Nat} {w : Nat → Nat} {tt : Nat → Nat → Nat} {q0 : Nat} {h : Hp}
theorem arr_step (I : SimG nw z ro w tt q0 h) : ∃ h', Mid (pC h 4) nw h' ∧ (∀ (β : Type) (ka : Hp → Option β) (g : Hp), CE h g → ∃ g', L_X7_passHour_2 0 ka FU (nI 0) g = ka g' ∧ CE h' g' ∧ ME g g') ∧ (∀ g, ME h g → ∃ g', F_X8_arrivals 0 g = some ((), g') ∧ ME h' g' ∧ CE g g') := by
  have hC := I.c_hC
  have hR := I.c_hR
  obtain ⟨n1, n2, n3⟩ := I.gnw
  have rN : ∀ r, arrB h nw r = false → x2I h nw (pC h 0) r = pI h 2 r ∧ x2R h nw (pC h 0) r = pR h 2 r ∧ y45 h nw (pC h 2) r = pI h 45 0 r ∧ y48 h nw (pC h 2) r = pI h 48 0 r ∧ y49 h nw (pC h 2) r = pI h 49 0 r := by
    intro r e
    unfold x2I x2R y45 y48 y49
    rw [upk_n e, upk_n e, upk_n e, upk_n e, upk_n e]
    exact ⟨rfl, rfl, rfl, rfl, rfl⟩
  have rY : ∀ r, arrB h nw r = true → x2I h nw (pC h 0) r = up1 (pI h 2 r) 5 (-1) ∧ x2R h nw (pC h 0) r = up1 (pR h 2 r) 4 none ∧ y45 h nw (pC h 2) r = 0 ∧ y48 h nw (pC h 2) r = -1 ∧ y49 h nw (pC h 2) r = -1 := by
    intro r e
    obtain ⟨k1, -, -, -, -, c, k2, -, -, -, k3, -⟩ := I.arrS e
    unfold x2I x2R y45 y48 y49
    rw [upk_y e (by rw [k3]; exact k2), upk_y e (by rw [k3]; exact k2), upk_y e k1, upk_y e k1, upk_y e k1]
    exact ⟨rfl, rfl, rfl, rfl, rfl⟩
  have cA : ∀ c, abB h nw c = true → x0I h nw (pC h 0) c = up1 (pI h 0 c) 5 (nI nw) ∧ x0R h nw (pC h 0) c = up1 (up1 (pR h 0 c) 3 none) 2 (pR h 2 (rfc h c) 3) ∧ z51 h nw (pC h 2) (pC h 0) c = 0 ∧ z52 h nw (pC h 2) (pC h 0) c = pI h 46 0 (rfc h c) ∧ z53 h nw (pC h 2) (pC h 0) c = nI nw ∧ z54 h nw (pC h 2) (pC h 0) c = -1 := by
    intro c e
    obtain ⟨k1, r, -, k2, k3, -, -, -, -, k4⟩ := I.abS e
    have k5 : rfc h c < pC h 2 := by rw [k2]; exact (I.arrS k3).1
    unfold x0I x0R z51 z52 z53 z54 y51 y52 y53 y54
    rw [upk_y e k1, upk_y e k1, upk_n k4, upk_n k4, upk_n k4, upk_n k4, upk_y e k5, upk_y e k5, upk_y e k5, upk_y e k5]
    exact ⟨rfl, rfl, rfl, rfl, rfl, rfl⟩
  have cW : ∀ c, wkB h nw c = true → x0I h nw (pC h 0) c = up1 (up1 (pI h 0 c) 4 (-1)) 5 (nI nw) ∧ x0R h nw (pC h 0) c = up1 (pR h 0 c) 2 (pR h 0 c 1) ∧ z51 h nw (pC h 2) (pC h 0) c = 0 ∧ z52 h nw (pC h 2) (pC h 0) c = pI h 50 0 c ∧ z53 h nw (pC h 2) (pC h 0) c = nI nw ∧ z54 h nw (pC h 2) (pC h 0) c = -1 := by
    intro c e
    obtain ⟨k1, -, -, -, -, -, k4, -⟩ := I.wkS e
    unfold x0I x0R x0W x0V z51 z52 z53 z54
    rw [upk_n k4, upk_n k4, upk_y e k1, upk_y e k1, upk_y e k1, upk_y e k1, upk_y e k1, upk_y e k1]
    exact ⟨rfl, rfl, rfl, rfl, rfl, rfl⟩
  have cN : ∀ c, abB h nw c = false → wkB h nw c = false → x0I h nw (pC h 0) c = pI h 0 c ∧ x0R h nw (pC h 0) c = pR h 0 c ∧ z51 h nw (pC h 2) (pC h 0) c = pI h 51 0 c ∧ z52 h nw (pC h 2) (pC h 0) c = pI h 52 0 c ∧ z53 h nw (pC h 2) (pC h 0) c = pI h 53 0 c ∧ z54 h nw (pC h 2) (pC h 0) c = pI h 54 0 c := by
    intro c e k4
    unfold x0I x0R x0W x0V z51 z52 z53 z54 y51 y52 y53 y54
    rw [upk_n e, upk_n e, upk_n k4, upk_n k4, upk_n k4, upk_n k4, upk_n k4, upk_n k4, upk_n e, upk_n e, upk_n e, upk_n e]
    exact ⟨rfl, rfl, rfl, rfl, rfl, rfl⟩
  refine ⟨(sI (sI (sI (sI (sI (sI (sI (sR (sI (sR (sI h 0 (x0I h nw (pC h 0))) 0 (x0R h nw (pC h 0))) 2 (x2I h nw (pC h 0))) 2 (x2R h nw (pC h 0))) 45 (rw0 (pI h 45) (y45 h nw (pC h 2)))) 48 (rw0 (pI h 48) (y48 h nw (pC h 2)))) 49 (rw0 (pI h 49) (y49 h nw (pC h 2)))) 51 (rw0 (pI h 51) (z51 h nw (pC h 2) (pC h 0)))) 52 (rw0 (pI h 52) (z52 h nw (pC h 2) (pC h 0)))) 53 (rw0 (pI h 53) (z53 h nw (pC h 2) (pC h 0)))) 54 (rw0 (pI h 54) (z54 h nw (pC h 2) (pC h 0)))), ⟨rfl, ⟨?_, ?_⟩, z, ro, w, tt, q0, ?_⟩, fun β ka g c => ?_, fun g m => ?_⟩
  · intro r hr
    simp (disch := omega) only [ss_II, ss_Ie, ss_RI, ss_LI, ss_CI, ss_RR, ss_Re, ss_IR, ss_LR, ss_CR, rw0_0, ne_eq, not_false_eq_true] at hr ⊢
    cases e : arrB h nw r with
    | true => rw [(rY r e).2.2.1]; intro q; exact absurd q (by decide)
    | false =>
      rw [(rN r e).2.2.1, (rN r e).2.2.2.2]
      intro q1 q2
      rw [arrB, decide_eq_false_iff_not] at e
      exact e ⟨hr, q1, q2⟩
  · intro c hc
    simp (disch := omega) only [ss_II, ss_Ie, ss_RI, ss_LI, ss_CI, ss_RR, ss_Re, ss_IR, ss_LR, ss_CR, rw0_0, ne_eq, not_false_eq_true] at hc ⊢
    cases e : abB h nw c with
    | true => rw [(cA c e).2.2.1]; intro q; exact absurd q (by decide)
    | false =>
      cases e2 : wkB h nw c with
      | true => rw [(cW c e2).2.2.1]; intro q; exact absurd q (by decide)
      | false =>
        rw [(cN c e e2).2.2.1, (cN c e e2).2.2.2.2.2]
        intro q1 q2
        rw [wkB, decide_eq_false_iff_not] at e2
        exact e2 ⟨hc, q1, q2⟩
  · unfold SimG
    simp (disch := omega) only [ss_II, ss_Ie, ss_RI, ss_LI, ss_CI, ss_RR, ss_Re, ss_IR, ss_LR, ss_CR, rw0_0, ne_eq, not_false_eq_true]
    refine ⟨I.w7, I.w1, I.w5, I.w8, I.ln, I.ct, I.a19, I.a20, I.a21, I.a22, I.st, I.sb, I.tr, ?_, ?_, ?_, I.nx, I.to, I.pr, I.gnw, I.tk, I.rg, I.ba, I.so⟩
    · intro r hr
      obtain ⟨⟨a1, a2, a3, a4⟩, b⟩ := I.rf r hr
      cases e : arrB h nw r with
      | true =>
        obtain ⟨-, -, -, k3, k4, -⟩ := I.arrS e
        obtain ⟨s1, s2, s3, s4, s5⟩ := rY r e
        rw [s1, s2, s3, s4, s5]
        simp (disch := omega) only [sl_RI, sl_CI, sl_LI, sl_IR, sl_CR, sl_LR, sl_II, sl_Ie, sl_RR, sl_Re, sl_CN, sl_Ce, sl_LN, sl_Le, sl_IN, sl_INe, sl_RN, sl_RNe, up2_s, up2_n, up1_s, up1_n, upN_s, upN_n, ne_eq, not_false_eq_true, reduceCtorEq]
        exact ⟨⟨a1, a2, trivial, a4⟩, Or.inr (Or.inl ⟨trivial, k3, k4, trivial, trivial, trivial⟩)⟩
      | false =>
        obtain ⟨s1, s2, s3, s4, s5⟩ := rN r e
        have keep : ∀ c, c < pC h 0 → pR h 0 c 3 = some r → x0R h nw (pC h 0) c 3 = some r := by
          intro c hc hr3
          have e1 : abB h nw c = false := by rw [abB, rfc_S hr3, e]; simp
          cases e2 : wkB h nw c with
          | true => rw [(cW c e2).2.1, up1_n _ _ (by omega)]; exact hr3
          | false => rw [(cN c e1 e2).2.1]; exact hr3
        rw [s1, s2, s3, s4, s5]
        refine ⟨⟨a1, a2, a3, a4⟩, ?_⟩
        rcases b with b | b | ⟨b1, b2, b3, ⟨d, d1, d2, d3, d4⟩, b5⟩ | ⟨b1, b2, b3, ⟨d, d1, d2, d3, d4⟩, b5⟩
        · exact Or.inl b
        · exact Or.inr (Or.inl b)
        · exact Or.inr (Or.inr (Or.inl ⟨b1, b2, b3, ⟨d, d1, d2, d3, keep d d1 d4⟩, b5⟩))
        · exact Or.inr (Or.inr (Or.inr ⟨b1, b2, b3, ⟨d, d1, d2, d3, keep d d1 d4⟩, b5⟩))
    · refine ⟨fun c hc => ?_, fun c hc => ?_⟩
      · obtain ⟨⟨a1, hm, a2, a3, a4⟩, b⟩ := I.cr.1 c hc
        cases e : abB h nw c with
        | true =>
          obtain ⟨-, r, q2, q3, q4, -, -, -, q8, -⟩ := I.abS e
          obtain ⟨-, -, -, -, ⟨p, p1, p2, p3⟩, -⟩ := I.arrS q4
          obtain ⟨s1, s2, s3, s4, s5, s6⟩ := cA c e
          rw [s1, s2, s3, s4, s5, s6, q3, p2, p3]
          simp (disch := omega) only [sl_RI, sl_CI, sl_LI, sl_IR, sl_CR, sl_LR, sl_II, sl_Ie, sl_RR, sl_Re, sl_CN, sl_Ce, sl_LN, sl_Le, sl_IN, sl_INe, sl_RN, sl_RNe, up2_s, up2_n, up1_s, up1_n, upN_s, upN_n, ne_eq, not_false_eq_true, reduceCtorEq]
          refine ⟨⟨a1, hm, a2, a3, a4⟩, Or.inl ⟨trivial, ⟨p, p1, rfl, rfl⟩, trivial, q8, nw + 8, nw + 8, ?_, ?_, Nat.le_refl _, Nat.le_refl _, Or.inl rfl⟩⟩
          · rw [show (8 : Int32) = nI 8 from rfl, i_sub (by omega)]; rfl
          · rw [show (8 : Int32) = nI 8 from rfl, i_sub (by omega)]; rfl
        | false =>
          cases e2 : wkB h nw c with
          | true =>
            obtain ⟨-, -, -, q3, -, -, -, p, p1, p2, p3⟩ := I.wkS e2
            obtain ⟨s1, s2, s3, s4, s5, s6⟩ := cW c e2
            rw [s1, s2, s3, s4, s5, s6, p2, p3]
            simp (disch := omega) only [sl_RI, sl_CI, sl_LI, sl_IR, sl_CR, sl_LR, sl_II, sl_Ie, sl_RR, sl_Re, sl_CN, sl_Ce, sl_LN, sl_Le, sl_IN, sl_INe, sl_RN, sl_RNe, up2_s, up2_n, up1_s, up1_n, upN_s, upN_n, ne_eq, not_false_eq_true, reduceCtorEq]
            refine ⟨⟨a1, p, p1, p2, rfl⟩, Or.inl ⟨trivial, ⟨p, p1, rfl, rfl⟩, q3, trivial, nw + 8, nw + 8, ?_, ?_, Nat.le_refl _, Nat.le_refl _, Or.inl rfl⟩⟩
            · rw [show (8 : Int32) = nI 8 from rfl, i_sub (by omega)]; rfl
            · rw [show (8 : Int32) = nI 8 from rfl, i_sub (by omega)]; rfl
          | false =>
            obtain ⟨s1, s2, s3, s4, s5, s6⟩ := cN c e e2
            rw [s1, s2, s3, s4, s5, s6]
            refine ⟨⟨a1, hm, a2, a3, a4⟩, ?_⟩
            rcases b with b | ⟨b1, b2, ⟨r, r1, r2, r3, r4⟩, b5⟩ | b
            · exact Or.inl b
            · have e3 : arrB h nw r = false := by
                cases q : arrB h nw r with
                | false => rfl
                | true =>
                  rw [abB, decide_eq_false_iff_not] at e
                  exact absurd ⟨hc, by rw [r2]; simp, by rw [rfc_S r2]; exact q⟩ e
              obtain ⟨-, t2, t3, -, -⟩ := rN r e3
              exact Or.inr (Or.inl ⟨b1, b2, ⟨r, r1, r2, by rw [t2]; exact r3, by rw [t3]; exact r4⟩, b5⟩)
            · exact Or.inr (Or.inr b)
      · have e1 : abB h nw c = false := decide_eq_false (fun q => by omega)
        have e2 : wkB h nw c = false := decide_eq_false (fun q => by omega)
        rw [(cN c e1 e2).2.2.1]
        exact I.cr.2 c hc
    · exact (I.rw.i2 (fun r => x2I_c (by omega))).r2 (fun r => x2R_c (by omega))
  · obtain ⟨g', e, ⟨a1, a2, a3, a4, a5, a6⟩, mm⟩ := arrC_l I ka (pC h 0) 0 FU g (by omega) (by unfold FU; omega) (ArrC.start c)
    refine ⟨g', e, ?_, mm⟩
    intro k hk
    obtain ⟨k8, k25⟩ := isM_f hk
    refine ⟨?_, ?_, ?_, ?_⟩
    · by_cases k0 : k = 0
      · subst k0; simp (disch := omega) only [ss_II, ss_Ie, ss_RI, ss_LI, ss_CI, ss_RR, ss_Re, ss_IR, ss_LR, ss_CR, rw0_0, ne_eq, not_false_eq_true]; exact a1
      · by_cases k2 : k = 2
        · subst k2; simp (disch := omega) only [ss_II, ss_Ie, ss_RI, ss_LI, ss_CI, ss_RR, ss_Re, ss_IR, ss_LR, ss_CR, rw0_0, ne_eq, not_false_eq_true]; exact a3
        · simp (disch := omega) only [ss_II, ss_Ie, ss_RI, ss_LI, ss_CI, ss_RR, ss_Re, ss_IR, ss_LR, ss_CR, rw0_0, ne_eq, not_false_eq_true]; exact (a5 k hk k0 k2).1
    · by_cases k0 : k = 0
      · subst k0; simp (disch := omega) only [ss_II, ss_Ie, ss_RI, ss_LI, ss_CI, ss_RR, ss_Re, ss_IR, ss_LR, ss_CR, rw0_0, ne_eq, not_false_eq_true]; exact a2
      · by_cases k2 : k = 2
        · subst k2; simp (disch := omega) only [ss_II, ss_Ie, ss_RI, ss_LI, ss_CI, ss_RR, ss_Re, ss_IR, ss_LR, ss_CR, rw0_0, ne_eq, not_false_eq_true]; exact a4
        · simp (disch := omega) only [ss_II, ss_Ie, ss_RI, ss_LI, ss_CI, ss_RR, ss_Re, ss_IR, ss_LR, ss_CR, rw0_0, ne_eq, not_false_eq_true]; exact (a5 k hk k0 k2).2
    · simp (disch := omega) only [ss_II, ss_Ie, ss_RI, ss_LI, ss_CI, ss_RR, ss_Re, ss_IR, ss_LR, ss_CR, rw0_0, ne_eq, not_false_eq_true]; exact (a6 k hk).1
    · simp (disch := omega) only [ss_II, ss_Ie, ss_RI, ss_LI, ss_CI, ss_RR, ss_Re, ss_IR, ss_LR, ss_CR, rw0_0, ne_eq, not_false_eq_true]; exact (a6 k hk).2
  · obtain ⟨g1, e1, b1, c1⟩ := arrM_l I (fun h32 => L_X8_arrivals_85 0 (fun h48 => some ((), h48)) FU (nI 0) h32) (pC h 2) 0 FU g (by omega) (by unfold FU; omega) (ArrM.start m)
    obtain ⟨g', e2, ⟨⟨a1, a2, a3, a4, a5, a6, a7⟩, a8, a9⟩, c2⟩ := arrW_l I (fun h48 => some ((), h48)) (pC h 0) 0 FU g1 (by omega) (by unfold FU; omega) (by unfold z51 z52 z53 z54; rw [upk_0, upk_0, upk_0, upk_0]; exact b1)
    refine ⟨g', e1.trans e2, ?_, c1.trans c2⟩
    intro k hk
    have k8 := isM_t hk
    refine ⟨?_, ?_, ?_, ?_⟩
    · by_cases q : am7 k
      · obtain ⟨q1, q2, q3, q4, q5, q6, q7⟩ := id q
        simp (disch := omega) only [ss_II, ss_Ie, ss_RI, ss_LI, ss_CI, ss_RR, ss_Re, ss_IR, ss_LR, ss_CR, rw0_0, ne_eq, not_false_eq_true]; exact a8 k hk q
      · unfold am7 at q
        have : k = 45 ∨ k = 48 ∨ k = 49 ∨ k = 51 ∨ k = 52 ∨ k = 53 ∨ k = 54 := by omega
        rcases this with rfl | rfl | rfl | rfl | rfl | rfl | rfl
        · simp (disch := omega) only [ss_II, ss_Ie, ss_RI, ss_LI, ss_CI, ss_RR, ss_Re, ss_IR, ss_LR, ss_CR, rw0_0, ne_eq, not_false_eq_true]; exact a1
        · simp (disch := omega) only [ss_II, ss_Ie, ss_RI, ss_LI, ss_CI, ss_RR, ss_Re, ss_IR, ss_LR, ss_CR, rw0_0, ne_eq, not_false_eq_true]; exact a2
        · simp (disch := omega) only [ss_II, ss_Ie, ss_RI, ss_LI, ss_CI, ss_RR, ss_Re, ss_IR, ss_LR, ss_CR, rw0_0, ne_eq, not_false_eq_true]; exact a3
        · simp (disch := omega) only [ss_II, ss_Ie, ss_RI, ss_LI, ss_CI, ss_RR, ss_Re, ss_IR, ss_LR, ss_CR, rw0_0, ne_eq, not_false_eq_true]; exact a4
        · simp (disch := omega) only [ss_II, ss_Ie, ss_RI, ss_LI, ss_CI, ss_RR, ss_Re, ss_IR, ss_LR, ss_CR, rw0_0, ne_eq, not_false_eq_true]; exact a5
        · simp (disch := omega) only [ss_II, ss_Ie, ss_RI, ss_LI, ss_CI, ss_RR, ss_Re, ss_IR, ss_LR, ss_CR, rw0_0, ne_eq, not_false_eq_true]; exact a6
        · simp (disch := omega) only [ss_II, ss_Ie, ss_RI, ss_LI, ss_CI, ss_RR, ss_Re, ss_IR, ss_LR, ss_CR, rw0_0, ne_eq, not_false_eq_true]; exact a7
    · simp (disch := omega) only [ss_II, ss_Ie, ss_RI, ss_LI, ss_CI, ss_RR, ss_Re, ss_IR, ss_LR, ss_CR, rw0_0, ne_eq, not_false_eq_true]; exact (a9 k hk).1
    · simp (disch := omega) only [ss_II, ss_Ie, ss_RI, ss_LI, ss_CI, ss_RR, ss_Re, ss_IR, ss_LR, ss_CR, rw0_0, ne_eq, not_false_eq_true]; exact (a9 k hk).2.1
    · simp (disch := omega) only [ss_II, ss_Ie, ss_RI, ss_LI, ss_CI, ss_RR, ss_Re, ss_IR, ss_LR, ss_CR, rw0_0, ne_eq, not_false_eq_true]; exact (a9 k hk).2.2
end OPS
