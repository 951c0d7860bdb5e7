section OPS
variable {nw : Nat} {z : Nat → Nat} {ro : Nat → Nat → Nat} {w : Nat → Nat} {tt : Nat → Nat → Nat} {q0 : Nat} {h : Hp}
theorem F_lands {c : Nat} (hc : c < 10) {p f : Int32} (r32 : pR h 8 0 32 = some 0) (r33 : pR h 8 0 33 = some 0) (r34 : pR h 8 0 34 = some 0) (r35 : pR h 8 0 35 = some 0) (l51 : pL h 51 0 = 10) (l52 : pL h 52 0 = 10) (l53 : pL h 53 0 = 10) (l54 : pL h 54 0 = 10) :
    F_X8_lands 0 (nI c) p f h = some ((), wI (wI (wI (wI h 51 0 c 0) 52 0 c p) 53 0 c f) 54 0 c (-1)) := by
  rw [F_X8_lands]
  simp (disch := omega) only [e_nn, e_onnN, e_onnS, e_ck, e_lt, e_cl, F_within, F_in, isz0, isz1, i10, ↓reduceIte, sl_RI, sl_CI, sl_LI, sl_IR, sl_CR, sl_LR, sl_II, sl_Ie, sl_RR, sl_Re, sl_CN, sl_Ce, sl_LN, sl_Le, sl_IN, sl_INe, sl_RN, sl_RNe, up2_s, up2_n, up1_s, up1_n, upN_s, upN_n, ne_eq, not_false_eq_true, reduceCtorEq, i_le, i_lt, i_eq, i_cl, i_inb, nI_add, nI_1, i_n1, i_1n, i_sub, r32, r33, r34, r35, l51, l52, l53, l54]
theorem op_tie (I : SimG nw z ro w tt q0 h) (x : Int32) : OP (F_X7_tie 0 x) (F_X8_tie 0 x) h := by
  have hR := I.c_hR
  have hC := I.c_hC
  have hS := I.c_hS
  obtain ⟨n1, n2, n3⟩ := I.gnw
  rcases wi_ix x (n := pC h 2) (by omega) with ⟨e1, e2⟩ | ⟨e1, r, hr, rfl, e2⟩
  · refine OP.same I (r := 0) ?_ ?_
    · rw [F_X7_tie, I.raftAt, e_cl, e2, e_onnN]
    · rw [F_X8_tie, isRaftN I.c_j24 e1, e_cl, if_pos rfl]
  by_cases c0 : pI h 45 0 r = 1
  rotate_left
  · refine OP.same I (r := 0) ?_ ?_
    · rw [F_X7_tie, I.raftAt, e_cl, e2, e_onnS, I.state2 hr, e_cl, if_neg c0]
    · rw [F_X8_tie, isRaftS hR hr I.c_j24 I.r8_25 I.l45_0 e1, if_neg c0, e_cl, if_pos rfl]
  obtain ⟨⟨a1, a2, a3, zz, a4, a5⟩, hst⟩ := I.rf r hr
  obtain ⟨b2, ⟨p, p1, p0, p2, p3⟩, ⟨c, c1, c2, c3, c4⟩, b6⟩ : pI h 47 0 r ≠ 0 ∧ (∃ p, p < pC h 4 ∧ 0 < p ∧ pR h 2 r 3 = some p ∧ pI h 46 0 r = nI p) ∧ (∃ c, c < pC h 0 ∧ pR h 2 r 4 = some c ∧ pI h 48 0 r = nI c ∧ pR h 0 c 3 = some r) ∧ pI h 49 0 r = -1 := by
    rcases hst with ⟨b1, -⟩ | ⟨b1, -⟩ | ⟨b1, b⟩ | ⟨b1, -⟩
    · rw [c0] at b1; exact absurd b1 (by decide)
    · rw [c0] at b1; exact absurd b1 (by decide)
    · exact b
    · rw [c0] at b1; exact absurd b1 (by decide)
  obtain ⟨g1, gst⟩ := I.cr.1 c c1
  obtain ⟨s6, k, s7, hk⟩ : pI h 0 c 4 = -1 ∧ ∃ k, pI h 0 c 5 = nI k - 8 ∧ k ≤ nw := by
    rcases gst with ⟨-, -, s5, -⟩ | ⟨-, -, -, s⟩ | ⟨-, -, s5, -⟩
    · rw [s5] at c4; cases c4
    · exact s
    · rw [s5] at c4; cases c4
  refine ⟨1, (wI (wR (wR (wR h 0 c 3 none) 0 c 2 (some p)) 2 r 4 none) 2 r 5 (-1)), (wI (wI (wI (wI (wI (wI (wI (wR (wR (wR h 0 c 3 none) 0 c 2 (some p)) 2 r 4 none) 2 r 5 (-1)) 45 0 r 0) 51 0 c 0) 52 0 c (nI p)) 53 0 c (nI nw - 8)) 54 0 c (-1)) 48 0 r (-1)), ?_, ?_, nw, z, ro, w, tt, q0, ?_⟩
  · rw [F_X7_tie, I.raftAt, e_cl, e2, e_onnS, I.state2 hr, e_cl, if_pos c0, F_X2_landCrew, c2, e_onnS]
    simp (disch := omega) only [e_nn, e_onnN, e_onnS, e_ck, e_lt, e_cl, F_within, F_in, isz0, isz1, i10, ↓reduceIte, sl_RI, sl_CI, sl_LI, sl_IR, sl_CR, sl_LR, sl_II, sl_Ie, sl_RR, sl_Re, sl_CN, sl_Ce, sl_LN, sl_Le, sl_IN, sl_INe, sl_RN, sl_RNe, up2_s, up2_n, up1_s, up1_n, upN_s, upN_n, ne_eq, not_false_eq_true, reduceCtorEq, p2]
  · rw [F_X8_tie, isRaftS (h := (wI (wR (wR (wR h 0 c 3 none) 0 c 2 (some p)) 2 r 4 none) 2 r 5 (-1))) hR hr I.c_j24 I.r8_25 I.l45_0 e1]
    have fl := F_lands (h := wI (wI (wR (wR (wR h 0 c 3 none) 0 c 2 (some p)) 2 r 4 none) 2 r 5 (-1)) 45 0 r 0) (c := c) (by omega) (p := nI p) (f := nI nw - 8) I.r8_32 I.r8_33 I.r8_34 I.r8_35 I.l51_0 I.l52_0 I.l53_0 I.l54_0
    simp (disch := omega) only [e_nn, e_onnN, e_onnS, e_ck, e_lt, e_cl, F_within, F_in, isz0, isz1, i10, ↓reduceIte, sl_RI, sl_CI, sl_LI, sl_IR, sl_CR, sl_LR, sl_II, sl_Ie, sl_RR, sl_Re, sl_CN, sl_Ce, sl_LN, sl_Le, sl_IN, sl_INe, sl_RN, sl_RNe, up2_s, up2_n, up1_s, up1_n, upN_s, upN_n, ne_eq, not_false_eq_true, reduceCtorEq, c0, i_le, i_lt, i_eq, i_cl, i_inb, nI_add, nI_1, i_n1, i_1n, i_sub, p3, c3, n2, fl, I.r8_25, I.r8_26, I.r8_28, I.l45_0, I.l46_0, I.l48_0]
  · unfold SimG
    simp (disch := omega) only [sl_RI, sl_CI, sl_LI, sl_IR, sl_CR, sl_LR, sl_II, sl_Ie, sl_RR, sl_Re, sl_CN, sl_Ce, sl_LN, sl_Le, sl_IN, sl_INe, sl_RN, sl_RNe, up2_s, up2_n, up1_s, up1_n, upN_s, upN_n, ne_eq, not_false_eq_true, reduceCtorEq]
    refine ⟨I.w7, I.w1, I.w5, I.w8, I.ln, I.ct, I.a19, I.a20, I.a21, I.a22, I.st, I.sb, I.tr, ?_, ?_, ?_, I.nx, I.to, I.pr, I.gnw, I.tk, I.rg, I.ba, I.so⟩
    · intro r' hr'
      by_cases e : r' = r
      · subst e
        simp (disch := omega) only [sl_RI, sl_CI, sl_LI, sl_IR, sl_CR, sl_LR, sl_II, sl_Ie, sl_RR, sl_Re, sl_CN, sl_Ce, sl_LN, sl_Le, sl_IN, sl_INe, sl_RN, sl_RNe, up2_s, up2_n, up1_s, up1_n, upN_s, upN_n, ne_eq, not_false_eq_true, reduceCtorEq]
        exact ⟨⟨a1, a2, b6.symm, zz, a4, a5⟩, Or.inr (Or.inl ⟨trivial, b2, ⟨p, p1, p2, p3⟩, trivial, trivial, b6⟩)⟩
      · obtain ⟨q1, q2⟩ := I.rf r' hr'
        simp (disch := omega) only [sl_RI, sl_CI, sl_LI, sl_IR, sl_CR, sl_LR, sl_II, sl_Ie, sl_RR, sl_Re, sl_CN, sl_Ce, sl_LN, sl_Le, sl_IN, sl_INe, sl_RN, sl_RNe, up2_s, up2_n, up1_s, up1_n, upN_s, upN_n, ne_eq, not_false_eq_true, reduceCtorEq]
        refine ⟨q1, ?_⟩
        rcases q2 with q2 | q2 | ⟨b1, b2, b3, ⟨d, d1, d2, d3, d4⟩, b5⟩ | ⟨b1, b2, b3, ⟨d, d1, d2, d3, d4⟩, b5⟩
        · exact Or.inl q2
        · exact Or.inr (Or.inl q2)
        · have : d ≠ c := by rintro rfl; rw [c4] at d4; cases d4; exact e rfl
          exact Or.inr (Or.inr (Or.inl ⟨b1, b2, b3, ⟨d, d1, d2, d3, by simpa (disch := omega) only [sl_RI, sl_CI, sl_LI, sl_IR, sl_CR, sl_LR, sl_II, sl_Ie, sl_RR, sl_Re, sl_CN, sl_Ce, sl_LN, sl_Le, sl_IN, sl_INe, sl_RN, sl_RNe, up2_s, up2_n, up1_s, up1_n, upN_s, upN_n, ne_eq, not_false_eq_true, reduceCtorEq] using d4⟩, b5⟩))
        · have : d ≠ c := by rintro rfl; rw [c4] at d4; cases d4; exact e rfl
          exact Or.inr (Or.inr (Or.inr ⟨b1, b2, b3, ⟨d, d1, d2, d3, by simpa (disch := omega) only [sl_RI, sl_CI, sl_LI, sl_IR, sl_CR, sl_LR, sl_II, sl_Ie, sl_RR, sl_Re, sl_CN, sl_Ce, sl_LN, sl_Le, sl_IN, sl_INe, sl_RN, sl_RNe, up2_s, up2_n, up1_s, up1_n, upN_s, upN_n, ne_eq, not_false_eq_true, reduceCtorEq] using d4⟩, b5⟩))
    · refine ⟨fun c' hc' => ?_, fun c' hc' => by have := I.cr.2 c' hc'; simpa (disch := omega) only [sl_RI, sl_CI, sl_LI, sl_IR, sl_CR, sl_LR, sl_II, sl_Ie, sl_RR, sl_Re, sl_CN, sl_Ce, sl_LN, sl_Le, sl_IN, sl_INe, sl_RN, sl_RNe, up2_s, up2_n, up1_s, up1_n, upN_s, upN_n, ne_eq, not_false_eq_true, reduceCtorEq] using this⟩
      by_cases e : c' = c
      · subst e
        simp (disch := omega) only [sl_RI, sl_CI, sl_LI, sl_IR, sl_CR, sl_LR, sl_II, sl_Ie, sl_RR, sl_Re, sl_CN, sl_Ce, sl_LN, sl_Le, sl_IN, sl_INe, sl_RN, sl_RNe, up2_s, up2_n, up1_s, up1_n, upN_s, upN_n, ne_eq, not_false_eq_true, reduceCtorEq]
        exact ⟨g1, Or.inl ⟨trivial, ⟨p, p1, rfl, rfl⟩, trivial, s6, k, nw, s7, rfl, by omega, by omega, Or.inr ⟨hk, Nat.le_refl _⟩⟩⟩
      · obtain ⟨q1, q2⟩ := I.cr.1 c' hc'
        simp (disch := omega) only [sl_RI, sl_CI, sl_LI, sl_IR, sl_CR, sl_LR, sl_II, sl_Ie, sl_RR, sl_Re, sl_CN, sl_Ce, sl_LN, sl_Le, sl_IN, sl_INe, sl_RN, sl_RNe, up2_s, up2_n, up1_s, up1_n, upN_s, upN_n, ne_eq, not_false_eq_true, reduceCtorEq]
        refine ⟨q1, ?_⟩
        rcases q2 with q2 | ⟨b1, b2, ⟨d, d1, d2, d3, d4⟩, b5⟩ | q2
        · exact Or.inl q2
        · have : d ≠ r := by rintro rfl; rw [c2] at d3; cases d3; exact e rfl
          exact Or.inr (Or.inl ⟨b1, b2, ⟨d, d1, d2, by simpa (disch := omega) only [sl_RI, sl_CI, sl_LI, sl_IR, sl_CR, sl_LR, sl_II, sl_Ie, sl_RR, sl_Re, sl_CN, sl_Ce, sl_LN, sl_Le, sl_IN, sl_INe, sl_RN, sl_RNe, up2_s, up2_n, up1_s, up1_n, upN_s, upN_n, ne_eq, not_false_eq_true, reduceCtorEq] using d3, by simpa (disch := omega) only [sl_RI, sl_CI, sl_LI, sl_IR, sl_CR, sl_LR, sl_II, sl_Ie, sl_RR, sl_Re, sl_CN, sl_Ce, sl_LN, sl_Le, sl_IN, sl_INe, sl_RN, sl_RNe, up2_s, up2_n, up1_s, up1_n, upN_s, upN_n, ne_eq, not_false_eq_true, reduceCtorEq] using d4⟩, b5⟩)
        · exact Or.inr (Or.inr q2)
    · refine (I.rw.i2 (fun r' => ?_)).r2 (fun r' => ?_)
      · by_cases e : r' = r
        · subst e; simp (disch := omega) only [sl_RI, sl_CI, sl_LI, sl_IR, sl_CR, sl_LR, sl_II, sl_Ie, sl_RR, sl_Re, sl_CN, sl_Ce, sl_LN, sl_Le, sl_IN, sl_INe, sl_RN, sl_RNe, up2_s, up2_n, up1_s, up1_n, upN_s, upN_n, ne_eq, not_false_eq_true, reduceCtorEq]
        · simp (disch := omega) only [sl_RI, sl_CI, sl_LI, sl_IR, sl_CR, sl_LR, sl_II, sl_Ie, sl_RR, sl_Re, sl_CN, sl_Ce, sl_LN, sl_Le, sl_IN, sl_INe, sl_RN, sl_RNe, up2_s, up2_n, up1_s, up1_n, upN_s, upN_n, ne_eq, not_false_eq_true, reduceCtorEq]
      · by_cases e : r' = r
        · subst e; simp (disch := omega) only [sl_RI, sl_CI, sl_LI, sl_IR, sl_CR, sl_LR, sl_II, sl_Ie, sl_RR, sl_Re, sl_CN, sl_Ce, sl_LN, sl_Le, sl_IN, sl_INe, sl_RN, sl_RNe, up2_s, up2_n, up1_s, up1_n, upN_s, upN_n, ne_eq, not_false_eq_true, reduceCtorEq]
        · simp (disch := omega) only [sl_RI, sl_CI, sl_LI, sl_IR, sl_CR, sl_LR, sl_II, sl_Ie, sl_RR, sl_Re, sl_CN, sl_Ce, sl_LN, sl_Le, sl_IN, sl_INe, sl_RN, sl_RNe, up2_s, up2_n, up1_s, up1_n, upN_s, upN_n, ne_eq, not_false_eq_true, reduceCtorEq]
end OPS
