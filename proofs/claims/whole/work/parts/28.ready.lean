section OPS
variable {nw : Nat} {z : Nat → Nat} {ro : Nat → Nat → Nat} {w : Nat → Nat} {tt : Nat → Nat → Nat} {q0 : Nat} {h : Hp}
theorem nI_0e : (nI 0 : Int32) = 0 := rfl
theorem op_ready (I : SimG nw z ro w tt q0 h) (x y : Int32) : OP (F_X7_ready 0 x y) (F_X8_ready 0 x y) h := by
  have hR := I.c_hR
  have hC := I.c_hC
  have hS := I.c_hS
  obtain ⟨n1, n2, n3⟩ := I.gnw
  rcases wi_ix x (n := pC h 2) (by omega) with ⟨e1, e2⟩ | ⟨e1, r, hr, rfl, e2⟩
  · refine OP.same I (r := 0) ?_ ?_
    · rw [F_X7_ready, I.tiedN e2, e_cl, I.crewAt, e_cl, e_onnN]
    · rw [F_X8_ready, isRaftN I.c_j24 e1, e_cl, if_pos rfl]
  by_cases c0 : pI h 45 0 r = 0
  rotate_left
  · refine OP.same I (r := 0) ?_ ?_
    · rw [F_X7_ready, I.tiedS hr e2, if_neg c0, e_cl, I.crewAt, e_cl, e_onnN]
    · rw [F_X8_ready, isRaftS hR hr I.c_j24 I.r8_25 I.l45_0 e1, if_neg c0, e_cl, if_pos rfl]
  obtain ⟨⟨a1, a2, a3, zz, a4, a5⟩, hst⟩ := I.rf r hr
  obtain ⟨b2, ⟨p, p1, p2, p3⟩, b4, b5, b6⟩ : pI h 47 0 r ≠ 0 ∧ (∃ p, p < pC h 4 ∧ pR h 2 r 3 = some p ∧ pI h 46 0 r = nI p) ∧ pR h 2 r 4 = none ∧ pI h 48 0 r = -1 ∧ pI h 49 0 r = -1 := by
    rcases hst with ⟨b1, -⟩ | ⟨b1, b⟩ | ⟨b1, -⟩ | ⟨b1, -⟩
    · rw [c0] at b1; exact absurd b1 (by decide)
    · exact b
    · rw [c0] at b1; exact absurd b1 (by decide)
    · rw [c0] at b1; exact absurd b1 (by decide)
  by_cases hp0 : p = 0
  · subst hp0
    have eb := (I.st.1 0 p1).2.2.2.2.2.2.2.2.2.2.1 rfl
    refine OP.same I (r := 0) ?_ ?_
    · rw [F_X7_ready, I.tiedS hr e2, if_pos c0, e_cl, I.crewAt, e_cl, e_onnS]
      cases ixo y (pC h 0) with
      | none => rw [e_onnN]
      | some c => rw [e_onnS, p2, e_onnS, eb, e_onnN]
    · rw [F_X8_ready, isRaftS hR hr I.c_j24 I.r8_25 I.l45_0 e1, if_pos c0, e_cl, if_neg (by decide), I.r8_26, e_nn, I.l46_0, i_inb (by omega) (by omega), e_ck, i_cl (by omega), p3, if_pos nI_0e]
  obtain ⟨bb, -, eb, -⟩ := (I.st.1 p p1).2.2.2.2.2.2.2.2.2.2.2 (by omega)
  have np : ¬ nI p = (0 : Int32) := by rw [i_eqL 0 (by omega) (by omega)]; exact hp0
  rcases wi_ix y (n := pC h 0) (by omega) with ⟨f1, f2⟩ | ⟨f1, c, hc, rfl, f2⟩
  · refine OP.same I (r := 0) ?_ ?_
    · rw [F_X7_ready, I.tiedS hr e2, if_pos c0, e_cl, I.crewAt, e_cl, e_onnS, f2, e_onnN]
    · rw [F_X8_ready, isRaftS hR hr I.c_j24 I.r8_25 I.l45_0 e1, if_pos c0, e_cl, if_neg (by decide), I.r8_26, e_nn, I.l46_0, i_inb (by omega) (by omega), e_ck, i_cl (by omega), p3, if_neg np, F_in, e_cl, I.c_j30, f1, if_pos rfl]
  obtain ⟨g1, gst⟩ := I.cr.1 c hc
  have nocrew : ∀ pc : Option Nat, pR h 0 c 2 = pc → pc ≠ some p → (pI h 51 0 c ≠ 0 ∨ pI h 52 0 c ≠ nI p) → OP (F_X7_ready 0 (nI r) (nI c)) (F_X8_ready 0 (nI r) (nI c)) h := by
    intro pc k1 k2 k3
    refine OP.same I (r := 0) ?_ ?_
    · rw [F_X7_ready, I.tiedS hr e2, if_pos c0, e_cl, I.crewAt, e_cl, e_onnS, f2, e_onnS, p2, e_onnS, eb, e_onnS, k1, if_neg k2]
    · rw [F_X8_ready, isRaftS hR hr I.c_j24 I.r8_25 I.l45_0 e1, if_pos c0, e_cl, if_neg (by decide), I.r8_26, e_nn, I.l46_0, i_inb (by omega) (by omega), e_ck, i_cl (by omega), p3, if_neg np, F_in, e_cl, I.c_j30, f1, if_neg (by decide), I.r8_32, e_nn, I.l51_0, i_inb (by omega) (by omega), e_ck, i_cl (by omega)]
      by_cases k : pI h 51 0 c = 0
      · rw [if_pos k, I.r8_33, e_nn, I.l52_0, i_inb (by omega) (by omega), e_ck, I.r8_26, e_nn, I.l46_0, i_inb (by omega) (by omega), e_ck, p3, if_neg (by rcases k3 with k3 | k3; (· exact absurd k k3); exact k3)]
      · rw [if_neg k]
  rcases gst with ⟨s1, ⟨p', s2, s3, s4⟩, s5, s6, k, k', s7, s8, s9, s10, s11⟩ | ⟨s1, s2, -⟩ | ⟨s1, s2, -⟩
  rotate_left
  · exact nocrew none s2 (by simp) (Or.inl (by rw [s1]; decide))
  · exact nocrew none s2 (by simp) (Or.inl (by rw [s1]; decide))
  by_cases hpp : p' = p
  rotate_left
  · exact nocrew (some p') s3 (by simpa using hpp) (Or.inr (by rw [s4]; simp only [ne_eq]; rw [i_eq (by omega) (by omega)]; exact hpp))
  subst hpp
  have hrc := rest_c (h := h) (nw := nw) s9 n3 s7 s3
  have hrm := rest_m (h := h) (nw := nw) (c := c) (by omega) s10 n3 n2 I.r8_32 I.r8_34 I.l51_0 I.l53_0 s8 s1
  by_cases hk : k ≤ nw
  rotate_left
  · rw [if_neg hk] at hrc
    rw [if_neg (show ¬ k' ≤ nw by omega)] at hrm
    refine OP.same I (r := 0) ?_ ?_
    · rw [F_X7_ready, I.tiedS hr e2, if_pos c0, e_cl, I.crewAt, e_cl, e_onnS, f2, e_onnS, p2, e_onnS, eb, e_onnS, s3, if_pos rfl, n1, hrc, e_cl, if_neg (by decide)]
    · rw [F_X8_ready, isRaftS hR hr I.c_j24 I.r8_25 I.l45_0 e1, if_pos c0, e_cl, if_neg (by decide), I.r8_26, e_nn, I.l46_0, i_inb (by omega) (by omega), e_ck, i_cl (by omega), p3, if_neg np, F_in, e_cl, I.c_j30, f1, if_neg (by decide), I.r8_32, e_nn, I.l51_0, i_inb (by omega) (by omega), e_ck, i_cl (by omega), if_pos s1, I.r8_33, e_nn, I.l52_0, i_inb (by omega) (by omega), e_ck, I.r8_26, e_nn, I.l46_0, i_inb (by omega) (by omega), e_ck, p3, s4, if_pos rfl, hrm, e_cl, if_neg (by decide)]
  rw [if_pos hk] at hrc
  rw [if_pos (show k' ≤ nw by omega)] at hrm
  have hrm1 := rest_m (h := (wR (wR (wR h 0 c 2 none) 0 c 3 (some r)) 2 r 4 (some c))) (nw := nw) (c := c) (by omega) s10 n3 n2 I.r8_32 I.r8_34 I.l51_0 I.l53_0 s8 s1
  refine ⟨1, (wR (wR (wR h 0 c 2 none) 0 c 3 (some r)) 2 r 4 (some c)), (wI (wI (wI (wR (wR (wR h 0 c 2 none) 0 c 3 (some r)) 2 r 4 (some c)) 45 0 r 1) 48 0 r (nI c)) 51 0 c 1), ?_, ?_, nw, z, ro, w, tt, q0, ?_⟩
  · rw [F_X7_ready, I.tiedS hr e2, if_pos c0, e_cl, I.crewAt, e_cl, e_onnS, f2, e_onnS, p2, e_onnS, eb, e_onnS, s3, if_pos rfl, n1, hrc, e_cl, if_pos rfl, F_X0_board]
    simp only [e_nn, e_onnN, e_onnS, e_ck, e_lt, e_cl, F_within, F_in, isz0, isz1, i10, ↓reduceIte]
  · rw [if_pos (show k' ≤ nw by omega)] at hrm1
    rw [F_X8_ready, isRaftS (h := (wR (wR (wR h 0 c 2 none) 0 c 3 (some r)) 2 r 4 (some c))) hR hr I.c_j24 I.r8_25 I.l45_0 e1]
    simp (disch := omega) only [e_nn, e_onnN, e_onnS, e_ck, e_lt, e_cl, F_within, F_in, isz0, isz1, i10, ↓reduceIte, sl_IR, sl_LR, sl_RI, sl_CI, sl_LI, sl_IR, sl_CR, sl_LR, sl_II, sl_Ie, sl_RR, sl_Re, sl_CN, sl_Ce, sl_LN, sl_Le, sl_IN, sl_INe, sl_RN, sl_RNe, up2_s, up2_n, up1_s, up1_n, upN_s, upN_n, ne_eq, not_false_eq_true, reduceCtorEq, c0, i_le, i_lt, i_eq, i_cl, i_inb, nI_add, nI_1, i_n1, i_1n, i_sub, p3, np, I.c_j30, f1, s1, s4, hrm1, I.r8_25, I.r8_26, I.r8_28, I.r8_32, I.r8_33, I.l45_0, I.l46_0, I.l48_0, I.l51_0, I.l52_0]
  · unfold SimG
    simp (disch := omega) only [sl_RI, sl_CI, sl_LI, sl_IR, sl_CR, sl_LR, sl_II, sl_Ie, sl_RR, sl_Re, sl_CN, sl_Ce, sl_LN, sl_Le, sl_IN, sl_INe, sl_RN, sl_RNe, up2_s, up2_n, up1_s, up1_n, upN_s, upN_n, ne_eq, not_false_eq_true, reduceCtorEq]
    refine ⟨I.w7, I.w1, I.w5, I.w8, I.ln, I.ct, I.a19, I.a20, I.a21, I.a22, I.st, I.sb, I.tr, ?_, ?_, ?_, I.nx, I.to, I.pr, I.gnw, I.tk, I.rg, I.ba, I.so⟩
    · intro r' hr'
      by_cases e : r' = r
      · subst e
        simp (disch := omega) only [sl_RI, sl_CI, sl_LI, sl_IR, sl_CR, sl_LR, sl_II, sl_Ie, sl_RR, sl_Re, sl_CN, sl_Ce, sl_LN, sl_Le, sl_IN, sl_INe, sl_RN, sl_RNe, up2_s, up2_n, up1_s, up1_n, upN_s, upN_n, ne_eq, not_false_eq_true, reduceCtorEq]
        exact ⟨⟨a1, a2, a3, zz, a4, a5⟩, Or.inr (Or.inr (Or.inl ⟨trivial, b2, ⟨p', p1, by omega, p2, p3⟩, ⟨c, hc, rfl, rfl, by simp (disch := omega) only [sl_RI, sl_CI, sl_LI, sl_IR, sl_CR, sl_LR, sl_II, sl_Ie, sl_RR, sl_Re, sl_CN, sl_Ce, sl_LN, sl_Le, sl_IN, sl_INe, sl_RN, sl_RNe, up2_s, up2_n, up1_s, up1_n, upN_s, upN_n, ne_eq, not_false_eq_true, reduceCtorEq]⟩, b6⟩))⟩
      · obtain ⟨q1, q2⟩ := I.rf r' hr'
        simp (disch := omega) only [sl_RI, sl_CI, sl_LI, sl_IR, sl_CR, sl_LR, sl_II, sl_Ie, sl_RR, sl_Re, sl_CN, sl_Ce, sl_LN, sl_Le, sl_IN, sl_INe, sl_RN, sl_RNe, up2_s, up2_n, up1_s, up1_n, upN_s, upN_n, ne_eq, not_false_eq_true, reduceCtorEq]
        refine ⟨q1, ?_⟩
        rcases q2 with q2 | q2 | ⟨b1, b2, b3, ⟨d, d1, d2, d3, d4⟩, b5⟩ | ⟨b1, b2, b3, ⟨d, d1, d2, d3, d4⟩, b5⟩
        · exact Or.inl q2
        · exact Or.inr (Or.inl q2)
        · have : d ≠ c := by rintro rfl; rw [s5] at d4; cases d4
          exact Or.inr (Or.inr (Or.inl ⟨b1, b2, b3, ⟨d, d1, d2, d3, by simpa (disch := omega) only [sl_RI, sl_CI, sl_LI, sl_IR, sl_CR, sl_LR, sl_II, sl_Ie, sl_RR, sl_Re, sl_CN, sl_Ce, sl_LN, sl_Le, sl_IN, sl_INe, sl_RN, sl_RNe, up2_s, up2_n, up1_s, up1_n, upN_s, upN_n, ne_eq, not_false_eq_true, reduceCtorEq] using d4⟩, b5⟩))
        · have : d ≠ c := by rintro rfl; rw [s5] at d4; cases d4
          exact Or.inr (Or.inr (Or.inr ⟨b1, b2, b3, ⟨d, d1, d2, d3, by simpa (disch := omega) only [sl_RI, sl_CI, sl_LI, sl_IR, sl_CR, sl_LR, sl_II, sl_Ie, sl_RR, sl_Re, sl_CN, sl_Ce, sl_LN, sl_Le, sl_IN, sl_INe, sl_RN, sl_RNe, up2_s, up2_n, up1_s, up1_n, upN_s, upN_n, ne_eq, not_false_eq_true, reduceCtorEq] using d4⟩, b5⟩))
    · refine ⟨fun c' hc' => ?_, fun c' hc' => by have := I.cr.2 c' hc'; simpa (disch := omega) only [sl_RI, sl_CI, sl_LI, sl_IR, sl_CR, sl_LR, sl_II, sl_Ie, sl_RR, sl_Re, sl_CN, sl_Ce, sl_LN, sl_Le, sl_IN, sl_INe, sl_RN, sl_RNe, up2_s, up2_n, up1_s, up1_n, upN_s, upN_n, ne_eq, not_false_eq_true, reduceCtorEq] using this⟩
      by_cases e : c' = c
      · subst e
        simp (disch := omega) only [sl_RI, sl_CI, sl_LI, sl_IR, sl_CR, sl_LR, sl_II, sl_Ie, sl_RR, sl_Re, sl_CN, sl_Ce, sl_LN, sl_Le, sl_IN, sl_INe, sl_RN, sl_RNe, up2_s, up2_n, up1_s, up1_n, upN_s, upN_n, ne_eq, not_false_eq_true, reduceCtorEq]
        exact ⟨g1, Or.inr (Or.inl ⟨trivial, trivial, ⟨r, hr, rfl, by simp (disch := omega) only [sl_RI, sl_CI, sl_LI, sl_IR, sl_CR, sl_LR, sl_II, sl_Ie, sl_RR, sl_Re, sl_CN, sl_Ce, sl_LN, sl_Le, sl_IN, sl_INe, sl_RN, sl_RNe, up2_s, up2_n, up1_s, up1_n, upN_s, upN_n, ne_eq, not_false_eq_true, reduceCtorEq], Or.inl (by rw [up1_s])⟩, s6, k, s7, hk⟩)⟩
      · obtain ⟨q1, q2⟩ := I.cr.1 c' hc'
        simp (disch := omega) only [sl_RI, sl_CI, sl_LI, sl_IR, sl_CR, sl_LR, sl_II, sl_Ie, sl_RR, sl_Re, sl_CN, sl_Ce, sl_LN, sl_Le, sl_IN, sl_INe, sl_RN, sl_RNe, up2_s, up2_n, up1_s, up1_n, upN_s, upN_n, ne_eq, not_false_eq_true, reduceCtorEq]
        refine ⟨q1, ?_⟩
        rcases q2 with q2 | ⟨b1, b2, ⟨d, d1, d2, d3, d4⟩, b5⟩ | q2
        · exact Or.inl q2
        · have : d ≠ r := by rintro rfl; rw [b4] at d3; cases d3
          exact Or.inr (Or.inl ⟨b1, b2, ⟨d, d1, d2, by simpa (disch := omega) only [sl_RI, sl_CI, sl_LI, sl_IR, sl_CR, sl_LR, sl_II, sl_Ie, sl_RR, sl_Re, sl_CN, sl_Ce, sl_LN, sl_Le, sl_IN, sl_INe, sl_RN, sl_RNe, up2_s, up2_n, up1_s, up1_n, upN_s, upN_n, ne_eq, not_false_eq_true, reduceCtorEq] using d3, by simpa (disch := omega) only [sl_RI, sl_CI, sl_LI, sl_IR, sl_CR, sl_LR, sl_II, sl_Ie, sl_RR, sl_Re, sl_CN, sl_Ce, sl_LN, sl_Le, sl_IN, sl_INe, sl_RN, sl_RNe, up2_s, up2_n, up1_s, up1_n, upN_s, upN_n, ne_eq, not_false_eq_true, reduceCtorEq] using d4⟩, b5⟩)
        · exact Or.inr (Or.inr q2)
    · refine I.rw.r2 (fun r' => ?_)
      by_cases e : r' = r
      · subst e; simp (disch := omega) only [sl_RI, sl_CI, sl_LI, sl_IR, sl_CR, sl_LR, sl_II, sl_Ie, sl_RR, sl_Re, sl_CN, sl_Ce, sl_LN, sl_Le, sl_IN, sl_INe, sl_RN, sl_RNe, up2_s, up2_n, up1_s, up1_n, upN_s, upN_n, ne_eq, not_false_eq_true, reduceCtorEq]
      · simp (disch := omega) only [sl_RI, sl_CI, sl_LI, sl_IR, sl_CR, sl_LR, sl_II, sl_Ie, sl_RR, sl_Re, sl_CN, sl_Ce, sl_LN, sl_Le, sl_IN, sl_INe, sl_RN, sl_RNe, up2_s, up2_n, up1_s, up1_n, upN_s, upN_n, ne_eq, not_false_eq_true, reduceCtorEq]
end OPS
