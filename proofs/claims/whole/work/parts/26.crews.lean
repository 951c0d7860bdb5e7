section OPS
variable {nw : Nat} {z : Nat → Nat} {ro : Nat → Nat → Nat} {w : Nat → Nat} {tt : Nat → Nat → Nat} {q0 : Nat} {h : Hp}
theorem l_20 : ((2 : Int32) = 0) = False := eq_false (by decide)
theorem l_30 : ((3 : Int32) = 0) = False := eq_false (by decide)
theorem l_21 : ((2 : Int32) = 1) = False := eq_false (by decide)
theorem l_31 : ((3 : Int32) = 1) = False := eq_false (by decide)
theorem l_01 : ((0 : Int32) = 1) = False := eq_false (by decide)
theorem l_02 : ((0 : Int32) = 2) = False := eq_false (by decide)
theorem l_12 : ((1 : Int32) = 2) = False := eq_false (by decide)
theorem l_32 : ((3 : Int32) = 2) = False := eq_false (by decide)
theorem l_03 : ((0 : Int32) = 3) = False := eq_false (by decide)
theorem l_13 : ((1 : Int32) = 3) = False := eq_false (by decide)
theorem l_23 : ((2 : Int32) = 3) = False := eq_false (by decide)
theorem op_crewed (I : SimG nw z ro w tt q0 h) (x y : Int32) : OP (F_X7_crewed 0 x y) (F_X8_crewed 0 x y) h := by
  have hC := I.c_hC
  obtain ⟨n1, n2, n3⟩ := I.gnw
  rcases wi_ix x (n := pC h 0) (by omega) with ⟨e1, e2⟩ | ⟨e1, j, hj, rfl, e2⟩
  · refine OP.same I (r := -1) ?_ ?_
    · simp only [F_X7_crewed, I.crewAt, e_nn, e_onnN, e_onnS, e_ck, e_lt, e_cl, F_within, F_in, isz0, isz1, i10, ↓reduceIte, e2]
    · simp only [F_X8_crewed, I.c_j30, e_nn, e_onnN, e_onnS, e_ck, e_lt, e_cl, F_within, F_in, isz0, isz1, i10, ↓reduceIte, e1]
  · have key : ∃ B : Int32, F_X8_crewed 0 (nI j) y h = some (B, h) ∧ F_X7_crewed 0 (nI j) y h = some (B, h) := by
      rw [F_X8_crewed, F_in, e_cl, I.c_j30, e1, if_neg (by decide), F_X7_crewed, I.crewAt, e_cl, e2, e_onnS]
      have hst := (I.cr.1 j hj).2
      by_cases c0 : y = 0
      · rw [if_pos c0, if_pos c0, I.r8_32, e_nn, I.l51_0, i_inb (by omega) (by omega), e_ck, i_cl (by omega), F_X0_state]
        rcases hst with ⟨b1, ⟨p, -, b2, -⟩, -⟩ | ⟨b1, b2, ⟨r, -, b3, -⟩, -⟩ | ⟨b1, b2, b3, -⟩
        · rw [b1, b2]; exact ⟨_, rfl, rfl⟩
        · rw [b1, b2, b3]; exact ⟨_, rfl, rfl⟩
        · rw [b1, b2, b3]; exact ⟨_, rfl, rfl⟩
      rw [if_neg c0, if_neg c0]
      by_cases c1 : y = 1
      · rw [if_pos c1, if_pos c1, I.r8_32, e_nn, I.l51_0, i_inb (by omega) (by omega), e_ck, i_cl (by omega), I.r8_33, e_nn, I.l52_0, i_inb (by omega) (by omega), e_ck, F_X7_numberOf]
        rcases hst with ⟨b1, ⟨p, b0, b2, b3⟩, -⟩ | ⟨b1, b2, -⟩ | ⟨b1, b2, -⟩
        · rw [if_pos b1, b2, b3, e_onnS, (I.st.1 p b0).1, e_cl]; exact ⟨_, rfl, rfl⟩
        · rw [if_neg (by rw [b1]; decide), b2, e_onnN, e_cl]; exact ⟨_, rfl, rfl⟩
        · rw [if_neg (by rw [b1]; decide), b2, e_onnN, e_cl]; exact ⟨_, rfl, rfl⟩
      rw [if_neg c1, if_neg c1]
      by_cases c2 : y = 2
      · rw [if_pos c2, if_pos c2, I.r8_32, e_nn, I.l51_0, i_inb (by omega) (by omega), e_ck, i_cl (by omega), I.r8_35, e_nn, I.l54_0, i_inb (by omega) (by omega), e_ck]
        rcases hst with ⟨b1, -, -, b4, -⟩ | ⟨b1, -, -, b4, -⟩ | ⟨b1, -, -, a, -, -, b4, b5⟩
        · rw [if_neg (by rw [b1]; decide), b4]; exact ⟨_, rfl, rfl⟩
        · rw [if_neg (by rw [b1]; decide), b4]; exact ⟨_, rfl, rfl⟩
        · rw [if_pos b1, b4, b5]; exact ⟨_, rfl, rfl⟩
      rw [if_neg c2, if_neg c2]
      by_cases c3 : y = 3
      · rw [if_pos c3, if_pos c3, n1]
        rcases hst with ⟨b1, ⟨p, -, b2, -⟩, -, -, k, k', a1, a2, a3, a4, a5⟩ | ⟨b1, b2, -⟩ | ⟨b1, b2, -⟩
        · rw [rest_m (nw := nw) (by omega) a4 n3 n2 I.r8_32 I.r8_34 I.l51_0 I.l53_0 a2 b1, e_cl, rest_c (nw := nw) a3 n3 a1 b2, e_cl]
          by_cases d : k' ≤ nw
          · rw [if_pos d, if_pos (show k ≤ nw by omega)]; exact ⟨_, rfl, rfl⟩
          · rw [if_neg d, if_neg (show ¬ k ≤ nw by omega)]; exact ⟨_, rfl, rfl⟩
        · rw [F_X8_isResting, I.r8_32, e_nn, I.l51_0, i_inb (by omega) (by omega), e_ck, i_cl (by omega), if_neg (by rw [b1]; decide), e_cl, F_X0_rests, b2, e_onnN, e_cl]; exact ⟨_, rfl, rfl⟩
        · rw [F_X8_isResting, I.r8_32, e_nn, I.l51_0, i_inb (by omega) (by omega), e_ck, i_cl (by omega), if_neg (by rw [b1]; decide), e_cl, F_X0_rests, b2, e_onnN, e_cl]; exact ⟨_, rfl, rfl⟩
      rw [if_neg c3, if_neg c3]
      exact ⟨_, rfl, rfl⟩
    obtain ⟨B, k1, k2⟩ := key
    exact OP.same I k2 k1
theorem F_tell {q n len : Nat} {ky d v : Int32} (r0 : pR h 5 q 0 = some q) (r1 : pR h 5 q 1 = some q) (r2 : pR h 5 q 2 = some q) (l0 : pL h 16 q = len) (l1 : pL h 17 q = len) (l2 : pL h 18 q = len) (hl : len < 1000) (hn : n ≤ len) (e : pI h 5 q 3 = nI n) :
    F_X5_tell q ky d v h = if n < len then some (1, wI (wI (wI (wI h 16 q n ky) 17 q n d) 18 q n v) 5 q 3 (nI (n + 1))) else some (0, h) := by
  rw [F_X5_tell, r0, e_nn, l0, e]
  by_cases c : n < len
  · rw [if_pos c, q_lt c (by omega)]
    simp (disch := omega) only [e_nn, e_onnN, e_onnS, e_ck, e_lt, e_cl, F_within, F_in, isz0, isz1, i10, ↓reduceIte, sl_RI, sl_CI, sl_LI, sl_IR, sl_CR, sl_LR, sl_II, sl_Ie, sl_RR, sl_Re, sl_CN, sl_Ce, sl_LN, sl_Le, sl_IN, sl_INe, sl_RN, sl_RNe, up2_s, up2_n, up1_s, up1_n, upN_s, upN_n, ne_eq, not_false_eq_true, reduceCtorEq, i_le, i_lt, i_eq, i_cl, i_inb, nI_add, nI_1, i_n1, i_1n, i_sub, e, r1, r2, l1, l2]
  · rw [if_neg c, q_nlt (by omega) (by omega)]
theorem op_toll (I : SimG nw z ro w tt q0 h) (x y : Int32) : OP (F_X7_toll 0 x y) (F_X8_toll 0 x y) h := by
  rcases wi_k x 1000 (by decide) with ⟨e1, -⟩ | ⟨e1, d, hd, rfl, -⟩
  · have e1 : wi x 0 1000 = 0 := e1
    refine OP.same I (r := 0) ?_ ?_
    · simp only [F_X7_toll, e_nn, e_onnN, e_onnS, e_ck, e_lt, e_cl, F_within, F_in, isz0, isz1, i10, ↓reduceIte, e1]
    · simp only [F_X8_toll, e_nn, e_onnN, e_onnS, e_ck, e_lt, e_cl, F_within, F_in, isz0, isz1, i10, ↓reduceIte, e1]
  have e1 : wi (nI d) 0 1000 = 1 := e1
  rcases wi_01 y 0 100 with e2 | e2
  · refine OP.same I (r := 0) ?_ ?_
    · simp only [F_X7_toll, e_nn, e_onnN, e_onnS, e_ck, e_lt, e_cl, F_within, F_in, isz0, isz1, i10, ↓reduceIte, e1, e2]
    · simp only [F_X8_toll, e_nn, e_onnN, e_onnS, e_ck, e_lt, e_cl, F_within, F_in, isz0, isz1, i10, ↓reduceIte, e1, e2]
  obtain ⟨n, hn, ex, ey, hk⟩ := I.to
  have ft := F_tell (ky := 0) (d := nI d) (v := y) I.r5_00 I.r5_01 I.r5_02 I.l16_0 I.l17_0 I.l18_0 (by decide) hn ex
  by_cases c : n < 30
  · rw [if_pos c] at ft
    refine ⟨1, wI (wI (wI (wI h 16 0 n 0) 17 0 n (nI d)) 18 0 n y) 5 0 3 (nI (n + 1)), wI (wI (wI (wI (wI (wI (wI h 16 0 n 0) 17 0 n (nI d)) 18 0 n y) 5 0 3 (nI (n + 1))) 57 0 n (nI d)) 58 0 n y) 8 0 38 (nI (n + 1)), ?_, ?_, nw, z, ro, w, tt, q0, ?_⟩
    · rw [F_X7_toll]
      simp only [e_nn, e_onnN, e_onnS, e_ck, e_lt, e_cl, F_within, F_in, isz0, isz1, i10, ↓reduceIte, e1, e2, I.r7_9, ft]
    · rw [F_X8_toll]
      have nq : ¬ nI n = (30 : Int32) := by rw [i_eqL 30 (by omega) (by omega)]; omega
      simp (disch := omega) only [e_nn, e_onnN, e_onnS, e_ck, e_lt, e_cl, F_within, F_in, isz0, isz1, i10, ↓reduceIte, e1, e2, sl_RI, sl_CI, sl_LI, sl_IR, sl_CR, sl_LR, sl_II, sl_Ie, sl_RR, sl_Re, sl_CN, sl_Ce, sl_LN, sl_Le, sl_IN, sl_INe, sl_RN, sl_RNe, up2_s, up2_n, up1_s, up1_n, upN_s, upN_n, ne_eq, not_false_eq_true, reduceCtorEq, i_le, i_lt, i_eq, i_cl, i_inb, nI_add, nI_1, i_n1, i_1n, i_sub, ey, nq, I.r8_39, I.r8_40, I.l57_0, I.l58_0]
    · unfold SimG
      simp (disch := omega) only [sl_RI, sl_CI, sl_LI, sl_IR, sl_CR, sl_LR, sl_II, sl_Ie, sl_RR, sl_Re, sl_CN, sl_Ce, sl_LN, sl_Le, sl_IN, sl_INe, sl_RN, sl_RNe, up2_s, up2_n, up1_s, up1_n, upN_s, upN_n, ne_eq, not_false_eq_true, reduceCtorEq]
      refine ⟨I.w7, I.w1, I.w5, I.w8, I.ln, I.ct, I.a19, I.a20, I.a21, I.a22, I.st, I.sb, I.tr, I.rf, I.cr, I.rw, I.nx, ?_, I.pr, I.gnw, I.tk, I.rg, I.ba, I.so⟩
      refine ⟨n + 1, by omega, rfl, rfl, fun k hk2 => ?_⟩
      by_cases e : k = n
      · subst e
        rw [up1_s, up1_s, up1_s, up1_s, up1_s]
        exact ⟨rfl, rfl, rfl, d, hd, rfl⟩
      · rw [up1_n _ _ e, up1_n _ _ e, up1_n _ _ e, up1_n _ _ e, up1_n _ _ e]
        exact hk k (by omega)
  · rw [if_neg c] at ft
    refine OP.same I (r := 0) ?_ ?_
    · rw [F_X7_toll]
      simp only [e_nn, e_onnN, e_onnS, e_ck, e_lt, e_cl, F_within, F_in, isz0, isz1, i10, ↓reduceIte, e1, e2, I.r7_9, ft]
    · rw [F_X8_toll]
      have nq : nI n = (30 : Int32) := by rw [show n = 30 by omega]; rfl
      simp only [e_nn, e_onnN, e_onnS, e_ck, e_lt, e_cl, F_within, F_in, isz0, isz1, i10, ↓reduceIte, e1, e2, ey, nq]
theorem op_price (I : SimG nw z ro w tt q0 h) (x y u v : Int32) : OP (F_X7_price 0 x y u v) (F_X8_price 0 x y u v) h := by
  have hS := I.c_hS
  rcases wi_ix x (n := pC h 4) (by omega) with ⟨e1, e2⟩ | ⟨e1, j, hj, rfl, e2⟩
  · refine OP.same I (r := 0) ?_ ?_
    · simp only [F_X7_price, I.stationAt, e_nn, e_onnN, e_onnS, e_ck, e_lt, e_cl, F_within, F_in, isz0, isz1, i10, ↓reduceIte, e2]
    · simp only [F_X8_price, F_isStation I.c_j1, e_nn, e_onnN, e_onnS, e_ck, e_lt, e_cl, F_within, F_in, isz0, isz1, i10, ↓reduceIte, e1]
  have ec : pI h 4 j 6 = pI h 31 0 j := (I.st.1 j hj).2.2.2.2.2.1
  by_cases cc : pI h 31 0 j = 0
  · refine OP.same I (r := 0) ?_ ?_
    · simp only [F_X7_price, I.stationAt, e_nn, e_onnN, e_onnS, e_ck, e_lt, e_cl, F_within, F_in, isz0, isz1, i10, ↓reduceIte, e2, ec, cc]
    · rw [F_X8_price, F_isStation I.c_j1, e_cl, e1, if_neg (by decide), I.r8_8, e_nn, I.l31_0, i_inb (by omega) (by omega), e_ck, i_cl (by omega), if_pos cc]
  rcases wi_k y 3 (by decide) with ⟨e3, -⟩ | ⟨e3, s, hs, rfl, -⟩
  · have e3 : wi y 0 3 = 0 := e3
    refine OP.same I (r := 0) ?_ ?_
    · simp only [F_X7_price, I.stationAt, e_nn, e_onnN, e_onnS, e_ck, e_lt, e_cl, F_within, F_in, isz0, isz1, i10, ↓reduceIte, e2, ec, cc, e3]
    · rw [F_X8_price, F_isStation I.c_j1, e_cl, e1, if_neg (by decide), I.r8_8, e_nn, I.l31_0, i_inb (by omega) (by omega), e_ck, i_cl (by omega), if_neg cc, F_in, e_cl, e3, if_pos rfl]
  have e3 : wi (nI s) 0 3 = 1 := e3
  rcases wi_k u 1000 (by decide) with ⟨e4, -⟩ | ⟨e4, d, hd, rfl, -⟩
  · have e4 : wi u 0 1000 = 0 := e4
    refine OP.same I (r := 0) ?_ ?_
    · simp only [F_X7_price, I.stationAt, e_nn, e_onnN, e_onnS, e_ck, e_lt, e_cl, F_within, F_in, isz0, isz1, i10, ↓reduceIte, e2, ec, cc, e3, e4]
    · rw [F_X8_price, F_isStation I.c_j1, e_cl, e1, if_neg (by decide), I.r8_8, e_nn, I.l31_0, i_inb (by omega) (by omega), e_ck, i_cl (by omega), if_neg cc, F_in, e_cl, e3, if_neg (by decide), F_in, e_cl, e4, if_pos rfl]
  have e4 : wi (nI d) 0 1000 = 1 := e4
  rcases wi_k v 1000 (by decide) with ⟨e5, -⟩ | ⟨e5, b, hb, rfl, -⟩
  · have e5 : wi v 0 1000 = 0 := e5
    refine OP.same I (r := 0) ?_ ?_
    · simp only [F_X7_price, I.stationAt, e_nn, e_onnN, e_onnS, e_ck, e_lt, e_cl, F_within, F_in, isz0, isz1, i10, ↓reduceIte, e2, ec, cc, e3, e4, e5]
    · rw [F_X8_price, F_isStation I.c_j1, e_cl, e1, if_neg (by decide), I.r8_8, e_nn, I.l31_0, i_inb (by omega) (by omega), e_ck, i_cl (by omega), if_neg cc, F_in, e_cl, e3, if_neg (by decide), F_in, e_cl, e4, if_neg (by decide), F_in, e_cl, e5, if_pos rfl]
  have e5 : wi (nI b) 0 1000 = 1 := e5
  obtain ⟨n, hn, ex, ey, hk⟩ := I.pr
  have em : F_X7_marketOf (some j) (nI s) h = some (nI (j * 4 + s), h) := by
    rw [F_X7_marketOf, e_nn, (I.st.1 j hj).1, show (4 : Int32) = nI 4 from rfl, pk_mul, nI_add]
  have ft := F_tell (ky := nI (j * 4 + s)) (d := nI d) (v := nI b) I.r5_10 I.r5_11 I.r5_12 I.l16_1 I.l17_1 I.l18_1 (by decide) hn ex
  by_cases c : n < 100
  · rw [if_pos c] at ft
    refine ⟨1, wI (wI (wI (wI h 16 1 n (nI (j * 4 + s))) 17 1 n (nI d)) 18 1 n (nI b)) 5 1 3 (nI (n + 1)), wI (wI (wI (wI (wI (wI (wI (wI (wI h 16 1 n (nI (j * 4 + s))) 17 1 n (nI d)) 18 1 n (nI b)) 5 1 3 (nI (n + 1))) 59 0 n (nI j)) 60 0 n (nI s)) 61 0 n (nI d)) 62 0 n (nI b)) 8 0 41 (nI (n + 1)), ?_, ?_, nw, z, ro, w, tt, q0, ?_⟩
    · rw [F_X7_price]
      simp only [I.stationAt, e_nn, e_onnN, e_onnS, e_ck, e_lt, e_cl, F_within, F_in, isz0, isz1, i10, ↓reduceIte, e2, ec, cc, e3, e4, e5, em, I.r7_10, ft]
    · rw [F_X8_price]
      have nq : ¬ nI n = (100 : Int32) := by rw [i_eqL 100 (by omega) (by omega)]; omega
      have ej : pI (wI (wI (wI (wI h 16 1 n (nI (j * 4 + s))) 17 1 n (nI d)) 18 1 n (nI b)) 5 1 3 (nI (n + 1))) 8 0 1 = nI (pC h 4) := by simp (disch := omega) only [sl_RI, sl_CI, sl_LI, sl_IR, sl_CR, sl_LR, sl_II, sl_Ie, sl_RR, sl_Re, sl_CN, sl_Ce, sl_LN, sl_Le, sl_IN, sl_INe, sl_RN, sl_RNe, up2_s, up2_n, up1_s, up1_n, upN_s, upN_n, ne_eq, not_false_eq_true, reduceCtorEq, I.c_j1]
      simp (disch := omega) only [F_isStation ej, e_nn, e_onnN, e_onnS, e_ck, e_lt, e_cl, F_within, F_in, isz0, isz1, i10, ↓reduceIte, e1, cc, e3, e4, e5, sl_RI, sl_CI, sl_LI, sl_IR, sl_CR, sl_LR, sl_II, sl_Ie, sl_RR, sl_Re, sl_CN, sl_Ce, sl_LN, sl_Le, sl_IN, sl_INe, sl_RN, sl_RNe, up2_s, up2_n, up1_s, up1_n, upN_s, upN_n, ne_eq, not_false_eq_true, reduceCtorEq, i_le, i_lt, i_eq, i_cl, i_inb, nI_add, nI_1, i_n1, i_1n, i_sub, ey, nq, I.r8_8, I.l31_0, I.r8_42, I.r8_43, I.r8_44, I.r8_45, I.l59_0, I.l60_0, I.l61_0, I.l62_0]
    · unfold SimG
      simp (disch := omega) only [sl_RI, sl_CI, sl_LI, sl_IR, sl_CR, sl_LR, sl_II, sl_Ie, sl_RR, sl_Re, sl_CN, sl_Ce, sl_LN, sl_Le, sl_IN, sl_INe, sl_RN, sl_RNe, up2_s, up2_n, up1_s, up1_n, upN_s, upN_n, ne_eq, not_false_eq_true, reduceCtorEq]
      refine ⟨I.w7, I.w1, I.w5, I.w8, I.ln, I.ct, I.a19, I.a20, I.a21, I.a22, I.st, I.sb, I.tr, I.rf, I.cr, I.rw, I.nx, I.to, ?_, I.gnw, I.tk, I.rg, I.ba, I.so⟩
      refine ⟨n + 1, by omega, rfl, rfl, fun k hk2 => ?_⟩
      by_cases e : k = n
      · subst e
        simp only [up1_s]
        exact ⟨⟨j, s, by omega, by omega, rfl, rfl, rfl⟩, trivial, trivial, ⟨d, hd, rfl⟩, b, hb, rfl⟩
      · simp (disch := omega) only [up1_n]
        exact hk k (by omega)
  · rw [if_neg c] at ft
    refine OP.same I (r := 0) ?_ ?_
    · rw [F_X7_price]
      simp only [I.stationAt, e_nn, e_onnN, e_onnS, e_ck, e_lt, e_cl, F_within, F_in, isz0, isz1, i10, ↓reduceIte, e2, ec, cc, e3, e4, e5, em, I.r7_10, ft]
    · rw [F_X8_price]
      have nq : nI n = (100 : Int32) := by rw [show n = 100 by omega]; rfl
      rw [F_isStation I.c_j1, e_cl, e1, if_neg (by decide), I.r8_8, e_nn, I.l31_0, i_inb (by omega) (by omega), e_ck, i_cl (by omega), if_neg cc, F_in, e_cl, e3, if_neg (by decide), F_in, e_cl, e4, if_neg (by decide), F_in, e_cl, e5, if_neg (by decide), ey, if_pos nq]
end OPS
