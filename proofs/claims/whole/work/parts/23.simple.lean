theorem isz0 : isz 0 = true := by decide
theorem isz1 : isz 1 = true := by decide
theorem i10 : ((1 : Int32) = 0) = False := eq_false (by decide)
def OP (A B : Hp → Option (Int32 × Hp)) (h : Hp) : Prop := ∃ r h1 h2, A h = some (r, h1) ∧ B h1 = some (r, h2) ∧ Sim h2
section OPS
variable {nw : Nat} {z : Nat → Nat} {ro : Nat → Nat → Nat} {w : Nat → Nat} {tt : Nat → Nat → Nat} {q0 : Nat} {h : Hp}
theorem OP.same {A B : Hp → Option (Int32 × Hp)} (I : SimG nw z ro w tt q0 h) {r : Int32} (a : A h = some (r, h)) (b : B h = some (r, h)) : OP A B h := ⟨r, h, h, a, b, nw, z, ro, w, tt, q0, I⟩
theorem F_isOwner (x : Int32) (h : Hp) : F_X7_isOwner x h = some (wi x 0 7, h) := by
  unfold F_X7_isOwner
  rw [F_within, e_cl]
  rcases wi_01 x 0 7 with e | e <;> rw [e] <;> rfl
theorem F_isStation {S : Nat} (e : pI h 8 0 1 = nI S) (x : Int32) : F_X8_isStation 0 x h = some (wi x 0 (nI S - 1), h) := by
  unfold F_X8_isStation
  rw [F_in, e_cl, e]
  rcases wi_01 x 0 (nI S - 1) with e | e <;> rw [e] <;> rfl
theorem F_isTrunk {S : Nat} (e : pI h 8 0 11 = nI S) (x : Int32) : F_X8_isTrunk 0 x h = some (wi x 0 (nI S - 1), h) := by
  unfold F_X8_isTrunk
  rw [F_in, e_cl, e]
  rcases wi_01 x 0 (nI S - 1) with e | e <;> rw [e] <;> rfl
theorem SimG.stationAt (I : SimG nw z ro w tt q0 h) (x : Int32) : F_X7_stationAt 0 x h = some (ixo x (pC h 4), h) := F_stationAt I.c_i1 I.r7_0 I.l19_0 I.c_hS I.a19
theorem SimG.trunkAt (I : SimG nw z ro w tt q0 h) (x : Int32) : F_X7_trunkAt 0 x h = some (ixo x (pC h 6), h) := by
  unfold F_X7_trunkAt
  have := at_eval (kc := 0) (x := x) I.c_i3 I.r7_2 I.l20_0 I.c_hT (by decide) I.a20
  rw [F_within, e_cl] at this ⊢
  exact this
theorem SimG.raftAt (I : SimG nw z ro w tt q0 h) (x : Int32) : F_X7_raftAt 0 x h = some (ixo x (pC h 2), h) := by
  unfold F_X7_raftAt
  have := at_eval (kc := 0) (x := x) I.c_i5 I.r7_4 I.l21_0 I.c_hR (by decide) I.a21
  rw [F_within, e_cl] at this ⊢
  exact this
theorem SimG.crewAt (I : SimG nw z ro w tt q0 h) (x : Int32) : F_X7_crewAt 0 x h = some (ixo x (pC h 0), h) := by
  unfold F_X7_crewAt
  have := at_eval (kc := 0) (x := x) I.c_i7 I.r7_6 I.l22_0 I.c_hC (by decide) I.a22
  rw [F_within, e_cl] at this ⊢
  exact this
theorem op_balance (I : SimG nw z ro w tt q0 h) (x : Int32) : OP (F_X7_balance 0 x) (F_X8_balance 0 x) h := by
  rcases wi_k x 7 (by decide) with ⟨e1, -⟩ | ⟨e1, j, hj, rfl, -⟩
  · have e1 : wi x 0 7 = 0 := e1
    refine OP.same I (r := 0) ?_ ?_
    · simp only [F_X7_balance, F_isOwner, e_nn, e_onnN, e_onnS, e_ck, e_lt, e_cl, F_within, F_in, isz0, isz1, i10, ↓reduceIte, e1]
    · simp only [F_X8_balance, e_nn, e_onnN, e_onnS, e_ck, e_lt, e_cl, F_within, F_in, isz0, isz1, i10, ↓reduceIte, e1]
  · have e1 : wi (nI j) 0 7 = 1 := e1
    refine OP.same I (r := pI h 56 0 j) ?_ ?_
    · simp (disch := omega) only [F_X7_balance, F_isOwner, e_nn, e_onnN, e_onnS, e_ck, e_lt, e_cl, F_within, F_in, isz0, isz1, i10, ↓reduceIte, e1, I.r7_12, I.l24_0, i_le, i_lt, i_eq, i_cl, i_inb, nI_add, nI_1, i_n1, i_1n, i_sub]
      rw [I.ba j (by omega)]
    · simp (disch := omega) only [F_X8_balance, e_nn, e_onnN, e_onnS, e_ck, e_lt, e_cl, F_within, F_in, isz0, isz1, i10, ↓reduceIte, e1, I.r8_37, I.l56_0, i_le, i_lt, i_eq, i_cl, i_inb, nI_add, nI_1, i_n1, i_1n, i_sub]
theorem Gba.up {a b : Nat → Int32} (g : Gba a b) (j : Nat) (v : Int32) : Gba (up1 a j v) (up1 b j v) := by
  intro o ho
  by_cases e : o = j
  · subst e; rw [up1_s, up1_s]
  · rw [up1_n _ _ e, up1_n _ _ e]; exact g o ho
theorem op_advance (I : SimG nw z ro w tt q0 h) (x y : Int32) : OP (F_X7_advance 0 x y) (F_X8_advance 0 x y) h := by
  rcases wi_k x 7 (by decide) with ⟨e1, -⟩ | ⟨e1, j, hj, rfl, -⟩
  · have e1 : wi x 0 7 = 0 := e1
    refine OP.same I (r := -2147483648) ?_ ?_
    · simp only [F_X7_advance, F_isOwner, e_nn, e_onnN, e_onnS, e_ck, e_lt, e_cl, F_within, F_in, isz0, isz1, i10, ↓reduceIte, e1]
    · simp only [F_X8_advance, e_nn, e_onnN, e_onnS, e_ck, e_lt, e_cl, F_within, F_in, isz0, isz1, i10, ↓reduceIte, e1]
  · have e1 : wi (nI j) 0 7 = 1 := e1
    rcases wi_01 y 1 100000 with e2 | e2
    · refine OP.same I (r := -2147483648) ?_ ?_
      · simp only [F_X7_advance, F_isOwner, e_nn, e_onnN, e_onnS, e_ck, e_lt, e_cl, F_within, F_in, isz0, isz1, i10, ↓reduceIte, e1, e2]
      · simp only [F_X8_advance, e_nn, e_onnN, e_onnS, e_ck, e_lt, e_cl, F_within, F_in, isz0, isz1, i10, ↓reduceIte, e1, e2]
    · refine ⟨pI h 24 0 j - y, wI h 24 0 j (pI h 24 0 j - y), wI (wI h 24 0 j (pI h 24 0 j - y)) 56 0 j (pI h 24 0 j - y), ?_, ?_, nw, z, ro, w, tt, q0, ?_⟩
      · simp (disch := omega) only [F_X7_advance, F_isOwner, e_nn, e_onnN, e_onnS, e_ck, e_lt, e_cl, F_within, F_in, isz0, isz1, i10, ↓reduceIte, e1, e2, I.r7_12, I.l24_0, i_le, i_lt, i_eq, i_cl, i_inb, nI_add, nI_1, i_n1, i_1n, i_sub, sl_RI, sl_CI, sl_LI, sl_IR, sl_CR, sl_LR, sl_II, sl_Ie, sl_RR, sl_Re, sl_CN, sl_Ce, sl_LN, sl_Le, sl_IN, sl_INe, sl_RN, sl_RNe, up2_s, up2_n, up1_s, up1_n, upN_s, upN_n, ne_eq, not_false_eq_true, reduceCtorEq]
      · simp (disch := omega) only [F_X8_advance, e_nn, e_onnN, e_onnS, e_ck, e_lt, e_cl, F_within, F_in, isz0, isz1, i10, ↓reduceIte, e1, e2, I.r8_37, I.l56_0, i_le, i_lt, i_eq, i_cl, i_inb, nI_add, nI_1, i_n1, i_1n, i_sub, sl_RI, sl_CI, sl_LI, sl_IR, sl_CR, sl_LR, sl_II, sl_Ie, sl_RR, sl_Re, sl_CN, sl_Ce, sl_LN, sl_Le, sl_IN, sl_INe, sl_RN, sl_RNe, up2_s, up2_n, up1_s, up1_n, upN_s, upN_n, ne_eq, not_false_eq_true, reduceCtorEq, I.ba j (by omega)]
      · unfold SimG
        simp (disch := omega) only [sl_RI, sl_CI, sl_LI, sl_IR, sl_CR, sl_LR, sl_II, sl_Ie, sl_RR, sl_Re, sl_CN, sl_Ce, sl_LN, sl_Le, sl_IN, sl_INe, sl_RN, sl_RNe, up2_s, up2_n, up1_s, up1_n, upN_s, upN_n, ne_eq, not_false_eq_true, reduceCtorEq]
        exact ⟨I.w7, I.w1, I.w5, I.w8, I.ln, I.ct, I.a19, I.a20, I.a21, I.a22, I.st, I.sb, I.tr, I.rf, I.cr, I.rw, I.nx, I.to, I.pr, I.gnw, I.tk, I.rg, I.ba.up j _, I.so⟩
theorem op_right (I : SimG nw z ro w tt q0 h) (x y : Int32) : OP (F_X7_right 0 x y) (F_X8_right 0 x y) h := by
  rcases wi_k x 7 (by decide) with ⟨e1, -⟩ | ⟨e1, j, hj, rfl, -⟩
  · have e1 : wi x 0 7 = 0 := e1
    refine OP.same I (r := 0) ?_ ?_
    · simp only [F_X7_right, F_isOwner, e_nn, e_onnN, e_onnS, e_ck, e_lt, e_cl, F_within, F_in, isz0, isz1, i10, ↓reduceIte, e1]
    · simp only [F_X8_right, e_nn, e_onnN, e_onnS, e_ck, e_lt, e_cl, F_within, F_in, isz0, isz1, i10, ↓reduceIte, e1]
  · have e1 : wi (nI j) 0 7 = 1 := e1
    rcases wi_k y 9 (by decide) with ⟨e2, -⟩ | ⟨e2, k, hk, rfl, -⟩
    · have e2 : wi y 0 9 = 0 := e2
      refine OP.same I (r := 0) ?_ ?_
      · simp only [F_X7_right, F_isOwner, e_nn, e_onnN, e_onnS, e_ck, e_lt, e_cl, F_within, F_in, isz0, isz1, i10, ↓reduceIte, e1, e2]
      · simp only [F_X8_right, e_nn, e_onnN, e_onnS, e_ck, e_lt, e_cl, F_within, F_in, isz0, isz1, i10, ↓reduceIte, e1, e2]
    · have e2 : wi (nI k) 0 9 = 1 := e2
      refine ⟨1, wI h 23 0 j (nI k), wI (wI h 23 0 j (nI k)) 55 0 j (nI k), ?_, ?_, nw, z, ro, w, tt, q0, ?_⟩
      · simp (disch := omega) only [F_X7_right, F_isOwner, e_nn, e_onnN, e_onnS, e_ck, e_lt, e_cl, F_within, F_in, isz0, isz1, i10, ↓reduceIte, e1, e2, I.r7_11, I.l23_0, i_le, i_lt, i_eq, i_cl, i_inb, nI_add, nI_1, i_n1, i_1n, i_sub, sl_RI, sl_CI, sl_LI, sl_IR, sl_CR, sl_LR, sl_II, sl_Ie, sl_RR, sl_Re, sl_CN, sl_Ce, sl_LN, sl_Le, sl_IN, sl_INe, sl_RN, sl_RNe, up2_s, up2_n, up1_s, up1_n, upN_s, upN_n, ne_eq, not_false_eq_true, reduceCtorEq]
      · simp (disch := omega) only [F_X8_right, e_nn, e_onnN, e_onnS, e_ck, e_lt, e_cl, F_within, F_in, isz0, isz1, i10, ↓reduceIte, e1, e2, I.r8_36, I.l55_0, i_le, i_lt, i_eq, i_cl, i_inb, nI_add, nI_1, i_n1, i_1n, i_sub, sl_RI, sl_CI, sl_LI, sl_IR, sl_CR, sl_LR, sl_II, sl_Ie, sl_RR, sl_Re, sl_CN, sl_Ce, sl_LN, sl_Le, sl_IN, sl_INe, sl_RN, sl_RNe, up2_s, up2_n, up1_s, up1_n, upN_s, upN_n, ne_eq, not_false_eq_true, reduceCtorEq]
      · unfold SimG
        simp (disch := omega) only [sl_RI, sl_CI, sl_LI, sl_IR, sl_CR, sl_LR, sl_II, sl_Ie, sl_RR, sl_Re, sl_CN, sl_Ce, sl_LN, sl_Le, sl_IN, sl_INe, sl_RN, sl_RNe, up2_s, up2_n, up1_s, up1_n, upN_s, upN_n, ne_eq, not_false_eq_true, reduceCtorEq]
        have g : Grg (up1 (pI h 23 0) j (nI k)) (up1 (pI h 55 0) j (nI k)) := by
          intro o ho
          by_cases e : o = j
          · subst e; rw [up1_s, up1_s]; exact ⟨rfl, k, hk, rfl⟩
          · rw [up1_n _ _ e, up1_n _ _ e]; exact I.rg o ho
        exact ⟨I.w7, I.w1, I.w5, I.w8, I.ln, I.ct, I.a19, I.a20, I.a21, I.a22, I.st, I.sb, I.tr, I.rf, I.cr, I.rw, I.nx, I.to, I.pr, I.gnw, I.tk, g, I.ba, I.so⟩
theorem op_storm (I : SimG nw z ro w tt q0 h) (x y u : Int32) : OP (F_X7_storm 0 x y u) (F_X8_storm 0 x y u) h := by
  obtain ⟨n1, n2, n3⟩ := I.gnw
  have hS := I.c_hS
  rcases wi_ix x (n := pC h 4) (by omega) with ⟨e1, e2⟩ | ⟨e1, j, hj, rfl, e2⟩
  · refine OP.same I (r := 0) ?_ ?_
    · simp only [F_X7_storm, I.stationAt, e_nn, e_onnN, e_onnS, e_ck, e_lt, e_cl, F_within, F_in, isz0, isz1, i10, ↓reduceIte, e2]
    · simp only [F_X8_storm, F_isStation I.c_j1, e_nn, e_onnN, e_onnS, e_ck, e_lt, e_cl, F_within, F_in, isz0, isz1, i10, ↓reduceIte, e1]
  · by_cases c1 : y < nI nw
    · refine OP.same I (r := 0) ?_ ?_
      · simp only [F_X7_storm, I.stationAt, e_nn, e_onnN, e_onnS, e_ck, e_lt, e_cl, F_within, F_in, isz0, isz1, i10, ↓reduceIte, e2, n1, c1]
      · simp only [F_X8_storm, F_isStation I.c_j1, e_nn, e_onnN, e_onnS, e_ck, e_lt, e_cl, F_within, F_in, isz0, isz1, i10, ↓reduceIte, e1, n2, c1]
    · by_cases c2 : y < u
      · refine ⟨1, wI (wI h 4 j 8 y) 4 j 9 u, wI (wI (wI (wI h 4 j 8 y) 4 j 9 u) 32 0 j y) 33 0 j u, ?_, ?_, nw, z, ro, w, tt, q0, ?_⟩
        · simp (disch := omega) only [F_X7_storm, I.stationAt, e_nn, e_onnN, e_onnS, e_ck, e_lt, e_cl, F_within, F_in, isz0, isz1, i10, ↓reduceIte, e2, n1, c1, c2]
        · have ej : pI (wI (wI h 4 j 8 y) 4 j 9 u) 8 0 1 = nI (pC h 4) := by simp (disch := omega) only [sl_RI, sl_CI, sl_LI, sl_IR, sl_CR, sl_LR, sl_II, sl_Ie, sl_RR, sl_Re, sl_CN, sl_Ce, sl_LN, sl_Le, sl_IN, sl_INe, sl_RN, sl_RNe, up2_s, up2_n, up1_s, up1_n, upN_s, upN_n, ne_eq, not_false_eq_true, reduceCtorEq, I.c_j1]
          simp (disch := omega) only [F_X8_storm, F_isStation ej, e_nn, e_onnN, e_onnS, e_ck, e_lt, e_cl, F_within, F_in, isz0, isz1, i10, ↓reduceIte, e1, n2, c1, c2, I.r8_9, I.r8_10, I.l32_0, I.l33_0, i_le, i_lt, i_eq, i_cl, i_inb, nI_add, nI_1, i_n1, i_1n, i_sub, sl_RI, sl_CI, sl_LI, sl_IR, sl_CR, sl_LR, sl_II, sl_Ie, sl_RR, sl_Re, sl_CN, sl_Ce, sl_LN, sl_Le, sl_IN, sl_INe, sl_RN, sl_RNe, up2_s, up2_n, up1_s, up1_n, upN_s, upN_n, ne_eq, not_false_eq_true, reduceCtorEq]
        · unfold SimG
          simp (disch := omega) only [sl_RI, sl_CI, sl_LI, sl_IR, sl_CR, sl_LR, sl_II, sl_Ie, sl_RR, sl_Re, sl_CN, sl_Ce, sl_LN, sl_Le, sl_IN, sl_INe, sl_RN, sl_RNe, up2_s, up2_n, up1_s, up1_n, upN_s, upN_n, ne_eq, not_false_eq_true, reduceCtorEq]
          have g : GS (pC h 4) (up2 (up2 (pI h 4) j 8 y) j 9 u) (pR h 4) (pI h 25 0) (pI h 26 0) (pI h 27 0) (pI h 28 0) (pI h 29 0) (pI h 30 0) (pI h 31 0) (up1 (pI h 32 0) j y) (up1 (pI h 33 0) j u) := by
            refine ⟨fun n hn => ?_, fun n hn => ?_⟩
            · have := I.st.1 n hn
              by_cases e : n = j
              · subst e
                obtain ⟨a0, a2, a3, a4, a5, a6, a7, -, -, a8⟩ := this
                simp (disch := omega) only [sl_RI, sl_CI, sl_LI, sl_IR, sl_CR, sl_LR, sl_II, sl_Ie, sl_RR, sl_Re, sl_CN, sl_Ce, sl_LN, sl_Le, sl_IN, sl_INe, sl_RN, sl_RNe, up2_s, up2_n, up1_s, up1_n, upN_s, upN_n, ne_eq, not_false_eq_true, reduceCtorEq]
                exact ⟨a0, a2, a3, a4, a5, a6, a7, trivial, trivial, a8⟩
              · simpa (disch := omega) only [sl_RI, sl_CI, sl_LI, sl_IR, sl_CR, sl_LR, sl_II, sl_Ie, sl_RR, sl_Re, sl_CN, sl_Ce, sl_LN, sl_Le, sl_IN, sl_INe, sl_RN, sl_RNe, up2_s, up2_n, up1_s, up1_n, upN_s, upN_n, ne_eq, not_false_eq_true, reduceCtorEq, e] using this
            · have := I.st.2 n hn
              simpa (disch := omega) only [sl_RI, sl_CI, sl_LI, sl_IR, sl_CR, sl_LR, sl_II, sl_Ie, sl_RR, sl_Re, sl_CN, sl_Ce, sl_LN, sl_Le, sl_IN, sl_INe, sl_RN, sl_RNe, up2_s, up2_n, up1_s, up1_n, upN_s, upN_n, ne_eq, not_false_eq_true, reduceCtorEq] using this
          have gb : GSb (pC h 4) (pI h 26 0) (pI h 27 0) (pI h 28 0) (pI h 29 0) (pI h 30 0) (up1 (pI h 32 0) j y) (up1 (pI h 33 0) j u) := by
            intro n hn
            have := I.sb n hn
            by_cases e : n = j
            · subst e
              refine ⟨this.1, ?_⟩
              have y0 : ¬ y < 0 := fun c => c1 (by
                rw [Int32.lt_iff_toInt_lt] at c ⊢
                rw [nI_toInt (by omega)]
                have : (0 : Int32).toInt = 0 := by decide
                omega)
              have u0 : ¬ u < 0 := fun c => y0 (by
                rw [Int32.lt_iff_toInt_lt] at c c2 ⊢
                omega)
              obtain ⟨f, hf, ef⟩ := nI_of y0
              obtain ⟨t, ht, et⟩ := nI_of u0
              exact ⟨f, t, by rw [up1_s, ef], by rw [up1_s, et], hf, ht⟩
            · simpa (disch := omega) only [sl_RI, sl_CI, sl_LI, sl_IR, sl_CR, sl_LR, sl_II, sl_Ie, sl_RR, sl_Re, sl_CN, sl_Ce, sl_LN, sl_Le, sl_IN, sl_INe, sl_RN, sl_RNe, up2_s, up2_n, up1_s, up1_n, upN_s, upN_n, ne_eq, not_false_eq_true, reduceCtorEq, e] using this
          exact ⟨I.w7, I.w1, I.w5, I.w8, I.ln, I.ct, I.a19, I.a20, I.a21, I.a22, g, gb, I.tr, I.rf, I.cr, I.rw, I.nx, I.to, I.pr, I.gnw, I.tk, I.rg, I.ba, I.so⟩
      · refine OP.same I (r := 0) ?_ ?_
        · simp only [F_X7_storm, I.stationAt, e_nn, e_onnN, e_onnS, e_ck, e_lt, e_cl, F_within, F_in, isz0, isz1, i10, ↓reduceIte, e2, n1, c1, c2]
        · simp only [F_X8_storm, F_isStation I.c_j1, e_nn, e_onnN, e_onnS, e_ck, e_lt, e_cl, F_within, F_in, isz0, isz1, i10, ↓reduceIte, e1, n2, c1, c2]
end OPS
