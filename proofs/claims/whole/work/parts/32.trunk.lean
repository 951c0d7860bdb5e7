theorem GT.T {S T R : Nat} {i6 i6' : Nat → Nat → Int32} {r6 r6' : Nat → Nat → Option Nat} {m34 m35 m36 m37 m38 m39 m40 m43 m34' m35' m36' m37' m39' m40' m43' : Nat → Int32} (g : GT S T R i6 r6 m34 m35 m36 m37 m38 m39 m40 m43)
    (he : ∀ t, t < T → i6' t = i6 t ∧ r6' t = r6 t ∧ m34' t = m34 t ∧ m35' t = m35 t ∧ m36' t = m36 t ∧ m37' t = m37 t ∧ m39' t = m39 t ∧ m40' t = m40 t ∧ m43' t = m43 t)
    (hn : (i6' T 0 = nI T ∧ i6' T 1 = m34' T ∧ i6' T 2 = m35' T ∧ i6' T 3 = m36' T ∧ i6' T 4 = m37' T ∧ i6' T 7 = m43' T) ∧ ((∃ o, o < 8 ∧ m35' T = nI o) ∧ (∃ s, s < 4 ∧ m36' T = nI s) ∧ ∃ q, 1 ≤ q ∧ q ≤ 9 ∧ m37' T = nI q) ∧ (∃ p, p < S ∧ r6' T 5 = some p ∧ m39' T = nI p) ∧ r6' T 6 = none ∧ m43' T = -1) :
    GT S (T + 1) R i6' r6' m34' m35' m36' m37' m38 m39' m40' m43' := by
  refine ⟨fun t ht => ?_, fun t ht => g.2 t (by omega)⟩
  by_cases e : t = T
  · subst e
    exact ⟨hn.1, hn.2.1, Or.inl ⟨g.2 t (Nat.le_refl _), hn.2.2⟩⟩
  · obtain ⟨b1, b2, b3, b4, b5, b6, b7, b8, b9⟩ := he t (by omega)
    rw [b1, b2, b3, b4, b5, b6, b7, b8, b9]
    exact g.1 t (by omega)
section OPS
variable {nw : Nat} {z : Nat → Nat} {ro : Nat → Nat → Nat} {w : Nat → Nat} {tt : Nat → Nat → Nat} {q0 : Nat} {h : Hp}
def tok (v : Nat) : Prop := v / 100 < 8 ∧ v / 10 % 10 < 4 ∧ v % 10 ≠ 0
theorem F_canBe6 {v : Nat} (hv : v < 2147483648) : (tok v ∧ F_X6_canBe (nI v) h = some (1, h)) ∨ (¬ tok v ∧ F_X6_canBe (nI v) h = some (0, h)) := by
  have d1 : nI v / (100 : Int32) = nI (v / 100) := i_div hv (by decide) (by decide)
  have d0 : nI v / (10 : Int32) = nI (v / 10) := i_div hv (by decide) (by decide)
  have d2 : nI (v / 10) - nI (v / 10) / (10 : Int32) * (10 : Int32) = nI (v / 10 % 10) := i_rem (by omega) (by decide) (by decide)
  have d3 : nI v - nI (v / 10) * (10 : Int32) = nI (v % 10) := by rw [← d0]; exact i_rem hv (by decide) (by decide)
  have w1 : wi (nI (v / 100)) 0 7 = if 0 ≤ v / 100 ∧ v / 100 ≤ 7 then 1 else 0 := wi_nat (a := 0) (b := 7) (by omega) (by omega) (by omega)
  have w2 : wi (nI (v / 10 % 10)) 0 3 = if 0 ≤ v / 10 % 10 ∧ v / 10 % 10 ≤ 3 then 1 else 0 := wi_nat (a := 0) (b := 3) (by omega) (by omega) (by omega)
  have w3 : wi (nI (v % 10)) 1 9 = if 1 ≤ v % 10 ∧ v % 10 ≤ 9 then 1 else 0 := wi_nat (a := 1) (b := 9) (by omega) (by omega) (by omega)
  rw [F_X6_canBe, q_nltR 0 (by omega) (by omega), d1, F_isOwner, e_cl, w1]
  by_cases c1 : v / 100 < 8
  rotate_left
  · rw [if_neg (show ¬ (0 ≤ v / 100 ∧ v / 100 ≤ 7) by omega), if_pos rfl]; exact Or.inr ⟨fun e => c1 e.1, rfl⟩
  rw [if_pos (show 0 ≤ v / 100 ∧ v / 100 ≤ 7 by omega), if_neg (by decide), d0, d2, F_within, e_cl, w2]
  by_cases c2 : v / 10 % 10 < 4
  rotate_left
  · rw [if_neg (show ¬ (0 ≤ v / 10 % 10 ∧ v / 10 % 10 ≤ 3) by omega), if_pos rfl]; exact Or.inr ⟨fun e => c2 e.2.1, rfl⟩
  rw [if_pos (show 0 ≤ v / 10 % 10 ∧ v / 10 % 10 ≤ 3 by omega), if_neg (by decide), d3, F_within, e_cl, w3]
  by_cases c3 : v % 10 = 0
  · rw [if_neg (show ¬ (1 ≤ v % 10 ∧ v % 10 ≤ 9) by omega), if_pos rfl]; exact Or.inr ⟨fun e => e.2.2 c3, rfl⟩
  · rw [if_pos (show 1 ≤ v % 10 ∧ v % 10 ≤ 9 by omega), if_neg (by decide)]; exact Or.inl ⟨⟨c1, c2, c3⟩, rfl⟩
theorem trunk_mno {S T : Nat} {x1 x2 x3 : Int32} (hT : T ≤ 120) (e11 : pI h 8 0 11 = nI T) (e1 : pI h 8 0 1 = nI S) (r12 : pR h 8 0 12 = some 0) (l34 : pL h 34 0 = 120)
    (hno : wi x3 0 (nI S - 1) = 0 ∨ T = 120 ∨ x2 < 0 ∨ (∃ v, v < 2147483648 ∧ x2 = nI v ∧ ¬ tok v) ∨ wi x1 1 99999 = 0 ∨ fans T (pI h 34 0) x1 ≠ -1) : F_X8_trunk 0 x1 x2 x3 h = some (-1, h) := by
  rw [F_X8_trunk, F_in, e_cl]
  rcases wi_01 x1 1 99999 with c | c
  · rw [c, if_pos rfl]
  rw [c, if_neg (by decide)]
  by_cases cv : x2 < 0
  · rw [if_pos cv]
  rw [if_neg cv]
  obtain ⟨v, hv, rfl⟩ := nI_of cv
  have d1 : nI v / (100 : Int32) = nI (v / 100) := i_div hv (by decide) (by decide)
  have d0 : nI v / (10 : Int32) = nI (v / 10) := i_div hv (by decide) (by decide)
  have d2 : nI (v / 10) - nI (v / 10) / (10 : Int32) * (10 : Int32) = nI (v / 10 % 10) := i_rem (by omega) (by decide) (by decide)
  have d3 : nI v - nI (v / 10) * (10 : Int32) = nI (v % 10) := by rw [← d0]; exact i_rem hv (by decide) (by decide)
  rw [d1]
  by_cases c1 : v / 100 < 8
  rotate_left
  · rw [q_leL 8 (by omega) (by omega)]
  rw [q_nleL 8 (by omega) (by omega), d0, d2]
  by_cases c2 : v / 10 % 10 < 4
  rotate_left
  · rw [q_ltL 3 (by omega) (by omega)]
  rw [q_nltL 3 (by omega) (by omega), d3]
  by_cases c3 : v % 10 = 0
  · rw [q_eqR 0 c3]
  rw [q_neR 0 c3 (by omega) (by omega), F_find_m hT e11 r12 l34, e_cl]
  by_cases c4 : fans T (pI h 34 0) x1 = -1
  rotate_left
  · rw [if_neg c4]
  rw [if_pos c4, F_isStation e1, e_cl]
  rcases wi_01 x3 0 (nI S - 1) with c5 | c5
  · rw [c5, if_pos rfl]
  rw [c5, if_neg (by decide), e11]
  by_cases c6 : T = 120
  · rw [q_eqR 120 c6]
  · exfalso
    rcases hno with k | k | k | ⟨u, k1, k2, k3⟩ | k | k
    · rw [c5] at k; exact absurd k (by decide)
    · exact c6 k
    · exact cv k
    · rw [i_eq hv k1] at k2; subst k2; exact k3 ⟨c1, c2, c3⟩
    · rw [c] at k; exact absurd k (by decide)
    · exact k c4
theorem op_trunk (I : SimG nw z ro w tt q0 h) (x1 x2 x3 : Int32) : OP (F_X7_trunk 0 x1 x2 x3) (F_X8_trunk 0 x1 x2 x3) h := by
  have hS := I.c_hS
  have hT := I.c_hT
  have hct := I.ct
  obtain ⟨t1, t2, t3, t4, t5, t6, t7, t8, t9, t10, t11, t12, t13, t14⟩ := hct
  have no : F_X7_trunk 0 x1 x2 x3 h = some (-1, h) → (wi x3 0 (nI (pC h 4) - 1) = 0 ∨ pC h 6 = 120 ∨ x2 < 0 ∨ (∃ v, v < 2147483648 ∧ x2 = nI v ∧ ¬ tok v) ∨ wi x1 1 99999 = 0 ∨ fans (pC h 6) (pI h 34 0) x1 ≠ -1) → OP (F_X7_trunk 0 x1 x2 x3) (F_X8_trunk 0 x1 x2 x3) h := fun a b => OP.same I a (trunk_mno hT I.c_j11 I.c_j1 I.r8_12 I.l34_0 b)
  rcases wi_ix x3 (n := pC h 4) (by omega) with ⟨e1, e2⟩ | ⟨e1, j, hj, rfl, e2⟩
  · exact no (by rw [F_X7_trunk, I.stationAt, e_cl, e2, e_onnN]) (Or.inl e1)
  by_cases c6 : pC h 6 < 120
  rotate_left
  · exact no (by rw [F_X7_trunk, I.stationAt, e_cl, e2, e_onnS, I.c_i3, q_leL 120 (by omega) (by omega)]) (Or.inr (Or.inl (by omega)))
  by_cases cv : x2 < 0
  · exact no (by rw [F_X7_trunk, I.stationAt, e_cl, e2, e_onnS, I.c_i3, q_nleL 120 (by omega) (by omega), F_X6_canBe, if_pos cv, e_cl, if_pos rfl]) (Or.inr (Or.inr (Or.inl cv)))
  obtain ⟨v, hv, rfl⟩ := nI_of cv
  rcases F_canBe6 (h := h) hv with ⟨ok, ek⟩ | ⟨ok, ek⟩
  rotate_left
  · exact no (by rw [F_X7_trunk, I.stationAt, e_cl, e2, e_onnS, I.c_i3, q_nleL 120 (by omega) (by omega), ek, e_cl, if_pos rfl]) (Or.inr (Or.inr (Or.inr (Or.inl ⟨v, hv, rfl, ok⟩))))
  rcases wi_01 x1 1 99999 with em | em
  · exact no (by rw [F_X7_trunk, I.stationAt, e_cl, e2, e_onnS, I.c_i3, q_nleL 120 (by omega) (by omega), ek, e_cl, if_neg (by decide), F_within, e_cl, em, if_pos rfl]) (Or.inr (Or.inr (Or.inr (Or.inr (Or.inl em)))))
  by_cases ef : fans (pC h 6) (pI h 34 0) x1 = -1
  rotate_left
  · exact no (by rw [F_X7_trunk, I.stationAt, e_cl, e2, e_onnS, I.c_i3, q_nleL 120 (by omega) (by omega), ek, e_cl, if_neg (by decide), F_within, e_cl, em, if_neg (by decide), F_find_c I, e_cl, if_neg ef]) (Or.inr (Or.inr (Or.inr (Or.inr (Or.inr ef)))))
  have d1 : nI v / (100 : Int32) = nI (v / 100) := i_div hv (by decide) (by decide)
  have d0 : nI v / (10 : Int32) = nI (v / 10) := i_div hv (by decide) (by decide)
  have d5 : nI (v / 10) / (10 : Int32) = nI (v / 10 / 10) := i_div (by omega) (by decide) (by decide)
  have d2 : nI (v / 10) - nI (v / 10 / 10) * (10 : Int32) = nI (v / 10 % 10) := by rw [← d5]; exact i_rem (by omega) (by decide) (by decide)
  have d3 : nI v - nI (v / 10) * (10 : Int32) = nI (v % 10) := by rw [← d0]; exact i_rem hv (by decide) (by decide)
  obtain ⟨k1, k2, k3⟩ := ok
  have q1 : ¬ (8 : Int32) ≤ nI (v / 100) := by rw [i_leL 8 (by omega) (by omega)]; omega
  have q2 : ¬ (3 : Int32) < nI (v / 10 % 10) := by rw [i_ltL 3 (by omega) (by omega)]; omega
  have q3 : ¬ nI (v % 10) = (0 : Int32) := by rw [i_eqL 0 (by omega) (by omega)]; omega
  have q4 : ¬ nI (pC h 6) = (120 : Int32) := by rw [i_eqL 120 (by omega) (by omega)]; omega
  have ep : nI (pC h 6 + 1) - 1 = nI (pC h 6) := nI_pred _
  refine ⟨nI (pC h 6), (wI (wR (wR (wI (wI (wI (wI (wI (wI (wR (wN h 6 0) 6 (pC h 6) 6 none) 6 (pC h 6) 7 (-1)) 6 (pC h 6) 0 (nI (pC h 6))) 6 (pC h 6) 1 x1) 6 (pC h 6) 2 (nI (v / 100))) 6 (pC h 6) 3 (nI (v / 10 % 10))) 6 (pC h 6) 4 (nI (v % 10))) 6 (pC h 6) 5 (some j)) 20 0 (pC h 6) (some (pC h 6))) 7 0 3 (nI (pC h 6 + 1))), (wI (wI (wI (wI (wI (wI (wI (wI (wI (wR (wR (wI (wI (wI (wI (wI (wI (wR (wN h 6 0) 6 (pC h 6) 6 none) 6 (pC h 6) 7 (-1)) 6 (pC h 6) 0 (nI (pC h 6))) 6 (pC h 6) 1 x1) 6 (pC h 6) 2 (nI (v / 100))) 6 (pC h 6) 3 (nI (v / 10 % 10))) 6 (pC h 6) 4 (nI (v % 10))) 6 (pC h 6) 5 (some j)) 20 0 (pC h 6) (some (pC h 6))) 7 0 3 (nI (pC h 6 + 1))) 34 0 (pC h 6) x1) 35 0 (pC h 6) (nI (v / 100))) 36 0 (pC h 6) (nI (v / 10 % 10))) 37 0 (pC h 6) (nI (v % 10))) 39 0 (pC h 6) (nI j)) 40 0 (pC h 6) (-1)) 43 0 (pC h 6) (-1)) 8 0 11 (nI (pC h 6 + 1))), ?_, ?_, nw, z, ro, w, tt, q0, ?_⟩
  · rw [F_X7_trunk, I.stationAt, e_cl, e2, e_onnS, I.c_i3, q_nleL 120 (by omega) (by omega), ek, e_cl, if_neg (by decide), F_within, e_cl, em, if_neg (by decide), F_find_c I, e_cl, if_pos ef]
    simp (disch := omega) only [F_X6_init, e_nn, e_onnN, e_onnS, e_ck, e_lt, e_cl, F_within, F_in, isz0, isz1, i10, ↓reduceIte, sl_RI, sl_CI, sl_LI, sl_IR, sl_CR, sl_LR, sl_II, sl_Ie, sl_RR, sl_Re, sl_CN, sl_Ce, sl_LN, sl_Le, sl_IN, sl_INe, sl_RN, sl_RNe, up2_s, up2_n, up1_s, up1_n, upN_s, upN_n, ne_eq, not_false_eq_true, reduceCtorEq, i_le, i_lt, i_eq, i_cl, i_inb, nI_add, nI_1, i_n1, i_1n, i_sub, d1, d2, d5, d0, d3, I.c_i3, I.r7_2, I.l20_0]
  · have hf := F_find_m (h := (wI (wR (wR (wI (wI (wI (wI (wI (wI (wR (wN h 6 0) 6 (pC h 6) 6 none) 6 (pC h 6) 7 (-1)) 6 (pC h 6) 0 (nI (pC h 6))) 6 (pC h 6) 1 x1) 6 (pC h 6) 2 (nI (v / 100))) 6 (pC h 6) 3 (nI (v / 10 % 10))) 6 (pC h 6) 4 (nI (v % 10))) 6 (pC h 6) 5 (some j)) 20 0 (pC h 6) (some (pC h 6))) 7 0 3 (nI (pC h 6 + 1)))) (T := pC h 6) hT (by simp (disch := omega) only [sl_RI, sl_CI, sl_LI, sl_IR, sl_CR, sl_LR, sl_II, sl_Ie, sl_RR, sl_Re, sl_CN, sl_Ce, sl_LN, sl_Le, sl_IN, sl_INe, sl_RN, sl_RNe, up2_s, up2_n, up1_s, up1_n, upN_s, upN_n, ne_eq, not_false_eq_true, reduceCtorEq, I.c_j11]) (by simp (disch := omega) only [sl_RI, sl_CI, sl_LI, sl_IR, sl_CR, sl_LR, sl_II, sl_Ie, sl_RR, sl_Re, sl_CN, sl_Ce, sl_LN, sl_Le, sl_IN, sl_INe, sl_RN, sl_RNe, up2_s, up2_n, up1_s, up1_n, upN_s, upN_n, ne_eq, not_false_eq_true, reduceCtorEq, I.r8_12]) (by simp (disch := omega) only [sl_RI, sl_CI, sl_LI, sl_IR, sl_CR, sl_LR, sl_II, sl_Ie, sl_RR, sl_Re, sl_CN, sl_Ce, sl_LN, sl_Le, sl_IN, sl_INe, sl_RN, sl_RNe, up2_s, up2_n, up1_s, up1_n, upN_s, upN_n, ne_eq, not_false_eq_true, reduceCtorEq, I.l34_0]) x1
    have em34 : pI (wI (wR (wR (wI (wI (wI (wI (wI (wI (wR (wN h 6 0) 6 (pC h 6) 6 none) 6 (pC h 6) 7 (-1)) 6 (pC h 6) 0 (nI (pC h 6))) 6 (pC h 6) 1 x1) 6 (pC h 6) 2 (nI (v / 100))) 6 (pC h 6) 3 (nI (v / 10 % 10))) 6 (pC h 6) 4 (nI (v % 10))) 6 (pC h 6) 5 (some j)) 20 0 (pC h 6) (some (pC h 6))) 7 0 3 (nI (pC h 6 + 1))) 34 0 = pI h 34 0 := by simp (disch := omega) only [sl_RI, sl_CI, sl_LI, sl_IR, sl_CR, sl_LR, sl_II, sl_Ie, sl_RR, sl_Re, sl_CN, sl_Ce, sl_LN, sl_Le, sl_IN, sl_INe, sl_RN, sl_RNe, up2_s, up2_n, up1_s, up1_n, upN_s, upN_n, ne_eq, not_false_eq_true, reduceCtorEq]
    rw [em34, ef] at hf
    rw [F_X8_trunk, F_in, e_cl, em, if_neg (by decide), if_neg cv, d1, if_neg q1, d0, d5, d2, if_neg q2, d3, if_neg q3, hf, e_cl, if_pos rfl, F_isStation (S := pC h 4) (by simp (disch := omega) only [sl_RI, sl_CI, sl_LI, sl_IR, sl_CR, sl_LR, sl_II, sl_Ie, sl_RR, sl_Re, sl_CN, sl_Ce, sl_LN, sl_Le, sl_IN, sl_INe, sl_RN, sl_RNe, up2_s, up2_n, up1_s, up1_n, upN_s, upN_n, ne_eq, not_false_eq_true, reduceCtorEq, I.c_j1]), e_cl, e1, if_neg (by decide)]
    simp (disch := omega) only [e_nn, e_onnN, e_onnS, e_ck, e_lt, e_cl, F_within, F_in, isz0, isz1, i10, ↓reduceIte, sl_RI, sl_CI, sl_LI, sl_IR, sl_CR, sl_LR, sl_II, sl_Ie, sl_RR, sl_Re, sl_CN, sl_Ce, sl_LN, sl_Le, sl_IN, sl_INe, sl_RN, sl_RNe, up2_s, up2_n, up1_s, up1_n, upN_s, upN_n, ne_eq, not_false_eq_true, reduceCtorEq, i_le, i_lt, i_eq, i_cl, i_inb, nI_add, nI_1, i_n1, i_1n, i_sub, I.c_j11, q4, ep, I.r8_12, I.r8_13, I.r8_14, I.r8_15, I.r8_17, I.r8_18, I.r8_21, I.l34_0, I.l35_0, I.l36_0, I.l37_0, I.l39_0, I.l40_0, I.l43_0]
  · unfold SimG
    simp (disch := omega) only [sl_RI, sl_CI, sl_LI, sl_IR, sl_CR, sl_LR, sl_II, sl_Ie, sl_RR, sl_Re, sl_CN, sl_Ce, sl_LN, sl_Le, sl_IN, sl_INe, sl_RN, sl_RNe, up2_s, up2_n, up1_s, up1_n, upN_s, upN_n, ne_eq, not_false_eq_true, reduceCtorEq]
    have z0 := I.tr.2 (pC h 6) (Nat.le_refl _)
    refine ⟨I.w7, I.w1, I.w5, I.w8, I.ln.wN (by decide), ⟨t1, by omega, t3, t4, t5, t6, t7, rfl, t9, t10, t11, rfl, t13, t14⟩, I.a19, ?_, I.a21, I.a22, I.st, I.sb, ?_, I.rf, I.cr, ?_, ?_, I.to, I.pr, I.gnw, I.tk, I.rg, I.ba, ?_⟩
    · intro i hi
      by_cases e : i = pC h 6
      · subst e; rw [up1_s]
      · rw [up1_n _ _ e]; exact I.a20 i (by omega)
    · refine I.tr.T (fun t ht => ?_) ?_
      · simp (disch := omega) only [sl_RI, sl_CI, sl_LI, sl_IR, sl_CR, sl_LR, sl_II, sl_Ie, sl_RR, sl_Re, sl_CN, sl_Ce, sl_LN, sl_Le, sl_IN, sl_INe, sl_RN, sl_RNe, up2_s, up2_n, up1_s, up1_n, upN_s, upN_n, ne_eq, not_false_eq_true, reduceCtorEq, and_true]
      · simp (disch := omega) only [sl_RI, sl_CI, sl_LI, sl_IR, sl_CR, sl_LR, sl_II, sl_Ie, sl_RR, sl_Re, sl_CN, sl_Ce, sl_LN, sl_Le, sl_IN, sl_INe, sl_RN, sl_RNe, up2_s, up2_n, up1_s, up1_n, upN_s, upN_n, ne_eq, not_false_eq_true, reduceCtorEq, and_true, true_and]
        exact ⟨⟨⟨v / 100, k1, rfl⟩, ⟨v / 10 % 10, k2, rfl⟩, v % 10, by omega, by omega, rfl⟩, j, hj, rfl, rfl⟩
    · refine I.rw.mono (by omega) (fun t ht => by simp (disch := omega) only [sl_RI, sl_CI, sl_LI, sl_IR, sl_CR, sl_LR, sl_II, sl_Ie, sl_RR, sl_Re, sl_CN, sl_Ce, sl_LN, sl_Le, sl_IN, sl_INe, sl_RN, sl_RNe, up2_s, up2_n, up1_s, up1_n, upN_s, upN_n, ne_eq, not_false_eq_true, reduceCtorEq]) (fun t ht => by simp (disch := omega) only [sl_RI, sl_CI, sl_LI, sl_IR, sl_CR, sl_LR, sl_II, sl_Ie, sl_RR, sl_Re, sl_CN, sl_Ce, sl_LN, sl_Le, sl_IN, sl_INe, sl_RN, sl_RNe, up2_s, up2_n, up1_s, up1_n, upN_s, upN_n, ne_eq, not_false_eq_true, reduceCtorEq, and_true]) (fun t ht ht2 => ?_)
      rw [show t = pC h 6 by omega, z0]; decide
    · obtain ⟨g1, g2, g3, g4, g5, g6⟩ := I.nx
      refine ⟨g1, g2, g3, fun i hi => ?_, g5, g6⟩
      have a1 := ((I.rw.2.1 q0 g2).2.2.2.2.2 i hi).2
      have a2 := ((I.rw.2.1 q0 g2).2.2.2.2.2 0 (by omega)).2
      have := g4 i hi
      rw [up1_n _ _ (show tt q0 i ≠ pC h 6 by omega), up1_n _ _ (show tt q0 0 ≠ pC h 6 by omega)]
      exact this
    · have := I.so
      unfold cnt at this ⊢
      rw [su, su, z0, if_neg (by decide), if_neg (by decide), Int32.add_zero, Int32.add_zero]
      exact this
end OPS
