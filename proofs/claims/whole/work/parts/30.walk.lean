section OPS
variable {nw : Nat} {z : Nat → Nat} {ro : Nat → Nat → Nat} {w : Nat → Nat} {tt : Nat → Nat → Nat} {q0 : Nat} {h : Hp}
theorem walk_loop (I : SimG nw z ro w tt q0 h) {β γ : Type} {p c : Nat} {h' : Hp} (q33 : pR h' 8 0 33 = some 0) (q3 : pR h' 8 0 3 = some 0) (q2 : pR h' 8 0 2 = some 0) (l52 : pL h' 52 0 = 10) (l26 : pL h' 26 0 = 12) (l25 : pL h' 25 0 = 12) (m25 : pI h' 25 0 = pI h 25 0) (m26 : pI h' 26 0 = pI h 26 0) (hc : c < pC h 0) (hp : pI h' 52 0 c = nI p) (hpS : p < pC h 4) (k30 : Hp → Option β) (k13 : Int32 → Hp → Option β) (k82 : Int32 → Int32 → Hp → Option γ) : ∀ s, s < pC h 4 → ∀ f sg, s + 1 < f →
    (∃ ta, sg ≤ ta ∧ ta ≤ sg + 20 * s ∧ L_X4_hoursDownTo_4 (some p) k30 k13 f (nI sg) (some s) h = k13 (nI ta) h ∧ L_X8_walk_49 0 (nI c) k82 f (nI sg) (nI s) h' = k82 (nI ta) (nI p) h') ∨
    (p ≠ 0 ∧ ∃ t, L_X4_hoursDownTo_4 (some p) k30 k13 f (nI sg) (some s) h = k30 h ∧ L_X8_walk_49 0 (nI c) k82 f (nI sg) (nI s) h' = k82 t 0 h') := by
  have hC := I.c_hC
  have hS := I.c_hS
  intro s
  induction s using Nat.strongRecOn with
  | _ s ih =>
    intro hs f sg hf
    obtain ⟨f, rfl⟩ : ∃ g, f = g + 1 := ⟨f - 1, by omega⟩
    rw [L_X4_hoursDownTo_4, e_onnS, L_X8_walk_49]
    by_cases e : s = p
    · subst e
      refine Or.inl ⟨sg, Nat.le_refl _, by omega, by rw [if_pos rfl], ?_⟩
      by_cases e0 : s = 0
      · subst e0; rw [if_pos nI_0e]
      · rw [if_neg (by rw [i_eqL 0 (by omega) (by omega)]; exact e0), q33, e_nn, l52, i_inb (by omega) (by omega), e_ck, i_cl (by omega), hp, if_pos rfl]
    · rw [if_neg (by simpa using e)]
      by_cases e0 : s = 0
      · subst e0
        refine Or.inr ⟨fun z => e z.symm, nI sg, ?_, ?_⟩
        · rw [(I.st.1 0 hs).2.2.2.2.2.2.2.2.2.2.1 rfl]
          obtain ⟨f, rfl⟩ : ∃ g, f = g + 1 := ⟨f - 1, by omega⟩
          rw [L_X4_hoursDownTo_4, e_onnN]
        · rw [if_pos nI_0e]; rfl
      · obtain ⟨b, b1, b2, b3⟩ := (I.st.1 s hs).2.2.2.2.2.2.2.2.2.2.2 (by omega)
        obtain ⟨⟨hr, wd, fl, hd, pd, g1, -, -, -, -, g2, -⟩, -⟩ := I.sb s hs
        have e2 := (I.st.1 s hs).2.1
        rw [if_neg (by rw [i_eqL 0 (by omega) (by omega)]; exact e0), q33, e_nn, l52, i_inb (by omega) (by omega), e_ck, i_cl (by omega), hp, q_ne e (by omega) (by omega), q3, e_nn, l26, i_inb (by omega) (by omega), e_ck, q2, e_nn, l25, i_inb (by omega) (by omega), e_ck, i_cl (by omega), b2, m25, b3, m26, e2, g1, nI_add]
        rcases ih b b1 (by omega) f (sg + hr) (by omega) with ⟨ta, t1, t2, t3, t4⟩ | ⟨t1, t, t2, t3⟩
        · exact Or.inl ⟨ta, by omega, by omega, t3, t4⟩
        · exact Or.inr ⟨t1, t, t2, t3⟩
theorem op_walk (I : SimG nw z ro w tt q0 h) (x : Int32) : OP (F_X7_walk 0 x) (F_X8_walk 0 x) h := by
  have hC := I.c_hC
  have hS := I.c_hS
  obtain ⟨n1, n2, n3⟩ := I.gnw
  rcases wi_ix x (n := pC h 0) (by omega) with ⟨e1, e2⟩ | ⟨e1, c, hc, rfl, e2⟩
  · refine OP.same I (r := -1) ?_ ?_
    · rw [F_X7_walk, I.crewAt, e_cl, e2, e_onnN]
    · rw [F_X8_walk, F_in, e_cl, I.c_j30, e1, if_pos rfl]
  obtain ⟨⟨g0, hm, h1, h2, h3⟩, gst⟩ := I.cr.1 c hc
  have hno : pR h 0 c 2 = none → pI h 51 0 c ≠ 0 → OP (F_X7_walk 0 (nI c)) (F_X8_walk 0 (nI c)) h := by
    intro k1 k2
    refine OP.same I (r := -1) ?_ ?_
    · rw [F_X7_walk, I.crewAt, e_cl, e2, e_onnS, k1, e_onnN]
    · rw [F_X8_walk, F_in, e_cl, I.c_j30, e1, if_neg (by decide), I.r8_32, e_nn, I.l51_0, i_inb (by omega) (by omega), e_ck, i_cl (by omega), if_neg k2]
  rcases gst with ⟨s1, ⟨p, s2, s3, s4⟩, s5, s6, k, k', s7, s8, s9, s10, s11⟩ | ⟨s1, s2, -⟩ | ⟨s1, s2, -⟩
  rotate_left
  · exact hno s2 (by rw [s1]; decide)
  · exact hno s2 (by rw [s1]; decide)
  by_cases hp : p = hm
  · subst hp
    refine OP.same I (r := -1) ?_ ?_
    · rw [F_X7_walk, I.crewAt, e_cl, e2, e_onnS, s3, e_onnS, h2, if_pos rfl]
    · rw [F_X8_walk, F_in, e_cl, I.c_j30, e1, if_neg (by decide), I.r8_32, e_nn, I.l51_0, i_inb (by omega) (by omega), e_ck, i_cl (by omega), if_pos s1, I.r8_33, e_nn, I.l52_0, i_inb (by omega) (by omega), e_ck, I.r8_31, e_nn, I.l50_0, i_inb (by omega) (by omega), e_ck, s4, h3, if_pos rfl]
  have npp : ¬ (some p = some hm) := by simpa using hp
  have key := walk_loop I (h' := h) I.r8_33 I.r8_3 I.r8_2 I.l52_0 I.l26_0 I.l25_0 rfl rfl hc s4 s2 (fun h4 => some ((-1 : Int32), h4)) (fun k5 h6 => some (k5, h6)) (fun k28 k29 h30 => nn (pR h30 8 0 33) fun n31 => ck (inb (nI c) (pL h30 52 n31)) <| if k29 = (pI h30 52 n31 c) then nn (pR h30 8 0 32) fun n35 => ck (inb (nI c) (pL h30 51 n35)) <| lt (wI h30 51 n35 c (2 : Int32)) fun h38 => nn (pR h38 8 0 35) fun n40 => ck (inb (nI c) (pL h38 54 n40)) <| lt (wI h38 54 n40 c ((pI h38 8 0 0) + ((2 : Int32) * k28))) fun h43 => nn (pR h43 8 0 35) fun n45 => ck (inb (nI c) (pL h43 54 n45)) <| some ((pI h43 54 n45 c), h43) else some ((-1 : Int32), h30)) hm h1 FU 0 (by unfold FU; omega)
  rcases key with ⟨ta, -, t2, t3, t4⟩ | ⟨t1, t, t3, t4⟩
  · have fc : F_X4_hoursDownTo hm (some p) h = some (nI ta, h) := t3
    have e2t : nI nw + (2 : Int32) * nI ta = nI (nw + 2 * ta) := by
      rw [show (2 : Int32) = nI 2 from rfl, pk_mul, nI_add]
    have I1 : SimG nw z ro w tt q0 h := I
    refine ⟨nI (nw + 2 * ta), (wI (wR h 0 c 2 none) 0 c 4 (nI (nw + 2 * ta))), (wI (wI (wI (wR h 0 c 2 none) 0 c 4 (nI (nw + 2 * ta))) 51 0 c 2) 54 0 c (nI (nw + 2 * ta))), ?_, ?_, nw, z, ro, w, tt, q0, ?_⟩
    · rw [F_X7_walk, I.crewAt, e_cl, e2, e_onnS, s3, e_onnS, h2, if_neg npp, e_nn, fc, e_cl, q_m1 (by omega)]
      simp (disch := omega) only [e_nn, e_onnN, e_onnS, e_ck, e_lt, e_cl, F_within, F_in, isz0, isz1, i10, ↓reduceIte, sl_RI, sl_CI, sl_LI, sl_IR, sl_CR, sl_LR, sl_II, sl_Ie, sl_RR, sl_Re, sl_CN, sl_Ce, sl_LN, sl_Le, sl_IN, sl_INe, sl_RN, sl_RNe, up2_s, up2_n, up1_s, up1_n, upN_s, upN_n, ne_eq, not_false_eq_true, reduceCtorEq, n1, e2t]
    · have key1 := walk_loop I (h' := (wI (wR h 0 c 2 none) 0 c 4 (nI (nw + 2 * ta)))) (c := c) (p := p) I.r8_33 I.r8_3 I.r8_2 I.l52_0 I.l26_0 I.l25_0 (by simp (disch := omega) only [sl_RI, sl_CI, sl_LI, sl_IR, sl_CR, sl_LR, sl_II, sl_Ie, sl_RR, sl_Re, sl_CN, sl_Ce, sl_LN, sl_Le, sl_IN, sl_INe, sl_RN, sl_RNe, up2_s, up2_n, up1_s, up1_n, upN_s, upN_n, ne_eq, not_false_eq_true, reduceCtorEq]) (by simp (disch := omega) only [sl_RI, sl_CI, sl_LI, sl_IR, sl_CR, sl_LR, sl_II, sl_Ie, sl_RR, sl_Re, sl_CN, sl_Ce, sl_LN, sl_Le, sl_IN, sl_INe, sl_RN, sl_RNe, up2_s, up2_n, up1_s, up1_n, upN_s, upN_n, ne_eq, not_false_eq_true, reduceCtorEq]) hc (by simp (disch := omega) only [sl_RI, sl_CI, sl_LI, sl_IR, sl_CR, sl_LR, sl_II, sl_Ie, sl_RR, sl_Re, sl_CN, sl_Ce, sl_LN, sl_Le, sl_IN, sl_INe, sl_RN, sl_RNe, up2_s, up2_n, up1_s, up1_n, upN_s, upN_n, ne_eq, not_false_eq_true, reduceCtorEq, s4]) s2 (fun h4 => some ((-1 : Int32), h4)) (fun k5 h6 => some (k5, h6)) (fun k28 k29 h30 => nn (pR h30 8 0 33) fun n31 => ck (inb (nI c) (pL h30 52 n31)) <| if k29 = (pI h30 52 n31 c) then nn (pR h30 8 0 32) fun n35 => ck (inb (nI c) (pL h30 51 n35)) <| lt (wI h30 51 n35 c (2 : Int32)) fun h38 => nn (pR h38 8 0 35) fun n40 => ck (inb (nI c) (pL h38 54 n40)) <| lt (wI h38 54 n40 c ((pI h38 8 0 0) + ((2 : Int32) * k28))) fun h43 => nn (pR h43 8 0 35) fun n45 => ck (inb (nI c) (pL h43 54 n45)) <| some ((pI h43 54 n45 c), h43) else some ((-1 : Int32), h30)) hm h1 FU 0 (by unfold FU; omega)
      have t5 : L_X8_walk_49 0 (nI c) (fun k28 k29 h30 => nn (pR h30 8 0 33) fun n31 => ck (inb (nI c) (pL h30 52 n31)) <| if k29 = (pI h30 52 n31 c) then nn (pR h30 8 0 32) fun n35 => ck (inb (nI c) (pL h30 51 n35)) <| lt (wI h30 51 n35 c (2 : Int32)) fun h38 => nn (pR h38 8 0 35) fun n40 => ck (inb (nI c) (pL h38 54 n40)) <| lt (wI h38 54 n40 c ((pI h38 8 0 0) + ((2 : Int32) * k28))) fun h43 => nn (pR h43 8 0 35) fun n45 => ck (inb (nI c) (pL h43 54 n45)) <| some ((pI h43 54 n45 c), h43) else some ((-1 : Int32), h30)) FU (nI 0) (nI hm) (wI (wR h 0 c 2 none) 0 c 4 (nI (nw + 2 * ta))) = (fun k28 k29 h30 => nn (pR h30 8 0 33) fun n31 => ck (inb (nI c) (pL h30 52 n31)) <| if k29 = (pI h30 52 n31 c) then nn (pR h30 8 0 32) fun n35 => ck (inb (nI c) (pL h30 51 n35)) <| lt (wI h30 51 n35 c (2 : Int32)) fun h38 => nn (pR h38 8 0 35) fun n40 => ck (inb (nI c) (pL h38 54 n40)) <| lt (wI h38 54 n40 c ((pI h38 8 0 0) + ((2 : Int32) * k28))) fun h43 => nn (pR h43 8 0 35) fun n45 => ck (inb (nI c) (pL h43 54 n45)) <| some ((pI h43 54 n45 c), h43) else some ((-1 : Int32), h30)) (nI ta) (nI p) (wI (wR h 0 c 2 none) 0 c 4 (nI (nw + 2 * ta))) := by
        rcases key1 with ⟨tb, -, u2, u3, u4⟩ | ⟨u1, u, u3, u4⟩
        · have e := u3.symm.trans t3
          have e : nI tb = nI ta := (ret_S e).1
          rw [i_eq (by omega) (by omega)] at e
          subst e
          exact u4
        · have e := u3.symm.trans t3
          exact absurd (ret_S e).1.symm (i_m1 (by omega))
      rw [F_X8_walk, F_in, e_cl]
      simp (disch := omega) only [sl_RI, sl_CI, sl_LI, sl_IR, sl_CR, sl_LR, sl_II, sl_Ie, sl_RR, sl_Re, sl_CN, sl_Ce, sl_LN, sl_Le, sl_IN, sl_INe, sl_RN, sl_RNe, up2_s, up2_n, up1_s, up1_n, upN_s, upN_n, ne_eq, not_false_eq_true, reduceCtorEq]
      rw [I.c_j30, e1, if_neg (by decide), I.r8_32, e_nn, I.l51_0, i_inb (by omega) (by omega), e_ck, i_cl (by omega), if_pos s1, I.r8_33, e_nn, I.l52_0, i_inb (by omega) (by omega), e_ck, I.r8_31, e_nn, I.l50_0, i_inb (by omega) (by omega), e_ck, s4, h3, q_ne hp (by omega) (by omega), e_ck]
      refine t5.trans ?_
      simp (disch := omega) only [e_nn, e_onnN, e_onnS, e_ck, e_lt, e_cl, F_within, F_in, isz0, isz1, i10, ↓reduceIte, sl_RI, sl_CI, sl_LI, sl_IR, sl_CR, sl_LR, sl_II, sl_Ie, sl_RR, sl_Re, sl_CN, sl_Ce, sl_LN, sl_Le, sl_IN, sl_INe, sl_RN, sl_RNe, up2_s, up2_n, up1_s, up1_n, upN_s, upN_n, ne_eq, not_false_eq_true, reduceCtorEq, i_le, i_lt, i_eq, i_cl, i_inb, nI_add, nI_1, i_n1, i_1n, i_sub, s4, n2, e2t, I.r8_33, I.r8_32, I.r8_35, I.l52_0, I.l51_0, I.l54_0]
    · unfold SimG
      simp (disch := omega) only [sl_RI, sl_CI, sl_LI, sl_IR, sl_CR, sl_LR, sl_II, sl_Ie, sl_RR, sl_Re, sl_CN, sl_Ce, sl_LN, sl_Le, sl_IN, sl_INe, sl_RN, sl_RNe, up2_s, up2_n, up1_s, up1_n, upN_s, upN_n, ne_eq, not_false_eq_true, reduceCtorEq]
      refine ⟨I.w7, I.w1, I.w5, I.w8, I.ln, I.ct, I.a19, I.a20, I.a21, I.a22, I.st, I.sb, I.tr, ?_, ?_, I.rw, I.nx, I.to, I.pr, I.gnw, I.tk, I.rg, I.ba, I.so⟩
      · refine I.rf.c0 (Nat.le_refl _) (fun c' hc' => ?_)
        by_cases e : c' = c
        · subst e; simp (disch := omega) only [sl_RI, sl_CI, sl_LI, sl_IR, sl_CR, sl_LR, sl_II, sl_Ie, sl_RR, sl_Re, sl_CN, sl_Ce, sl_LN, sl_Le, sl_IN, sl_INe, sl_RN, sl_RNe, up2_s, up2_n, up1_s, up1_n, upN_s, upN_n, ne_eq, not_false_eq_true, reduceCtorEq]
        · simp (disch := omega) only [sl_RI, sl_CI, sl_LI, sl_IR, sl_CR, sl_LR, sl_II, sl_Ie, sl_RR, sl_Re, sl_CN, sl_Ce, sl_LN, sl_Le, sl_IN, sl_INe, sl_RN, sl_RNe, up2_s, up2_n, up1_s, up1_n, upN_s, upN_n, ne_eq, not_false_eq_true, reduceCtorEq]
      · refine ⟨fun c' hc' => ?_, fun c' hc' => by have := I.cr.2 c' hc'; simpa (disch := omega) only [sl_RI, sl_CI, sl_LI, sl_IR, sl_CR, sl_LR, sl_II, sl_Ie, sl_RR, sl_Re, sl_CN, sl_Ce, sl_LN, sl_Le, sl_IN, sl_INe, sl_RN, sl_RNe, up2_s, up2_n, up1_s, up1_n, upN_s, upN_n, ne_eq, not_false_eq_true, reduceCtorEq] using this⟩
        by_cases e : c' = c
        · subst e
          simp (disch := omega) only [sl_RI, sl_CI, sl_LI, sl_IR, sl_CR, sl_LR, sl_II, sl_Ie, sl_RR, sl_Re, sl_CN, sl_Ce, sl_LN, sl_Le, sl_IN, sl_INe, sl_RN, sl_RNe, up2_s, up2_n, up1_s, up1_n, upN_s, upN_n, ne_eq, not_false_eq_true, reduceCtorEq]
          exact ⟨⟨g0, hm, h1, h2, h3⟩, Or.inr (Or.inr ⟨trivial, trivial, s5, nw + 2 * ta, by omega, by omega, rfl, rfl⟩)⟩
        · have := I.cr.1 c' hc'
          simpa (disch := omega) only [sl_RI, sl_CI, sl_LI, sl_IR, sl_CR, sl_LR, sl_II, sl_Ie, sl_RR, sl_Re, sl_CN, sl_Ce, sl_LN, sl_Le, sl_IN, sl_INe, sl_RN, sl_RNe, up2_s, up2_n, up1_s, up1_n, upN_s, upN_n, ne_eq, not_false_eq_true, reduceCtorEq] using this
  · have fc : F_X4_hoursDownTo hm (some p) h = some (-1, h) := t3
    refine OP.same I (r := -1) ?_ ?_
    · rw [F_X7_walk, I.crewAt, e_cl, e2, e_onnS, s3, e_onnS, h2, if_neg npp, e_nn, fc, e_cl, if_pos rfl]
    · rw [F_X8_walk, F_in, e_cl, I.c_j30, e1, if_neg (by decide), I.r8_32, e_nn, I.l51_0, i_inb (by omega) (by omega), e_ck, i_cl (by omega), if_pos s1, I.r8_33, e_nn, I.l52_0, i_inb (by omega) (by omega), e_ck, I.r8_31, e_nn, I.l50_0, i_inb (by omega) (by omega), e_ck, s4, h3, q_ne hp (by omega) (by omega), e_ck]
      refine t4.trans ?_
      rw [I.r8_33, e_nn, I.l52_0, i_inb (by omega) (by omega), e_ck, s4, if_neg]
      intro e
      have e : nI 0 = nI p := e
      rw [i_eq (by omega) (by omega)] at e
      exact t1 e.symm
end OPS
