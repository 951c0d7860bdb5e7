theorem GR.c0 {S R C C' nw : Nat} {i2 : Nat → Nat → Int32} {r2 r0 r0' : Nat → Nat → Option Nat} {m45 m46 m47 m48 m49 : Nat → Int32} (g : GR S R C nw i2 r2 r0 m45 m46 m47 m48 m49) (hC : C ≤ C') (he : ∀ c, c < C → r0' c 3 = r0 c 3) : GR S R C' nw i2 r2 r0' m45 m46 m47 m48 m49 := by
  intro r hr
  obtain ⟨a, b⟩ := g r hr
  refine ⟨a, ?_⟩
  rcases b with b | b | ⟨b1, b2, b3, ⟨c, c1, c2, c3, c4⟩, b5⟩ | ⟨b1, b2, b3, ⟨c, c1, c2, c3, c4⟩, b5⟩
  · exact Or.inl b
  · exact Or.inr (Or.inl b)
  · exact Or.inr (Or.inr (Or.inl ⟨b1, b2, b3, ⟨c, by omega, c2, c3, by rw [he c c1]; exact c4⟩, b5⟩))
  · exact Or.inr (Or.inr (Or.inr ⟨b1, b2, b3, ⟨c, by omega, c2, c3, by rw [he c c1]; exact c4⟩, b5⟩))
theorem Gl.wN {h : Hp} {k len : Nat} (g : Gl (pL h)) (hk : (lenT.all fun q => q.1 != k) = true) : Gl (pL (wN h k len)) := by
  intro q hq
  have h1 := List.all_eq_true.mp hk q hq
  have h2 : q.1 ≠ k := by simpa using h1
  rw [pL_wN, if_neg (fun e => h2 e.1)]
  exact g q hq
theorem GRo.r2 {T R NR : Nat} {z : Nat → Nat} {ro : Nat → Nat → Nat} {w : Nat → Nat} {tt : Nat → Nat → Nat} {i2 : Nat → Nat → Int32} {r2 r2' a14 : Nat → Nat → Option Nat} {l14 : Nat → Nat} {i3 : Nat → Nat → Int32} {r3 a15 : Nat → Nat → Option Nat} {l15 : Nat → Nat} {i6 : Nat → Nat → Int32} {m38 m40 m41 m42 : Nat → Int32}
    (g : GRo T R NR z ro w tt i2 r2 a14 l14 i3 r3 a15 l15 i6 m38 m40 m41 m42) (he : ∀ r, r2' r 1 = r2 r 1) : GRo T R NR z ro w tt i2 r2' a14 l14 i3 r3 a15 l15 i6 m38 m40 m41 m42 := by
  refine ⟨fun r hr => ?_, g.2⟩
  rw [he r]
  exact g.1 r hr
theorem GRo.i2 {T R NR : Nat} {z : Nat → Nat} {ro : Nat → Nat → Nat} {w : Nat → Nat} {tt : Nat → Nat → Nat} {i2 i2' : Nat → Nat → Int32} {r2 a14 : Nat → Nat → Option Nat} {l14 : Nat → Nat} {i3 : Nat → Nat → Int32} {r3 a15 : Nat → Nat → Option Nat} {l15 : Nat → Nat} {i6 : Nat → Nat → Int32} {m38 m40 m41 m42 : Nat → Int32}
    (g : GRo T R NR z ro w tt i2 r2 a14 l14 i3 r3 a15 l15 i6 m38 m40 m41 m42) (he : ∀ r, i2' r 2 = i2 r 2) : GRo T R NR z ro w tt i2' r2 a14 l14 i3 r3 a15 l15 i6 m38 m40 m41 m42 := by
  refine ⟨fun r hr => ?_, g.2⟩
  rw [he r]
  exact g.1 r hr
section OPS
variable {nw : Nat} {z : Nat → Nat} {ro : Nat → Nat → Nat} {w : Nat → Nat} {tt : Nat → Nat → Nat} {q0 : Nat} {h : Hp}
theorem SimG.state2 (I : SimG nw z ro w tt q0 h) {r : Nat} (hr : r < pC h 2) : F_X2_state r h = some (pI h 45 0 r, h) := by
  obtain ⟨⟨-, a2, a5, -⟩, b⟩ := I.rf r hr
  rw [F_X2_state, a2, a5]
  rcases b with ⟨b1, b2, b3, b4, b5, b6⟩ | ⟨b1, b2, b3, b4, b5, b6⟩ | ⟨b1, b2, b3, ⟨c, c1, c2, -⟩, b5⟩ | ⟨b1, b2, b3, ⟨c, c1, c2, -⟩, a, a1, a3, a4⟩
  · rw [if_pos b2, b1]
  · rw [if_neg b2, b4, e_onnN, b1]
  · rw [if_neg b2, c2, e_onnS, if_pos b5, b1]
  · rw [if_neg b2, c2, e_onnS, a4, q_m1 (by omega), b1]
theorem SimG.tiedN (I : SimG nw z ro w tt q0 h) {x : Int32} (e : ixo x (pC h 2) = none) : F_X7_tiedAt 0 x h = some (none, h) := by
  rw [F_X7_tiedAt, I.raftAt, e_cl, e, e_onnN]
theorem SimG.tiedS (I : SimG nw z ro w tt q0 h) {x : Int32} {r : Nat} (hr : r < pC h 2) (e : ixo x (pC h 2) = some r) : F_X7_tiedAt 0 x h = some (if pI h 45 0 r = 0 then some r else none, h) := by
  rw [F_X7_tiedAt, I.raftAt, e_cl, e, e_onnS, I.state2 hr, e_cl]
  split <;> rfl
theorem isRaftN {R : Nat} {x v : Int32} (e : pI h 8 0 24 = nI R) (e1 : wi x 0 (nI R - 1) = 0) : F_X8_isRaft 0 x v h = some (0, h) := by
  rw [F_X8_isRaft, F_in, e_cl, e, e1, if_pos rfl]
theorem isRaftS {R r : Nat} {v : Int32} (hR : R ≤ 60) (hr : r < R) (e : pI h 8 0 24 = nI R) (r25 : pR h 8 0 25 = some 0) (l45 : pL h 45 0 = 60) (e1 : wi (nI r) 0 (nI R - 1) = 1) : F_X8_isRaft 0 (nI r) v h = some (if pI h 45 0 r = v then 1 else 0, h) := by
  rw [F_X8_isRaft, F_in, e_cl, e, e1, if_neg (by decide), r25, e_nn, l45, i_inb (by omega) (by omega), e_ck, i_cl (by omega)]
  split <;> rfl
theorem op_crew (I : SimG nw z ro w tt q0 h) (x : Int32) : OP (F_X7_crew 0 x) (F_X8_crew 0 x) h := by
  have hS := I.c_hS
  have hC := I.c_hC
  obtain ⟨n1, n2, n3⟩ := I.gnw
  rcases wi_ix x (n := pC h 4) (by omega) with ⟨e1, e2⟩ | ⟨e1, j, hj, rfl, e2⟩
  · refine OP.same I (r := -1) ?_ ?_
    · rw [F_X7_crew, I.stationAt, e_cl, e2, e_onnN]
    · rw [F_X8_crew, F_isStation I.c_j1, e_cl, e1, if_pos rfl]
  by_cases c : pC h 0 < 10
  · refine ⟨nI (pC h 0), (wI (wR (wR (wR (wI (wI (wI (wR (wN h 0 0) 0 (pC h 0) 3 none) 0 (pC h 0) 4 (-1)) 0 (pC h 0) 5 (-8)) 0 (pC h 0) 0 (nI (pC h 0))) 0 (pC h 0) 1 (some j)) 0 (pC h 0) 2 (some j)) 22 0 (pC h 0) (some (pC h 0))) 7 0 7 (nI (pC h 0 + 1))), (wI (wI (wI (wI (wI (wI (wR (wR (wR (wI (wI (wI (wR (wN h 0 0) 0 (pC h 0) 3 none) 0 (pC h 0) 4 (-1)) 0 (pC h 0) 5 (-8)) 0 (pC h 0) 0 (nI (pC h 0))) 0 (pC h 0) 1 (some j)) 0 (pC h 0) 2 (some j)) 22 0 (pC h 0) (some (pC h 0))) 7 0 7 (nI (pC h 0 + 1))) 50 0 (pC h 0) (nI j)) 52 0 (pC h 0) (nI j)) 53 0 (pC h 0) (nI nw - 8)) 54 0 (pC h 0) (-1)) 8 0 30 (nI (pC h 0 + 1))), ?_, ?_, nw, z, ro, w, tt, q0, ?_⟩
    · rw [F_X7_crew, I.stationAt, e_cl, e2, e_onnS, I.c_i7, q_ltR 10 c (by omega)]
      simp (disch := omega) only [F_X0_init, e_nn, e_onnN, e_onnS, e_ck, e_lt, e_cl, F_within, F_in, isz0, isz1, i10, ↓reduceIte, sl_RI, sl_CI, sl_LI, sl_IR, sl_CR, sl_LR, sl_II, sl_Ie, sl_RR, sl_Re, sl_CN, sl_Ce, sl_LN, sl_Le, sl_IN, sl_INe, sl_RN, sl_RNe, up2_s, up2_n, up1_s, up1_n, upN_s, upN_n, ne_eq, not_false_eq_true, reduceCtorEq, i_le, i_lt, i_eq, i_cl, i_inb, nI_add, nI_1, i_n1, i_1n, i_sub, I.c_i7, I.r7_6, I.l22_0]
    · rw [F_X8_crew, F_isStation (S := pC h 4) (by simp (disch := omega) only [sl_RI, sl_CI, sl_LI, sl_IR, sl_CR, sl_LR, sl_II, sl_Ie, sl_RR, sl_Re, sl_CN, sl_Ce, sl_LN, sl_Le, sl_IN, sl_INe, sl_RN, sl_RNe, up2_s, up2_n, up1_s, up1_n, upN_s, upN_n, ne_eq, not_false_eq_true, reduceCtorEq, I.c_j1]), e_cl, e1, if_neg (by decide)]
      have nq : ¬ nI (pC h 0) = (10 : Int32) := by rw [i_eqL 10 (by omega) (by omega)]; omega
      have em : nI (pC h 0 + 1) - 1 = nI (pC h 0) := nI_pred _
      simp (disch := omega) only [e_nn, e_onnN, e_onnS, e_ck, e_lt, e_cl, F_within, F_in, isz0, isz1, i10, ↓reduceIte, sl_RI, sl_CI, sl_LI, sl_IR, sl_CR, sl_LR, sl_II, sl_Ie, sl_RR, sl_Re, sl_CN, sl_Ce, sl_LN, sl_Le, sl_IN, sl_INe, sl_RN, sl_RNe, up2_s, up2_n, up1_s, up1_n, upN_s, upN_n, ne_eq, not_false_eq_true, reduceCtorEq, i_le, i_lt, i_eq, i_cl, i_inb, nI_add, nI_1, i_n1, i_1n, i_sub, I.c_j30, nq, n2, em, I.r8_31, I.r8_33, I.r8_34, I.r8_35, I.l50_0, I.l52_0, I.l53_0, I.l54_0]
    · unfold SimG
      simp (disch := omega) only [sl_RI, sl_CI, sl_LI, sl_IR, sl_CR, sl_LR, sl_II, sl_Ie, sl_RR, sl_Re, sl_CN, sl_Ce, sl_LN, sl_Le, sl_IN, sl_INe, sl_RN, sl_RNe, up2_s, up2_n, up1_s, up1_n, upN_s, upN_n, ne_eq, not_false_eq_true, reduceCtorEq]
      have hct := I.ct
      obtain ⟨t1, t2, t3, t4, t5, t6, t7, t8, t9, t10, t11, t12, t13, t14⟩ := hct
      refine ⟨I.w7, I.w1, I.w5, I.w8, ?_, ⟨t1, t2, t3, by omega, t5, t6, t7, t8, t9, rfl, t11, t12, t13, rfl⟩, I.a19, I.a20, I.a21, ?_, I.st, I.sb, I.tr, ?_, ?_, I.rw, I.nx, I.to, I.pr, I.gnw, I.tk, I.rg, I.ba, I.so⟩
      · exact I.ln.wN (by decide)
      · intro i hi
        by_cases e : i = pC h 0
        · subst e; rw [up1_s]
        · rw [up1_n _ _ e]; exact I.a22 i (by omega)
      · exact I.rf.c0 (by omega) (fun c hc => by simp (disch := omega) only [sl_RI, sl_CI, sl_LI, sl_IR, sl_CR, sl_LR, sl_II, sl_Ie, sl_RR, sl_Re, sl_CN, sl_Ce, sl_LN, sl_Le, sl_IN, sl_INe, sl_RN, sl_RNe, up2_s, up2_n, up1_s, up1_n, upN_s, upN_n, ne_eq, not_false_eq_true, reduceCtorEq])
      · refine ⟨fun c hc => ?_, fun c hc => I.cr.2 c (by omega)⟩
        by_cases e : c = pC h 0
        · subst e
          simp (disch := omega) only [sl_RI, sl_CI, sl_LI, sl_IR, sl_CR, sl_LR, sl_II, sl_Ie, sl_RR, sl_Re, sl_CN, sl_Ce, sl_LN, sl_Le, sl_IN, sl_INe, sl_RN, sl_RNe, up2_s, up2_n, up1_s, up1_n, upN_s, upN_n, ne_eq, not_false_eq_true, reduceCtorEq]
          refine ⟨⟨trivial, j, hj, rfl, rfl⟩, Or.inl ⟨I.cr.2 _ (Nat.le_refl _), ⟨j, hj, rfl, rfl⟩, trivial, trivial, 0, nw, by decide, rfl, by omega, by omega, Or.inr ⟨by omega, by omega⟩⟩⟩
        · have := I.cr.1 c (by omega)
          simpa (disch := omega) only [sl_RI, sl_CI, sl_LI, sl_IR, sl_CR, sl_LR, sl_II, sl_Ie, sl_RR, sl_Re, sl_CN, sl_Ce, sl_LN, sl_Le, sl_IN, sl_INe, sl_RN, sl_RNe, up2_s, up2_n, up1_s, up1_n, upN_s, upN_n, ne_eq, not_false_eq_true, reduceCtorEq] using this
  · refine OP.same I (r := -1) ?_ ?_
    · rw [F_X7_crew, I.stationAt, e_cl, e2, e_onnS, I.c_i7, q_nltR 10 (by omega) (by omega)]
    · rw [F_X8_crew, F_isStation I.c_j1, e_cl, e1, if_neg (by decide), I.c_j30, q_eqR 10 (by omega)]
end OPS
