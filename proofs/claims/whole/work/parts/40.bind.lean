theorem GC.R {S R R' C nw : Nat} {i0 : Nat → Nat → Int32} {r0 r2 r2' : Nat → Nat → Option Nat} {m45 m45' m50 m51 m52 m53 m54 : Nat → Int32} (g : GC S R C nw i0 r0 r2 m45 m50 m51 m52 m53 m54) (h : R ≤ R') (he : ∀ r, r < R → r2' r 4 = r2 r 4 ∧ m45' r = m45 r) : GC S R' C nw i0 r0 r2' m45' m50 m51 m52 m53 m54 := by
  refine ⟨fun c hc => ?_, g.2⟩
  obtain ⟨a, b⟩ := g.1 c hc
  refine ⟨a, ?_⟩
  rcases b with b | ⟨d1, d2, ⟨d, d3, d4, d5, d6⟩, d7⟩ | b
  · exact Or.inl b
  · obtain ⟨k1, k2⟩ := he d d3
    exact Or.inr (Or.inl ⟨d1, d2, ⟨d, by omega, d4, by rw [k1]; exact d5, by rw [k2]; exact d6⟩, d7⟩)
  · exact Or.inr (Or.inr b)
section OPS
variable {nw : Nat} {z : Nat → Nat} {ro : Nat → Nat → Nat} {w : Nat → Nat} {tt : Nat → Nat → Nat} {q0 : Nat} {h : Hp}
theorem SimG.newRaftC (I : SimG nw z ro w tt q0 h) (hR : pC h 2 < 60) (st : Option Nat) : F_X7_newRaft 0 st h = some (some (pC h 2), (wI (wR (wR (wI (wI (wR (wI (wR (wN (wN h 2 0) 14 8) 2 (pC h 2) 1 (some (pC h 2))) 2 (pC h 2) 2 0) 2 (pC h 2) 4 none) 2 (pC h 2) 5 (-1)) 2 (pC h 2) 0 (nI (pC h 2))) 2 (pC h 2) 3 st) 21 0 (pC h 2) (some (pC h 2))) 7 0 5 (nI (pC h 2 + 1)))) := by
  have e14 := I.c_p14
  rw [F_X7_newRaft]
  simp (disch := omega) only [F_X2_init, e_nn, e_onnN, e_onnS, e_ck, e_lt, e_cl, F_within, F_in, isz0, isz1, i10, ↓reduceIte, sl_RI, sl_CI, sl_LI, sl_IR, sl_CR, sl_LR, sl_II, sl_Ie, sl_RR, sl_Re, sl_CN, sl_Ce, sl_LN, sl_Le, sl_IN, sl_INe, sl_RN, sl_RNe, up2_s, up2_n, up1_s, up1_n, upN_s, upN_n, ne_eq, not_false_eq_true, reduceCtorEq, i_le, i_lt, i_eq, i_cl, i_inb, nI_add, nI_1, i_n1, i_1n, i_sub, I.c_i5, I.r7_4, I.l21_0, e14, show ((8 : Int32)).toNatClampNeg = 8 from by decide]
theorem SimG.newRaftM (I : SimG nw z ro w tt q0 h) {g : Hp} (M : ME h g) (hR : pC h 2 < 60) (v : Int32) : F_X8_newRaft 0 v g = some (nI (pC h 2), wI (wI (wI (wI (wI g 45 0 (pC h 2) 0) 46 0 (pC h 2) v) 48 0 (pC h 2) (-1)) 49 0 (pC h 2) (-1)) 8 0 24 (nI (pC h 2 + 1))) := by
  have m := I.TL M
  have e24 : pI g 8 0 24 = nI (pC h 2) := by rw [M.I (by decide)]; exact I.c_j24
  have ep : nI (pC h 2 + 1) - 1 = nI (pC h 2) := nI_pred _
  rw [F_X8_newRaft]
  simp (disch := omega) only [e_nn, e_onnN, e_onnS, e_ck, e_lt, e_cl, F_within, F_in, isz0, isz1, i10, ↓reduceIte, sl_RI, sl_CI, sl_LI, sl_IR, sl_CR, sl_LR, sl_II, sl_Ie, sl_RR, sl_Re, sl_CN, sl_Ce, sl_LN, sl_Le, sl_IN, sl_INe, sl_RN, sl_RNe, up2_s, up2_n, up1_s, up1_n, upN_s, upN_n, ne_eq, not_false_eq_true, reduceCtorEq, i_le, i_lt, i_eq, i_cl, i_inb, nI_add, nI_1, i_n1, i_1n, i_sub, e24, ep, m.r 25 (by decide), m.r 26 (by decide), m.r 28 (by decide), m.r 29 (by decide), m.l 45 60 (by decide) (by decide), m.l 46 60 (by decide) (by decide), m.l 48 60 (by decide) (by decide), m.l 49 60 (by decide) (by decide)]
theorem bind_l {n R : Nat} {τ : Nat → Nat} (hn : n ≤ 9) (hτ : ∀ k, k < n → τ k < 120) (hu : ∀ j j', j < n → j' < n → τ j = τ j' → j = j') {β : Type} (ka : Hp → Option β) : ∀ m i f g, Gw8 (pR g 8 0) → (∀ q ∈ lenT, isM q.1 = true → pL g q.1 q.2.1 = q.2.2) → pI g 8 0 22 = nI n → (∀ k, k < n → pI g 44 0 k = nI (τ k)) → i + m = n → m < f → ∃ g', L_X8_bind_43 0 (nI R) ka f (nI i) g = ka g' ∧ Fr [38, 40, 41, 42] [] g g' ∧ (∀ k, i ≤ k → k < n → pI g' 38 0 (τ k) = 1 ∧ pI g' 40 0 (τ k) = nI R ∧ pI g' 41 0 (τ k) = 0 ∧ pI g' 42 0 (τ k) = nI k) ∧ ∀ t, (∀ k, i ≤ k → k < n → τ k ≠ t) → pI g' 38 0 t = pI g 38 0 t ∧ pI g' 40 0 t = pI g 40 0 t ∧ pI g' 41 0 t = pI g 41 0 t ∧ pI g' 42 0 t = pI g 42 0 t := by
  intro m
  induction m with
  | zero =>
    intro i f g g8 gl e22 e44 hi hf
    obtain ⟨f, rfl⟩ := fu_1 hf
    refine ⟨g, ?_, Fr.refl _ _ _, fun k k1 k2 => by omega, fun _ _ => ⟨rfl, rfl, rfl, rfl⟩⟩
    rw [L_X8_bind_43, e22, q_le (by omega) (by omega)]
  | succ m ih =>
    intro i f g g8 gl e22 e44 hi hf
    obtain ⟨f, rfl⟩ := fu_1 hf
    have ti := hτ i (by omega)
    have ei := e44 i (by omega)
    have f1 : Fr [38, 40, 41, 42] [] g (wI (wI (wI (wI g 38 0 (τ i) 1) 40 0 (τ i) (nI R)) 41 0 (τ i) 0) 42 0 (τ i) (nI i)) := ((((Fr.refl _ _ _).wI (by decide)).wI (by decide)).wI (by decide)).wI (by decide)
    obtain ⟨g', e', fr, h1, h2⟩ := ih (i + 1) f (wI (wI (wI (wI g 38 0 (τ i) 1) 40 0 (τ i) (nI R)) 41 0 (τ i) 0) 42 0 (τ i) (nI i)) g8 gl (by rw [f1.I (by decide)]; exact e22) (fun k hk => by rw [f1.I (by decide)]; exact e44 k hk) (by omega) (by omega)
    have r (k : Nat) (hk : k < 52 ∧ k ≠ 0 ∧ k ≠ 1 ∧ k ≠ 11 ∧ k ≠ 22 ∧ k ≠ 24 ∧ k ≠ 30 ∧ k ≠ 38 ∧ k ≠ 41 ∧ k ≠ 46) : pR g 8 0 k = some 0 := g8 k hk
    have l (k n : Nat) (hk : (k, 0, n) ∈ lenT) (hm : isM k = true) : pL g k 0 = n := gl (k, 0, n) hk hm
    refine ⟨g', ?_, f1.trans fr, fun k k1 k2 => ?_, fun t ht => ?_⟩
    · rw [L_X8_bind_43, e22, q_nle (by omega) (by omega)]
      simp (disch := omega) only [e_nn, e_onnN, e_onnS, e_ck, e_lt, e_cl, F_within, F_in, isz0, isz1, i10, ↓reduceIte, sl_RI, sl_CI, sl_LI, sl_IR, sl_CR, sl_LR, sl_II, sl_Ie, sl_RR, sl_Re, sl_CN, sl_Ce, sl_LN, sl_Le, sl_IN, sl_INe, sl_RN, sl_RNe, up2_s, up2_n, up1_s, up1_n, upN_s, upN_n, ne_eq, not_false_eq_true, reduceCtorEq, i_le, i_lt, i_eq, i_cl, i_inb, nI_add, nI_1, i_n1, i_1n, i_sub, r 16 (by decide), r 18 (by decide), r 19 (by decide), r 20 (by decide), r 23 (by decide), l 38 120 (by decide) (by decide), l 40 120 (by decide) (by decide), l 41 120 (by decide) (by decide), l 42 120 (by decide) (by decide), l 44 9 (by decide) (by decide), ei]
      exact e'
    · by_cases e : k = i
      · subst e
        obtain ⟨x1, x2, x3, x4⟩ := h2 (τ k) (fun k' q1 q2 q3 => by have := hu k' k q2 k2 q3; omega)
        rw [x1, x2, x3, x4]
        simp (disch := omega) only [sl_RI, sl_CI, sl_LI, sl_IR, sl_CR, sl_LR, sl_II, sl_Ie, sl_RR, sl_Re, sl_CN, sl_Ce, sl_LN, sl_Le, sl_IN, sl_INe, sl_RN, sl_RNe, up2_s, up2_n, up1_s, up1_n, upN_s, upN_n, ne_eq, not_false_eq_true, reduceCtorEq, and_self]
      · exact h1 k (by omega) k2
    · obtain ⟨x1, x2, x3, x4⟩ := h2 t (fun k k1 k2 => ht k (by omega) k2)
      have ne : t ≠ τ i := fun e => ht i (Nat.le_refl _) (by omega) e.symm
      rw [x1, x2, x3, x4]
      simp (disch := omega) only [sl_RI, sl_CI, sl_LI, sl_IR, sl_CR, sl_LR, sl_II, sl_Ie, sl_RR, sl_Re, sl_CN, sl_Ce, sl_LN, sl_Le, sl_IN, sl_INe, sl_RN, sl_RNe, up2_s, up2_n, up1_s, up1_n, upN_s, upN_n, ne_eq, not_false_eq_true, reduceCtorEq, and_self]
theorem op_bind (I : SimG nw z ro w tt q0 h) : OP (F_X7_bind 0) (F_X8_bind 0) h := by
  have hR := I.c_hR
  have hS := I.c_hS
  have hT := I.c_hT
  have hct := I.ct
  obtain ⟨t1, t2, t3, t4, t5, t6, t7, t8, t9, t10, t11, t12, t13, t14⟩ := hct
  obtain ⟨g1, g2, g3, g4, g5, g6⟩ := I.nx
  obtain ⟨b1, b2, b3, b4, b5, b6⟩ := I.rw.2.1 q0 g2
  have ff := F_first (p := q0) (o := some (tt q0 0)) b2 b1 b3 b4 (fun hp => (b6 0 hp).1)
  by_cases w0 : w q0 = 0
  · refine OP.same I (r := -1) ?_ ?_
    · rw [F_X7_bind, g1, e_nn, ff, if_pos w0, e_cl, e_onnN]
    · rw [F_X8_bind, g3, q_eqR 0 w0]
  by_cases hR60 : pC h 2 < 60
  rotate_left
  · refine OP.same I (r := -1) ?_ ?_
    · rw [F_X7_bind, g1, e_nn, ff, if_neg w0, e_cl, e_onnS, I.c_i5, q_nltR 60 (by omega) (by omega)]
    · rw [F_X8_bind, g3, q_neR 0 w0 (by omega) (by omega), I.c_j24, q_eqR 60 (by omega)]
  obtain ⟨p, p1, p2, p3⟩ : ∃ p, p < pC h 4 ∧ pR h 6 (tt q0 0) 5 = some p ∧ pI h 39 0 (tt q0 0) = nI p := by
    have m0 := (g4 0 (by omega)).2.1
    rcases (I.tr.1 (tt q0 0) (b6 0 (by omega)).2).2.2 with ⟨-, k, -⟩ | ⟨k, -⟩ | ⟨k, -⟩ | ⟨k, -⟩
    · exact k
    · rw [m0] at k; exact absurd k (by decide)
    · rw [m0] at k; exact absurd k (by decide)
    · rw [m0] at k; exact absurd k (by decide)
  have qb : RW (wI (wR (wR (wI (wI (wR (wI (wR (wN (wN h 2 0) 14 8) 2 (pC h 2) 1 (some (pC h 2))) 2 (pC h 2) 2 0) 2 (pC h 2) 4 none) 2 (pC h 2) 5 (-1)) 2 (pC h 2) 0 (nI (pC h 2))) 2 (pC h 2) 3 (some p)) 21 0 (pC h 2) (some (pC h 2))) 7 0 5 (nI (pC h 2 + 1))) q0 (w q0) (tt q0) := ⟨by simp (disch := omega) only [sl_RI, sl_CI, sl_LI, sl_IR, sl_CR, sl_LR, sl_II, sl_Ie, sl_RR, sl_Re, sl_CN, sl_Ce, sl_LN, sl_Le, sl_IN, sl_INe, sl_RN, sl_RNe, up2_s, up2_n, up1_s, up1_n, upN_s, upN_n, ne_eq, not_false_eq_true, reduceCtorEq]; exact b1, b2, by simp (disch := omega) only [sl_RI, sl_CI, sl_LI, sl_IR, sl_CR, sl_LR, sl_II, sl_Ie, sl_RR, sl_Re, sl_CN, sl_Ce, sl_LN, sl_Le, sl_IN, sl_INe, sl_RN, sl_RNe, up2_s, up2_n, up1_s, up1_n, upN_s, upN_n, ne_eq, not_false_eq_true, reduceCtorEq]; exact b3, by simp (disch := omega) only [sl_RI, sl_CI, sl_LI, sl_IR, sl_CR, sl_LR, sl_II, sl_Ie, sl_RR, sl_Re, sl_CN, sl_Ce, sl_LN, sl_Le, sl_IN, sl_INe, sl_RN, sl_RNe, up2_s, up2_n, up1_s, up1_n, upN_s, upN_n, ne_eq, not_false_eq_true, reduceCtorEq]; exact b4, fun j hj => by simp (disch := omega) only [sl_RI, sl_CI, sl_LI, sl_IR, sl_CR, sl_LR, sl_II, sl_Ie, sl_RR, sl_Re, sl_CN, sl_Ce, sl_LN, sl_Le, sl_IN, sl_INe, sl_RN, sl_RNe, up2_s, up2_n, up1_s, up1_n, upN_s, upN_n, ne_eq, not_false_eq_true, reduceCtorEq]; exact (b6 j hj).1⟩
  obtain ⟨a1, ea, fa, ua, va, ta⟩ := F_append (g := (wI (wR (wR (wI (wI (wR (wI (wR (wN (wN h 2 0) 14 8) 2 (pC h 2) 1 (some (pC h 2))) 2 (pC h 2) 2 0) 2 (pC h 2) 4 none) 2 (pC h 2) 5 (-1)) 2 (pC h 2) 0 (nI (pC h 2))) 2 (pC h 2) 3 (some p)) 21 0 (pC h 2) (some (pC h 2))) 7 0 5 (nI (pC h 2 + 1)))) (r := pC h 2) (s := 0) (by omega) (by simp (disch := omega) only [sl_RI, sl_CI, sl_LI, sl_IR, sl_CR, sl_LR, sl_II, sl_Ie, sl_RR, sl_Re, sl_CN, sl_Ce, sl_LN, sl_Le, sl_IN, sl_INe, sl_RN, sl_RNe, up2_s, up2_n, up1_s, up1_n, upN_s, upN_n, ne_eq, not_false_eq_true, reduceCtorEq]; rfl) (by simp (disch := omega) only [sl_RI, sl_CI, sl_LI, sl_IR, sl_CR, sl_LR, sl_II, sl_Ie, sl_RR, sl_Re, sl_CN, sl_Ce, sl_LN, sl_Le, sl_IN, sl_INe, sl_RN, sl_RNe, up2_s, up2_n, up1_s, up1_n, upN_s, upN_n, ne_eq, not_false_eq_true, reduceCtorEq]) (by simp (disch := omega) only [sl_RI, sl_CI, sl_LI, sl_IR, sl_CR, sl_LR, sl_II, sl_Ie, sl_RR, sl_Re, sl_CN, sl_Ce, sl_LN, sl_Le, sl_IN, sl_INe, sl_RN, sl_RNe, up2_s, up2_n, up1_s, up1_n, upN_s, upN_n, ne_eq, not_false_eq_true, reduceCtorEq, t5]) qb
  have ca : pC a1 = pC (wI (wR (wR (wI (wI (wR (wI (wR (wN (wN h 2 0) 14 8) 2 (pC h 2) 1 (some (pC h 2))) 2 (pC h 2) 2 0) 2 (pC h 2) 4 none) 2 (pC h 2) 5 (-1)) 2 (pC h 2) 0 (nI (pC h 2))) 2 (pC h 2) 3 (some p)) 21 0 (pC h 2) (some (pC h 2))) 7 0 5 (nI (pC h 2 + 1))) := fa.C
  have c3 : pC a1 3 = pC h 3 := by rw [ca]; simp (disch := omega) only [sl_RI, sl_CI, sl_LI, sl_IR, sl_CR, sl_LR, sl_II, sl_Ie, sl_RR, sl_Re, sl_CN, sl_Ce, sl_LN, sl_Le, sl_IN, sl_INe, sl_RN, sl_RNe, up2_s, up2_n, up1_s, up1_n, upN_s, upN_n, ne_eq, not_false_eq_true, reduceCtorEq]
  have c15 : pC a1 15 = pC h 3 := by rw [ca]; simp (disch := omega) only [sl_RI, sl_CI, sl_LI, sl_IR, sl_CR, sl_LR, sl_II, sl_Ie, sl_RR, sl_Re, sl_CN, sl_Ce, sl_LN, sl_Le, sl_IN, sl_INe, sl_RN, sl_RNe, up2_s, up2_n, up1_s, up1_n, upN_s, upN_n, ne_eq, not_false_eq_true, reduceCtorEq, t6]
  have M : ME h (wR (wI (wI (wR (wN (wN a1 3 0) 15 9) 3 (pC h 3) 0 (some (pC h 3))) 3 (pC h 3) 1 0) 3 (pC h 3) 2 0) 7 0 8 (some (pC h 3))) := by
    intro k hk
    have k2 : k ≠ 2 := by rintro rfl; exact absurd hk (by decide)
    have k3 : k ≠ 3 := by rintro rfl; exact absurd hk (by decide)
    have k6 : k ≠ 6 := by rintro rfl; exact absurd hk (by decide)
    have k7 : k ≠ 7 := by rintro rfl; exact absurd hk (by decide)
    have k14 : k ≠ 14 := by rintro rfl; exact absurd hk (by decide)
    have k15 : k ≠ 15 := by rintro rfl; exact absurd hk (by decide)
    have k21 : k ≠ 21 := by rintro rfl; exact absurd hk (by decide)
    refine ⟨?_, ?_, ?_, ?_⟩
    · simp (disch := omega) only [sl_RI, sl_CI, sl_LI, sl_IR, sl_CR, sl_LR, sl_II, sl_Ie, sl_RR, sl_Re, sl_CN, sl_Ce, sl_LN, sl_Le, sl_IN, sl_INe, sl_RN, sl_RNe, up2_s, up2_n, up1_s, up1_n, upN_s, upN_n, ne_eq, not_false_eq_true, reduceCtorEq]
      rw [fa.I (by simpa using k2)]
      simp (disch := omega) only [sl_RI, sl_CI, sl_LI, sl_IR, sl_CR, sl_LR, sl_II, sl_Ie, sl_RR, sl_Re, sl_CN, sl_Ce, sl_LN, sl_Le, sl_IN, sl_INe, sl_RN, sl_RNe, up2_s, up2_n, up1_s, up1_n, upN_s, upN_n, ne_eq, not_false_eq_true, reduceCtorEq]
    · simp (disch := omega) only [sl_RI, sl_CI, sl_LI, sl_IR, sl_CR, sl_LR, sl_II, sl_Ie, sl_RR, sl_Re, sl_CN, sl_Ce, sl_LN, sl_Le, sl_IN, sl_INe, sl_RN, sl_RNe, up2_s, up2_n, up1_s, up1_n, upN_s, upN_n, ne_eq, not_false_eq_true, reduceCtorEq]
      rw [fa.R (by simp [k6, k14])]
      simp (disch := omega) only [sl_RI, sl_CI, sl_LI, sl_IR, sl_CR, sl_LR, sl_II, sl_Ie, sl_RR, sl_Re, sl_CN, sl_Ce, sl_LN, sl_Le, sl_IN, sl_INe, sl_RN, sl_RNe, up2_s, up2_n, up1_s, up1_n, upN_s, upN_n, ne_eq, not_false_eq_true, reduceCtorEq]
    · simp (disch := omega) only [sl_RI, sl_CI, sl_LI, sl_IR, sl_CR, sl_LR, sl_II, sl_Ie, sl_RR, sl_Re, sl_CN, sl_Ce, sl_LN, sl_Le, sl_IN, sl_INe, sl_RN, sl_RNe, up2_s, up2_n, up1_s, up1_n, upN_s, upN_n, ne_eq, not_false_eq_true, reduceCtorEq]
      rw [fa.L]
      simp (disch := omega) only [sl_RI, sl_CI, sl_LI, sl_IR, sl_CR, sl_LR, sl_II, sl_Ie, sl_RR, sl_Re, sl_CN, sl_Ce, sl_LN, sl_Le, sl_IN, sl_INe, sl_RN, sl_RNe, up2_s, up2_n, up1_s, up1_n, upN_s, upN_n, ne_eq, not_false_eq_true, reduceCtorEq]
    · simp (disch := omega) only [sl_RI, sl_CI, sl_LI, sl_IR, sl_CR, sl_LR, sl_II, sl_Ie, sl_RR, sl_Re, sl_CN, sl_Ce, sl_LN, sl_Le, sl_IN, sl_INe, sl_RN, sl_RNe, up2_s, up2_n, up1_s, up1_n, upN_s, upN_n, ne_eq, not_false_eq_true, reduceCtorEq]
      rw [ca]
      simp (disch := omega) only [sl_RI, sl_CI, sl_LI, sl_IR, sl_CR, sl_LR, sl_II, sl_Ie, sl_RR, sl_Re, sl_CN, sl_Ce, sl_LN, sl_Le, sl_IN, sl_INe, sl_RN, sl_RNe, up2_s, up2_n, up1_s, up1_n, upN_s, upN_n, ne_eq, not_false_eq_true, reduceCtorEq]
  obtain ⟨h1, hh1⟩ : ∃ h1, h1 = (wR (wI (wI (wR (wN (wN a1 3 0) 15 9) 3 (pC h 3) 0 (some (pC h 3))) 3 (pC h 3) 1 0) 3 (pC h 3) 2 0) 7 0 8 (some (pC h 3))) := ⟨_, rfl⟩
  rw [← hh1] at M
  have TH := I.TL M
  have n22 : pI h1 8 0 22 = nI (w q0) := by rw [M.I (by decide)]; exact g3
  obtain ⟨g', em, fm, x1, x2⟩ := bind_l (n := w q0) (R := pC h 2) (τ := tt q0) b2 (fun k hk => by have := (b6 k hk).2; omega) g6 (fun h50 => lt (wI h50 8 0 22 (0 : Int32)) fun h51 => some (nI (pC h 2), h51)) (w q0) 0 FU (wI (wI (wI (wI (wI (wI h1 45 0 (pC h 2) 0) 46 0 (pC h 2) (nI p)) 48 0 (pC h 2) (-1)) 49 0 (pC h 2) (-1)) 8 0 24 (nI (pC h 2 + 1))) 47 0 (pC h 2) 1) TH.2.2.1 TH.2.2.2 (by simp (disch := omega) only [sl_RI, sl_CI, sl_LI, sl_IR, sl_CR, sl_LR, sl_II, sl_Ie, sl_RR, sl_Re, sl_CN, sl_Ce, sl_LN, sl_Le, sl_IN, sl_INe, sl_RN, sl_RNe, up2_s, up2_n, up1_s, up1_n, upN_s, upN_n, ne_eq, not_false_eq_true, reduceCtorEq]; exact n22) (fun k hk => by simp (disch := omega) only [sl_RI, sl_CI, sl_LI, sl_IR, sl_CR, sl_LR, sl_II, sl_Ie, sl_RR, sl_Re, sl_CN, sl_Ce, sl_LN, sl_Le, sl_IN, sl_INe, sl_RN, sl_RNe, up2_s, up2_n, up1_s, up1_n, upN_s, upN_n, ne_eq, not_false_eq_true, reduceCtorEq]; rw [M.I (by decide)]; exact (g4 k hk).1) (by omega) (by unfold FU; omega)
  have m38 : pI h1 38 = pI h 38 := M.I (by decide)
  have m40 : pI h1 40 = pI h 40 := M.I (by decide)
  have m41 : pI h1 41 = pI h 41 := M.I (by decide)
  have m42 : pI h1 42 = pI h 42 := M.I (by decide)
  simp (disch := omega) only [sl_RI, sl_CI, sl_LI, sl_IR, sl_CR, sl_LR, sl_II, sl_Ie, sl_RR, sl_Re, sl_CN, sl_Ce, sl_LN, sl_Le, sl_IN, sl_INe, sl_RN, sl_RNe, up2_s, up2_n, up1_s, up1_n, upN_s, upN_n, ne_eq, not_false_eq_true, reduceCtorEq, m38, m40, m41, m42] at x2
  have hno : ∀ r, r < pC h 2 → ∀ i, i < z r → ∀ j, j < w (ro r i) → ∀ k, 0 ≤ k → k < w q0 → tt q0 k ≠ tt (ro r i) j := by
    intro r hr i hi j hj k _ hk e
    have q1 := (g4 k hk).2.1
    have q2 := (I.of_m hr hi hj).1.1
    rw [e, q2] at q1
    exact absurd q1 (by decide)
  refine ⟨nI (pC h 2), h1, (wI g' 8 0 22 0), ?_, ?_, nw, up1 z (pC h 2) 1, fun r i => if r = pC h 2 then q0 else ro r i, up1 w (pC h 3) 0, tt, pC h 3, ?_⟩
  · rw [F_X7_bind, g1, e_nn, ff, if_neg w0, e_cl, e_onnS, I.c_i5, q_ltR 60 (by omega) (by omega), p2, I.newRaftC hR60, e_cl, e_nn]
    have e78 : pR (wI (wR (wR (wI (wI (wR (wI (wR (wN (wN h 2 0) 14 8) 2 (pC h 2) 1 (some (pC h 2))) 2 (pC h 2) 2 0) 2 (pC h 2) 4 none) 2 (pC h 2) 5 (-1)) 2 (pC h 2) 0 (nI (pC h 2))) 2 (pC h 2) 3 (some p)) 21 0 (pC h 2) (some (pC h 2))) 7 0 5 (nI (pC h 2 + 1))) 7 0 8 = some q0 := by simp (disch := omega) only [sl_RI, sl_CI, sl_LI, sl_IR, sl_CR, sl_LR, sl_II, sl_Ie, sl_RR, sl_Re, sl_CN, sl_Ce, sl_LN, sl_Le, sl_IN, sl_INe, sl_RN, sl_RNe, up2_s, up2_n, up1_s, up1_n, upN_s, upN_n, ne_eq, not_false_eq_true, reduceCtorEq]; exact g1
    rw [e78, ea, e_cl, e_lt, c3, F_X3_init, hh1]
    have e20 : pI a1 2 (pC h 2) 0 = nI (pC h 2) := by rw [ua]; simp (disch := omega) only [sl_RI, sl_CI, sl_LI, sl_IR, sl_CR, sl_LR, sl_II, sl_Ie, sl_RR, sl_Re, sl_CN, sl_Ce, sl_LN, sl_Le, sl_IN, sl_INe, sl_RN, sl_RNe, up2_s, up2_n, up1_s, up1_n, upN_s, upN_n, ne_eq, not_false_eq_true, reduceCtorEq]
    simp (disch := omega) only [e_nn, e_onnN, e_onnS, e_ck, e_lt, e_cl, F_within, F_in, isz0, isz1, i10, ↓reduceIte, sl_RI, sl_CI, sl_LI, sl_IR, sl_CR, sl_LR, sl_II, sl_Ie, sl_RR, sl_Re, sl_CN, sl_Ce, sl_LN, sl_Le, sl_IN, sl_INe, sl_RN, sl_RNe, up2_s, up2_n, up1_s, up1_n, upN_s, upN_n, ne_eq, not_false_eq_true, reduceCtorEq, c15, e20, show ((9 : Int32)).toNatClampNeg = 9 from by decide]
  · have t0 := (b6 0 (by omega)).2
    have m44 : pI h1 44 0 0 = nI (tt q0 0) := by rw [M.I (by decide)]; exact (g4 0 (by omega)).1
    have m39 : pI h1 39 0 (tt q0 0) = nI p := by rw [M.I (by decide)]; exact p3
    rw [F_X8_bind, n22, q_neR 0 w0 (by omega) (by omega), M.I (k := 8) (by decide), I.c_j24, q_neR 60 (by omega) (by omega) (by omega), TH.r 23 (by decide), e_nn, TH.l 44 9 (by decide) (by decide), show inb (0 : Int32) 9 = true from by decide, e_ck, TH.r 17 (by decide), e_nn, TH.l 39 120 (by decide) (by decide), show ((0 : Int32)).toNatClampNeg = 0 from by decide, m44, i_inb (by omega) (by omega), e_ck, i_cl (by omega), m39, I.newRaftM M hR60, e_cl]
    have r27 : pR (wI (wI (wI (wI (wI h1 45 0 (pC h 2) 0) 46 0 (pC h 2) (nI p)) 48 0 (pC h 2) (-1)) 49 0 (pC h 2) (-1)) 8 0 24 (nI (pC h 2 + 1))) 8 0 27 = some 0 := TH.r 27 (by decide)
    have l47 : pL (wI (wI (wI (wI (wI h1 45 0 (pC h 2) 0) 46 0 (pC h 2) (nI p)) 48 0 (pC h 2) (-1)) 49 0 (pC h 2) (-1)) 8 0 24 (nI (pC h 2 + 1))) 47 0 = 60 := TH.l 47 60 (by decide) (by decide)
    rw [r27, e_nn, l47, i_inb (by omega) (by omega), e_ck, i_cl (by omega), e_lt]
    refine em.trans ?_
    rw [e_lt]
  · have s38 : ∀ t, pI h 38 0 t ≠ 0 → ∀ k, 0 ≤ k → k < w q0 → tt q0 k ≠ t := fun t ht k _ hk e => ht (by rw [← e]; exact (g4 k hk).2.1)
    have ua' : pI a1 2 = up2 (pI (wI (wR (wR (wI (wI (wR (wI (wR (wN (wN h 2 0) 14 8) 2 (pC h 2) 1 (some (pC h 2))) 2 (pC h 2) 2 0) 2 (pC h 2) 4 none) 2 (pC h 2) 5 (-1)) 2 (pC h 2) 0 (nI (pC h 2))) 2 (pC h 2) 3 (some p)) 21 0 (pC h 2) (some (pC h 2))) 7 0 5 (nI (pC h 2 + 1))) 2) (pC h 2) 2 1 := ua
    have gl1 : Gl (pL a1) := by
      rw [fa.L]
      exact (I.ln.wN (k := 2) (len := 0) (by decide)).wN (k := 14) (len := 8) (by decide)
    unfold SimG
    simp (disch := omega) only [sl_RI, sl_CI, sl_LI, sl_IR, sl_CR, sl_LR, sl_II, sl_Ie, sl_RR, sl_Re, sl_CN, sl_Ce, sl_LN, sl_Le, sl_IN, sl_INe, sl_RN, sl_RNe, up2_s, up2_n, up1_s, up1_n, upN_s, upN_n, ne_eq, not_false_eq_true, reduceCtorEq]
    simp (disch := decide) only [fm.I, fm.R, fm.L, fm.C]
    simp (disch := omega) only [sl_RI, sl_CI, sl_LI, sl_IR, sl_CR, sl_LR, sl_II, sl_Ie, sl_RR, sl_Re, sl_CN, sl_Ce, sl_LN, sl_Le, sl_IN, sl_INe, sl_RN, sl_RNe, up2_s, up2_n, up1_s, up1_n, upN_s, upN_n, ne_eq, not_false_eq_true, reduceCtorEq, hh1]
    simp (disch := decide) only [fa.I, fa.R, ua', va]
    have la : pL a1 14 = up1 (pL h 14) (pC h 2) 8 := by rw [fa.L]; simp (disch := omega) only [sl_RI, sl_CI, sl_LI, sl_IR, sl_CR, sl_LR, sl_II, sl_Ie, sl_RR, sl_Re, sl_CN, sl_Ce, sl_LN, sl_Le, sl_IN, sl_INe, sl_RN, sl_RNe, up2_s, up2_n, up1_s, up1_n, upN_s, upN_n, ne_eq, not_false_eq_true, reduceCtorEq, t5]
    have la15 : pL a1 15 = pL h 15 := by rw [fa.L]; simp (disch := omega) only [sl_RI, sl_CI, sl_LI, sl_IR, sl_CR, sl_LR, sl_II, sl_Ie, sl_RR, sl_Re, sl_CN, sl_Ce, sl_LN, sl_Le, sl_IN, sl_INe, sl_RN, sl_RNe, up2_s, up2_n, up1_s, up1_n, upN_s, upN_n, ne_eq, not_false_eq_true, reduceCtorEq]
    have cc4 : pC a1 4 = pC h 4 := by rw [ca]; simp (disch := omega) only [sl_RI, sl_CI, sl_LI, sl_IR, sl_CR, sl_LR, sl_II, sl_Ie, sl_RR, sl_Re, sl_CN, sl_Ce, sl_LN, sl_Le, sl_IN, sl_INe, sl_RN, sl_RNe, up2_s, up2_n, up1_s, up1_n, upN_s, upN_n, ne_eq, not_false_eq_true, reduceCtorEq]
    have cc6 : pC a1 6 = pC h 6 := by rw [ca]; simp (disch := omega) only [sl_RI, sl_CI, sl_LI, sl_IR, sl_CR, sl_LR, sl_II, sl_Ie, sl_RR, sl_Re, sl_CN, sl_Ce, sl_LN, sl_Le, sl_IN, sl_INe, sl_RN, sl_RNe, up2_s, up2_n, up1_s, up1_n, upN_s, upN_n, ne_eq, not_false_eq_true, reduceCtorEq]
    have cc0 : pC a1 0 = pC h 0 := by rw [ca]; simp (disch := omega) only [sl_RI, sl_CI, sl_LI, sl_IR, sl_CR, sl_LR, sl_II, sl_Ie, sl_RR, sl_Re, sl_CN, sl_Ce, sl_LN, sl_Le, sl_IN, sl_INe, sl_RN, sl_RNe, up2_s, up2_n, up1_s, up1_n, upN_s, upN_n, ne_eq, not_false_eq_true, reduceCtorEq]
    have cc2 : pC a1 2 = pC h 2 + 1 := by rw [ca]; simp (disch := omega) only [sl_RI, sl_CI, sl_LI, sl_IR, sl_CR, sl_LR, sl_II, sl_Ie, sl_RR, sl_Re, sl_CN, sl_Ce, sl_LN, sl_Le, sl_IN, sl_INe, sl_RN, sl_RNe, up2_s, up2_n, up1_s, up1_n, upN_s, upN_n, ne_eq, not_false_eq_true, reduceCtorEq]
    have cc14 : pC a1 14 = pC h 2 + 1 := by rw [ca]; simp (disch := omega) only [sl_RI, sl_CI, sl_LI, sl_IR, sl_CR, sl_LR, sl_II, sl_Ie, sl_RR, sl_Re, sl_CN, sl_Ce, sl_LN, sl_Le, sl_IN, sl_INe, sl_RN, sl_RNe, up2_s, up2_n, up1_s, up1_n, upN_s, upN_n, ne_eq, not_false_eq_true, reduceCtorEq, t5]
    simp (disch := omega) only [sl_RI, sl_CI, sl_LI, sl_IR, sl_CR, sl_LR, sl_II, sl_Ie, sl_RR, sl_Re, sl_CN, sl_Ce, sl_LN, sl_Le, sl_IN, sl_INe, sl_RN, sl_RNe, up2_s, up2_n, up1_s, up1_n, upN_s, upN_n, ne_eq, not_false_eq_true, reduceCtorEq, la, la15, cc4, cc6, cc0, cc2, cc14, c3, c15, t5]
    refine ⟨I.w7, I.w1, I.w5, I.w8, ?_, ?_, I.a19, I.a20, ?_, I.a22, I.st, I.sb, ?_, ?_, ?_, ?_, ?_, I.to, I.pr, I.gnw, I.tk, I.rg, I.ba, ?_⟩
    · exact (gl1.wN (k := 3) (len := 0) (by decide)).wN (k := 15) (len := 9) (by decide)
    · exact ⟨t1, t2, by omega, t4, rfl, rfl, t7, t8, rfl, t10, t11, t12, rfl, t14⟩
    · intro i hi
      by_cases e : i = pC h 2
      · subst e; rw [up1_s]
      · rw [up1_n _ _ e]; exact I.a21 i (by omega)
    · refine ⟨fun t ht => ?_, fun t ht => ?_⟩
      · obtain ⟨s1, s2, s3⟩ := I.tr.1 t ht
        by_cases c : ∃ k, k < w q0 ∧ tt q0 k = t
        · obtain ⟨y1, y2⟩ := (ta t).1 c
          obtain ⟨k, k1, k2⟩ := c
          obtain ⟨z1, z2, z3, z4⟩ := x1 k (by omega) k1
          have q := (g4 k k1).2.1
          rw [k2] at z1 z2 q
          refine ⟨s1, s2, Or.inr (Or.inl ⟨z1, y2, ⟨pC h 2, by omega, y1, z2⟩, ?_⟩)⟩
          rcases s3 with ⟨-, -, -, c⟩ | ⟨c1, -⟩ | ⟨c1, -⟩ | ⟨c1, -⟩
          · exact c
          · rw [q] at c1; exact absurd c1 (by decide)
          · rw [q] at c1; exact absurd c1 (by decide)
          · rw [q] at c1; exact absurd c1 (by decide)
        · have y := (ta t).2 c
          simp (disch := omega) only [sl_RI, sl_CI, sl_LI, sl_IR, sl_CR, sl_LR, sl_II, sl_Ie, sl_RR, sl_Re, sl_CN, sl_Ce, sl_LN, sl_Le, sl_IN, sl_INe, sl_RN, sl_RNe, up2_s, up2_n, up1_s, up1_n, upN_s, upN_n, ne_eq, not_false_eq_true, reduceCtorEq] at y
          obtain ⟨z1, z2, z3, z4⟩ := x2 t (fun k _ k1 k2 => c ⟨k, k1, k2⟩)
          rw [z1, z2, y]
          refine ⟨s1, s2, ?_⟩
          rcases s3 with s3 | ⟨c1, c2, ⟨r, r1, r2⟩, c3⟩ | s3 | s3
          · exact Or.inl s3
          · exact Or.inr (Or.inl ⟨c1, c2, ⟨r, by omega, r2⟩, c3⟩)
          · exact Or.inr (Or.inr (Or.inl s3))
          · exact Or.inr (Or.inr (Or.inr s3))
      · rw [(x2 t (fun k _ k1 k2 => by have := (b6 k k1).2; omega)).1]
        exact I.tr.2 t ht
    · intro r hr
      by_cases e : r = pC h 2
      · subst e
        simp (disch := omega) only [sl_RI, sl_CI, sl_LI, sl_IR, sl_CR, sl_LR, sl_II, sl_Ie, sl_RR, sl_Re, sl_CN, sl_Ce, sl_LN, sl_Le, sl_IN, sl_INe, sl_RN, sl_RNe, up2_s, up2_n, up1_s, up1_n, upN_s, upN_n, ne_eq, not_false_eq_true, reduceCtorEq]
        exact ⟨⟨trivial, trivial, trivial, 1, by omega, rfl⟩, Or.inr (Or.inl ⟨trivial, by decide, ⟨p, p1, rfl, rfl⟩, trivial, trivial, trivial⟩)⟩
      · have := I.rf r (by omega)
        simpa (disch := omega) only [sl_RI, sl_CI, sl_LI, sl_IR, sl_CR, sl_LR, sl_II, sl_Ie, sl_RR, sl_Re, sl_CN, sl_Ce, sl_LN, sl_Le, sl_IN, sl_INe, sl_RN, sl_RNe, up2_s, up2_n, up1_s, up1_n, upN_s, upN_n, ne_eq, not_false_eq_true, reduceCtorEq] using this
    · refine I.cr.R (by omega) (fun r hr => ?_)
      simp (disch := omega) only [sl_RI, sl_CI, sl_LI, sl_IR, sl_CR, sl_LR, sl_II, sl_Ie, sl_RR, sl_Re, sl_CN, sl_Ce, sl_LN, sl_Le, sl_IN, sl_INe, sl_RN, sl_RNe, up2_s, up2_n, up1_s, up1_n, upN_s, upN_n, ne_eq, not_false_eq_true, reduceCtorEq, and_self]
    · obtain ⟨j1, j2, j3, j4⟩ := I.rw
      refine ⟨fun r hr => ?_, fun p' hp' => ?_, fun r hr i hi j hj => ?_, fun t ht hm => ?_⟩
      · by_cases e : r = pC h 2
        · subst e
          simp (disch := omega) only [sl_RI, sl_CI, sl_LI, sl_IR, sl_CR, sl_LR, sl_II, sl_Ie, sl_RR, sl_Re, sl_CN, sl_Ce, sl_LN, sl_Le, sl_IN, sl_INe, sl_RN, sl_RNe, up2_s, up2_n, up1_s, up1_n, upN_s, upN_n, ne_eq, not_false_eq_true, reduceCtorEq, ↓reduceIte]
          refine ⟨rfl, by omega, trivial, trivial, fun i hi => ?_⟩
          rw [show i = 0 by omega, up1_s]
          exact ⟨rfl, by omega, by omega⟩
        · obtain ⟨s1, s2, s3, s4, s5⟩ := j1 r (by omega)
          simp (disch := omega) only [sl_RI, sl_CI, sl_LI, sl_IR, sl_CR, sl_LR, sl_II, sl_Ie, sl_RR, sl_Re, sl_CN, sl_Ce, sl_LN, sl_Le, sl_IN, sl_INe, sl_RN, sl_RNe, up2_s, up2_n, up1_s, up1_n, upN_s, upN_n, ne_eq, not_false_eq_true, reduceCtorEq, if_neg e]
          refine ⟨s1, s2, s3, s4, fun i hi => ?_⟩
          obtain ⟨q1, q2, q3⟩ := s5 i hi
          rw [up1_n _ _ (show ro r i ≠ pC h 3 by omega)]
          exact ⟨q1, by omega, q3⟩
      · by_cases e : p' = pC h 3
        · subst e
          simp (disch := omega) only [sl_RI, sl_CI, sl_LI, sl_IR, sl_CR, sl_LR, sl_II, sl_Ie, sl_RR, sl_Re, sl_CN, sl_Ce, sl_LN, sl_Le, sl_IN, sl_INe, sl_RN, sl_RNe, up2_s, up2_n, up1_s, up1_n, upN_s, upN_n, ne_eq, not_false_eq_true, reduceCtorEq]
          exact ⟨rfl, by omega, trivial, trivial, rfl, fun j hj => by omega⟩
        · have := j2 p' (by omega)
          simpa (disch := omega) only [sl_RI, sl_CI, sl_LI, sl_IR, sl_CR, sl_LR, sl_II, sl_Ie, sl_RR, sl_Re, sl_CN, sl_Ce, sl_LN, sl_Le, sl_IN, sl_INe, sl_RN, sl_RNe, up2_s, up2_n, up1_s, up1_n, upN_s, upN_n, ne_eq, not_false_eq_true, reduceCtorEq] using this
      · by_cases e : r = pC h 2
        · subst e
          rw [up1_s] at hi
          simp only [↓reduceIte] at hj ⊢
          rw [up1_n _ _ (show q0 ≠ pC h 3 by omega)] at hj
          obtain ⟨z1, z2, z3, z4⟩ := x1 j (by omega) hj
          rw [show i = 0 by omega]
          exact ⟨z1, z2, z3, z4⟩
        · rw [up1_n _ _ e] at hi
          simp only [if_neg e] at hj ⊢
          have q2 := ((j1 r (by omega)).2.2.2.2 i hi).2.1
          rw [up1_n _ _ (show ro r i ≠ pC h 3 by omega)] at hj
          obtain ⟨z1, z2, z3, z4⟩ := x2 (tt (ro r i) j) (hno r (by omega) i hi j hj)
          rw [z1, z2, z3, z4]
          exact j3 r (by omega) i hi j hj
      · by_cases c : ∃ k, k < w q0 ∧ tt q0 k = t
        · obtain ⟨k, k1, k2⟩ := c
          refine ⟨pC h 2, by omega, 0, by rw [up1_s]; omega, k, ?_, ?_⟩
          · simp only [↓reduceIte]
            rw [up1_n _ _ (show q0 ≠ pC h 3 by omega)]; exact k1
          · simp only [↓reduceIte]; exact k2
        · rw [(x2 t (fun k _ k1 k2 => c ⟨k, k1, k2⟩)).1] at hm
          obtain ⟨r, hr, i, hi, j, hj, e⟩ := j4 t ht hm
          have q2 := ((j1 r hr).2.2.2.2 i hi).2.1
          refine ⟨r, by omega, i, ?_, j, ?_, ?_⟩
          · rw [up1_n _ _ (by omega)]; exact hi
          · simp only [if_neg (show ¬ r = pC h 2 by omega)]
            rw [up1_n _ _ (by omega)]; exact hj
          · simp only [if_neg (show ¬ r = pC h 2 by omega)]; exact e
    · refine ⟨rfl, by omega, by rw [up1_s]; rfl, fun j hj => ?_, fun r hr i hi => ?_, fun j j' hj => ?_⟩
      · rw [up1_s] at hj; omega
      · by_cases e : r = pC h 2
        · subst e
          simp only [↓reduceIte]; omega
        · rw [up1_n _ _ e] at hi
          simp only [if_neg e]
          have := ((I.rw.1 r (by omega)).2.2.2.2 i hi).2.1
          omega
      · rw [up1_s] at hj; omega
    · obtain ⟨s1, s2⟩ := I.so
      have q : ∀ t, t < pC h 6 → ∀ v : Int32, v ≠ 0 → v ≠ 1 → (pI g' 38 0 t = v ↔ pI h 38 0 t = v) := by
        intro t ht v v0 v1
        by_cases c : ∃ k, k < w q0 ∧ tt q0 k = t
        · obtain ⟨k, k1, k2⟩ := c
          have z1 := (x1 k (by omega) k1).1
          have z2 := (g4 k k1).2.1
          rw [k2] at z1 z2
          rw [z1, z2]
          exact ⟨fun e => absurd e.symm v1, fun e => absurd e.symm v0⟩
        · rw [(x2 t (fun k _ k1 k2 => c ⟨k, k1, k2⟩)).1]
      rw [s1, s2]
      exact ⟨(cnt_ext (fun t ht => q t ht 2 (by decide) (by decide))).symm, (cnt_ext (fun t ht => q t ht 3 (by decide) (by decide))).symm⟩
end OPS
