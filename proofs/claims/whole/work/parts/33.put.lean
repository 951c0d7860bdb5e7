section OPS
variable {nw : Nat} {z : Nat → Nat} {ro : Nat → Nat → Nat} {w : Nat → Nat} {tt : Nat → Nat → Nat} {q0 : Nat} {h : Hp}
theorem has_loop {p n t : Nat} {τ : Nat → Nat} (e1 : pI h 3 p 1 = nI n) (hn : n ≤ 9) (r0 : pR h 3 p 0 = some p) (l : pL h 15 p = 9) (ha : ∀ j, j < n → pR h 15 p j = some (τ j) ∧ pI h 6 (τ j) 0 = nI (τ j) ∧ τ j < 120) (et : pI h 6 t 0 = nI t) (ht : t < 120) {β : Type} (ka kb : Hp → Option β) : ∀ m i f, i + m = n → m < f →
    ((∃ j, i ≤ j ∧ j < n ∧ τ j = t) ∧ L_X3_has_2 p (some t) ka kb f (nI i) h = kb h) ∨ ((∀ j, i ≤ j → j < n → τ j ≠ t) ∧ L_X3_has_2 p (some t) ka kb f (nI i) h = ka h) := by
  intro m
  induction m with
  | zero =>
    intro i f hi hf
    obtain ⟨f, rfl⟩ := fu_1 hf
    rw [L_X3_has_2, e1, q_le (by omega) (by omega)]
    exact Or.inr ⟨fun j h1 h2 => by omega, rfl⟩
  | succ m ih =>
    intro i f hi hf
    obtain ⟨f, rfl⟩ := fu_1 hf
    obtain ⟨b1, b2, b3⟩ := ha i (by omega)
    rw [L_X3_has_2, e1, q_nle (by omega) (by omega), r0, e_nn, l, i_inb (by omega) (by omega), e_ck, i_cl (by omega), b1, e_nn, e_nn, b2, et, nI_1]
    by_cases c : τ i = t
    · rw [q_eq c]; exact Or.inl ⟨⟨i, Nat.le_refl _, by omega, c⟩, rfl⟩
    · rw [q_ne c (by omega) (by omega)]
      rcases ih (i + 1) f (by omega) (by omega) with ⟨⟨j, j1, j2, j3⟩, k⟩ | ⟨j1, k⟩
      · exact Or.inl ⟨⟨j, by omega, j2, j3⟩, k⟩
      · refine Or.inr ⟨fun j h1 h2 => ?_, k⟩
        by_cases e : j = i
        · subst e; exact c
        · exact j1 j (by omega) h2
theorem isn_loop {n t : Nat} {τ : Nat → Nat} (e1 : pI h 8 0 22 = nI n) (hn : n ≤ 9) (r0 : pR h 8 0 23 = some 0) (l : pL h 44 0 = 9) (ha : ∀ j, j < n → pI h 44 0 j = nI (τ j) ∧ τ j < 120) (ht : t < 120) {β : Type} (ka kb : Hp → Option β) : ∀ m i f, i + m = n → m < f →
    ((∃ j, i ≤ j ∧ j < n ∧ τ j = t) ∧ L_X8_isNext_2 0 (nI t) ka kb f (nI i) h = kb h) ∨ ((∀ j, i ≤ j → j < n → τ j ≠ t) ∧ L_X8_isNext_2 0 (nI t) ka kb f (nI i) h = ka h) := by
  intro m
  induction m with
  | zero =>
    intro i f hi hf
    obtain ⟨f, rfl⟩ := fu_1 hf
    rw [L_X8_isNext_2, e1, q_le (by omega) (by omega)]
    exact Or.inr ⟨fun j h1 h2 => by omega, rfl⟩
  | succ m ih =>
    intro i f hi hf
    obtain ⟨f, rfl⟩ := fu_1 hf
    obtain ⟨b1, b2⟩ := ha i (by omega)
    rw [L_X8_isNext_2, e1, q_nle (by omega) (by omega), r0, e_nn, l, i_inb (by omega) (by omega), e_ck, i_cl (by omega), b1, nI_1]
    by_cases c : τ i = t
    · rw [q_eq c]; exact Or.inl ⟨⟨i, Nat.le_refl _, by omega, c⟩, rfl⟩
    · rw [q_ne c (by omega) (by omega)]
      rcases ih (i + 1) f (by omega) (by omega) with ⟨⟨j, j1, j2, j3⟩, k⟩ | ⟨j1, k⟩
      · exact Or.inl ⟨⟨j, by omega, j2, j3⟩, k⟩
      · refine Or.inr ⟨fun j h1 h2 => ?_, k⟩
        by_cases e : j = i
        · subst e; exact c
        · exact j1 j (by omega) h2
theorem SimG.has (I : SimG nw z ro w tt q0 h) {t : Nat} (ht : t < pC h 6) : ((∃ j, j < w q0 ∧ tt q0 j = t) ∧ F_X3_has q0 (some t) h = some (1, h)) ∨ ((∀ j, j < w q0 → tt q0 j ≠ t) ∧ F_X3_has q0 (some t) h = some (0, h)) := by
  have hT := I.c_hT
  obtain ⟨g1, g2, g3, g4, g5, g6⟩ := I.nx
  obtain ⟨b1, b2, b3, b4, b5, b6⟩ := I.rw.2.1 q0 g2
  rcases has_loop (τ := tt q0) b1 b2 b3 b4 (fun j hj => ⟨(b6 j hj).1, (I.tr.1 _ (b6 j hj).2).1.1, by have := (b6 j hj).2; omega⟩) (I.tr.1 t ht).1.1 (by omega) (fun h10 => some ((0 : Int32), h10)) (fun h10 => some ((1 : Int32), h10)) (w q0) 0 FU (by omega) (by unfold FU; omega) with ⟨⟨j, -, j2, j3⟩, k⟩ | ⟨j1, k⟩
  · exact Or.inl ⟨⟨j, j2, j3⟩, k⟩
  · exact Or.inr ⟨fun j hj => j1 j (by omega) hj, k⟩
theorem SimG.isNext (I : SimG nw z ro w tt q0 h) {g : Hp} (k22 : pI g 8 = pI h 8) (k44 : pI g 44 = pI h 44) (k8 : pR g 8 = pR h 8) (kl : pL g 44 = pL h 44) {t : Nat} (ht : t < pC h 6) : ((∃ j, j < w q0 ∧ tt q0 j = t) ∧ F_X8_isNext 0 (nI t) g = some (1, g)) ∨ ((∀ j, j < w q0 → tt q0 j ≠ t) ∧ F_X8_isNext 0 (nI t) g = some (0, g)) := by
  have hT := I.c_hT
  obtain ⟨g1, g2, g3, g4, g5, g6⟩ := I.nx
  obtain ⟨b1, b2, b3, b4, b5, b6⟩ := I.rw.2.1 q0 g2
  rcases isn_loop (h := g) (n := w q0) (τ := tt q0) (by rw [k22]; exact g3) b2 (by rw [k8]; exact I.r8_23) (by rw [kl]; exact I.l44_0) (fun j hj => ⟨by rw [k44]; exact (g4 j hj).1, by have := (b6 j hj).2; omega⟩) (by omega : t < 120) (fun h10 => some ((0 : Int32), h10)) (fun h10 => some ((1 : Int32), h10)) (w q0) 0 FU (by omega) (by unfold FU; omega) with ⟨⟨j, -, j2, j3⟩, k⟩ | ⟨j1, k⟩
  · exact Or.inl ⟨⟨j, j2, j3⟩, k⟩
  · exact Or.inr ⟨fun j hj => j1 j (by omega) hj, k⟩
theorem F_first {p n : Nat} {o : Option Nat} (hn : n ≤ 9) (e1 : pI h 3 p 1 = nI n) (r0 : pR h 3 p 0 = some p) (l : pL h 15 p = 9) (ho : 0 < n → pR h 15 p 0 = o) : F_X3_first p h = some (if n = 0 then none else o, h) := by
  rw [F_X3_first, e1]
  by_cases c : n = 0
  · rw [q_leR 0 (by omega) (by omega), if_pos c]
  · rw [q_nleR 0 (by omega) (by omega), r0, e_nn, l, show inb (0 : Int32) 9 = true from by decide, e_ck, if_neg c, show ((0 : Int32)).toNatClampNeg = 0 from by decide, ho (by omega)]
theorem op_put (I : SimG nw z ro w tt q0 h) (x : Int32) : OP (F_X7_put 0 x) (F_X8_put 0 x) h := by
  have hT := I.c_hT
  have hS := I.c_hS
  rcases wi_ix x (n := pC h 6) (by omega) with ⟨e1, e2⟩ | ⟨e1, t, ht, rfl, e2⟩
  · refine OP.same I (r := -1) ?_ ?_
    · rw [F_X7_put, I.trunkAt, e_cl, e2, e_onnN]
    · rw [F_X8_put, F_isTrunk I.c_j11, e_cl, e1, if_pos rfl]
  obtain ⟨⟨a0, a1, a2, a3, a4, a7⟩, -, hst⟩ := I.tr.1 t ht
  obtain ⟨g1, g2, g3, g4, g5, g6⟩ := I.nx
  obtain ⟨b1, b2, b3, b4, b5, b6⟩ := I.rw.2.1 q0 g2
  have hno : pI h 38 0 t ≠ 0 → pR h 6 t 5 = none → OP (F_X7_put 0 (nI t)) (F_X8_put 0 (nI t)) h := by
    intro k1 k2
    refine OP.same I (r := -1) ?_ ?_
    · rw [F_X7_put, I.trunkAt, e_cl, e2, e_onnS, k2, e_onnN]
    · rw [F_X8_put, F_isTrunk I.c_j11, e_cl, e1, if_neg (by decide), I.r8_16, e_nn, I.l38_0, i_inb (by omega) (by omega), e_ck, i_cl (by omega), if_neg k1]
  rcases hst with ⟨d1, ⟨p, p1, p2, p3⟩, d3, d4⟩ | ⟨d1, d2, -⟩ | ⟨d1, d2, -⟩ | ⟨d1, d2, -⟩
  rotate_left
  · exact hno (by rw [d1]; decide) d2
  · exact hno (by rw [d1]; decide) d2
  · exact hno (by rw [d1]; decide) d2
  have ff := F_first (p := q0) (o := some (tt q0 0)) b2 b1 b3 b4 (fun hp => (b6 0 hp).1)
  by_cases c9 : w q0 = 9
  · refine OP.same I (r := -1) ?_ ?_
    · rw [F_X7_put, I.trunkAt, e_cl, e2, e_onnS, p2, e_onnS, g1, e_nn, F_X3_takes, ff, e_cl, b1, q_leL 9 (by omega) (by omega), e_cl, if_pos rfl]
    · rw [F_X8_put, F_isTrunk I.c_j11, e_cl, e1, if_neg (by decide), I.r8_16, e_nn, I.l38_0, i_inb (by omega) (by omega), e_ck, i_cl (by omega), if_pos d1]
      rcases I.isNext (g := h) rfl rfl rfl rfl ht with ⟨-, k⟩ | ⟨-, k⟩
      · rw [k, e_cl, if_neg (by decide)]
      · rw [k, e_cl, if_pos rfl, g3, q_eqR 9 c9]
  rcases I.has ht with ⟨hj, hk⟩ | ⟨hj, hk⟩
  · refine OP.same I (r := -1) ?_ ?_
    · rw [F_X7_put, I.trunkAt, e_cl, e2, e_onnS, p2, e_onnS, g1, e_nn, F_X3_takes, ff, e_cl, b1, q_nleL 9 (by omega) (by omega), hk, e_cl, if_neg (by decide), e_cl, if_pos rfl]
    · rw [F_X8_put, F_isTrunk I.c_j11, e_cl, e1, if_neg (by decide), I.r8_16, e_nn, I.l38_0, i_inb (by omega) (by omega), e_ck, i_cl (by omega), if_pos d1]
      rcases I.isNext (g := h) rfl rfl rfl rfl ht with ⟨-, k⟩ | ⟨k0, k⟩
      · rw [k, e_cl, if_neg (by decide)]
      · obtain ⟨j, j1, j2⟩ := hj; exact absurd j2 (k0 j j1)
  have n9 : ¬ nI (w q0) = (9 : Int32) := by rw [i_eqL 9 (by omega) (by omega)]; exact c9
  have i00 : inb (0 : Int32) 9 = true := by decide
  have i01 : ((0 : Int32)).toNatClampNeg = 0 := by decide
  have hm0 : F_X8_isNext 0 (nI t) h = some (0, h) := by
    rcases I.isNext (g := h) rfl rfl rfl rfl ht with ⟨⟨j, j1, j2⟩, k⟩ | ⟨k0, k⟩
    · exact absurd j2 (hj j j1)
    · exact k
  by_cases cp : w q0 = 0 ∨ pI h 39 0 (tt q0 0) = nI p
  rotate_left
  · have w0 : w q0 ≠ 0 := fun e => cp (Or.inl e)
    obtain ⟨q, q1, q2, q3⟩ : ∃ q, q < pC h 4 ∧ pR h 6 (tt q0 0) 5 = some q ∧ pI h 39 0 (tt q0 0) = nI q := by
      have m0 := (g4 0 (by omega)).2.1
      rcases (I.tr.1 (tt q0 0) (b6 0 (by omega)).2).2.2 with ⟨-, k, -⟩ | ⟨k, -⟩ | ⟨k, -⟩ | ⟨k, -⟩
      · exact k
      · rw [m0] at k; exact absurd k (by decide)
      · rw [m0] at k; exact absurd k (by decide)
      · rw [m0] at k; exact absurd k (by decide)
    have qp : q ≠ p := fun e => cp (Or.inr (by rw [q3, e]))
    refine OP.same I (r := -1) ?_ ?_
    · rw [F_X7_put, I.trunkAt, e_cl, e2, e_onnS, p2, e_onnS, g1, e_nn, F_X3_takes, ff, e_cl, b1, q_nleL 9 (by omega) (by omega), hk, e_cl, if_pos rfl, if_neg w0, e_onnS, e_nn, q2, p2, if_neg (by simpa using qp), e_cl, if_pos rfl]
    · have t0 := (b6 0 (by omega)).2
      rw [F_X8_put, F_isTrunk I.c_j11, e_cl, e1, if_neg (by decide), I.r8_16, e_nn, I.l38_0, i_inb (by omega) (by omega), e_ck, i_cl (by omega), if_pos d1, hm0, e_cl, if_pos rfl, g3, if_neg n9, q_nleR 0 (by omega) (by omega), I.r8_23, e_nn, I.l44_0, i00, e_ck, I.r8_17, e_nn, I.l39_0, i01, (g4 0 (by omega)).1, i_inb (by omega) (by omega), e_ck, i_inb (by omega) (by omega), e_ck, i_cl (by omega), q3, p3, q_ne qp (by omega) (by omega)]
  refine ⟨nI (w q0 + 1), (wI (wI (wR h 15 q0 (w q0) (some t)) 3 q0 1 (nI (w q0 + 1))) 3 q0 2 (pI h 3 q0 2 + pI h 6 t 4)), (wI (wI (wI (wI (wR h 15 q0 (w q0) (some t)) 3 q0 1 (nI (w q0 + 1))) 3 q0 2 (pI h 3 q0 2 + pI h 6 t 4)) 44 0 (w q0) (nI t)) 8 0 22 (nI (w q0 + 1))), ?_, ?_, nw, z, ro, up1 w q0 (w q0 + 1), up2 tt q0 (w q0) t, q0, ?_⟩
  · have hta : F_X3_takes q0 (some t) h = some (1, h) := by
      rw [F_X3_takes, ff, e_cl, b1, q_nleL 9 (by omega) (by omega), hk, e_cl, if_pos rfl]
      by_cases w0 : w q0 = 0
      · rw [if_pos w0, e_onnN]
      · rw [if_neg w0, e_onnS, e_nn]
        have m0 := (g4 0 (by omega)).2.1
        have : pR h 6 (tt q0 0) 5 = pR h 6 t 5 := by
          rcases (I.tr.1 (tt q0 0) (b6 0 (by omega)).2).2.2 with ⟨-, ⟨q, q1, q2, q3⟩, -⟩ | ⟨k, -⟩ | ⟨k, -⟩ | ⟨k, -⟩
          · rcases cp with cp | cp
            · exact absurd cp w0
            · rw [q3, i_eq (by omega) (by omega)] at cp
              rw [q2, p2, cp]
          · rw [m0] at k; exact absurd k (by decide)
          · rw [m0] at k; exact absurd k (by decide)
          · rw [m0] at k; exact absurd k (by decide)
        rw [if_pos this]
    have n9' : ¬ (9 : Int32) ≤ nI (w q0) := by rw [i_leL 9 (by omega) (by omega)]; omega
    rw [F_X7_put, I.trunkAt, e_cl, e2, e_onnS, p2, e_onnS, g1, e_nn, hta, e_cl, if_neg (by decide), g1, e_nn, F_X3_append, b1, if_neg n9']
    simp (disch := omega) only [e_nn, e_onnN, e_onnS, e_ck, e_lt, e_cl, F_within, F_in, isz0, isz1, i10, ↓reduceIte, sl_RI, sl_CI, sl_LI, sl_IR, sl_CR, sl_LR, sl_II, sl_Ie, sl_RR, sl_Re, sl_CN, sl_Ce, sl_LN, sl_Le, sl_IN, sl_INe, sl_RN, sl_RNe, up2_s, up2_n, up1_s, up1_n, upN_s, upN_n, ne_eq, not_false_eq_true, reduceCtorEq, i_le, i_lt, i_eq, i_cl, i_inb, nI_add, nI_1, i_n1, i_1n, i_sub, b1, b3, b4, g1]
  · rcases I.isNext (g := (wI (wI (wR h 15 q0 (w q0) (some t)) 3 q0 1 (nI (w q0 + 1))) 3 q0 2 (pI h 3 q0 2 + pI h 6 t 4))) (by simp (disch := omega) only [sl_RI, sl_CI, sl_LI, sl_IR, sl_CR, sl_LR, sl_II, sl_Ie, sl_RR, sl_Re, sl_CN, sl_Ce, sl_LN, sl_Le, sl_IN, sl_INe, sl_RN, sl_RNe, up2_s, up2_n, up1_s, up1_n, upN_s, upN_n, ne_eq, not_false_eq_true, reduceCtorEq]) (by simp (disch := omega) only [sl_RI, sl_CI, sl_LI, sl_IR, sl_CR, sl_LR, sl_II, sl_Ie, sl_RR, sl_Re, sl_CN, sl_Ce, sl_LN, sl_Le, sl_IN, sl_INe, sl_RN, sl_RNe, up2_s, up2_n, up1_s, up1_n, upN_s, upN_n, ne_eq, not_false_eq_true, reduceCtorEq]) (by simp (disch := omega) only [sl_RI, sl_CI, sl_LI, sl_IR, sl_CR, sl_LR, sl_II, sl_Ie, sl_RR, sl_Re, sl_CN, sl_Ce, sl_LN, sl_Le, sl_IN, sl_INe, sl_RN, sl_RNe, up2_s, up2_n, up1_s, up1_n, upN_s, upN_n, ne_eq, not_false_eq_true, reduceCtorEq]) (by simp (disch := omega) only [sl_RI, sl_CI, sl_LI, sl_IR, sl_CR, sl_LR, sl_II, sl_Ie, sl_RR, sl_Re, sl_CN, sl_Ce, sl_LN, sl_Le, sl_IN, sl_INe, sl_RN, sl_RNe, up2_s, up2_n, up1_s, up1_n, upN_s, upN_n, ne_eq, not_false_eq_true, reduceCtorEq]) ht with ⟨⟨j, j1, j2⟩, k⟩ | ⟨k0, k⟩
    · exact absurd j2 (hj j j1)
    rw [F_X8_put, F_isTrunk (S := pC h 6) (by simp (disch := omega) only [sl_RI, sl_CI, sl_LI, sl_IR, sl_CR, sl_LR, sl_II, sl_Ie, sl_RR, sl_Re, sl_CN, sl_Ce, sl_LN, sl_Le, sl_IN, sl_INe, sl_RN, sl_RNe, up2_s, up2_n, up1_s, up1_n, upN_s, upN_n, ne_eq, not_false_eq_true, reduceCtorEq, I.c_j11]), e_cl, e1, if_neg (by decide)]
    by_cases w0 : w q0 = 0
    · have l0 : nI (w q0) ≤ (0 : Int32) := by rw [i_leR 0 (by omega) (by omega)]; omega
      simp (disch := omega) only [e_nn, e_onnN, e_onnS, e_ck, e_lt, e_cl, F_within, F_in, isz0, isz1, i10, ↓reduceIte, sl_RI, sl_CI, sl_LI, sl_IR, sl_CR, sl_LR, sl_II, sl_Ie, sl_RR, sl_Re, sl_CN, sl_Ce, sl_LN, sl_Le, sl_IN, sl_INe, sl_RN, sl_RNe, up2_s, up2_n, up1_s, up1_n, upN_s, upN_n, ne_eq, not_false_eq_true, reduceCtorEq, i_le, i_lt, i_eq, i_cl, i_inb, nI_add, nI_1, i_n1, i_1n, i_sub, I.r8_16, I.l38_0, d1, k, g3, n9, l0, I.r8_23, I.l44_0]
    · have l0 : ¬ nI (w q0) ≤ (0 : Int32) := by rw [i_leR 0 (by omega) (by omega)]; omega
      have cq : pI h 39 0 (tt q0 0) = nI p := by
        rcases cp with cp | cp
        · exact absurd cp w0
        · exact cp
      have t0 := (b6 0 (by omega)).2
      have m0 := (g4 0 (by omega)).1
      simp (disch := omega) only [e_nn, e_onnN, e_onnS, e_ck, e_lt, e_cl, F_within, F_in, isz0, isz1, i10, ↓reduceIte, sl_RI, sl_CI, sl_LI, sl_IR, sl_CR, sl_LR, sl_II, sl_Ie, sl_RR, sl_Re, sl_CN, sl_Ce, sl_LN, sl_Le, sl_IN, sl_INe, sl_RN, sl_RNe, up2_s, up2_n, up1_s, up1_n, upN_s, upN_n, ne_eq, not_false_eq_true, reduceCtorEq, i_le, i_lt, i_eq, i_cl, i_inb, nI_add, nI_1, i_n1, i_1n, i_sub, I.r8_16, I.l38_0, d1, k, g3, n9, l0, I.r8_23, I.l44_0, I.r8_17, I.l39_0, i00, i01, m0, cq, p3]
  · unfold SimG
    simp (disch := omega) only [sl_RI, sl_CI, sl_LI, sl_IR, sl_CR, sl_LR, sl_II, sl_Ie, sl_RR, sl_Re, sl_CN, sl_Ce, sl_LN, sl_Le, sl_IN, sl_INe, sl_RN, sl_RNe, up2_s, up2_n, up1_s, up1_n, upN_s, upN_n, ne_eq, not_false_eq_true, reduceCtorEq]
    refine ⟨I.w7, I.w1, I.w5, I.w8, I.ln, I.ct, I.a19, I.a20, I.a21, I.a22, I.st, I.sb, I.tr, I.rf, I.cr, ?_, ?_, I.to, I.pr, I.gnw, I.tk, I.rg, I.ba, I.so⟩
    · obtain ⟨f1, f2, f3, f4⟩ := I.rw
      refine ⟨fun r hr => ?_, fun p' hp' => ?_, fun r hr i hi j hj => ?_, fun t' ht' hm => ?_⟩
      · obtain ⟨k1, k2, k3, k4, k5⟩ := f1 r hr
        refine ⟨k1, k2, k3, k4, fun i hi => ?_⟩
        rw [up1_n _ _ (g5 r hr i hi)]
        exact k5 i hi
      · by_cases e : p' = q0
        · subst e
          simp (disch := omega) only [sl_RI, sl_CI, sl_LI, sl_IR, sl_CR, sl_LR, sl_II, sl_Ie, sl_RR, sl_Re, sl_CN, sl_Ce, sl_LN, sl_Le, sl_IN, sl_INe, sl_RN, sl_RNe, up2_s, up2_n, up1_s, up1_n, upN_s, upN_n, ne_eq, not_false_eq_true, reduceCtorEq]
          refine ⟨trivial, by omega, b3, b4, ?_, fun j hj => ?_⟩
          · rw [su, up1_s, b5]
            congr 1
            exact su_ext (fun j hj => by rw [up1_n _ _ (show j ≠ w p' by omega)])
          · by_cases ej : j = w p'
            · rw [ej, up1_s, up1_s]; exact ⟨rfl, ht⟩
            · rw [up1_n _ _ ej, up1_n _ _ ej]; exact b6 j (by omega)
        · have := f2 p' hp'
          simpa (disch := omega) only [sl_RI, sl_CI, sl_LI, sl_IR, sl_CR, sl_LR, sl_II, sl_Ie, sl_RR, sl_Re, sl_CN, sl_Ce, sl_LN, sl_Le, sl_IN, sl_INe, sl_RN, sl_RNe, up2_s, up2_n, up1_s, up1_n, upN_s, upN_n, ne_eq, not_false_eq_true, reduceCtorEq] using this
      · have e := g5 r hr i hi
        rw [up1_n _ _ e] at hj
        rw [up2_n _ _ _ e]
        exact f3 r hr i hi j hj
      · obtain ⟨r, hr, i, hi, j, hj, e⟩ := f4 t' ht' hm
        refine ⟨r, hr, i, hi, j, ?_, ?_⟩
        · rw [up1_n _ _ (g5 r hr i hi)]; exact hj
        · rw [up2_n _ _ _ (g5 r hr i hi)]; exact e
    · refine ⟨g1, g2, by rw [up1_s], fun j hj => ?_, g5, fun j j' hj hj' e => ?_⟩
      · rw [up1_s] at hj
        rw [up2_s]
        by_cases ej : j = w q0
        · subst ej
          rw [up1_s, up1_s]
          refine ⟨rfl, d1, ?_⟩
          by_cases w0 : w q0 = 0
          · rw [w0, up1_s]
          · rw [up1_n _ _ (show 0 ≠ w q0 by omega), p3]
            rcases cp with cp | cp
            · exact absurd cp w0
            · exact cp.symm
        · have w0 : w q0 ≠ 0 := by omega
          rw [up1_n _ _ ej, up1_n _ _ ej, up1_n _ _ (show 0 ≠ w q0 by omega)]
          exact g4 j (by omega)
      · rw [up1_s] at hj hj'
        rw [up2_s] at e
        by_cases e1 : j = w q0
        · by_cases e2 : j' = w q0
          · omega
          · rw [e1, up1_s, up1_n _ _ e2] at e
            exact absurd e.symm (‹∀ j, j < w q0 → tt q0 j ≠ t› j' (by omega))
        · by_cases e2 : j' = w q0
          · rw [e2, up1_s, up1_n _ _ e1] at e
            exact absurd e (‹∀ j, j < w q0 → tt q0 j ≠ t› j (by omega))
          · rw [up1_n _ _ e1, up1_n _ _ e2] at e
            exact g6 j j' (by omega) (by omega) e
end OPS
