section OPS
variable {nw : Nat} {z : Nat → Nat} {ro : Nat → Nat → Nat} {w : Nat → Nat} {tt : Nat → Nat → Nat} {q0 : Nat} {h : Hp}
theorem part_l {r y R T : Nat} (hr : r < 60) {β : Type} (ka : Hp → Option β) : ∀ n i f g, TL T g → pI g 47 0 r = nI y → i + n = T → n < f → ∃ g', L_X8_part_66 0 (nI r) (nI R) ka f (nI i) g = ka g' ∧ Fr [40, 41] [] g g' ∧ ∀ t, ((i ≤ t ∧ t < T ∧ ofm g r t ∧ nI y ≤ pI g 41 0 t) → pI g' 40 0 t = nI R ∧ pI g' 41 0 t = pI g 41 0 t - nI y) ∧ (¬ (i ≤ t ∧ t < T ∧ ofm g r t ∧ nI y ≤ pI g 41 0 t) → pI g' 40 0 t = pI g 40 0 t ∧ pI g' 41 0 t = pI g 41 0 t) := by
  intro n
  induction n with
  | zero =>
    intro i f g m ep hi hf
    obtain ⟨f, rfl⟩ := fu_1 hf
    have hT := m.2.1
    refine ⟨g, ?_, Fr.refl _ _ _, fun t => ⟨fun ⟨k1, k2, _⟩ => by omega, fun _ => ⟨rfl, rfl⟩⟩⟩
    rw [L_X8_part_66, m.1, q_le (by omega) (by omega)]
  | succ n ih =>
    intro i f g m ep hi hf
    obtain ⟨f, rfl⟩ := fu_1 hf
    have hT := m.2.1
    have skip : ¬ (ofm g r i ∧ nI y ≤ pI g 41 0 i) → L_X8_part_66 0 (nI r) (nI R) ka (f + 1) (nI i) g = L_X8_part_66 0 (nI r) (nI R) ka f (nI (i + 1)) g → ∃ g', L_X8_part_66 0 (nI r) (nI R) ka (f + 1) (nI i) g = ka g' ∧ Fr [40, 41] [] g g' ∧ ∀ t, ((i ≤ t ∧ t < T ∧ ofm g r t ∧ nI y ≤ pI g 41 0 t) → pI g' 40 0 t = nI R ∧ pI g' 41 0 t = pI g 41 0 t - nI y) ∧ (¬ (i ≤ t ∧ t < T ∧ ofm g r t ∧ nI y ≤ pI g 41 0 t) → pI g' 40 0 t = pI g 40 0 t ∧ pI g' 41 0 t = pI g 41 0 t) := by
      intro c hL
      obtain ⟨g', e', fr, ht⟩ := ih (i + 1) f g m ep (by omega) (by omega)
      refine ⟨g', hL.trans e', fr, fun t => ⟨fun q => ?_, fun q => (ht t).2 (fun q2 => q ⟨by omega, q2.2⟩)⟩⟩
      have : t ≠ i := fun e => c (e ▸ q.2.2)
      exact (ht t).1 ⟨by omega, q.2⟩
    rcases m.isOf (r := r) (t := i) (by omega) with ⟨c, e⟩ | ⟨c, e⟩
    · by_cases d : nI y ≤ pI g 41 0 i
      · have f1 : Fr [40, 41] [] g (wI (wI g 40 0 i (nI R)) 41 0 i (pI g 41 0 i - nI y)) := ((Fr.refl _ _ _).wI (by decide)).wI (by decide)
        obtain ⟨g', e', fr, ht⟩ := ih (i + 1) f (wI (wI g 40 0 i (nI R)) 41 0 i (pI g 41 0 i - nI y)) (m.fr f1 (by decide)) (by rw [f1.I (by decide)]; exact ep) (by omega) (by omega)
        refine ⟨g', ?_, f1.trans fr, fun t => ?_⟩
        · rw [L_X8_part_66, m.1, q_nle (by omega) (by omega), e, e_cl, if_neg (by decide), m.r 19 (by decide), e_nn, m.l 41 120 (by decide) (by decide), i_inb (by omega) (by omega), e_ck, m.r 27 (by decide), e_nn, m.l 47 60 (by decide) (by decide), i_inb (by omega) (by omega), e_ck, i_cl (by omega), i_cl (by omega), ep, if_pos d]
          simp (disch := omega) only [e_nn, e_onnN, e_onnS, e_ck, e_lt, e_cl, F_within, F_in, isz0, isz1, i10, ↓reduceIte, sl_RI, sl_CI, sl_LI, sl_IR, sl_CR, sl_LR, sl_II, sl_Ie, sl_RR, sl_Re, sl_CN, sl_Ce, sl_LN, sl_Le, sl_IN, sl_INe, sl_RN, sl_RNe, up2_s, up2_n, up1_s, up1_n, upN_s, upN_n, ne_eq, not_false_eq_true, reduceCtorEq, i_le, i_lt, i_eq, i_cl, i_inb, nI_add, nI_1, i_n1, i_1n, i_sub, m.r 18 (by decide), m.r 19 (by decide), m.r 27 (by decide), m.l 40 120 (by decide) (by decide), m.l 41 120 (by decide) (by decide), m.l 47 60 (by decide) (by decide), ep]
          exact e'
        · have := ht t
          by_cases et : t = i
          · subst et
            refine ⟨fun _ => ?_, fun hn => absurd ⟨Nat.le_refl _, by omega, c, d⟩ hn⟩
            obtain ⟨k1, k2⟩ := this.2 (fun q => by omega)
            rw [k1, k2]
            simp (disch := omega) only [sl_RI, sl_CI, sl_LI, sl_IR, sl_CR, sl_LR, sl_II, sl_Ie, sl_RR, sl_Re, sl_CN, sl_Ce, sl_LN, sl_Le, sl_IN, sl_INe, sl_RN, sl_RNe, up2_s, up2_n, up1_s, up1_n, upN_s, upN_n, ne_eq, not_false_eq_true, reduceCtorEq, and_self]
          · simp (disch := omega) only [sl_RI, sl_CI, sl_LI, sl_IR, sl_CR, sl_LR, sl_II, sl_Ie, sl_RR, sl_Re, sl_CN, sl_Ce, sl_LN, sl_Le, sl_IN, sl_INe, sl_RN, sl_RNe, up2_s, up2_n, up1_s, up1_n, upN_s, upN_n, ne_eq, not_false_eq_true, reduceCtorEq, ofm] at this
            refine ⟨fun q => this.1 ⟨by omega, q.2⟩, fun q => this.2 (fun q2 => q ⟨by omega, q2.2⟩)⟩
      · refine skip (fun q => d q.2) ?_
        rw [L_X8_part_66, m.1, q_nle (by omega) (by omega), e, e_cl, if_neg (by decide), m.r 19 (by decide), e_nn, m.l 41 120 (by decide) (by decide), i_inb (by omega) (by omega), e_ck, m.r 27 (by decide), e_nn, m.l 47 60 (by decide) (by decide), i_inb (by omega) (by omega), e_ck, i_cl (by omega), i_cl (by omega), ep, if_neg d, nI_1]
    · refine skip (fun q => c q.1) ?_
      rw [L_X8_part_66, m.1, q_nle (by omega) (by omega), e, e_cl, if_pos rfl, nI_1]
theorem op_part (I : SimG nw z ro w tt q0 h) (x y : Int32) : OP (F_X7_part 0 x y) (F_X8_part 0 x y) h := by
  have hR := I.c_hR
  have hS := I.c_hS
  have hT := I.c_hT
  have hct := I.ct
  obtain ⟨t1, t2, t3, t4, t5, t6, t7, t8, t9, t10, t11, t12, t13, t14⟩ := hct
  rcases wi_ix x (n := pC h 2) (by omega) with ⟨e1, e2⟩ | ⟨e1, r, hr, rfl, e2⟩
  · refine OP.same I (r := -1) ?_ ?_
    · rw [F_X7_part, I.tiedN e2, e_cl, e_onnN]
    · rw [F_X8_part, isRaftN I.c_j24 e1, e_cl, if_pos rfl]
  by_cases c0 : pI h 45 0 r = 0
  rotate_left
  · refine OP.same I (r := -1) ?_ ?_
    · rw [F_X7_part, I.tiedS hr e2, if_neg c0, e_cl, e_onnN]
    · rw [F_X8_part, isRaftS hR hr I.c_j24 I.r8_25 I.l45_0 e1, if_neg c0, e_cl, if_pos rfl]
  have cA : F_X7_tiedAt 0 (nI r) h = some (some r, h) := by rw [I.tiedS hr e2, if_pos c0]
  have cM : F_X8_isRaft 0 (nI r) 0 h = some (1, h) := by rw [isRaftS hR hr I.c_j24 I.r8_25 I.l45_0 e1, if_pos c0]
  by_cases y1 : y < 1
  · refine OP.same I (r := -1) ?_ ?_
    · rw [F_X7_part, cA, e_cl, e_onnS, if_pos y1]
    · rw [F_X8_part, cM, e_cl, if_neg (by decide), if_pos y1]
  obtain ⟨k1, k2, k3, k4, k5⟩ := I.rw.1 r hr
  have z47 := I.z47 hr
  by_cases y2 : nI (z r) ≤ y
  · refine OP.same I (r := -1) ?_ ?_
    · rw [F_X7_part, cA, e_cl, e_onnS, if_neg y1, k1, if_pos y2]
    · rw [F_X8_part, cM, e_cl, if_neg (by decide), if_neg y1, I.r8_27, e_nn, I.l47_0, i_inb (by omega) (by omega), e_ck, i_cl (by omega), z47, if_pos y2]
  obtain ⟨n, n1, n2, rfl⟩ : ∃ n, 1 ≤ n ∧ n < z r ∧ y = nI n := by
    rcases i_neg y (z r) (by omega) with q | q | ⟨n, q1, q2⟩
    · exact absurd (by rw [Int32.lt_iff_toInt_lt] at q ⊢; have e0 : (0 : Int32).toInt = 0 := by decide
                       have e1 : (1 : Int32).toInt = 1 := by decide
                       omega) y1
    · exact absurd q y2
    · refine ⟨n, ?_, q1, q2⟩
      rw [q2, i_ltR 1 (by omega) (by omega)] at y1
      omega
  by_cases hR60 : pC h 2 < 60
  rotate_left
  · refine OP.same I (r := -1) ?_ ?_
    · rw [F_X7_part, cA, e_cl, e_onnS, if_neg y1, k1, if_neg y2, I.c_i5, q_nltR 60 (by omega) (by omega)]
    · rw [F_X8_part, cM, e_cl, if_neg (by decide), if_neg y1, I.r8_27, e_nn, I.l47_0, i_inb (by omega) (by omega), e_ck, i_cl (by omega), z47, if_neg y2, I.c_j24, q_eqR 60 (by omega)]
  obtain ⟨zr, ⟨p, p1, p2, p3⟩, a4, a5, a6⟩ := I.tied hr c0
  have hrR : r ≠ pC h 2 := by omega
  have rb2 : pI (wI (wR (wR (wI (wI (wR (wI (wR (wN (wN h 2 0) 14 8) 2 (pC h 2) 1 (some (pC h 2))) 2 (pC h 2) 2 0) 2 (pC h 2) 4 none) 2 (pC h 2) 5 (-1)) 2 (pC h 2) 0 (nI (pC h 2))) 2 (pC h 2) 3 (some p)) 21 0 (pC h 2) (some (pC h 2))) 7 0 5 (nI (pC h 2 + 1))) 2 r 2 = nI (z r) := by simp (disch := omega) only [sl_RI, sl_CI, sl_LI, sl_IR, sl_CR, sl_LR, sl_II, sl_Ie, sl_RR, sl_Re, sl_CN, sl_Ce, sl_LN, sl_Le, sl_IN, sl_INe, sl_RN, sl_RNe, up2_s, up2_n, up1_s, up1_n, upN_s, upN_n, ne_eq, not_false_eq_true, reduceCtorEq]; exact k1
  have esub : nI (z r) - nI n = nI (z r - n) := i_sub (by omega)
  have epos : (if (0 : Int32) < nI (z r - n) then nI (z r - n) else (0 : Int32)) = nI (z r - n) := by rw [q_ltL 0 (by omega) (by omega)]
  obtain ⟨a1, ea, fa, ua, va, va2, va3, ta⟩ := move_l (a := pC h 2) (b := r) (zb := z r) (ρ := ro r) (ω := fun k => w (ro r k)) (τ := fun k => tt (ro r k)) (Ne.symm hrR) k2 (nI (z r - n)) (fun h10 => lt (wI h10 2 r 2 (if (nI (z r - n)) < (pI h10 2 r 2) then (nI (z r - n)) else (pI h10 2 r 2))) fun h11 => some ((), h11)) n (z r - n) 0 FU (wI (wR (wR (wI (wI (wR (wI (wR (wN (wN h 2 0) 14 8) 2 (pC h 2) 1 (some (pC h 2))) 2 (pC h 2) 2 0) 2 (pC h 2) 4 none) 2 (pC h 2) 5 (-1)) 2 (pC h 2) 0 (nI (pC h 2))) 2 (pC h 2) 3 (some p)) 21 0 (pC h 2) (some (pC h 2))) 7 0 5 (nI (pC h 2 + 1))) (by omega) (by omega) (by unfold FU; omega) rb2 (by simp (disch := omega) only [sl_RI, sl_CI, sl_LI, sl_IR, sl_CR, sl_LR, sl_II, sl_Ie, sl_RR, sl_Re, sl_CN, sl_Ce, sl_LN, sl_Le, sl_IN, sl_INe, sl_RN, sl_RNe, up2_s, up2_n, up1_s, up1_n, upN_s, upN_n, ne_eq, not_false_eq_true, reduceCtorEq]; exact k3) (by simp (disch := omega) only [sl_RI, sl_CI, sl_LI, sl_IR, sl_CR, sl_LR, sl_II, sl_Ie, sl_RR, sl_Re, sl_CN, sl_Ce, sl_LN, sl_Le, sl_IN, sl_INe, sl_RN, sl_RNe, up2_s, up2_n, up1_s, up1_n, upN_s, upN_n, ne_eq, not_false_eq_true, reduceCtorEq, t5]; exact k4) (by simp (disch := omega) only [sl_RI, sl_CI, sl_LI, sl_IR, sl_CR, sl_LR, sl_II, sl_Ie, sl_RR, sl_Re, sl_CN, sl_Ce, sl_LN, sl_Le, sl_IN, sl_INe, sl_RN, sl_RNe, up2_s, up2_n, up1_s, up1_n, upN_s, upN_n, ne_eq, not_false_eq_true, reduceCtorEq]; rfl) (by simp (disch := omega) only [sl_RI, sl_CI, sl_LI, sl_IR, sl_CR, sl_LR, sl_II, sl_Ie, sl_RR, sl_Re, sl_CN, sl_Ce, sl_LN, sl_Le, sl_IN, sl_INe, sl_RN, sl_RNe, up2_s, up2_n, up1_s, up1_n, upN_s, upN_n, ne_eq, not_false_eq_true, reduceCtorEq]) (by simp (disch := omega) only [sl_RI, sl_CI, sl_LI, sl_IR, sl_CR, sl_LR, sl_II, sl_Ie, sl_RR, sl_Re, sl_CN, sl_Ce, sl_LN, sl_Le, sl_IN, sl_INe, sl_RN, sl_RNe, up2_s, up2_n, up1_s, up1_n, upN_s, upN_n, ne_eq, not_false_eq_true, reduceCtorEq, t5]) (fun k hk => by
    obtain ⟨q1, q2, q3, q4, q5, q6⟩ := I.rowA hr k hk
    refine ⟨by simp (disch := omega) only [sl_RI, sl_CI, sl_LI, sl_IR, sl_CR, sl_LR, sl_II, sl_Ie, sl_RR, sl_Re, sl_CN, sl_Ce, sl_LN, sl_Le, sl_IN, sl_INe, sl_RN, sl_RNe, up2_s, up2_n, up1_s, up1_n, upN_s, upN_n, ne_eq, not_false_eq_true, reduceCtorEq, t5]; exact q1, by simp (disch := omega) only [sl_RI, sl_CI, sl_LI, sl_IR, sl_CR, sl_LR, sl_II, sl_Ie, sl_RR, sl_Re, sl_CN, sl_Ce, sl_LN, sl_Le, sl_IN, sl_INe, sl_RN, sl_RNe, up2_s, up2_n, up1_s, up1_n, upN_s, upN_n, ne_eq, not_false_eq_true, reduceCtorEq]; exact q2, q3, by simp (disch := omega) only [sl_RI, sl_CI, sl_LI, sl_IR, sl_CR, sl_LR, sl_II, sl_Ie, sl_RR, sl_Re, sl_CN, sl_Ce, sl_LN, sl_Le, sl_IN, sl_INe, sl_RN, sl_RNe, up2_s, up2_n, up1_s, up1_n, upN_s, upN_n, ne_eq, not_false_eq_true, reduceCtorEq]; exact q4, by simp (disch := omega) only [sl_RI, sl_CI, sl_LI, sl_IR, sl_CR, sl_LR, sl_II, sl_Ie, sl_RR, sl_Re, sl_CN, sl_Ce, sl_LN, sl_Le, sl_IN, sl_INe, sl_RN, sl_RNe, up2_s, up2_n, up1_s, up1_n, upN_s, upN_n, ne_eq, not_false_eq_true, reduceCtorEq]; exact q5, fun j hj => by simp (disch := omega) only [sl_RI, sl_CI, sl_LI, sl_IR, sl_CR, sl_LR, sl_II, sl_Ie, sl_RR, sl_Re, sl_CN, sl_Ce, sl_LN, sl_Le, sl_IN, sl_INe, sl_RN, sl_RNe, up2_s, up2_n, up1_s, up1_n, upN_s, upN_n, ne_eq, not_false_eq_true, reduceCtorEq]; exact q6 j hj⟩)
  have ab2 : pI a1 2 r 2 = nI (z r) := by rw [ua, up2_n _ _ _ hrR]; exact rb2
  have emv : F_X2_moveRows r (nI (z r - n)) (some (pC h 2)) (wI (wR (wR (wI (wI (wR (wI (wR (wN (wN h 2 0) 14 8) 2 (pC h 2) 1 (some (pC h 2))) 2 (pC h 2) 2 0) 2 (pC h 2) 4 none) 2 (pC h 2) 5 (-1)) 2 (pC h 2) 0 (nI (pC h 2))) 2 (pC h 2) 3 (some p)) 21 0 (pC h 2) (some (pC h 2))) 7 0 5 (nI (pC h 2 + 1))) = some ((), wI a1 2 r 2 (nI (z r - n))) := by
    rw [F_X2_moveRows, epos]
    refine ea.trans ?_
    rw [ab2, q_lt (by omega) (by omega), e_lt]
  obtain ⟨h1, hh1⟩ : ∃ h1, h1 = wI a1 2 r 2 (nI (z r - n)) := ⟨_, rfl⟩
  have ca : pC a1 = pC (wI (wR (wR (wI (wI (wR (wI (wR (wN (wN h 2 0) 14 8) 2 (pC h 2) 1 (some (pC h 2))) 2 (pC h 2) 2 0) 2 (pC h 2) 4 none) 2 (pC h 2) 5 (-1)) 2 (pC h 2) 0 (nI (pC h 2))) 2 (pC h 2) 3 (some p)) 21 0 (pC h 2) (some (pC h 2))) 7 0 5 (nI (pC h 2 + 1))) := fa.C
  have M : ME h h1 := by
    intro k hk
    have k2 : k ≠ 2 := by rintro rfl; exact absurd hk (by decide)
    have k6 : k ≠ 6 := by rintro rfl; exact absurd hk (by decide)
    have k7 : k ≠ 7 := by rintro rfl; exact absurd hk (by decide)
    have k14 : k ≠ 14 := by rintro rfl; exact absurd hk (by decide)
    have k21 : k ≠ 21 := by rintro rfl; exact absurd hk (by decide)
    rw [hh1]
    refine ⟨?_, ?_, ?_, ?_⟩
    · simp (disch := omega) only [sl_RI, sl_CI, sl_LI, sl_IR, sl_CR, sl_LR, sl_II, sl_Ie, sl_RR, sl_Re, sl_CN, sl_Ce, sl_LN, sl_Le, sl_IN, sl_INe, sl_RN, sl_RNe, up2_s, up2_n, up1_s, up1_n, upN_s, upN_n, ne_eq, not_false_eq_true, reduceCtorEq]
      rw [fa.I (by simpa using k2)]
      simp (disch := omega) only [sl_RI, sl_CI, sl_LI, sl_IR, sl_CR, sl_LR, sl_II, sl_Ie, sl_RR, sl_Re, sl_CN, sl_Ce, sl_LN, sl_Le, sl_IN, sl_INe, sl_RN, sl_RNe, up2_s, up2_n, up1_s, up1_n, upN_s, upN_n, ne_eq, not_false_eq_true, reduceCtorEq]
    · simp (disch := omega) only [sl_RI, sl_CI, sl_LI, sl_IR, sl_CR, sl_LR, sl_II, sl_Ie, sl_RR, sl_Re, sl_CN, sl_Ce, sl_LN, sl_Le, sl_IN, sl_INe, sl_RN, sl_RNe, up2_s, up2_n, up1_s, up1_n, upN_s, upN_n, ne_eq, not_false_eq_true, reduceCtorEq]
      rw [fa.R (by simp [k6, k14])]
      simp (disch := omega) only [sl_RI, sl_CI, sl_LI, sl_IR, sl_CR, sl_LR, sl_II, sl_Ie, sl_RR, sl_Re, sl_CN, sl_Ce, sl_LN, sl_Le, sl_IN, sl_INe, sl_RN, sl_RNe, up2_s, up2_n, up1_s, up1_n, upN_s, upN_n, ne_eq, not_false_eq_true, reduceCtorEq]
    · simp (disch := omega) only [sl_RI, sl_CI, sl_LI, sl_IR, sl_CR, sl_LR, sl_II, sl_Ie, sl_RR, sl_Re, sl_CN, sl_Ce, sl_LN, sl_Le, sl_IN, sl_INe, sl_RN, sl_RNe, up2_s, up2_n, up1_s, up1_n, upN_s, upN_n, ne_eq, not_false_eq_true, reduceCtorEq]
      rw [fa.L]
      simp (disch := omega) only [sl_RI, sl_CI, sl_LI, sl_IR, sl_CR, sl_LR, sl_II, sl_Ie, sl_RR, sl_Re, sl_CN, sl_Ce, sl_LN, sl_Le, sl_IN, sl_INe, sl_RN, sl_RNe, up2_s, up2_n, up1_s, up1_n, upN_s, upN_n, ne_eq, not_false_eq_true, reduceCtorEq]
    · simp (disch := omega) only [sl_RI, sl_CI, sl_LI, sl_IR, sl_CR, sl_LR, sl_II, sl_Ie, sl_RR, sl_Re, sl_CN, sl_Ce, sl_LN, sl_Le, sl_IN, sl_INe, sl_RN, sl_RNe, up2_s, up2_n, up1_s, up1_n, upN_s, upN_n, ne_eq, not_false_eq_true, reduceCtorEq]
      rw [ca]
      simp (disch := omega) only [sl_RI, sl_CI, sl_LI, sl_IR, sl_CR, sl_LR, sl_II, sl_Ie, sl_RR, sl_Re, sl_CN, sl_Ce, sl_LN, sl_Le, sl_IN, sl_INe, sl_RN, sl_RNe, up2_s, up2_n, up1_s, up1_n, upN_s, upN_n, ne_eq, not_false_eq_true, reduceCtorEq]
  have TH := I.TL M
  have TM : TL (pC h 6) (wI (wI (wI (wI (wI (wI (wI h1 45 0 (pC h 2) 0) 46 0 (pC h 2) (nI p)) 48 0 (pC h 2) (-1)) 49 0 (pC h 2) (-1)) 8 0 24 (nI (pC h 2 + 1))) 47 0 (pC h 2) (nI n)) 47 0 r (nI (z r - n))) := ⟨by simp (disch := omega) only [sl_RI, sl_CI, sl_LI, sl_IR, sl_CR, sl_LR, sl_II, sl_Ie, sl_RR, sl_Re, sl_CN, sl_Ce, sl_LN, sl_Le, sl_IN, sl_INe, sl_RN, sl_RNe, up2_s, up2_n, up1_s, up1_n, upN_s, upN_n, ne_eq, not_false_eq_true, reduceCtorEq]; exact TH.1, TH.2.1, TH.2.2.1, TH.2.2.2⟩
  obtain ⟨g', em, fm, x1⟩ := part_l (r := r) (y := z r - n) (R := pC h 2) (T := pC h 6) (by omega) (fun h54 => some (nI (pC h 2), h54)) (pC h 6) 0 FU (wI (wI (wI (wI (wI (wI (wI h1 45 0 (pC h 2) 0) 46 0 (pC h 2) (nI p)) 48 0 (pC h 2) (-1)) 49 0 (pC h 2) (-1)) 8 0 24 (nI (pC h 2 + 1))) 47 0 (pC h 2) (nI n)) 47 0 r (nI (z r - n))) TM (by simp (disch := omega) only [sl_RI, sl_CI, sl_LI, sl_IR, sl_CR, sl_LR, sl_II, sl_Ie, sl_RR, sl_Re, sl_CN, sl_Ce, sl_LN, sl_Le, sl_IN, sl_INe, sl_RN, sl_RNe, up2_s, up2_n, up1_s, up1_n, upN_s, upN_n, ne_eq, not_false_eq_true, reduceCtorEq]) (by omega) (by unfold FU; omega)
  have m38 : pI h1 38 = pI h 38 := M.I (by decide)
  have m40 : pI h1 40 = pI h 40 := M.I (by decide)
  have m41 : pI h1 41 = pI h 41 := M.I (by decide)
  simp (disch := omega) only [ofm, sl_RI, sl_CI, sl_LI, sl_IR, sl_CR, sl_LR, sl_II, sl_Ie, sl_RR, sl_Re, sl_CN, sl_Ce, sl_LN, sl_Le, sl_IN, sl_INe, sl_RN, sl_RNe, up2_s, up2_n, up1_s, up1_n, upN_s, upN_n, ne_eq, not_false_eq_true, reduceCtorEq, m38, m40, m41] at x1
  have of1 : ∀ i, i < z r → z r - n ≤ i → ∀ j, j < w (ro r i) → pI g' 40 0 (tt (ro r i) j) = nI (pC h 2) ∧ pI g' 41 0 (tt (ro r i) j) = nI (i - (z r - n)) := by
    intro i hi hi2 j hj
    obtain ⟨q1, q2, q3, q4⟩ := I.of_m hr hi hj
    obtain ⟨z1, z2⟩ := (x1 (tt (ro r i) j)).1 ⟨by omega, q2, q1, by rw [q3]; exact nI_le hi2 (by omega)⟩
    rw [z1, z2, q3, i_sub hi2]
    exact ⟨rfl, rfl⟩
  have of2 : ∀ t, (∀ i, i < z r → z r - n ≤ i → ∀ j, j < w (ro r i) → tt (ro r i) j ≠ t) → pI g' 40 0 t = pI h 40 0 t ∧ pI g' 41 0 t = pI h 41 0 t := by
    intro t ht
    refine (x1 t).2 (fun ⟨_, q1, q2, q3⟩ => ?_)
    obtain ⟨i, hi, j, hj, e⟩ := I.of_c hr q1 q2
    obtain ⟨-, -, s3, -⟩ := I.of_m hr hi hj
    rw [← e, s3, i_le (by omega) (by omega)] at q3
    exact ht i hi q3 j hj e
  refine ⟨nI (pC h 2), h1, g', ?_, ?_, nw, up1 (up1 z r (z r - n)) (pC h 2) n, fun q i => if q = pC h 2 then ro r (z r - n + i) else ro q i, w, tt, q0, ?_⟩
  · rw [F_X7_part, cA, e_cl, e_onnS, if_neg y1, k1, if_neg y2, I.c_i5, q_ltR 60 (by omega) (by omega), p2, I.newRaftC hR60, e_cl, rb2, esub, emv, e_cl, e_nn, hh1]
    have e20 : pI a1 2 (pC h 2) 0 = nI (pC h 2) := by rw [ua]; simp (disch := omega) only [sl_RI, sl_CI, sl_LI, sl_IR, sl_CR, sl_LR, sl_II, sl_Ie, sl_RR, sl_Re, sl_CN, sl_Ce, sl_LN, sl_Le, sl_IN, sl_INe, sl_RN, sl_RNe, up2_s, up2_n, up1_s, up1_n, upN_s, upN_n, ne_eq, not_false_eq_true, reduceCtorEq]
    simp (disch := omega) only [sl_RI, sl_CI, sl_LI, sl_IR, sl_CR, sl_LR, sl_II, sl_Ie, sl_RR, sl_Re, sl_CN, sl_Ce, sl_LN, sl_Le, sl_IN, sl_INe, sl_RN, sl_RNe, up2_s, up2_n, up1_s, up1_n, upN_s, upN_n, ne_eq, not_false_eq_true, reduceCtorEq, e20]
  · have cM1 : F_X8_isRaft 0 (nI r) 0 h1 = some (1, h1) := by rw [isRaftS (R := pC h 2) hR hr (by rw [M.I (by decide)]; exact I.c_j24) (by rw [M.R (by decide)]; exact I.r8_25) (by rw [M.L (by decide)]; exact I.l45_0) e1, M.I (k := 45) (by decide), if_pos c0]
    rw [F_X8_part, cM1, e_cl, if_neg (by decide), if_neg y1, TH.r 27 (by decide), e_nn, TH.l 47 60 (by decide) (by decide), i_inb (by omega) (by omega), e_ck, i_cl (by omega), M.I (k := 47) (by decide), z47, if_neg y2, M.I (k := 8) (by decide), I.c_j24, q_neR 60 (by omega) (by omega) (by omega), TH.r 26 (by decide), e_nn, TH.l 46 60 (by decide) (by decide), i_inb (by omega) (by omega), e_ck, M.I (k := 46) (by decide), p3, I.newRaftM M hR60, e_cl]
    have r27 : pR (wI (wI (wI (wI (wI h1 45 0 (pC h 2) 0) 46 0 (pC h 2) (nI p)) 48 0 (pC h 2) (-1)) 49 0 (pC h 2) (-1)) 8 0 24 (nI (pC h 2 + 1))) 8 0 27 = some 0 := TH.r 27 (by decide)
    have l47 : pL (wI (wI (wI (wI (wI h1 45 0 (pC h 2) 0) 46 0 (pC h 2) (nI p)) 48 0 (pC h 2) (-1)) 49 0 (pC h 2) (-1)) 8 0 24 (nI (pC h 2 + 1))) 47 0 = 60 := TH.l 47 60 (by decide) (by decide)
    have v47 : pI h1 47 0 r = nI (z r) := by rw [M.I (by decide)]; exact z47
    rw [r27, e_nn, l47, i_inb (by omega) (by omega), e_ck, i_cl (by omega), e_lt]
    have r27' : pR (wI (wI (wI (wI (wI (wI h1 45 0 (pC h 2) 0) 46 0 (pC h 2) (nI p)) 48 0 (pC h 2) (-1)) 49 0 (pC h 2) (-1)) 8 0 24 (nI (pC h 2 + 1))) 47 0 (pC h 2) (nI n)) 8 0 27 = some 0 := TH.r 27 (by decide)
    have l47' : pL (wI (wI (wI (wI (wI (wI h1 45 0 (pC h 2) 0) 46 0 (pC h 2) (nI p)) 48 0 (pC h 2) (-1)) 49 0 (pC h 2) (-1)) 8 0 24 (nI (pC h 2 + 1))) 47 0 (pC h 2) (nI n)) 47 0 = 60 := TH.l 47 60 (by decide) (by decide)
    have v47' : pI (wI (wI (wI (wI (wI (wI h1 45 0 (pC h 2) 0) 46 0 (pC h 2) (nI p)) 48 0 (pC h 2) (-1)) 49 0 (pC h 2) (-1)) 8 0 24 (nI (pC h 2 + 1))) 47 0 (pC h 2) (nI n)) 47 0 r = nI (z r) := by simp (disch := omega) only [sl_RI, sl_CI, sl_LI, sl_IR, sl_CR, sl_LR, sl_II, sl_Ie, sl_RR, sl_Re, sl_CN, sl_Ce, sl_LN, sl_Le, sl_IN, sl_INe, sl_RN, sl_RNe, up2_s, up2_n, up1_s, up1_n, upN_s, upN_n, ne_eq, not_false_eq_true, reduceCtorEq]; exact v47
    rw [r27', e_nn, l47', i_inb (by omega) (by omega), e_ck, e_ck, v47', esub, e_lt]
    exact em
  · have ua' : pI a1 2 = up2 (pI (wI (wR (wR (wI (wI (wR (wI (wR (wN (wN h 2 0) 14 8) 2 (pC h 2) 1 (some (pC h 2))) 2 (pC h 2) 2 0) 2 (pC h 2) 4 none) 2 (pC h 2) 5 (-1)) 2 (pC h 2) 0 (nI (pC h 2))) 2 (pC h 2) 3 (some p)) 21 0 (pC h 2) (some (pC h 2))) 7 0 5 (nI (pC h 2 + 1))) 2) (pC h 2) 2 (nI n) := by rw [ua, Nat.zero_add]
    have gl1 : Gl (pL a1) := by
      rw [fa.L]
      exact (I.ln.wN (k := 2) (len := 0) (by decide)).wN (k := 14) (len := 8) (by decide)
    unfold SimG
    simp (disch := decide) only [fm.I, fm.R, fm.L, fm.C]
    simp (disch := omega) only [sl_RI, sl_CI, sl_LI, sl_IR, sl_CR, sl_LR, sl_II, sl_Ie, sl_RR, sl_Re, sl_CN, sl_Ce, sl_LN, sl_Le, sl_IN, sl_INe, sl_RN, sl_RNe, up2_s, up2_n, up1_s, up1_n, upN_s, upN_n, ne_eq, not_false_eq_true, reduceCtorEq]
    have m8 : pI h1 8 = pI h 8 := M.I (by decide)
    have mm : ∀ k, isM k = true → pI h1 k = pI h k := fun k hk => M.I hk
    have c7 : pI h1 7 = pI (wI (wR (wR (wI (wI (wR (wI (wR (wN (wN h 2 0) 14 8) 2 (pC h 2) 1 (some (pC h 2))) 2 (pC h 2) 2 0) 2 (pC h 2) 4 none) 2 (pC h 2) 5 (-1)) 2 (pC h 2) 0 (nI (pC h 2))) 2 (pC h 2) 3 (some p)) 21 0 (pC h 2) (some (pC h 2))) 7 0 5 (nI (pC h 2 + 1))) 7 := by rw [hh1]; simp (disch := omega) only [sl_RI, sl_CI, sl_LI, sl_IR, sl_CR, sl_LR, sl_II, sl_Ie, sl_RR, sl_Re, sl_CN, sl_Ce, sl_LN, sl_Le, sl_IN, sl_INe, sl_RN, sl_RNe, up2_s, up2_n, up1_s, up1_n, upN_s, upN_n, ne_eq, not_false_eq_true, reduceCtorEq]; rw [fa.I (by decide)]; simp (disch := omega) only [sl_RI, sl_CI, sl_LI, sl_IR, sl_CR, sl_LR, sl_II, sl_Ie, sl_RR, sl_Re, sl_CN, sl_Ce, sl_LN, sl_Le, sl_IN, sl_INe, sl_RN, sl_RNe, up2_s, up2_n, up1_s, up1_n, upN_s, upN_n, ne_eq, not_false_eq_true, reduceCtorEq]
    simp (disch := omega) only [sl_RI, sl_CI, sl_LI, sl_IR, sl_CR, sl_LR, sl_II, sl_Ie, sl_RR, sl_Re, sl_CN, sl_Ce, sl_LN, sl_Le, sl_IN, sl_INe, sl_RN, sl_RNe, up2_s, up2_n, up1_s, up1_n, upN_s, upN_n, ne_eq, not_false_eq_true, reduceCtorEq, hh1]
    simp (disch := decide) only [fa.I, fa.R, ua']
    have la : pL a1 14 = up1 (pL h 14) (pC h 2) 8 := by rw [fa.L]; simp (disch := omega) only [sl_RI, sl_CI, sl_LI, sl_IR, sl_CR, sl_LR, sl_II, sl_Ie, sl_RR, sl_Re, sl_CN, sl_Ce, sl_LN, sl_Le, sl_IN, sl_INe, sl_RN, sl_RNe, up2_s, up2_n, up1_s, up1_n, upN_s, upN_n, ne_eq, not_false_eq_true, reduceCtorEq, t5]
    have la15 : pL a1 15 = pL h 15 := by rw [fa.L]; simp (disch := omega) only [sl_RI, sl_CI, sl_LI, sl_IR, sl_CR, sl_LR, sl_II, sl_Ie, sl_RR, sl_Re, sl_CN, sl_Ce, sl_LN, sl_Le, sl_IN, sl_INe, sl_RN, sl_RNe, up2_s, up2_n, up1_s, up1_n, upN_s, upN_n, ne_eq, not_false_eq_true, reduceCtorEq]
    have cc4 : pC a1 4 = pC h 4 := by rw [ca]; simp (disch := omega) only [sl_RI, sl_CI, sl_LI, sl_IR, sl_CR, sl_LR, sl_II, sl_Ie, sl_RR, sl_Re, sl_CN, sl_Ce, sl_LN, sl_Le, sl_IN, sl_INe, sl_RN, sl_RNe, up2_s, up2_n, up1_s, up1_n, upN_s, upN_n, ne_eq, not_false_eq_true, reduceCtorEq]
    have cc6 : pC a1 6 = pC h 6 := by rw [ca]; simp (disch := omega) only [sl_RI, sl_CI, sl_LI, sl_IR, sl_CR, sl_LR, sl_II, sl_Ie, sl_RR, sl_Re, sl_CN, sl_Ce, sl_LN, sl_Le, sl_IN, sl_INe, sl_RN, sl_RNe, up2_s, up2_n, up1_s, up1_n, upN_s, upN_n, ne_eq, not_false_eq_true, reduceCtorEq]
    have cc0 : pC a1 0 = pC h 0 := by rw [ca]; simp (disch := omega) only [sl_RI, sl_CI, sl_LI, sl_IR, sl_CR, sl_LR, sl_II, sl_Ie, sl_RR, sl_Re, sl_CN, sl_Ce, sl_LN, sl_Le, sl_IN, sl_INe, sl_RN, sl_RNe, up2_s, up2_n, up1_s, up1_n, upN_s, upN_n, ne_eq, not_false_eq_true, reduceCtorEq]
    have cc3 : pC a1 3 = pC h 3 := by rw [ca]; simp (disch := omega) only [sl_RI, sl_CI, sl_LI, sl_IR, sl_CR, sl_LR, sl_II, sl_Ie, sl_RR, sl_Re, sl_CN, sl_Ce, sl_LN, sl_Le, sl_IN, sl_INe, sl_RN, sl_RNe, up2_s, up2_n, up1_s, up1_n, upN_s, upN_n, ne_eq, not_false_eq_true, reduceCtorEq]
    have cc2 : pC a1 2 = pC h 2 + 1 := by rw [ca]; simp (disch := omega) only [sl_RI, sl_CI, sl_LI, sl_IR, sl_CR, sl_LR, sl_II, sl_Ie, sl_RR, sl_Re, sl_CN, sl_Ce, sl_LN, sl_Le, sl_IN, sl_INe, sl_RN, sl_RNe, up2_s, up2_n, up1_s, up1_n, upN_s, upN_n, ne_eq, not_false_eq_true, reduceCtorEq]
    have cc14 : pC a1 14 = pC h 2 + 1 := by rw [ca]; simp (disch := omega) only [sl_RI, sl_CI, sl_LI, sl_IR, sl_CR, sl_LR, sl_II, sl_Ie, sl_RR, sl_Re, sl_CN, sl_Ce, sl_LN, sl_Le, sl_IN, sl_INe, sl_RN, sl_RNe, up2_s, up2_n, up1_s, up1_n, upN_s, upN_n, ne_eq, not_false_eq_true, reduceCtorEq, t5]
    have cc15 : pC a1 15 = pC h 15 := by rw [ca]; simp (disch := omega) only [sl_RI, sl_CI, sl_LI, sl_IR, sl_CR, sl_LR, sl_II, sl_Ie, sl_RR, sl_Re, sl_CN, sl_Ce, sl_LN, sl_Le, sl_IN, sl_INe, sl_RN, sl_RNe, up2_s, up2_n, up1_s, up1_n, upN_s, upN_n, ne_eq, not_false_eq_true, reduceCtorEq]
    simp (disch := omega) only [sl_RI, sl_CI, sl_LI, sl_IR, sl_CR, sl_LR, sl_II, sl_Ie, sl_RR, sl_Re, sl_CN, sl_Ce, sl_LN, sl_Le, sl_IN, sl_INe, sl_RN, sl_RNe, up2_s, up2_n, up1_s, up1_n, upN_s, upN_n, ne_eq, not_false_eq_true, reduceCtorEq, la, la15, cc4, cc6, cc0, cc2, cc14, cc3, cc15, t5]
    have tin : ∀ t, (∃ i, i < z r ∧ z r - n ≤ i ∧ ∃ j, j < w (ro r i) ∧ tt (ro r i) j = t) ∨ (∀ i, i < z r → z r - n ≤ i → ∀ j, j < w (ro r i) → tt (ro r i) j ≠ t) := by
      intro t
      by_cases c : ∃ i, i < z r ∧ z r - n ≤ i ∧ ∃ j, j < w (ro r i) ∧ tt (ro r i) j = t
      · exact Or.inl c
      · exact Or.inr (fun i hi hi2 j hj e => c ⟨i, hi, hi2, j, hj, e⟩)
    refine ⟨I.w7, I.w1, I.w5, I.w8, ?_, ?_, I.a19, I.a20, ?_, I.a22, I.st, I.sb, ?_, ?_, ?_, ?_, ?_, I.to, I.pr, I.gnw, I.tk, I.rg, I.ba, I.so⟩
    · exact gl1
    · exact ⟨t1, t2, by omega, t4, rfl, t6, t7, t8, rfl, t10, t11, t12, rfl, t14⟩
    · intro i hi
      by_cases e : i = pC h 2
      · subst e; rw [up1_s]
      · rw [up1_n _ _ e]; exact I.a21 i (by omega)
    · refine ⟨fun t ht => ?_, I.tr.2⟩
      obtain ⟨s1, s2, s3⟩ := I.tr.1 t ht
      rcases tin t with ⟨i, hi, hi2, j, hj, e⟩ | c
      · obtain ⟨z1, z2⟩ := of1 i hi hi2 j hj
        obtain ⟨q1, q2⟩ := (ta t).1 ⟨i, hi2, hi, j, hj, e⟩
        have o := (I.of_m hr hi hj).1
        rw [e] at z1 o
        refine ⟨s1, s2, Or.inr (Or.inl ⟨o.1, q2, ⟨pC h 2, by omega, q1, z1⟩, ?_⟩)⟩
        rcases s3 with ⟨c1, -⟩ | ⟨-, -, -, c⟩ | ⟨c1, -⟩ | ⟨c1, -⟩
        · rw [o.1] at c1; exact absurd c1 (by decide)
        · exact c
        · rw [o.1] at c1; exact absurd c1 (by decide)
        · rw [o.1] at c1; exact absurd c1 (by decide)
      · have q := (ta t).2 (fun ⟨i, i1, i2, j, j1, j2⟩ => c i i2 i1 j j1 j2)
        simp (disch := omega) only [sl_RI, sl_CI, sl_LI, sl_IR, sl_CR, sl_LR, sl_II, sl_Ie, sl_RR, sl_Re, sl_CN, sl_Ce, sl_LN, sl_Le, sl_IN, sl_INe, sl_RN, sl_RNe, up2_s, up2_n, up1_s, up1_n, upN_s, upN_n, ne_eq, not_false_eq_true, reduceCtorEq] at q
        rw [(of2 t c).1, q]
        refine ⟨s1, s2, ?_⟩
        rcases s3 with s3 | ⟨c1, c2, ⟨r, r1, r2⟩, c3⟩ | s3 | s3
        · exact Or.inl s3
        · exact Or.inr (Or.inl ⟨c1, c2, ⟨r, by omega, r2⟩, c3⟩)
        · exact Or.inr (Or.inr (Or.inl s3))
        · exact Or.inr (Or.inr (Or.inr s3))
    · intro r' hr'
      by_cases e : r' = pC h 2
      · subst e
        simp (disch := omega) only [sl_RI, sl_CI, sl_LI, sl_IR, sl_CR, sl_LR, sl_II, sl_Ie, sl_RR, sl_Re, sl_CN, sl_Ce, sl_LN, sl_Le, sl_IN, sl_INe, sl_RN, sl_RNe, up2_s, up2_n, up1_s, up1_n, upN_s, upN_n, ne_eq, not_false_eq_true, reduceCtorEq]
        refine ⟨⟨trivial, trivial, trivial, n, by omega, rfl⟩, Or.inr (Or.inl ⟨trivial, ?_, ⟨p, p1, rfl, rfl⟩, trivial, trivial, trivial⟩)⟩
        rw [i_eqL 0 (by omega) (by omega)]; omega
      · by_cases e' : r' = r
        · subst e'
          obtain ⟨⟨s1, s2, s3, -⟩, -⟩ := I.rf r' hr
          simp (disch := omega) only [sl_RI, sl_CI, sl_LI, sl_IR, sl_CR, sl_LR, sl_II, sl_Ie, sl_RR, sl_Re, sl_CN, sl_Ce, sl_LN, sl_Le, sl_IN, sl_INe, sl_RN, sl_RNe, up2_s, up2_n, up1_s, up1_n, upN_s, upN_n, ne_eq, not_false_eq_true, reduceCtorEq]
          refine ⟨⟨s1, trivial, s3, z r' - n, by omega, rfl⟩, Or.inr (Or.inl ⟨c0, ?_, ⟨p, p1, p2, p3⟩, a4, a5, a6⟩)⟩
          rw [i_eqL 0 (by omega) (by omega)]; omega
        · have := I.rf r' (by omega)
          simpa (disch := omega) only [sl_RI, sl_CI, sl_LI, sl_IR, sl_CR, sl_LR, sl_II, sl_Ie, sl_RR, sl_Re, sl_CN, sl_Ce, sl_LN, sl_Le, sl_IN, sl_INe, sl_RN, sl_RNe, up2_s, up2_n, up1_s, up1_n, upN_s, upN_n, ne_eq, not_false_eq_true, reduceCtorEq] using this
    · refine I.cr.R (by omega) (fun r hr => ?_)
      simp (disch := omega) only [sl_RI, sl_CI, sl_LI, sl_IR, sl_CR, sl_LR, sl_II, sl_Ie, sl_RR, sl_Re, sl_CN, sl_Ce, sl_LN, sl_Le, sl_IN, sl_INe, sl_RN, sl_RNe, up2_s, up2_n, up1_s, up1_n, upN_s, upN_n, ne_eq, not_false_eq_true, reduceCtorEq, and_self]
    · obtain ⟨j1, j2, j3, j4⟩ := I.rw
      refine ⟨fun q hq => ?_, j2, fun q hq i hi j hj => ?_, fun t ht hm => ?_⟩
      · by_cases e : q = pC h 2
        · subst e
          simp (disch := omega) only [sl_RI, sl_CI, sl_LI, sl_IR, sl_CR, sl_LR, sl_II, sl_Ie, sl_RR, sl_Re, sl_CN, sl_Ce, sl_LN, sl_Le, sl_IN, sl_INe, sl_RN, sl_RNe, up2_s, up2_n, up1_s, up1_n, upN_s, upN_n, ne_eq, not_false_eq_true, reduceCtorEq, ↓reduceIte]
          refine ⟨trivial, by omega, trivial, trivial, fun i hi => ?_⟩
          have := va3 i hi
          rw [Nat.zero_add] at this
          exact ⟨this, (k5 (z r - n + i) (by omega)).2⟩
        · by_cases e' : q = r
          · subst e'
            simp (disch := omega) only [sl_RI, sl_CI, sl_LI, sl_IR, sl_CR, sl_LR, sl_II, sl_Ie, sl_RR, sl_Re, sl_CN, sl_Ce, sl_LN, sl_Le, sl_IN, sl_INe, sl_RN, sl_RNe, up2_s, up2_n, up1_s, up1_n, upN_s, upN_n, ne_eq, not_false_eq_true, reduceCtorEq, if_neg hrR]
            have := va q hrR
            simp (disch := omega) only [sl_RI, sl_CI, sl_LI, sl_IR, sl_CR, sl_LR, sl_II, sl_Ie, sl_RR, sl_Re, sl_CN, sl_Ce, sl_LN, sl_Le, sl_IN, sl_INe, sl_RN, sl_RNe, up2_s, up2_n, up1_s, up1_n, upN_s, upN_n, ne_eq, not_false_eq_true, reduceCtorEq, t5] at this
            rw [this]
            exact ⟨trivial, by omega, k3, k4, fun i hi => k5 i (by omega)⟩
          · obtain ⟨s1, s2, s3, s4, s5⟩ := j1 q (by omega)
            simp (disch := omega) only [sl_RI, sl_CI, sl_LI, sl_IR, sl_CR, sl_LR, sl_II, sl_Ie, sl_RR, sl_Re, sl_CN, sl_Ce, sl_LN, sl_Le, sl_IN, sl_INe, sl_RN, sl_RNe, up2_s, up2_n, up1_s, up1_n, upN_s, upN_n, ne_eq, not_false_eq_true, reduceCtorEq, if_neg e]
            have := va q e
            simp (disch := omega) only [sl_RI, sl_CI, sl_LI, sl_IR, sl_CR, sl_LR, sl_II, sl_Ie, sl_RR, sl_Re, sl_CN, sl_Ce, sl_LN, sl_Le, sl_IN, sl_INe, sl_RN, sl_RNe, up2_s, up2_n, up1_s, up1_n, upN_s, upN_n, ne_eq, not_false_eq_true, reduceCtorEq, t5] at this
            rw [this]
            exact ⟨s1, s2, s3, s4, s5⟩
      · by_cases e : q = pC h 2
        · subst e
          rw [up1_s] at hi
          simp only [↓reduceIte] at hj ⊢
          obtain ⟨z1, z2⟩ := of1 (z r - n + i) (by omega) (by omega) j hj
          obtain ⟨s1, s2, s3, s4⟩ := I.of_m hr (show z r - n + i < z r by omega) hj
          rw [z1, z2, show z r - n + i - (z r - n) = i by omega]
          exact ⟨s1.1, rfl, rfl, s4⟩
        · rw [up1_n _ _ e] at hi
          simp only [if_neg e] at hj ⊢
          have hiz : i < z q ∧ (q = r → i < z r - n) := by
            by_cases e' : q = r
            · subst e'; rw [up1_s] at hi; exact ⟨by omega, fun _ => hi⟩
            · rw [up1_n _ _ e'] at hi; exact ⟨hi, fun x => absurd x e'⟩
          obtain ⟨s1, s2, s3, s4⟩ := I.of_m (show q < pC h 2 by omega) hiz.1 hj
          obtain ⟨z1, z2⟩ := of2 (tt (ro q i) j) (fun i' hi' hi2' j' hj' e' => by
            obtain ⟨q1, q2, q3⟩ := I.of_u hr hi' hj' (by omega) hiz.1 hj e'
            have := hiz.2 q1.symm
            omega)
          rw [z1, z2]
          exact ⟨s1.1, s1.2, s3, s4⟩
      · obtain ⟨q, hq, i, hi, j, hj, e⟩ := j4 t ht hm
        by_cases c : q = r ∧ z r - n ≤ i
        · obtain ⟨rfl, c⟩ := c
          refine ⟨pC h 2, by omega, i - (z q - n), by rw [up1_s]; omega, j, ?_, ?_⟩
          · simp only [↓reduceIte, show z q - n + (i - (z q - n)) = i by omega]; exact hj
          · simp only [↓reduceIte, show z q - n + (i - (z q - n)) = i by omega]; exact e
        · refine ⟨q, by omega, i, ?_, j, ?_, ?_⟩
          · rw [up1_n _ _ (by omega)]
            by_cases e' : q = r
            · subst e'; rw [up1_s]; exact Nat.lt_of_not_le (fun d => c ⟨rfl, d⟩)
            · rw [up1_n _ _ e']; exact hi
          · simp only [if_neg (show ¬ q = pC h 2 by omega)]; exact hj
          · simp only [if_neg (show ¬ q = pC h 2 by omega)]; exact e
    · obtain ⟨g1, g2, g3, g4, g5, g6⟩ := I.nx
      refine ⟨g1, g2, g3, g4, fun q hq i hi => ?_, g6⟩
      by_cases e : q = pC h 2
      · subst e
        rw [up1_s] at hi
        simp only [↓reduceIte]
        exact g5 r hr _ (by omega)
      · rw [up1_n _ _ e] at hi
        simp only [if_neg e]
        by_cases e' : q = r
        · subst e'; rw [up1_s] at hi; exact g5 q hr i (by omega)
        · rw [up1_n _ _ e'] at hi; exact g5 q (by omega) i hi
end OPS
