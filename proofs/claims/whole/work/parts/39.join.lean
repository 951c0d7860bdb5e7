section OPS
variable {nw : Nat} {z : Nat → Nat} {ro : Nat → Nat → Nat} {w : Nat → Nat} {tt : Nat → Nat → Nat} {q0 : Nat} {h : Hp}
theorem join_l {a b za T : Nat} (ha : a < 60) (hb : b < 60) {β : Type} (ka : Hp → Option β) : ∀ n i f g, TL T g → pI g 47 0 a = nI za → i + n = T → n < f → ∃ g', L_X8_join_60 0 (nI a) (nI b) ka f (nI i) g = ka g' ∧ Fr [40, 41] [] g g' ∧ ∀ t, ((i ≤ t ∧ t < T ∧ ofm g b t) → pI g' 40 0 t = nI a ∧ pI g' 41 0 t = pI g 41 0 t + nI za) ∧ (¬ (i ≤ t ∧ t < T ∧ ofm g b t) → pI g' 40 0 t = pI g 40 0 t ∧ pI g' 41 0 t = pI g 41 0 t) := by
  intro n
  induction n with
  | zero =>
    intro i f g m ep hi hf
    obtain ⟨f, rfl⟩ := fu_1 hf
    have hT := m.2.1
    refine ⟨g, ?_, Fr.refl _ _ _, fun t => ⟨fun ⟨k1, k2, _⟩ => by omega, fun _ => ⟨rfl, rfl⟩⟩⟩
    rw [L_X8_join_60, m.1, q_le (by omega) (by omega)]
  | succ n ih =>
    intro i f g m ep hi hf
    obtain ⟨f, rfl⟩ := fu_1 hf
    have hT := m.2.1
    rcases m.isOf (r := b) (t := i) (by omega) with ⟨c, e⟩ | ⟨c, e⟩
    · have f1 : Fr [40, 41] [] g (wI (wI g 40 0 i (nI a)) 41 0 i (pI g 41 0 i + nI za)) := ((Fr.refl _ _ _).wI (by decide)).wI (by decide)
      obtain ⟨g', e', fr, ht⟩ := ih (i + 1) f (wI (wI g 40 0 i (nI a)) 41 0 i (pI g 41 0 i + nI za)) (m.fr f1 (by decide)) (by rw [f1.I (by decide)]; exact ep) (by omega) (by omega)
      refine ⟨g', ?_, f1.trans fr, fun t => ?_⟩
      · rw [L_X8_join_60, m.1, q_nle (by omega) (by omega), e, e_cl, if_neg (by decide)]
        simp (disch := omega) only [e_nn, e_onnN, e_onnS, e_ck, e_lt, e_cl, F_within, F_in, isz0, isz1, i10, ↓reduceIte, sl_RI, sl_CI, sl_LI, sl_IR, sl_CR, sl_LR, sl_II, sl_Ie, sl_RR, sl_Re, sl_CN, sl_Ce, sl_LN, sl_Le, sl_IN, sl_INe, sl_RN, sl_RNe, up2_s, up2_n, up1_s, up1_n, upN_s, upN_n, ne_eq, not_false_eq_true, reduceCtorEq, i_le, i_lt, i_eq, i_cl, i_inb, nI_add, nI_1, i_n1, i_1n, i_sub, m.r 18 (by decide), m.r 19 (by decide), m.r 27 (by decide), m.l 40 120 (by decide) (by decide), m.l 41 120 (by decide) (by decide), m.l 47 60 (by decide) (by decide), ep]
        exact e'
      · have := ht t
        by_cases et : t = i
        · subst et
          refine ⟨fun _ => ?_, fun hn => absurd ⟨Nat.le_refl _, by omega, c⟩ hn⟩
          obtain ⟨k1, k2⟩ := this.2 (fun q => by omega)
          rw [k1, k2]
          simp (disch := omega) only [sl_RI, sl_CI, sl_LI, sl_IR, sl_CR, sl_LR, sl_II, sl_Ie, sl_RR, sl_Re, sl_CN, sl_Ce, sl_LN, sl_Le, sl_IN, sl_INe, sl_RN, sl_RNe, up2_s, up2_n, up1_s, up1_n, upN_s, upN_n, ne_eq, not_false_eq_true, reduceCtorEq, and_self]
        · simp (disch := omega) only [sl_RI, sl_CI, sl_LI, sl_IR, sl_CR, sl_LR, sl_II, sl_Ie, sl_RR, sl_Re, sl_CN, sl_Ce, sl_LN, sl_Le, sl_IN, sl_INe, sl_RN, sl_RNe, up2_s, up2_n, up1_s, up1_n, upN_s, upN_n, ne_eq, not_false_eq_true, reduceCtorEq, ofm] at this
          refine ⟨fun q => this.1 ⟨by omega, q.2⟩, fun q => this.2 (fun q2 => q ⟨by omega, q2.2⟩)⟩
    · obtain ⟨g', e', fr, ht⟩ := ih (i + 1) f g m ep (by omega) (by omega)
      refine ⟨g', ?_, fr, fun t => ⟨fun q => ?_, fun q => (ht t).2 (fun q2 => q ⟨by omega, q2.2⟩)⟩⟩
      · rw [L_X8_join_60, m.1, q_nle (by omega) (by omega), e, e_cl, if_pos rfl, nI_1]
        exact e'
      · have : t ≠ i := fun e => c (e ▸ q.2.2)
        exact (ht t).1 ⟨by omega, q.2⟩
theorem SimG.tied (I : SimG nw z ro w tt q0 h) {r : Nat} (hr : r < pC h 2) (c0 : pI h 45 0 r = 0) : 0 < z r ∧ (∃ p, p < pC h 4 ∧ pR h 2 r 3 = some p ∧ pI h 46 0 r = nI p) ∧ pR h 2 r 4 = none ∧ pI h 48 0 r = -1 ∧ pI h 49 0 r = -1 := by
  have e := I.z47 hr
  have z8 := (I.rw.1 r hr).2.1
  rcases (I.rf r hr).2 with ⟨b1, -⟩ | ⟨b1, b2, b⟩ | ⟨b1, -⟩ | ⟨b1, -⟩
  · rw [c0] at b1; exact absurd b1 (by decide)
  · refine ⟨?_, b⟩
    by_cases c : z r = 0
    · rw [e, c] at b2; exact absurd rfl b2
    · omega
  · rw [c0] at b1; exact absurd b1 (by decide)
  · rw [c0] at b1; exact absurd b1 (by decide)
theorem op_join (I : SimG nw z ro w tt q0 h) (x y : Int32) : OP (F_X7_join 0 x y) (F_X8_join 0 x y) h := by
  have hR := I.c_hR
  have hS := I.c_hS
  have hT := I.c_hT
  rcases wi_ix x (n := pC h 2) (by omega) with ⟨e1, e2⟩ | ⟨e1, a, ha, rfl, e2⟩
  · refine OP.same I (r := 0) ?_ ?_
    · rw [F_X7_join, I.tiedN e2, e_cl]
      have : ∃ o, F_X7_tiedAt 0 y h = some (o, h) := by
        rcases wi_ix y (n := pC h 2) (by omega) with ⟨f1, f2⟩ | ⟨f1, b, hb, rfl, f2⟩
        · exact ⟨_, I.tiedN f2⟩
        · exact ⟨_, I.tiedS hb f2⟩
      obtain ⟨o, eo⟩ := this
      rw [eo, e_cl, e_onnN]
    · rw [F_X8_join, isRaftN I.c_j24 e1, e_cl, if_pos rfl]
  by_cases c0 : pI h 45 0 a = 0
  rotate_left
  · refine OP.same I (r := 0) ?_ ?_
    · rw [F_X7_join, I.tiedS ha e2, if_neg c0, e_cl]
      have : ∃ o, F_X7_tiedAt 0 y h = some (o, h) := by
        rcases wi_ix y (n := pC h 2) (by omega) with ⟨f1, f2⟩ | ⟨f1, b, hb, rfl, f2⟩
        · exact ⟨_, I.tiedN f2⟩
        · exact ⟨_, I.tiedS hb f2⟩
      obtain ⟨o, eo⟩ := this
      rw [eo, e_cl, e_onnN]
    · rw [F_X8_join, isRaftS hR ha I.c_j24 I.r8_25 I.l45_0 e1, if_neg c0, e_cl, if_pos rfl]
  have cA : F_X7_tiedAt 0 (nI a) h = some (some a, h) := by rw [I.tiedS ha e2, if_pos c0]
  have cM : F_X8_isRaft 0 (nI a) 0 h = some (1, h) := by rw [isRaftS hR ha I.c_j24 I.r8_25 I.l45_0 e1, if_pos c0]
  rcases wi_ix y (n := pC h 2) (by omega) with ⟨f1, f2⟩ | ⟨f1, b, hb, rfl, f2⟩
  · refine OP.same I (r := 0) ?_ ?_
    · rw [F_X7_join, cA, e_cl, I.tiedN f2, e_cl, e_onnS, e_onnN]
    · rw [F_X8_join, cM, e_cl, if_neg (by decide), isRaftN I.c_j24 f1, e_cl, if_pos rfl]
  by_cases d0 : pI h 45 0 b = 0
  rotate_left
  · refine OP.same I (r := 0) ?_ ?_
    · rw [F_X7_join, cA, e_cl, I.tiedS hb f2, if_neg d0, e_cl, e_onnS, e_onnN]
    · rw [F_X8_join, cM, e_cl, if_neg (by decide), isRaftS hR hb I.c_j24 I.r8_25 I.l45_0 f1, if_neg d0, e_cl, if_pos rfl]
  have dA : F_X7_tiedAt 0 (nI b) h = some (some b, h) := by rw [I.tiedS hb f2, if_pos d0]
  have dM : F_X8_isRaft 0 (nI b) 0 h = some (1, h) := by rw [isRaftS hR hb I.c_j24 I.r8_25 I.l45_0 f1, if_pos d0]
  by_cases hab : a = b
  · subst hab
    refine OP.same I (r := 0) ?_ ?_
    · rw [F_X7_join, cA, e_cl, cA, e_cl, e_onnS, e_onnS, if_pos rfl]
    · rw [F_X8_join, cM, e_cl, if_neg (by decide), cM, e_cl, if_neg (by decide), if_pos rfl]
  have nab : ¬ (some a = some b) := by simpa using hab
  obtain ⟨za, ⟨p, p1, p2, p3⟩, a4, a5, a6⟩ := I.tied ha c0
  obtain ⟨zb, ⟨q, q1, q2, q3⟩, b4, b5, b6⟩ := I.tied hb d0
  by_cases hpq : p = q
  rotate_left
  · refine OP.same I (r := 0) ?_ ?_
    · rw [F_X7_join, cA, e_cl, dA, e_cl, e_onnS, e_onnS, if_neg nab, p2, q2, if_neg (by simpa using hpq)]
    · rw [F_X8_join, cM, e_cl, if_neg (by decide), dM, e_cl, if_neg (by decide), q_ne hab (by omega) (by omega), I.r8_26, e_nn, I.l46_0, i_inb (by omega) (by omega), e_ck, i_inb (by omega) (by omega), e_ck, i_cl (by omega), i_cl (by omega), p3, q3, q_ne hpq (by omega) (by omega)]
  subst hpq
  obtain ⟨k1, k2, k3, k4, k5⟩ := I.rw.1 a ha
  obtain ⟨l1, l2, l3, l4, l5⟩ := I.rw.1 b hb
  by_cases h8 : z a + z b ≤ 8
  rotate_left
  · refine OP.same I (r := 0) ?_ ?_
    · rw [F_X7_join, cA, e_cl, dA, e_cl, e_onnS, e_onnS, if_neg nab, p2, q2, if_pos rfl, k1, l1, nI_add, q_nleR 8 (by omega) (by omega)]
    · rw [F_X8_join, cM, e_cl, if_neg (by decide), dM, e_cl, if_neg (by decide), q_ne hab (by omega) (by omega), I.r8_26, e_nn, I.l46_0, i_inb (by omega) (by omega), e_ck, i_inb (by omega) (by omega), e_ck, i_cl (by omega), i_cl (by omega), p3, q3, if_pos rfl, I.r8_27, e_nn, I.l47_0, i_inb (by omega) (by omega), e_ck, i_inb (by omega) (by omega), e_ck, I.z47 ha, I.z47 hb, nI_add, q_nleR 8 (by omega) (by omega)]
  obtain ⟨g1, ec, fc1, u1, u2, u3, u4, u5⟩ := move_l (a := a) (b := b) (zb := z b) (ρ := ro b) (ω := fun k => w (ro b k)) (τ := fun k => tt (ro b k)) hab l2 0 (fun h10 => lt (wI h10 2 b 2 (if (if (0 : Int32) < (0 : Int32) then (0 : Int32) else (0 : Int32)) < (pI h10 2 b 2) then (if (0 : Int32) < (0 : Int32) then (0 : Int32) else (0 : Int32)) else (pI h10 2 b 2))) fun h11 => some ((), h11)) (z b) 0 (z a) FU h (by omega) (by omega) (by unfold FU; omega) l1 l3 l4 k1 k3 k4 (I.rowA hb)
  have eb2 : pI g1 2 b 2 = nI (z b) := by rw [u1, up2_n _ _ _ (Ne.symm hab)]; exact l1
  have emv : F_X2_moveRows b 0 (some a) h = some ((), wI g1 2 b 2 0) := by
    rw [F_X2_moveRows]
    refine ec.trans ?_
    rw [show (if (0 : Int32) < 0 then (0 : Int32) else 0) = 0 from by decide, eb2, q_ltL 0 (by omega) (by omega), e_lt]
  obtain ⟨h1, hh1⟩ : ∃ h1, h1 = (wR (wI (wI g1 2 b 2 0) 2 b 2 0) 2 b 3 none) := ⟨_, rfl⟩
  have fc : Fr [2] [2, 6, 14] h h1 := by rw [hh1]; exact ((((fc1.mono (by decide) (by decide)).wI (by decide)).wI (by decide)).wR (by decide))
  have M : ME h h1 := fc.ME (by decide) (by decide)
  have w2 : pI h1 2 = up2 (up2 (pI h 2) a 2 (nI (z a + z b))) b 2 0 := by rw [hh1]; simp (disch := omega) only [sl_RI, sl_CI, sl_LI, sl_IR, sl_CR, sl_LR, sl_II, sl_Ie, sl_RR, sl_Re, sl_CN, sl_Ce, sl_LN, sl_Le, sl_IN, sl_INe, sl_RN, sl_RNe, up2_s, up2_n, up1_s, up1_n, upN_s, upN_n, ne_eq, not_false_eq_true, reduceCtorEq, u1, up2_up2]
  have v2 : pR h1 2 = up2 (pR h 2) b 3 none := by rw [hh1]; simp (disch := omega) only [sl_RI, sl_CI, sl_LI, sl_IR, sl_CR, sl_LR, sl_II, sl_Ie, sl_RR, sl_Re, sl_CN, sl_Ce, sl_LN, sl_Le, sl_IN, sl_INe, sl_RN, sl_RNe, up2_s, up2_n, up1_s, up1_n, upN_s, upN_n, ne_eq, not_false_eq_true, reduceCtorEq]; rw [fc1.R (by decide)]
  have v14 : pR h1 14 = pR g1 14 := by rw [hh1]; simp (disch := omega) only [sl_RI, sl_CI, sl_LI, sl_IR, sl_CR, sl_LR, sl_II, sl_Ie, sl_RR, sl_Re, sl_CN, sl_Ce, sl_LN, sl_Le, sl_IN, sl_INe, sl_RN, sl_RNe, up2_s, up2_n, up1_s, up1_n, upN_s, upN_n, ne_eq, not_false_eq_true, reduceCtorEq]
  have v6 : pR h1 6 = pR g1 6 := by rw [hh1]; simp (disch := omega) only [sl_RI, sl_CI, sl_LI, sl_IR, sl_CR, sl_LR, sl_II, sl_Ie, sl_RR, sl_Re, sl_CN, sl_Ce, sl_LN, sl_Le, sl_IN, sl_INe, sl_RN, sl_RNe, up2_s, up2_n, up1_s, up1_n, upN_s, upN_n, ne_eq, not_false_eq_true, reduceCtorEq]
  have z47a := I.z47 ha
  have z47b := I.z47 hb
  obtain ⟨g', em, fm, v3⟩ := join_l (a := a) (b := b) (za := z a) (T := pC h 6) (by omega) (by omega) (fun h39 => nn (pR h39 8 0 27) fun n40 => ck (inb (nI a) (pL h39 47 n40)) <| ck (inb (nI b) (pL h39 47 n40)) <| ck (inb (nI a) (pL h39 47 n40)) <| lt (wI h39 47 n40 a ((pI h39 47 n40 a) + (pI h39 47 n40 b))) fun h45 => cl (F_X8_ends 0 (nI b) h45) fun _ h48 => some ((1 : Int32), h48)) (pC h 6) 0 FU h1 (I.TL M) (by rw [M.I (by decide)]; exact z47a) (by omega) (by unfold FU; omega)
  have m38 : pI h1 38 = pI h 38 := M.I (by decide)
  have m40 : pI h1 40 = pI h 40 := M.I (by decide)
  have m41 : pI h1 41 = pI h 41 := M.I (by decide)
  simp only [ofm, m38, m40, m41] at v3
  have of1 : ∀ t, t < pC h 6 → ofm h b t → pI g' 40 0 t = nI a ∧ pI g' 41 0 t = pI h 41 0 t + nI (z a) := fun t ht o => (v3 t).1 ⟨by omega, ht, o⟩
  have of2 : ∀ t, ¬ ofm h b t → pI g' 40 0 t = pI h 40 0 t ∧ pI g' 41 0 t = pI h 41 0 t := fun t o => (v3 t).2 (fun q => o q.2.2)
  have of3 : ∀ t, t < pC h 6 → ofm h b t → pR h1 6 t 6 = some a ∧ pR h1 6 t 5 = none := fun t ht o => by
    obtain ⟨i, i1, i2⟩ := (I.of_iff hb ht).mpr o
    rw [v6]
    exact (u5 t).1 ⟨i, by omega, i1, i2⟩
  have of4 : ∀ t, t < pC h 6 → ¬ ofm h b t → pR h1 6 t = pR h 6 t := fun t ht o => by
    rw [v6]
    exact (u5 t).2 (fun ⟨i, _, q⟩ => o ((I.of_iff hb ht).mp ⟨i, q⟩))
  refine ⟨1, h1, (wI (wI (wI (wI (wI g' 47 0 a (nI (z a + z b))) 45 0 b 3) 47 0 b 0) 48 0 b (-1)) 49 0 b (-1)), ?_, ?_, nw, up1 (up1 z a (z a + z b)) b 0, fun r i => if r = a then (if i < z a then ro a i else ro b (i - z a)) else ro r i, w, tt, q0, ?_⟩
  · rw [F_X7_join, cA, e_cl, dA, e_cl, e_onnS, e_onnS, if_neg nab, p2, q2, if_pos rfl, k1, l1, nI_add, q_leR 8 (by omega) (by omega), emv, e_cl, F_X2_end, e_lt, e_lt, e_cl, hh1]
  · have cM1 : F_X8_isRaft 0 (nI a) 0 h1 = some (1, h1) := by rw [isRaftS (R := pC h 2) hR ha (by rw [M.I (by decide)]; exact I.c_j24) (by rw [M.R (by decide)]; exact I.r8_25) (by rw [M.L (by decide)]; exact I.l45_0) e1, M.I (k := 45) (by decide), if_pos c0]
    have dM1 : F_X8_isRaft 0 (nI b) 0 h1 = some (1, h1) := by rw [isRaftS (R := pC h 2) hR hb (by rw [M.I (by decide)]; exact I.c_j24) (by rw [M.R (by decide)]; exact I.r8_25) (by rw [M.L (by decide)]; exact I.l45_0) f1, M.I (k := 45) (by decide), if_pos d0]
    have TH := I.TL M
    have TG := TH.fr fm (by decide)
    have k47a : pI g' 47 0 a = nI (z a) := by rw [fm.I (by decide), M.I (by decide)]; exact z47a
    have k47b : pI g' 47 0 b = nI (z b) := by rw [fm.I (by decide), M.I (by decide)]; exact z47b
    rw [F_X8_join, cM1, e_cl, if_neg (by decide), dM1, e_cl, if_neg (by decide), q_ne hab (by omega) (by omega), TH.r 26 (by decide), e_nn, TH.l 46 60 (by decide) (by decide), i_inb (by omega) (by omega), e_ck, i_inb (by omega) (by omega), e_ck, i_cl (by omega), i_cl (by omega), M.I (k := 46) (by decide), p3, q3, if_pos rfl, TH.r 27 (by decide), e_nn, TH.l 47 60 (by decide) (by decide), i_inb (by omega) (by omega), e_ck, i_inb (by omega) (by omega), e_ck, M.I (k := 47) (by decide), z47a, z47b, nI_add, q_leR 8 (by omega) (by omega)]
    refine em.trans ?_
    rw [TG.r 27 (by decide), e_nn, TG.l 47 60 (by decide) (by decide), i_inb (by omega) (by omega), e_ck, i_inb (by omega) (by omega), e_ck, e_ck, k47a, k47b, nI_add, e_lt]
    have f5 : Fr [47] [] g' (wI g' 47 0 a (nI (z a + z b))) := (Fr.refl _ _ _).wI (by decide)
    rw [F_ends (TG.fr f5 (by decide)) (by omega), e_cl]
  · unfold SimG
    simp (disch := omega) only [sl_RI, sl_CI, sl_LI, sl_IR, sl_CR, sl_LR, sl_II, sl_Ie, sl_RR, sl_Re, sl_CN, sl_Ce, sl_LN, sl_Le, sl_IN, sl_INe, sl_RN, sl_RNe, up2_s, up2_n, up1_s, up1_n, upN_s, upN_n, ne_eq, not_false_eq_true, reduceCtorEq]
    simp (disch := decide) only [fm.I, fm.R, fm.L, fm.C]
    simp (disch := decide) only [fc.I, fc.R, fc.L, fc.C, w2, v2]
    have hba : b ≠ a := Ne.symm hab
    refine ⟨I.w7, I.w1, I.w5, I.w8, I.ln, I.ct, I.a19, I.a20, I.a21, I.a22, I.st, I.sb, ?_, ?_, ?_, ?_, ?_, I.to, I.pr, I.gnw, I.tk, I.rg, I.ba, I.so⟩
    · refine ⟨fun t ht => ?_, I.tr.2⟩
      by_cases o : ofm h b t
      · obtain ⟨x1, x2⟩ := of1 t ht o
        obtain ⟨y1, y2⟩ := of3 t ht o
        obtain ⟨s1, s2, s3⟩ := I.tr.1 t ht
        refine ⟨s1, s2, Or.inr (Or.inl ⟨o.1, y2, ⟨a, ha, y1, x1⟩, ?_⟩)⟩
        rcases s3 with ⟨c1, -⟩ | ⟨-, -, -, c⟩ | ⟨c1, -⟩ | ⟨c1, -⟩
        · rw [o.1] at c1; exact absurd c1 (by decide)
        · exact c
        · rw [o.1] at c1; exact absurd c1 (by decide)
        · rw [o.1] at c1; exact absurd c1 (by decide)
      · rw [(of2 t o).1, of4 t ht o]
        exact I.tr.1 t ht
    · intro r' hr'
      by_cases e : r' = b
      · subst e
        obtain ⟨⟨s1, s2, s3, -⟩, -⟩ := I.rf r' hr'
        simp (disch := omega) only [sl_RI, sl_CI, sl_LI, sl_IR, sl_CR, sl_LR, sl_II, sl_Ie, sl_RR, sl_Re, sl_CN, sl_Ce, sl_LN, sl_Le, sl_IN, sl_INe, sl_RN, sl_RNe, up2_s, up2_n, up1_s, up1_n, upN_s, upN_n, ne_eq, not_false_eq_true, reduceCtorEq]
        exact ⟨⟨s1, trivial, s3.trans b6, 0, by omega, rfl⟩, Or.inl ⟨trivial, trivial, trivial, b4, trivial, trivial⟩⟩
      · by_cases e' : r' = a
        · subst e'
          obtain ⟨⟨s1, s2, s3, -⟩, -⟩ := I.rf r' hr'
          simp (disch := omega) only [sl_RI, sl_CI, sl_LI, sl_IR, sl_CR, sl_LR, sl_II, sl_Ie, sl_RR, sl_Re, sl_CN, sl_Ce, sl_LN, sl_Le, sl_IN, sl_INe, sl_RN, sl_RNe, up2_s, up2_n, up1_s, up1_n, upN_s, upN_n, ne_eq, not_false_eq_true, reduceCtorEq]
          refine ⟨⟨s1, trivial, s3, z r' + z b, h8, rfl⟩, Or.inr (Or.inl ⟨c0, ?_, ⟨p, p1, p2, p3⟩, a4, a5, a6⟩)⟩
          rw [i_eqL 0 (by omega) (by omega)]; omega
        · have := I.rf r' hr'
          simpa (disch := omega) only [sl_RI, sl_CI, sl_LI, sl_IR, sl_CR, sl_LR, sl_II, sl_Ie, sl_RR, sl_Re, sl_CN, sl_Ce, sl_LN, sl_Le, sl_IN, sl_INe, sl_RN, sl_RNe, up2_s, up2_n, up1_s, up1_n, upN_s, upN_n, ne_eq, not_false_eq_true, reduceCtorEq] using this
    · refine ⟨fun c hc => ?_, I.cr.2⟩
      obtain ⟨q1, q2⟩ := I.cr.1 c hc
      refine ⟨q1, ?_⟩
      rcases q2 with q2 | ⟨d1, d2, ⟨d, d3, d4, d5, d6⟩, d7⟩ | q2
      · exact Or.inl q2
      · have : d ≠ b := by rintro rfl; rw [d0] at d6; rcases d6 with d6 | d6 <;> exact absurd d6 (by decide)
        exact Or.inr (Or.inl ⟨d1, d2, ⟨d, d3, d4, by simpa (disch := omega) only [sl_RI, sl_CI, sl_LI, sl_IR, sl_CR, sl_LR, sl_II, sl_Ie, sl_RR, sl_Re, sl_CN, sl_Ce, sl_LN, sl_Le, sl_IN, sl_INe, sl_RN, sl_RNe, up2_s, up2_n, up1_s, up1_n, upN_s, upN_n, ne_eq, not_false_eq_true, reduceCtorEq] using d5, by simpa (disch := omega) only [sl_RI, sl_CI, sl_LI, sl_IR, sl_CR, sl_LR, sl_II, sl_Ie, sl_RR, sl_Re, sl_CN, sl_Ce, sl_LN, sl_Le, sl_IN, sl_INe, sl_RN, sl_RNe, up2_s, up2_n, up1_s, up1_n, upN_s, upN_n, ne_eq, not_false_eq_true, reduceCtorEq] using d6⟩, d7⟩)
      · exact Or.inr (Or.inr q2)
    · obtain ⟨j1, j2, j3, j4⟩ := I.rw
      refine ⟨fun r hr => ?_, j2, fun r hr i hi j hj => ?_, fun t ht hm => ?_⟩
      · obtain ⟨s1, s2, s3, s4, s5⟩ := j1 r hr
        by_cases e : r = b
        · subst e
          simp (disch := omega) only [sl_RI, sl_CI, sl_LI, sl_IR, sl_CR, sl_LR, sl_II, sl_Ie, sl_RR, sl_Re, sl_CN, sl_Ce, sl_LN, sl_Le, sl_IN, sl_INe, sl_RN, sl_RNe, up2_s, up2_n, up1_s, up1_n, upN_s, upN_n, ne_eq, not_false_eq_true, reduceCtorEq]
          exact ⟨rfl, by omega, s3, s4, fun i hi => by omega⟩
        · by_cases e' : r = a
          · subst e'
            simp (disch := omega) only [sl_RI, sl_CI, sl_LI, sl_IR, sl_CR, sl_LR, sl_II, sl_Ie, sl_RR, sl_Re, sl_CN, sl_Ce, sl_LN, sl_Le, sl_IN, sl_INe, sl_RN, sl_RNe, up2_s, up2_n, up1_s, up1_n, upN_s, upN_n, ne_eq, not_false_eq_true, reduceCtorEq, ↓reduceIte]
            refine ⟨trivial, h8, s3, s4, fun i hi => ?_⟩
            rw [v14]
            by_cases ci : i < z r
            · rw [if_pos ci, u3 i ci]
              exact s5 i ci
            · rw [if_neg ci]
              have := u4 (i - z r) (by omega)
              rw [show z r + (i - z r) = i by omega, Nat.zero_add] at this
              exact ⟨this, (l5 (i - z r) (by omega)).2⟩
          · simp (disch := omega) only [sl_RI, sl_CI, sl_LI, sl_IR, sl_CR, sl_LR, sl_II, sl_Ie, sl_RR, sl_Re, sl_CN, sl_Ce, sl_LN, sl_Le, sl_IN, sl_INe, sl_RN, sl_RNe, up2_s, up2_n, up1_s, up1_n, upN_s, upN_n, ne_eq, not_false_eq_true, reduceCtorEq, if_neg e']
            rw [v14, u2 r e']
            exact ⟨s1, s2, s3, s4, s5⟩
      · by_cases e : r = b
        · subst e
          rw [up1_s] at hi; omega
        · rw [up1_n _ _ e] at hi
          by_cases e' : r = a
          · subst e'
            rw [up1_s] at hi
            simp only [↓reduceIte] at hj ⊢
            by_cases ci : i < z r
            · rw [if_pos ci] at hj ⊢
              obtain ⟨t1, t2, t3, t4⟩ := I.of_m ha ci hj
              have no : ¬ ofm h b (tt (ro r i) j) := fun o => hab (by
                have := t1.2.symm.trans o.2
                rw [i_eq (by omega) (by omega)] at this; exact this)
              rw [(of2 _ no).1, (of2 _ no).2]
              exact ⟨t1.1, t1.2, t3, t4⟩
            · rw [if_neg ci] at hj ⊢
              obtain ⟨t1, t2, t3, t4⟩ := I.of_m hb (show i - z r < z b by omega) hj
              rw [(of1 _ t2 t1).1, (of1 _ t2 t1).2, t3, nI_add, show i - z r + z r = i by omega]
              exact ⟨t1.1, rfl, rfl, t4⟩
          · rw [up1_n _ _ e'] at hi
            simp only [if_neg e'] at hj ⊢
            obtain ⟨t1, t2, t3, t4⟩ := I.of_m hr hi hj
            have no : ¬ ofm h b (tt (ro r i) j) := fun o => e (by
              have := t1.2.symm.trans o.2
              rw [i_eq (by omega) (by omega)] at this; exact this)
            rw [(of2 _ no).1, (of2 _ no).2]
            exact ⟨t1.1, t1.2, t3, t4⟩
      · obtain ⟨r, hr, i, hi, j, hj, e⟩ := j4 t ht hm
        by_cases e1 : r = b
        · subst e1
          refine ⟨a, ha, i + z a, ?_, j, ?_, ?_⟩
          · rw [up1_n _ _ hab, up1_s]; omega
          · simp only [↓reduceIte, if_neg (show ¬ i + z a < z a by omega), Nat.add_sub_cancel]; exact hj
          · simp only [↓reduceIte, if_neg (show ¬ i + z a < z a by omega), Nat.add_sub_cancel]; exact e
        · by_cases e' : r = a
          · subst e'
            refine ⟨r, hr, i, ?_, j, ?_, ?_⟩
            · rw [up1_n _ _ hab, up1_s]; omega
            · simp only [↓reduceIte, if_pos hi]; exact hj
            · simp only [↓reduceIte, if_pos hi]; exact e
          · refine ⟨r, hr, i, ?_, j, ?_, ?_⟩
            · rw [up1_n _ _ e1, up1_n _ _ e']; exact hi
            · simp only [if_neg e']; exact hj
            · simp only [if_neg e']; exact e
    · obtain ⟨g1, g2, g3, g4, g5, g6⟩ := I.nx
      refine ⟨g1, g2, g3, g4, fun r hr i hi => ?_, g6⟩
      by_cases e : r = b
      · subst e
        rw [up1_s] at hi; omega
      · rw [up1_n _ _ e] at hi
        by_cases e' : r = a
        · subst e'
          rw [up1_s] at hi
          simp only [↓reduceIte]
          by_cases ci : i < z r
          · rw [if_pos ci]; exact g5 r hr i ci
          · rw [if_neg ci]; exact g5 b hb _ (by omega)
        · rw [up1_n _ _ e'] at hi
          simp only [if_neg e']
          exact g5 r hr i hi
end OPS
