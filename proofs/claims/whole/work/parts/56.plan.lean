section OPS
variable {nw : Nat} {z : Nat → Nat} {ro : Nat → Nat → Nat} {w : Nat → Nat} {tt : Nat → Nat → Nat} {q0 : Nat} {h : Hp}
theorem wi_1 {x b : Int32} (e : wi x 0 b = 0) : wi x 1 b = 0 := by
  unfold wi at e ⊢
  by_cases c : x < 1
  · rw [if_pos c]
  · rw [if_neg c]
    have : ¬ x < 0 := fun d => c (by
      rw [Int32.lt_iff_toInt_lt] at d ⊢
      have e0 : (0 : Int32).toInt = 0 := by decide
      have e1 : (1 : Int32).toInt = 1 := by decide
      omega)
    rw [if_neg this] at e
    split at e
    · rename_i q; rw [if_pos q]
    · exact absurd e (by decide)
theorem wi_m2 (x : Int32) : wi x 0 (-1 - 1) = 0 := by
  unfold wi
  by_cases c : x < 0
  · rw [if_pos c]
  · rw [if_neg c, if_pos]
    rw [Int32.lt_iff_toInt_lt] at c ⊢
    have e0 : (0 : Int32).toInt = 0 := by decide
    have e1 : (-1 - 1 : Int32).toInt = -2 := by decide
    omega
theorem wi_m1 (x : Int32) : wi x 0 (0 - 1) = 0 := by
  unfold wi
  by_cases c : x < 0
  · rw [if_pos c]
  · rw [if_neg c, if_pos]
    rw [Int32.lt_iff_toInt_lt] at c ⊢
    have e0 : (0 : Int32).toInt = 0 := by decide
    have e1 : (0 - 1 : Int32).toInt = -1 := by decide
    omega
theorem plan_pair (I : SimG nw z ro w tt q0 h) (x : Int32) : ∃ g1 g2 t, F_X7_makePlan 0 x h = some ((), g1) ∧ F_X8_tries 0 x g1 = some (t, g2) ∧ Fr [1, 10, 11, 12, 13] [9] h g1 ∧ Fr [63, 64, 65, 66, 67] [] g1 g2 ∧
    ((pI g1 1 0 6 = 0 ∧ t = -1) ∨ ∃ n, n ≤ 5 ∧ pI g1 1 0 6 = nI n ∧ t = nI n ∧ ∀ k, k < n → (∃ j r, j < 5 ∧ pI g1 12 0 k = nI j ∧ pR g1 9 0 j = some r ∧ pI g1 2 r 0 = pI g2 66 0 k) ∧ pI g1 13 0 k = pI g2 67 0 k) := by
  have hS := I.c_hS
  have hR := I.c_hR
  have hT := I.c_hT
  obtain ⟨n1, n2, n3⟩ := I.gnw
  have fc : Fr [1, 10] [9] h (wI (wI (wI h 1 0 5 0) 1 0 6 0) 1 0 7 (-1)) := (((Fr.refl _ _ _).wI (by decide)).wI (by decide)).wI (by decide)
  have Ic : SimG nw z ro w tt q0 (wI (wI (wI h 1 0 5 0) 1 0 6 0) 1 0 7 (-1)) := I.frP (fc.mono (by decide) (by decide))
  have c6 : pI (wI (wI (wI h 1 0 5 0) 1 0 6 0) 1 0 7 (-1)) 1 0 6 = 0 := by simp (disch := omega) only [sl_RI, sl_CI, sl_LI, sl_IR, sl_CR, sl_LR, sl_II, sl_Ie, sl_RR, sl_Re, sl_CN, sl_Ce, sl_LN, sl_Le, sl_IN, sl_INe, sl_RN, sl_RNe, up2_s, up2_n, up1_s, up1_n, upN_s, upN_n, ne_eq, not_false_eq_true, reduceCtorEq]
  have headC : F_X7_makePlan 0 x h = onn (ixo x (pC h 4)) (some ((), (wI (wI (wI h 1 0 5 0) 1 0 6 0) 1 0 7 (-1)))) fun n10 => onn (pR (wI (wI (wI h 1 0 5 0) 1 0 6 0) 1 0 7 (-1)) 4 n10 1) (some ((), (wI (wI (wI h 1 0 5 0) 1 0 6 0) 1 0 7 (-1)))) fun n12 => L_X7_makePlan_27 0 n10 (fun h40 => nn (pR h40 7 0 13) fun n41 => cl (F_X1_work n41 (some n10) (pI h40 7 0 14) h40) fun _ h44 => some ((), h44)) FU (0 : Int32) (wI (wI (wI h 1 0 5 0) 1 0 6 0) 1 0 7 (-1)) := by
    rw [F_X7_makePlan, I.r7_13, e_nn, F_X1_clear, e_lt, e_lt, e_lt, e_cl, Ic.stationAt, e_cl, show pC (wI (wI (wI h 1 0 5 0) 1 0 6 0) 1 0 7 (-1)) 4 = pC h 4 from rfl]
  have bad : wi x 1 (nI (pC h 4) - 1) = 0 → F_X8_tries 0 x (wI (wI (wI h 1 0 5 0) 1 0 6 0) 1 0 7 (-1)) = some (-1, (wI (wI (wI h 1 0 5 0) 1 0 6 0) 1 0 7 (-1))) := by
    intro e
    rw [F_X8_tries, Ic.c_j1, F_in, e_cl]
    rw [show pC (wI (wI (wI h 1 0 5 0) 1 0 6 0) 1 0 7 (-1)) 4 = pC h 4 from rfl, e, if_pos rfl]
  rcases wi_ix x (n := pC h 4) (by omega) with ⟨e1, e2⟩ | ⟨e1, s, hs, rfl, e2⟩
  · exact ⟨(wI (wI (wI h 1 0 5 0) 1 0 6 0) 1 0 7 (-1)), (wI (wI (wI h 1 0 5 0) 1 0 6 0) 1 0 7 (-1)), -1, by rw [headC, e2, e_onnN], bad (wi_1 e1), fc.mono (by decide) (by decide), Fr.refl _ _ _, Or.inl ⟨c6, rfl⟩⟩
  by_cases s0 : s = 0
  · subst s0
    have eb := (I.st.1 0 hs).2.2.2.2.2.2.2.2.2.2.1 rfl
    refine ⟨(wI (wI (wI h 1 0 5 0) 1 0 6 0) 1 0 7 (-1)), (wI (wI (wI h 1 0 5 0) 1 0 6 0) 1 0 7 (-1)), -1, ?_, bad ?_, fc.mono (by decide) (by decide), Fr.refl _ _ _, Or.inl ⟨c6, rfl⟩⟩
    · rw [headC, e2, e_onnS, show pR (wI (wI (wI h 1 0 5 0) 1 0 6 0) 1 0 7 (-1)) 4 0 1 = none from eb, e_onnN]
    · unfold wi; rw [if_pos (show nI 0 < 1 by decide)]
  obtain ⟨bl, -, bl2, -⟩ := (I.st.1 s hs).2.2.2.2.2.2.2.2.2.2.2 (by omega)
  obtain ⟨⟨hh, wd, fl, hd, pd, s1, s2, s3, s4, s5, s6, s7, s8, s9, s10, s11⟩, -⟩ := I.sb s hs
  obtain ⟨y0, y2, y3, y4, y5, y6, y7, -⟩ := I.st.1 s hs
  have e1' : wi (nI s) 1 (nI (pC h 4) - 1) = 1 := by
    unfold wi at e1 ⊢
    rw [q_nltR 1 (by omega) (by omega)]
    rw [if_neg (nI_pos (by omega))] at e1
    exact e1
  obtain ⟨g1, eg1, A⟩ := adm_c I hs (fun h40 => nn (pR h40 7 0 13) fun n41 => cl (F_X1_work n41 (some s) (pI h40 7 0 14) h40) fun _ h44 => some ((), h44)) (pC h 2) 0 FU (wI (wI (wI h 1 0 5 0) 1 0 6 0) 1 0 7 (-1)) (by omega) (by unfold FU; omega) ⟨fc, by simp (disch := omega) only [sl_RI, sl_CI, sl_LI, sl_IR, sl_CR, sl_LR, sl_II, sl_Ie, sl_RR, sl_Re, sl_CN, sl_Ce, sl_LN, sl_Le, sl_IN, sl_INe, sl_RN, sl_RNe, up2_s, up2_n, up1_s, up1_n, upN_s, upN_n, ne_eq, not_false_eq_true, reduceCtorEq]; rfl, c6, by simp (disch := omega) only [sl_RI, sl_CI, sl_LI, sl_IR, sl_CR, sl_LR, sl_II, sl_Ie, sl_RR, sl_Re, sl_CN, sl_Ce, sl_LN, sl_Le, sl_IN, sl_INe, sl_RN, sl_RNe, up2_s, up2_n, up1_s, up1_n, upN_s, upN_n, ne_eq, not_false_eq_true, reduceCtorEq], fun k r hk hr => by simp [al] at hr⟩
  obtain ⟨f1, b5, b6, b7, bk⟩ := A
  have fP1 : Fr [1, 10, 11, 12, 13, 63, 64, 65, 66, 67] [9] h g1 := f1.mono (by decide) (by decide)
  have I1 := I.frP fP1
  have headC2 : F_X7_makePlan 0 (nI s) h = cl (F_X1_work 0 (some s) (nI nw) g1) fun _ h44 => some ((), h44) := by
    rw [headC, e2, e_onnS, show pR (wI (wI (wI h 1 0 5 0) 1 0 6 0) 1 0 7 (-1)) 4 s 1 = some bl from bl2, e_onnS]
    refine eg1.trans ?_
    rw [I1.r7_13, e_nn, I1.gnw.1]
  have headM : ∀ g, Fr [1, 10, 11, 12, 13, 63, 64, 65, 66, 67] [9] h g → F_X8_tries 0 (nI s) g = L_X8_tries_20 0 (nI s) (fun k34 h35 =>
      if k34 = 0 then
      L_X8_tries_118 0 (nI s) k34 (fun k75 h76 =>
      L_X8_tries_141 0 (nI s) k34 k75 (fun k77 h78 =>
      if k77 = (-1 : Int32) then
      some ((-1 : Int32), h78)
      else
      some (k34, h78)) FU (-1 : Int32) (0 : Int32) h76) FU (0 : Int32) (2 : Int32) h35
      else
      L_X8_tries_118 0 (nI s) k34 (fun k38 h39 =>
      L_X8_tries_141 0 (nI s) k34 k38 (fun k72 h73 =>
      if k72 = (-1 : Int32) then
      some ((-1 : Int32), h73)
      else
      some (k34, h73)) FU (-1 : Int32) (0 : Int32) h39) FU (1 : Int32) (2 : Int32) h35) (fun h80 =>
      some ((-1 : Int32), h80)) FU (nI 0) (nI 0) g := by
    intro g f
    have I' := I.frP f
    have ej : pI g 8 0 1 = nI (pC h 4) := by rw [f.I (by decide)]; exact I.c_j1
    rw [F_X8_tries, ej, F_in, e1', e_cl, if_neg (by decide)]
    rfl
  have hl := al_le (adm := adm h z ro s) (i := pC h 2)
  obtain ⟨n, hn⟩ : ∃ n, n = (al (adm h z ro s) (pC h 2)).length := ⟨_, rfl⟩
  rw [← hn] at b5 hl
  have none_case : ∀ g, F_X7_makePlan 0 (nI s) h = some ((), g) → g = g1 → (n = 0 ∨ 5 < n) → ∃ g1 g2 t, F_X7_makePlan 0 (nI s) h = some ((), g1) ∧ F_X8_tries 0 (nI s) g1 = some (t, g2) ∧ Fr [1, 10, 11, 12, 13] [9] h g1 ∧ Fr [63, 64, 65, 66, 67] [] g1 g2 ∧
    ((pI g1 1 0 6 = 0 ∧ t = -1) ∨ ∃ n, n ≤ 5 ∧ pI g1 1 0 6 = nI n ∧ t = nI n ∧ ∀ k, k < n → (∃ j r, j < 5 ∧ pI g1 12 0 k = nI j ∧ pR g1 9 0 j = some r ∧ pI g1 2 r 0 = pI g2 66 0 k) ∧ pI g1 13 0 k = pI g2 67 0 k) := by
    intro g eg e hno
    subst e
    obtain ⟨g2, f2, hh⟩ := adm_m I hs (fun k34 h35 =>
      if k34 = 0 then
      L_X8_tries_118 0 (nI s) k34 (fun k75 h76 =>
      L_X8_tries_141 0 (nI s) k34 k75 (fun k77 h78 =>
      if k77 = (-1 : Int32) then
      some ((-1 : Int32), h78)
      else
      some (k34, h78)) FU (-1 : Int32) (0 : Int32) h76) FU (0 : Int32) (2 : Int32) h35
      else
      L_X8_tries_118 0 (nI s) k34 (fun k38 h39 =>
      L_X8_tries_141 0 (nI s) k34 k38 (fun k72 h73 =>
      if k72 = (-1 : Int32) then
      some ((-1 : Int32), h73)
      else
      some (k34, h73)) FU (-1 : Int32) (0 : Int32) h39) FU (1 : Int32) (2 : Int32) h35) (fun h80 =>
      some ((-1 : Int32), h80)) (pC h 2) 0 FU g (by omega) (by unfold FU; omega) fP1 (by simp [al]) (fun k r hr => by simp [al] at hr)
    refine ⟨g, g2, -1, eg, ?_, f1.mono (by decide) (by decide), f2.mono (by decide) (by decide), Or.inl ⟨b6, rfl⟩⟩
    rw [headM g fP1]
    rcases hh with ⟨k1, k2, -⟩ | ⟨-, k2⟩
    · refine k2.trans ?_
      rw [← hn] at k1 ⊢
      have : n = 0 := by omega
      subst this
      rw [if_pos (show nI 0 = (0 : Int32) from rfl)]
      have e : FU = 4999 + 1 := rfl
      rw [e, L_X8_tries_118, if_pos (by decide), L_X8_tries_141, if_pos (by decide), if_pos rfl]
    · exact k2
  by_cases n0 : n = 0
  · subst n0
    refine none_case g1 ?_ rfl (Or.inl rfl)
    rw [headC2, F_X1_work, b5, if_pos (show nI 0 = (0 : Int32) from rfl), e_cl]
  by_cases n5 : 5 < n
  · refine none_case g1 ?_ rfl (Or.inr n5)
    rw [headC2, F_X1_work, b5, q_neR 0 n0 (by omega) (by omega), q_nleR 5 n5 (by omega), e_cl]
  have hn5 : n ≤ 5 := by omega
  obtain ⟨rf, hrf⟩ : ∃ rf : Nat → Nat, rf = fun j => (al (adm h z ro s) (pC h 2)).getD j 0 := ⟨_, rfl⟩
  have rfs : ∀ j, j < n → (al (adm h z ro s) (pC h 2))[j]? = some (rf j) := by
    intro j hj
    rw [hrf]
    rw [List.getElem?_eq_getElem (by omega)]
    show some _ = some ((al (adm h z ro s) (pC h 2)).getD j 0)
    rw [List.getD_eq_getElem?_getD, List.getElem?_eq_getElem (by omega)]
    rfl
  have rfm : ∀ j, j < n → rf j < pC h 2 ∧ nI (5 * z (rf j)) ≤ pI h 29 0 s := by
    intro j hj
    have := List.mem_of_getElem? (rfs j hj)
    unfold al at this
    rw [List.mem_filter, List.mem_range] at this
    exact ⟨this.1, (of_decide_eq_true this.2).2.2.2⟩
  have hzf : ∀ j, j < n → z (rf j) ≤ 8 ∧ 5 * z (rf j) ≤ hd := by
    intro j hj
    obtain ⟨m1, m2⟩ := rfm j hj
    have z8 := (I.rw.1 _ m1).2.1
    rw [s4, i_le (by omega) (by omega)] at m2
    exact ⟨z8, m2⟩
  have h120 := fct_le hn5
  have hfp := fct_pos n
  have pb : PB n s fl hd pd rf (fun j => z (rf j)) g1 := by
    refine ⟨b5, ⟨I1.r1_0, I1.r1_1, I1.r1_2, I1.r1_3, I1.r1_4⟩, ⟨I1.l9_0, I1.l10_0, I1.l11_0, I1.l12_0, I1.l13_0⟩, by rw [f1.I (by decide), y4]; exact s3, by rw [f1.I (by decide), y5]; exact s4, by rw [f1.I (by decide), y7]; exact s5, fun j hj => ⟨(bk j _ (by omega) (rfs j hj)).1, ?_⟩⟩
    rw [f1.I (by decide)]
    exact (I.rw.1 _ (rfm j hj).1).1
  obtain ⟨g2, e2w, pb2, bc2, f2⟩ := work_l (s := s) (rf := rf) (zf := fun j => z (rf j)) (nw := nw) (fl := fl) (hd := hd) (pd := pd) hn5 n3 s8 s9 s10 hzf (fun h29 => some ((), h29)) (fct n - 1) 0 FU g1 (by omega) (by unfold FU; omega) pb (fun k hk => by rw [prm_0 hn5 hk]; exact (bk k _ (by omega) (rfs k hk)).2) ⟨b7, b6⟩
  have fP2 : Fr [1, 10, 11, 12, 13] [9] h g2 := (f1.mono (by decide) (by decide)).trans (f2.mono (by decide) (by decide))
  have fP2' : Fr [1, 10, 11, 12, 13, 63, 64, 65, 66, 67] [9] h g2 := fP2.mono (by decide) (by decide)
  have I2 := I.frP fP2'
  have eC : F_X7_makePlan 0 (nI s) h = some ((), g2) := by
    rw [headC2, F_X1_work, b5, q_neR 0 n0 (by omega) (by omega), q_leR 5 hn5 (by omega)]
    rw [show (L_X1_work_21 0 (some s) (nI nw) (fun h29 => some ((), h29)) FU 1 0 g1) = some ((), g2) from e2w, e_cl]
  obtain ⟨g3, f3, hm⟩ := adm_m I hs (fun k34 h35 =>
      if k34 = 0 then
      L_X8_tries_118 0 (nI s) k34 (fun k75 h76 =>
      L_X8_tries_141 0 (nI s) k34 k75 (fun k77 h78 =>
      if k77 = (-1 : Int32) then
      some ((-1 : Int32), h78)
      else
      some (k34, h78)) FU (-1 : Int32) (0 : Int32) h76) FU (0 : Int32) (2 : Int32) h35
      else
      L_X8_tries_118 0 (nI s) k34 (fun k38 h39 =>
      L_X8_tries_141 0 (nI s) k34 k38 (fun k72 h73 =>
      if k72 = (-1 : Int32) then
      some ((-1 : Int32), h73)
      else
      some (k34, h73)) FU (-1 : Int32) (0 : Int32) h39) FU (1 : Int32) (2 : Int32) h35) (fun h80 =>
      some ((-1 : Int32), h80)) (pC h 2) 0 FU g2 (by omega) (by unfold FU; omega) fP2' (by simp [al]) (fun k r hr => by simp [al] at hr)
  rcases hm with ⟨-, em, wk⟩ | ⟨q, -⟩
  rotate_left
  · omega
  rw [← hn] at em
  have fP3 : Fr [1, 10, 11, 12, 13, 63, 64, 65, 66, 67] [9] h g3 := fP2'.trans (f3.mono (by decide) (by decide))
  have I3 := I.frP fP3
  have mb : MB (pC h 6) n s fl hd pd nw rf (fun j => z (rf j)) g3 := by
    have TG : TL (pC h 6) g3 := by
      have := I3.TL (ME.refl g3)
      rw [fP3.C] at this
      exact this
    refine ⟨TG, by rw [fP3.I (by decide)]; exact s3, by rw [fP3.I (by decide)]; exact s4, by rw [fP3.I (by decide)]; exact s5, I3.gnw.2.1, fun j hj => ⟨wk j _ (rfs j hj), by have := (rfm j hj).1; omega, ?_⟩⟩
    rw [fP3.I (by decide)]
    exact I.z47 (rfm j hj).1
  obtain ⟨g4, e4, bm4, f4⟩ := tries_l (T := pC h 6) (s := s) (rf := rf) (zf := fun j => z (rf j)) (nw := nw) (fl := fl) (hd := hd) (pd := pd) hn5 (by omega) n3 s8 s9 s10 hzf (fun k72 h73 => if k72 = (-1 : Int32) then some ((-1 : Int32), h73) else some (nI n, h73)) (fct n) 0 FU g3 (by omega) (by unfold FU; omega) mb (fun q hq => by cases hq)
  have eM : F_X8_tries 0 (nI s) g2 = if vB (upB (EV1 n fl hd pd nw (fun j => z (rf j))) (fct n)) = (-1 : Int32) then some ((-1 : Int32), g4) else some (nI n, g4) := by
    rw [headM g2 fP2']
    refine em.trans ?_
    rw [q_neR 0 n0 (by omega) (by omega), fac_m hn5]
    exact e4
  have f24 : Fr [63, 64, 65, 66, 67] [] g2 g4 := (f3.mono (by decide) (by decide)).trans (f4.mono (by decide) (by decide))
  cases eb : upB (EV1 n fl hd pd nw (fun j => z (rf j))) (fct n) with
  | none =>
    rw [eb] at bc2 eM
    refine ⟨g2, g4, -1, eC, ?_, fP2, f24, Or.inl ⟨bc2.2, rfl⟩⟩
    rw [eM, show vB none = -1 from rfl, if_pos rfl]
  | some q =>
    rw [eb] at bc2 eM bm4
    have hq := upB_lt eb
    have hs2 := EV1_le hn5 hq.1 n3 (fun j hj => (hzf j hj).1) hq.2
    refine ⟨g2, g4, nI n, eC, ?_, fP2, f24, Or.inr ⟨n, hn5, bc2.2.1, rfl, fun k hk => ?_⟩⟩
    · rw [eM, show vB (some q) = nI (sumL q.2) from rfl, q_m1 (by omega)]
    · obtain ⟨d1, d2⟩ := bc2.2.2 k hk
      obtain ⟨m1, m2⟩ := bm4 q rfl k hk
      have pl := prm_lt hn5 hq.1 hk
      refine ⟨⟨prm n q.1 k, rf (prm n q.1 k), by omega, d1, (pb2.2.2.2.2.2.2 _ pl).1, ?_⟩, by rw [d2, m2]⟩
      rw [m1, fP2.I (by decide)]
      exact (I.rf _ (rfm _ pl).1).1.1
theorem op_best (I : SimG nw z ro w tt q0 h) (x y : Int32) : OP (F_X7_best 0 x y) (F_X8_best 0 x y) h := by
  obtain ⟨g1, g2, t, e1, e2, f1, f2, hh⟩ := plan_pair I x
  have fP2 : Fr [1, 10, 11, 12, 13, 63, 64, 65, 66, 67] [9] h g2 := (f1.mono (by decide) (by decide)).trans (f2.mono (by decide) (by decide))
  have I1 := I.frP (f1.mono (by decide) (by decide) : Fr [1, 10, 11, 12, 13, 63, 64, 65, 66, 67] [9] h g1)
  have I2 := I.frP fP2
  rcases hh with ⟨h6, rfl⟩ | ⟨n, hn, h6, rfl, hk⟩
  · refine ⟨-1, g1, g2, ?_, ?_, nw, z, ro, w, tt, q0, I2⟩
    · rw [F_X7_best, e1, e_cl, I1.r7_13, e_nn, F_X1_raftIn, h6, F_within, wi_m1, e_cl, if_pos rfl, e_cl]
    · rw [F_X8_best, e2, e_cl, F_in, wi_m2, e_cl, if_pos rfl]
  · rcases wi_ix y (n := n) (by omega) with ⟨k1, -⟩ | ⟨k1, j, hj, rfl, -⟩
    · refine ⟨-1, g1, g2, ?_, ?_, nw, z, ro, w, tt, q0, I2⟩
      · rw [F_X7_best, e1, e_cl, I1.r7_13, e_nn, F_X1_raftIn, h6, F_within, k1, e_cl, if_pos rfl, e_cl]
      · rw [F_X8_best, e2, e_cl, F_in, k1, e_cl, if_pos rfl]
    · obtain ⟨⟨j', r, a1, a2, a3, a4⟩, a5⟩ := hk j hj
      refine ⟨pI g2 66 0 j, g1, g2, ?_, ?_, nw, z, ro, w, tt, q0, I2⟩
      · rw [F_X7_best, e1, e_cl, I1.r7_13, e_nn, F_X1_raftIn, h6, F_within, k1, e_cl, if_neg (by decide), I1.r1_3, e_nn, I1.l12_0, i_inb (by omega) (by omega), e_ck, I1.r1_0, e_nn, I1.l9_0, i_cl (by omega), a2, i_inb (by omega) (by omega), e_ck, i_cl (by omega), a3, e_nn, e_cl, a4]
      · rw [F_X8_best, e2, e_cl, F_in, k1, e_cl, if_neg (by decide), I2.r8_50, e_nn, I2.l66_0, i_inb (by omega) (by omega), e_ck, i_cl (by omega)]
theorem op_passes (I : SimG nw z ro w tt q0 h) (x y : Int32) : OP (F_X7_passes 0 x y) (F_X8_passes 0 x y) h := by
  obtain ⟨g1, g2, t, e1, e2, f1, f2, hh⟩ := plan_pair I x
  have fP2 : Fr [1, 10, 11, 12, 13, 63, 64, 65, 66, 67] [9] h g2 := (f1.mono (by decide) (by decide)).trans (f2.mono (by decide) (by decide))
  have I1 := I.frP (f1.mono (by decide) (by decide) : Fr [1, 10, 11, 12, 13, 63, 64, 65, 66, 67] [9] h g1)
  have I2 := I.frP fP2
  rcases hh with ⟨h6, rfl⟩ | ⟨n, hn, h6, rfl, hk⟩
  · refine ⟨-1, g1, g2, ?_, ?_, nw, z, ro, w, tt, q0, I2⟩
    · rw [F_X7_passes, e1, e_cl, I1.r7_13, e_nn, F_X1_hourOf, h6, F_within, wi_m1, e_cl, if_pos rfl, e_cl]
    · rw [F_X8_passes, e2, e_cl, F_in, wi_m2, e_cl, if_pos rfl]
  · rcases wi_ix y (n := n) (by omega) with ⟨k1, -⟩ | ⟨k1, j, hj, rfl, -⟩
    · refine ⟨-1, g1, g2, ?_, ?_, nw, z, ro, w, tt, q0, I2⟩
      · rw [F_X7_passes, e1, e_cl, I1.r7_13, e_nn, F_X1_hourOf, h6, F_within, k1, e_cl, if_pos rfl, e_cl]
      · rw [F_X8_passes, e2, e_cl, F_in, k1, e_cl, if_pos rfl]
    · obtain ⟨⟨j', r, a1, a2, a3, a4⟩, a5⟩ := hk j hj
      refine ⟨pI g2 67 0 j, g1, g2, ?_, ?_, nw, z, ro, w, tt, q0, I2⟩
      · rw [F_X7_passes, e1, e_cl, I1.r7_13, e_nn, F_X1_hourOf, h6, F_within, k1, e_cl, if_neg (by decide), I1.r1_4, e_nn, I1.l13_0, i_inb (by omega) (by omega), e_ck, i_cl (by omega), e_cl, a5]
      · rw [F_X8_passes, e2, e_cl, F_in, k1, e_cl, if_neg (by decide), I2.r8_51, e_nn, I2.l67_0, i_inb (by omega) (by omega), e_ck, i_cl (by omega)]
end OPS
