/-! who is planned for -/
def al (adm : Nat → Bool) (i : Nat) : List Nat := (List.range i).filter adm
theorem al_y {adm : Nat → Bool} {i : Nat} (h : adm i = true) : al adm (i + 1) = al adm i ++ [i] := by
  unfold al
  rw [List.range_succ, List.filter_append]
  simp [h]
theorem al_n {adm : Nat → Bool} {i : Nat} (h : adm i = false) : al adm (i + 1) = al adm i := by
  unfold al
  rw [List.range_succ, List.filter_append]
  simp [h]
theorem al_le {adm : Nat → Bool} {i : Nat} : (al adm i).length ≤ i := by
  have := List.length_filter_le adm (List.range i)
  rw [List.length_range] at this
  exact this
theorem al_mono {adm : Nat → Bool} {i : Nat} : ∀ m, (al adm i).length ≤ (al adm (i + m)).length
  | 0 => Nat.le_refl _
  | m + 1 => by
    have := al_mono (adm := adm) (i := i) m
    rw [← Nat.add_assoc]
    cases e : adm (i + m) with
    | true => rw [al_y e, List.length_append]; omega
    | false => rw [al_n e]; exact this
def adm (h : Hp) (z : Nat → Nat) (ro : Nat → Nat → Nat) (s r : Nat) : Bool := decide (pI h 45 0 r = 1 ∧ pI h 46 0 r = nI s ∧ ¬ pI h 27 0 s < wdt h z ro r ∧ nI (5 * z r) ≤ pI h 29 0 s)
def AdS (h : Hp) (z : Nat → Nat) (ro : Nat → Nat → Nat) (s i : Nat) (g : Hp) : Prop := Fr [1, 10] [9] h g ∧ pI g 1 0 5 = nI (al (adm h z ro s) i).length ∧ pI g 1 0 6 = 0 ∧ pI g 1 0 7 = -1 ∧ ∀ k r, k < 5 → (al (adm h z ro s) i)[k]? = some r → pR g 9 0 k = some r ∧ pI g 10 0 k = nI k
section OPS
variable {nw : Nat} {z : Nat → Nat} {ro : Nat → Nat → Nat} {w : Nat → Nat} {tt : Nat → Nat → Nat} {q0 : Nat} {h g : Hp}
theorem SimG.frP (I : SimG nw z ro w tt q0 h) (f : Fr [1, 10, 11, 12, 13, 63, 64, 65, 66, 67] [9] h g) : SimG nw z ro w tt q0 g := by
  unfold SimG
  simp (disch := decide) only [f.I, f.R, f.L, f.C]
  exact I
theorem fit_fr (f : Fr [1, 10, 11, 12, 13, 63, 64, 65, 66, 67] [9] h g) {s r : Nat} : fit g z ro s r = fit h z ro s r := by
  unfold fit wdt
  rw [f.I (k := 45) (by decide), f.I (k := 46) (by decide), f.I (k := 27) (by decide), f.I (k := 3) (by decide)]
theorem adm_c (I : SimG nw z ro w tt q0 h) {s : Nat} (hs : s < pC h 4) {β : Type} (ka : Hp → Option β) : ∀ m i f g, i + m = pC h 2 → m < f → AdS h z ro s i g → ∃ g', L_X7_makePlan_27 0 s ka f (nI i) g = ka g' ∧ AdS h z ro s (pC h 2) g' := by
  have hR := I.c_hR
  have hS := I.c_hS
  intro m
  induction m with
  | zero =>
    intro i f g hi hf a
    obtain ⟨f, rfl⟩ := fu_1 hf
    refine ⟨g, ?_, by rw [show pC h 2 = i by omega]; exact a⟩
    rw [L_X7_makePlan_27, a.1.I (k := 7) (by decide), I.c_i5, q_le (by omega) (by omega)]
  | succ m ih =>
    intro i f g hi hf a
    obtain ⟨f, rfl⟩ := fu_1 hf
    obtain ⟨fr, a1, a2, a3, a4⟩ := id a
    have hr : i < pC h 2 := by omega
    have fP : Fr [1, 10, 11, 12, 13, 63, 64, 65, 66, 67] [9] h g := fr.mono (by decide) (by decide)
    have I' := I.frP fP
    have hr' : i < pC g 2 := by rw [fr.C]; exact hr
    have hs' : s < pC g 4 := by rw [fr.C]; exact hs
    have skip : adm h z ro s i = false → ∃ g', L_X7_makePlan_27 0 s ka f (nI (i + 1)) g = ka g' ∧ AdS h z ro s (pC h 2) g' := fun q => ih (i + 1) f g (by omega) (by omega) (by unfold AdS; rw [al_n q]; exact a)
    rw [L_X7_makePlan_27, I'.c_i5, q_nle (by rw [fr.C]; omega) (by rw [fr.C]; omega), I'.r7_4, e_nn, I'.l21_0, i_inb (by omega) (by omega), e_ck, i_cl (by omega), I'.a21 i hr', e_nn, nI_1]
    rcases I'.fits (CE.refl g) hr' hs' with ⟨ft, ef⟩ | ⟨ft, ef⟩
    rotate_left
    · rw [ef, e_cl, if_pos rfl]
      rw [fit_fr fP] at ft
      exact skip (decide_eq_false (fun q => ft ⟨q.1, q.2.1, q.2.2.1⟩))
    rw [fit_fr fP] at ft
    rw [ef, e_cl, if_neg (by decide), I'.r7_4, e_nn, I'.l21_0, i_inb (by omega) (by omega), e_ck, I'.a21 i hr', e_nn, I'.needC (CE.refl g) hr', e_cl, (I'.st.1 s hs').2.2.2.2.1, fr.I (k := 29) (by decide)]
    by_cases c2 : pI h 29 0 s < nI (5 * z i)
    · rw [if_pos c2]
      exact skip (decide_eq_false (fun q => i_nle.mpr c2 q.2.2.2))
    have ha : adm h z ro s i = true := decide_eq_true ⟨ft.1, ft.2.1, ft.2.2, by
      by_cases q : nI (5 * z i) ≤ pI h 29 0 s
      · exact q
      · exact absurd (i_nle.mp q) c2⟩
    rw [if_neg c2, I'.r7_4, e_nn, I'.l21_0, i_inb (by omega) (by omega), e_ck, I'.r7_13, e_nn, I'.a21 i hr', F_X1_admit, a1]
    have hl := al_le (adm := adm h z ro s) (i := i)
    obtain ⟨L, hL⟩ : ∃ L, L = (al (adm h z ro s) i).length := ⟨_, rfl⟩
    rw [← hL] at hl ⊢
    have ey := al_y ha
    by_cases c5 : 5 ≤ L
    · rw [q_leL 5 c5 (by omega), e_lt, e_cl, nI_1]
      refine ih (i + 1) f _ (by omega) (by omega) ⟨fr.wI (by decide), ?_, ?_, ?_, fun k r hk hr => ?_⟩
      · simp (disch := omega) only [sl_RI, sl_CI, sl_LI, sl_IR, sl_CR, sl_LR, sl_II, sl_Ie, sl_RR, sl_Re, sl_CN, sl_Ce, sl_LN, sl_Le, sl_IN, sl_INe, sl_RN, sl_RNe, up2_s, up2_n, up1_s, up1_n, upN_s, upN_n, ne_eq, not_false_eq_true, reduceCtorEq]
        rw [ey, List.length_append, ← hL]; rfl
      · simp (disch := omega) only [sl_RI, sl_CI, sl_LI, sl_IR, sl_CR, sl_LR, sl_II, sl_Ie, sl_RR, sl_Re, sl_CN, sl_Ce, sl_LN, sl_Le, sl_IN, sl_INe, sl_RN, sl_RNe, up2_s, up2_n, up1_s, up1_n, upN_s, upN_n, ne_eq, not_false_eq_true, reduceCtorEq]; exact a2
      · simp (disch := omega) only [sl_RI, sl_CI, sl_LI, sl_IR, sl_CR, sl_LR, sl_II, sl_Ie, sl_RR, sl_Re, sl_CN, sl_Ce, sl_LN, sl_Le, sl_IN, sl_INe, sl_RN, sl_RNe, up2_s, up2_n, up1_s, up1_n, upN_s, upN_n, ne_eq, not_false_eq_true, reduceCtorEq]; exact a3
      · simp (disch := omega) only [sl_RI, sl_CI, sl_LI, sl_IR, sl_CR, sl_LR, sl_II, sl_Ie, sl_RR, sl_Re, sl_CN, sl_Ce, sl_LN, sl_Le, sl_IN, sl_INe, sl_RN, sl_RNe, up2_s, up2_n, up1_s, up1_n, upN_s, upN_n, ne_eq, not_false_eq_true, reduceCtorEq]
        rw [ey, List.getElem?_append_left (by omega)] at hr
        exact a4 k r hk hr
    · rw [q_nleL 5 (by omega) (by omega)]
      simp (disch := omega) only [e_nn, e_onnN, e_onnS, e_ck, e_lt, e_cl, F_within, F_in, isz0, isz1, i10, ↓reduceIte, sl_RI, sl_CI, sl_LI, sl_IR, sl_CR, sl_LR, sl_II, sl_Ie, sl_RR, sl_Re, sl_CN, sl_Ce, sl_LN, sl_Le, sl_IN, sl_INe, sl_RN, sl_RNe, up2_s, up2_n, up1_s, up1_n, upN_s, upN_n, ne_eq, not_false_eq_true, reduceCtorEq, i_le, i_lt, i_eq, i_cl, i_inb, nI_add, nI_1, i_n1, i_1n, i_sub, I'.r1_0, I'.r1_1, I'.l9_0, I'.l10_0, a1, ← hL]
      refine ih (i + 1) f _ (by omega) (by omega) ⟨((fr.wR (by decide)).wI (by decide)).wI (by decide), ?_, ?_, ?_, fun k r hk hr => ?_⟩
      · simp (disch := omega) only [sl_RI, sl_CI, sl_LI, sl_IR, sl_CR, sl_LR, sl_II, sl_Ie, sl_RR, sl_Re, sl_CN, sl_Ce, sl_LN, sl_Le, sl_IN, sl_INe, sl_RN, sl_RNe, up2_s, up2_n, up1_s, up1_n, upN_s, upN_n, ne_eq, not_false_eq_true, reduceCtorEq]
        rw [ey, List.length_append, ← hL]; rfl
      · simp (disch := omega) only [sl_RI, sl_CI, sl_LI, sl_IR, sl_CR, sl_LR, sl_II, sl_Ie, sl_RR, sl_Re, sl_CN, sl_Ce, sl_LN, sl_Le, sl_IN, sl_INe, sl_RN, sl_RNe, up2_s, up2_n, up1_s, up1_n, upN_s, upN_n, ne_eq, not_false_eq_true, reduceCtorEq]; exact a2
      · simp (disch := omega) only [sl_RI, sl_CI, sl_LI, sl_IR, sl_CR, sl_LR, sl_II, sl_Ie, sl_RR, sl_Re, sl_CN, sl_Ce, sl_LN, sl_Le, sl_IN, sl_INe, sl_RN, sl_RNe, up2_s, up2_n, up1_s, up1_n, upN_s, upN_n, ne_eq, not_false_eq_true, reduceCtorEq]; exact a3
      · rw [ey] at hr
        by_cases e : k = L
        · subst e
          rw [hL, List.getElem?_concat_length] at hr
          cases hr
          simp (disch := omega) only [sl_RI, sl_CI, sl_LI, sl_IR, sl_CR, sl_LR, sl_II, sl_Ie, sl_RR, sl_Re, sl_CN, sl_Ce, sl_LN, sl_Le, sl_IN, sl_INe, sl_RN, sl_RNe, up2_s, up2_n, up1_s, up1_n, upN_s, upN_n, ne_eq, not_false_eq_true, reduceCtorEq, and_self]
        · have : k < L := by
            have := (List.getElem?_eq_some_iff.mp hr).1
            rw [List.length_append, ← hL] at this
            simp only [List.length_cons, List.length_nil] at this
            omega
          rw [List.getElem?_append_left (by omega)] at hr
          simp (disch := omega) only [sl_RI, sl_CI, sl_LI, sl_IR, sl_CR, sl_LR, sl_II, sl_Ie, sl_RR, sl_Re, sl_CN, sl_Ce, sl_LN, sl_Le, sl_IN, sl_INe, sl_RN, sl_RNe, up2_s, up2_n, up1_s, up1_n, upN_s, upN_n, ne_eq, not_false_eq_true, reduceCtorEq]
          exact a4 k r hk hr
theorem adm_m (I : SimG nw z ro w tt q0 h) {s : Nat} (hs : s < pC h 4) {β : Type} (ka : Int32 → Hp → Option β) (kb : Hp → Option β) : ∀ m i f g, i + m = pC h 2 → m < f → Fr [1, 10, 11, 12, 13, 63, 64, 65, 66, 67] [9] h g → (al (adm h z ro s) i).length ≤ 5 → (∀ k r, (al (adm h z ro s) i)[k]? = some r → pI g 63 0 k = nI r) →
    ∃ g', Fr [63] [] g g' ∧ (((al (adm h z ro s) (pC h 2)).length ≤ 5 ∧ L_X8_tries_20 0 (nI s) ka kb f (nI (al (adm h z ro s) i).length) (nI i) g = ka (nI (al (adm h z ro s) (pC h 2)).length) g' ∧ ∀ k r, (al (adm h z ro s) (pC h 2))[k]? = some r → pI g' 63 0 k = nI r) ∨ (5 < (al (adm h z ro s) (pC h 2)).length ∧ L_X8_tries_20 0 (nI s) ka kb f (nI (al (adm h z ro s) i).length) (nI i) g = kb g')) := by
  have hR := I.c_hR
  have hS := I.c_hS
  intro m
  induction m with
  | zero =>
    intro i f g hi hf fr h5 hw
    obtain ⟨f, rfl⟩ := fu_1 hf
    have I' := I.frP fr
    have : i = pC h 2 := by omega
    subst this
    refine ⟨g, Fr.refl _ _ _, Or.inl ⟨h5, ?_, hw⟩⟩
    rw [L_X8_tries_20, I'.c_j24, q_le (by rw [fr.C]; omega) (by omega)]
  | succ m ih =>
    intro i f g hi hf fr h5 hw
    obtain ⟨f, rfl⟩ := fu_1 hf
    have hr : i < pC h 2 := by omega
    have I' := I.frP fr
    have hr' : i < pC g 2 := by rw [fr.C]; exact hr
    have hs' : s < pC g 4 := by rw [fr.C]; exact hs
    have hwd : wdt g z ro i = wdt h z ro i := by unfold wdt; rw [fr.I (by decide)]
    have skip : adm h z ro s i = false → ∃ g', Fr [63] [] g g' ∧ (((al (adm h z ro s) (pC h 2)).length ≤ 5 ∧ L_X8_tries_20 0 (nI s) ka kb f (nI (al (adm h z ro s) i).length) (nI (i + 1)) g = ka (nI (al (adm h z ro s) (pC h 2)).length) g' ∧ ∀ k r, (al (adm h z ro s) (pC h 2))[k]? = some r → pI g' 63 0 k = nI r) ∨ (5 < (al (adm h z ro s) (pC h 2)).length ∧ L_X8_tries_20 0 (nI s) ka kb f (nI (al (adm h z ro s) i).length) (nI (i + 1)) g = kb g')) := fun q => by
      have := ih (i + 1) f g (by omega) (by omega) fr (by rw [al_n q]; exact h5) (by rw [al_n q]; exact hw)
      rw [al_n q] at this
      exact this
    rw [L_X8_tries_20, I'.c_j24, q_nle (by rw [fr.C]; omega) (by rw [fr.C]; omega), I'.r8_25, e_nn, I'.l45_0, i_inb (by omega) (by omega), e_ck, i_cl (by omega), fr.I (k := 45) (by decide), nI_1]
    by_cases c1 : pI h 45 0 i = 1
    rotate_left
    · rw [if_neg c1]; exact skip (decide_eq_false (fun q => c1 q.1))
    rw [if_pos c1, I'.r8_26, e_nn, I'.l46_0, i_inb (by omega) (by omega), e_ck, fr.I (k := 46) (by decide)]
    by_cases c2 : pI h 46 0 i = nI s
    rotate_left
    · rw [if_neg c2]; exact skip (decide_eq_false (fun q => c2 q.2.1))
    rw [if_pos c2, I'.widthM (ME.refl g) hr', e_cl, hwd, I'.r8_4, e_nn, I'.l27_0, i_inb (by omega) (by omega), e_ck, i_cl (by omega), fr.I (k := 27) (by decide)]
    by_cases c3 : pI h 27 0 s < wdt h z ro i
    · rw [if_pos c3]; exact skip (decide_eq_false (fun q => q.2.2.1 c3))
    rw [if_neg c3, I'.r8_27, e_nn, I'.l47_0, i_inb (by omega) (by omega), e_ck, I'.r8_6, e_nn, I'.l29_0, i_inb (by omega) (by omega), e_ck, I'.z47 hr', show (5 : Int32) = nI 5 from rfl, pk_mul, fr.I (k := 29) (by decide)]
    by_cases c4 : nI (5 * z i) ≤ pI h 29 0 s
    rotate_left
    · rw [if_neg c4]; exact skip (decide_eq_false (fun q => c4 q.2.2.2))
    have ha : adm h z ro s i = true := decide_eq_true ⟨c1, c2, c3, c4⟩
    have ey := al_y ha
    rw [if_pos c4]
    obtain ⟨L, hL⟩ : ∃ L, L = (al (adm h z ro s) i).length := ⟨_, rfl⟩
    rw [← hL] at h5 ⊢
    have eL : (al (adm h z ro s) (i + 1)).length = L + 1 := by rw [ey, List.length_append, ← hL]; rfl
    by_cases c5 : L = 5
    · refine ⟨g, Fr.refl _ _ _, Or.inr ⟨?_, by rw [q_eq c5]⟩⟩
      have := al_mono (adm := adm h z ro s) (i := i + 1) m
      rw [show i + 1 + m = pC h 2 by omega] at this
      omega
    rw [q_ne c5 (by omega) (by omega), I'.r8_47, e_nn, I'.l63_0, i_inb (by omega) (by omega), e_ck, i_cl (by omega), e_lt, nI_1]
    have f1 : Fr [63] [] g (wI g 63 0 L (nI i)) := (Fr.refl _ _ _).wI (by decide)
    obtain ⟨g', fr2, hh⟩ := ih (i + 1) f (wI g 63 0 L (nI i)) (by omega) (by omega) (fr.wI (by decide)) (by omega) (fun k r hr => by
      rw [ey] at hr
      by_cases e : k = L
      · subst e
        rw [hL, List.getElem?_concat_length] at hr
        cases hr
        simp (disch := omega) only [sl_RI, sl_CI, sl_LI, sl_IR, sl_CR, sl_LR, sl_II, sl_Ie, sl_RR, sl_Re, sl_CN, sl_Ce, sl_LN, sl_Le, sl_IN, sl_INe, sl_RN, sl_RNe, up2_s, up2_n, up1_s, up1_n, upN_s, upN_n, ne_eq, not_false_eq_true, reduceCtorEq]
      · have : k < L := by
          have := (List.getElem?_eq_some_iff.mp hr).1
          rw [List.length_append, ← hL] at this
          simp only [List.length_cons, List.length_nil] at this
          omega
        rw [List.getElem?_append_left (by omega)] at hr
        simp (disch := omega) only [sl_RI, sl_CI, sl_LI, sl_IR, sl_CR, sl_LR, sl_II, sl_Ie, sl_RR, sl_Re, sl_CN, sl_Ce, sl_LN, sl_Le, sl_IN, sl_INe, sl_RN, sl_RNe, up2_s, up2_n, up1_s, up1_n, upN_s, upN_n, ne_eq, not_false_eq_true, reduceCtorEq]
        exact hw k r hr)
    rw [eL] at hh
    exact ⟨g', f1.trans fr2, hh⟩
end OPS
