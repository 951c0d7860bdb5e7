/-! what is owed for a raft's trunks -/
theorem CE.fr2 {h g g1 : Hp} {a b i : Nat} {v : Int32} {F : Nat → Nat → Int32} (hab : a ≠ b) (c : CE h g) (fr : Fr [a, b] [] g g1) (e1 : pI g1 b = F) (e2 : pI g1 a = up2 (pI h a) 0 i v) : CE (wI (sI h b F) a 0 i v) g1 := by
  intro k hk
  refine ⟨?_, (fr.R (not_mem_nil' k)).trans (c.R hk), ?_, ?_⟩
  · by_cases ka : k = a
    · subst ka; rw [sl_Ie, ss_II hab, e2]
    · by_cases kb : k = b
      · subst kb; rw [sl_II (Ne.symm hab), ss_Ie, e1]
      · rw [sl_II ka, ss_II kb, fr.I (by simp [ka, kb]), c.I hk]
  · rw [fr.L]; exact c.L hk
  · rw [fr.C]; exact c.C hk
theorem ME.fr2 {h g g1 : Hp} {a b i : Nat} {v : Int32} {F : Nat → Nat → Int32} (hab : a ≠ b) (c : ME h g) (fr : Fr [a, b] [] g g1) (e1 : pI g1 b = F) (e2 : pI g1 a = up2 (pI h a) 0 i v) : ME (wI (sI h b F) a 0 i v) g1 := by
  intro k hk
  refine ⟨?_, (fr.R (not_mem_nil' k)).trans (c.R hk), ?_, ?_⟩
  · by_cases ka : k = a
    · subst ka; rw [sl_Ie, ss_II hab, e2]
    · by_cases kb : k = b
      · subst kb; rw [sl_II (Ne.symm hab), ss_Ie, e1]
      · rw [sl_II ka, ss_II kb, fr.I (by simp [ka, kb]), c.I hk]
  · rw [fr.L]; exact c.L hk
  · rw [fr.C]; exact c.C hk
theorem sub_0 (x : Int32) : x - 0 = x := by grind
theorem rw0_z {f : Nat → Nat → Int32} {G : Nat → Int32} (h : ∀ o, G o = f 0 o) : rw0 f G = f := by
  rw [show G = f 0 from funext h, rw0_id]
theorem rw0_rw {f : Nat → Nat → Int32} {G K : Nat → Int32} {o : Nat} {x : Int32} (h : ∀ o', K o' = G o') : rw0 (up2 f 0 o x) K = rw0 f G := by
  funext n
  by_cases e : n = 0
  · subst e; rw [rw0_0, rw0_0]; exact funext h
  · simp only [rw0, if_neg e]; rw [up2_n _ _ _ e]
section TOL
variable {β : Type} {p n : Nat} {τ ow : Nat → Nat} {v : Int32}
theorem tk_l (r : Nat) (v3 : Int32) (ka : Hp → Option β) : ∀ m i f g, RW g p n τ → pR g 7 0 12 = some 0 → pL g 24 0 = 8 → (∀ j, j < n → pI g 6 (τ j) 2 = nI (ow (τ j)) ∧ ow (τ j) < 8) → i + m = n → m < f →
    ∃ g', L_X7_takeTolls_34 0 r v v3 (some p) ka f (nI i) g = ka g' ∧ pI g' 24 = rw0 (pI g 24) (fun o => pI g 24 0 o - su (fun k => if ow (τ (i + k)) = o then v else 0) m) ∧ pI g' 7 = up2 (pI g 7) 0 15 (pI g 7 0 15 + su (fun _ => v) m) ∧ Fr [7, 24] [] g g' := by
  intro m
  induction m with
  | zero =>
    intro i f g hq r12 l24 ho hi hf
    obtain ⟨f, rfl⟩ := fu_1 hf
    obtain ⟨q1, q2, q3, q4, q5⟩ := hq
    refine ⟨g, ?_, ?_, ?_, Fr.refl _ _ _⟩
    · rw [L_X7_takeTolls_34, e_nn, q1, q_le (by omega) (by omega)]
    · rw [rw0_z (fun o => by rw [su, sub_0])]
    · rw [su, Int32.add_zero, up2_id rfl]
  | succ m ih =>
    intro i f g hq r12 l24 ho hi hf
    obtain ⟨f, rfl⟩ := fu_1 hf
    obtain ⟨q1, q2, q3, q4, q5⟩ := id hq
    obtain ⟨o1, o2⟩ := ho i (by omega)
    have f1 : Fr [7, 24] [] g (wI (wI g 24 0 (ow (τ i)) (pI g 24 0 (ow (τ i)) - v)) 7 0 15 (pI g 7 0 15 + v)) := ((Fr.refl _ _ _).wI (by decide)).wI (by decide)
    obtain ⟨g', e, b1, b2, fr⟩ := ih (i + 1) f (wI (wI g 24 0 (ow (τ i)) (pI g 24 0 (ow (τ i)) - v)) 7 0 15 (pI g 7 0 15 + v)) (hq.fr f1 (by decide) (by decide) (by decide)) (by rw [f1.R (by decide)]; exact r12) (by rw [f1.L]; exact l24) (fun j hj => by rw [f1.I (by decide)]; exact ho j hj) (by omega) (by omega)
    refine ⟨g', ?_, ?_, ?_, f1.trans fr⟩
    · rw [L_X7_takeTolls_34, e_nn, q1, q_nle (by omega) (by omega), q3, e_nn, q4, i_inb (by omega) (by omega), e_ck, i_cl (by omega), q5 i (by omega), e_nn, r12, e_nn, o1, l24, i_inb (by omega) (by omega), e_ck, e_ck, i_cl (by omega), e_lt, e_lt, nI_1]
      simp (disch := omega) only [sl_RI, sl_CI, sl_LI, sl_IR, sl_CR, sl_LR, sl_II, sl_Ie, sl_RR, sl_Re, sl_CN, sl_Ce, sl_LN, sl_Le, sl_IN, sl_INe, sl_RN, sl_RNe, up2_s, up2_n, up1_s, up1_n, upN_s, upN_n, ne_eq, not_false_eq_true, reduceCtorEq]
      exact e
    · rw [b1]
      simp (disch := omega) only [sl_RI, sl_CI, sl_LI, sl_IR, sl_CR, sl_LR, sl_II, sl_Ie, sl_RR, sl_Re, sl_CN, sl_Ce, sl_LN, sl_Le, sl_IN, sl_INe, sl_RN, sl_RNe, up2_s, up2_n, up1_s, up1_n, upN_s, upN_n, ne_eq, not_false_eq_true, reduceCtorEq]
      refine rw0_rw (fun o => ?_)
      rw [su_off (fun k => if ow (τ k) = o then v else 0)]
      by_cases c : ow (τ i) = o
      · subst c
        rw [up1_s, if_pos rfl]
        grind
      · rw [up1_n _ _ (Ne.symm c), if_neg c]
        grind
    · rw [b2]
      simp (disch := omega) only [sl_RI, sl_CI, sl_LI, sl_IR, sl_CR, sl_LR, sl_II, sl_Ie, sl_RR, sl_Re, sl_CN, sl_Ce, sl_LN, sl_Le, sl_IN, sl_INe, sl_RN, sl_RNe, up2_s, up2_n, up1_s, up1_n, upN_s, upN_n, ne_eq, not_false_eq_true, reduceCtorEq]
      rw [up2_up2, su_peel (fun _ => v), Int32.add_assoc]
end TOL
section TOL
variable {β : Type} {r zb : Nat} {ρ ω ow : Nat → Nat} {τ : Nat → Nat → Nat} {v : Int32}
theorem tk_r (hz : zb ≤ 8) (ka : Hp → Option β) : ∀ m i f g, i + m = zb → m < f → pI g 2 r 2 = nI zb → pR g 2 r 1 = some r → pL g 14 r = 8 → pR g 7 0 12 = some 0 → pL g 24 0 = 8 → (∀ k, k < zb → pR g 14 r k = some (ρ k) ∧ RW g (ρ k) (ω k) (τ k) ∧ ∀ j, j < ω k → pI g 6 (τ k j) 2 = nI (ow (τ k j)) ∧ ow (τ k j) < 8) →
    ∃ g', L_X7_takeTolls_15 0 (some r) v ka f (nI i) g = ka g' ∧ pI g' 24 = rw0 (pI g 24) (fun o => pI g 24 0 o - su (fun k => su (fun j => if ow (τ (i + k) j) = o then v else 0) (ω (i + k))) m) ∧ pI g' 7 = up2 (pI g 7) 0 15 (pI g 7 0 15 + su (fun k => su (fun _ => v) (ω (i + k))) m) ∧ Fr [7, 24] [] g g' := by
  intro m
  induction m with
  | zero =>
    intro i f g hi hf eb rb lb r12 l24 hk
    obtain ⟨f, rfl⟩ := fu_1 hf
    refine ⟨g, ?_, ?_, ?_, Fr.refl _ _ _⟩
    · rw [L_X7_takeTolls_15, e_nn, eb, q_le (by omega) (by omega)]
    · rw [rw0_z (fun o => by rw [su, sub_0])]
    · rw [su, Int32.add_zero, up2_id rfl]
  | succ m ih =>
    intro i f g hi hf eb rb lb r12 l24 hk
    obtain ⟨f, rfl⟩ := fu_1 hf
    obtain ⟨k1, k2, k3⟩ := hk i (by omega)
    obtain ⟨g1, e1, b1, b2, f1⟩ := tk_l (ow := ow) (v := v) r (nI i) (fun h31 => L_X7_takeTolls_15 0 (some r) v ka f (nI (i + 1)) h31) (ω i) 0 FU g k2 r12 l24 k3 (by omega) (by have := k2.2.1; unfold FU; omega)
    obtain ⟨g', e, d1, d2, fr⟩ := ih (i + 1) f g1 (by omega) (by omega) (by rw [f1.I (by decide)]; exact eb) (by rw [f1.R (by decide)]; exact rb) (by rw [f1.L]; exact lb) (by rw [f1.R (by decide)]; exact r12) (by rw [f1.L]; exact l24) (fun k hk2 => ⟨by rw [f1.R (by decide)]; exact (hk k hk2).1, (hk k hk2).2.1.fr f1 (by decide) (by decide) (by decide), fun j hj => by rw [f1.I (by decide)]; exact (hk k hk2).2.2 j hj⟩)
    refine ⟨g', ?_, ?_, ?_, f1.trans fr⟩
    · rw [L_X7_takeTolls_15, e_nn, eb, q_nle (by omega) (by omega), rb, e_nn, lb, i_inb (by omega) (by omega), e_ck, i_cl (by omega), k1, nI_1]
      exact e1.trans e
    · rw [d1, b1]
      funext n
      by_cases c : n = 0
      · subst c
        rw [rw0_0, rw0_0, rw0_0]
        funext o
        rw [su_off (fun k => su (fun j => if ow (τ k j) = o then v else 0) (ω k))]
        simp only [Nat.zero_add]
        grind
      · simp only [rw0, if_neg c]
    · rw [d2, b2, up2_s, up1_s, up2_up2, su_off (fun k => su (fun _ => v) (ω k)), Int32.add_assoc]
end TOL
section TOL
variable {β : Type} {T r : Nat} {ow : Nat → Nat} {v : Int32}
theorem tk_m (ka : Hp → Option β) : ∀ n i f g, TL T g → (∀ t, t < T → pI g 35 0 t = nI (ow t) ∧ ow t < 8) → i + n = T → n < f →
    ∃ g', L_X8_weir_187 0 (nI r) v ka f (nI i) g = ka g' ∧ pI g' 56 = rw0 (pI g 56) (fun o => pI g 56 0 o - su (fun k => if ofm g r (i + k) then (if ow (i + k) = o then v else 0) else 0) n) ∧ pI g' 8 = up2 (pI g 8) 0 46 (pI g 8 0 46 + su (fun k => if ofm g r (i + k) then v else 0) n) ∧ Fr [8, 56] [] g g' := by
  intro n
  induction n with
  | zero =>
    intro i f g m ho hi hf
    obtain ⟨f, rfl⟩ := fu_1 hf
    have hT := m.2.1
    refine ⟨g, ?_, ?_, ?_, Fr.refl _ _ _⟩
    · rw [L_X8_weir_187, m.1, q_le (by omega) (by omega)]
    · rw [rw0_z (fun o => by rw [su, sub_0])]
    · rw [su, Int32.add_zero, up2_id rfl]
  | succ n ih =>
    intro i f g m ho hi hf
    obtain ⟨f, rfl⟩ := fu_1 hf
    have hT := m.2.1
    rcases m.isOf (r := r) (t := i) (by omega) with ⟨c, eo⟩ | ⟨c, eo⟩
    · obtain ⟨o1, o2⟩ := ho i (by omega)
      have f1 : Fr [8, 56] [] g (wI (wI g 56 0 (ow i) (pI g 56 0 (ow i) - v)) 8 0 46 (pI g 8 0 46 + v)) := ((Fr.refl _ _ _).wI (by decide)).wI (by decide)
      have m1 : TL T (wI (wI g 56 0 (ow i) (pI g 56 0 (ow i) - v)) 8 0 46 (pI g 8 0 46 + v)) := ⟨by simp (disch := omega) only [sl_RI, sl_CI, sl_LI, sl_IR, sl_CR, sl_LR, sl_II, sl_Ie, sl_RR, sl_Re, sl_CN, sl_Ce, sl_LN, sl_Le, sl_IN, sl_INe, sl_RN, sl_RNe, up2_s, up2_n, up1_s, up1_n, upN_s, upN_n, ne_eq, not_false_eq_true, reduceCtorEq]; exact m.1, hT, m.2.2.1, m.2.2.2⟩
      obtain ⟨g', e, b1, b2, fr⟩ := ih (i + 1) f (wI (wI g 56 0 (ow i) (pI g 56 0 (ow i) - v)) 8 0 46 (pI g 8 0 46 + v)) m1 (fun t ht => by rw [f1.I (by decide)]; exact ho t ht) (by omega) (by omega)
      refine ⟨g', ?_, ?_, ?_, f1.trans fr⟩
      · rw [L_X8_weir_187, m.1, q_nle (by omega) (by omega), eo, e_cl, if_neg (by decide), m.r 13 (by decide), e_nn, m.l 35 120 (by decide) (by decide), i_inb (by omega) (by omega), e_ck, m.r 37 (by decide), e_nn, i_cl (by omega), o1, m.l 56 8 (by decide) (by decide), i_inb (by omega) (by omega), e_ck, e_ck, i_cl (by omega), e_lt, e_lt, nI_1]
        simp (disch := omega) only [sl_RI, sl_CI, sl_LI, sl_IR, sl_CR, sl_LR, sl_II, sl_Ie, sl_RR, sl_Re, sl_CN, sl_Ce, sl_LN, sl_Le, sl_IN, sl_INe, sl_RN, sl_RNe, up2_s, up2_n, up1_s, up1_n, upN_s, upN_n, ne_eq, not_false_eq_true, reduceCtorEq]
        exact e
      · rw [b1]
        simp (disch := omega) only [ofm, sl_RI, sl_CI, sl_LI, sl_IR, sl_CR, sl_LR, sl_II, sl_Ie, sl_RR, sl_Re, sl_CN, sl_Ce, sl_LN, sl_Le, sl_IN, sl_INe, sl_RN, sl_RNe, up2_s, up2_n, up1_s, up1_n, upN_s, upN_n, ne_eq, not_false_eq_true, reduceCtorEq]
        refine rw0_rw (fun o => ?_)
        rw [su_off (fun k => if ofm g r k then (if ow k = o then v else 0) else 0), if_pos c]
        simp only [ofm]
        by_cases d : ow i = o
        · subst d
          rw [up1_s, if_pos rfl]
          grind
        · rw [up1_n _ _ (Ne.symm d), if_neg d]
          grind
      · rw [b2]
        simp (disch := omega) only [ofm, sl_RI, sl_CI, sl_LI, sl_IR, sl_CR, sl_LR, sl_II, sl_Ie, sl_RR, sl_Re, sl_CN, sl_Ce, sl_LN, sl_Le, sl_IN, sl_INe, sl_RN, sl_RNe, up2_s, up2_n, up1_s, up1_n, upN_s, upN_n, ne_eq, not_false_eq_true, reduceCtorEq]
        rw [up2_up2, su_off (fun k => if ofm g r k then v else 0), if_pos c, Int32.add_assoc]
    · obtain ⟨g', e, b1, b2, fr⟩ := ih (i + 1) f g m ho (by omega) (by omega)
      refine ⟨g', ?_, ?_, ?_, fr⟩
      · rw [L_X8_weir_187, m.1, q_nle (by omega) (by omega), eo, e_cl, if_pos rfl, nI_1]
        exact e
      · rw [b1]
        congr 1
        funext o
        rw [su_off (fun k => if ofm g r k then (if ow k = o then v else 0) else 0), if_neg c, Int32.zero_add]
      · rw [b2, su_off (fun k => if ofm g r k then v else 0), if_neg c, Int32.zero_add]
end TOL
