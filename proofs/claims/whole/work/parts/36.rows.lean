theorem up2_id {α : Type} {f : Nat → Nat → α} {n i : Nat} {v : α} (h : f n i = v) : up2 f n i v = f := by
  funext m j
  by_cases e : m = n
  · subst e
    rw [up2_s]
    by_cases e2 : j = i
    · subst e2; rw [up1_s, h]
    · rw [up1_n _ _ e2]
  · rw [up2_n _ _ _ e]
theorem up2_up2 {α : Type} {f : Nat → Nat → α} {n i : Nat} {u v : α} : up2 (up2 f n i u) n i v = up2 f n i v := by
  funext m j
  by_cases e : m = n
  · subst e
    rw [up2_s, up2_s, up2_s]
    by_cases e2 : j = i
    · subst e2; rw [up1_s, up1_s]
    · rw [up1_n _ _ e2, up1_n _ _ e2, up1_n _ _ e2]
  · rw [up2_n _ _ _ e, up2_n _ _ _ e, up2_n _ _ _ e]
theorem not_mem_nil' (k : Nat) : k ∉ ([] : List Nat) := by simp
/-- a row as it lies in a heap -/
def RW (g : Hp) (p n : Nat) (τ : Nat → Nat) : Prop := pI g 3 p 1 = nI n ∧ n ≤ 9 ∧ pR g 3 p 0 = some p ∧ pL g 15 p = 9 ∧ ∀ j, j < n → pR g 15 p j = some (τ j)
theorem RW.fr {a b : List Nat} {g g' : Hp} {p n : Nat} {τ : Nat → Nat} (q : RW g p n τ) (c : Fr a b g g') (h1 : 3 ∉ a) (h2 : 3 ∉ b) (h3 : 15 ∉ b) : RW g' p n τ := by
  obtain ⟨q1, q2, q3, q4, q5⟩ := q
  refine ⟨by rw [c.I h1]; exact q1, q2, by rw [c.R h2]; exact q3, by rw [c.L]; exact q4, fun j hj => by rw [c.R h3]; exact q5 j hj⟩
section ROWS
variable {β : Type} {p n r : Nat} {τ : Nat → Nat}
theorem bel_l (ka : Hp → Option β) : ∀ m i f g, RW g p n τ → i + m = n → m < f → ∃ g', L_X3_belongTo_2 p (some r) ka f (nI i) g = ka g' ∧ Fr [] [6] g g' ∧ ∀ t, ((∃ j, i ≤ j ∧ j < n ∧ τ j = t) → pR g' 6 t 6 = some r ∧ pR g' 6 t 5 = none) ∧ (¬ (∃ j, i ≤ j ∧ j < n ∧ τ j = t) → pR g' 6 t = pR g 6 t) := by
  intro m
  induction m with
  | zero =>
    intro i f g hq hi hf
    obtain ⟨f, rfl⟩ := fu_1 hf
    obtain ⟨q1, q2, q3, q4, q5⟩ := hq
    refine ⟨g, ?_, Fr.refl _ _ _, fun t => ⟨fun ⟨j, j1, j2, _⟩ => by omega, fun _ => rfl⟩⟩
    rw [L_X3_belongTo_2, q1, q_le (by omega) (by omega)]
  | succ m ih =>
    intro i f g hq hi hf
    obtain ⟨f, rfl⟩ := fu_1 hf
    obtain ⟨q1, q2, q3, q4, q5⟩ := id hq
    have f1 : Fr [] [6] g (wR (wR g 6 (τ i) 6 (some r)) 6 (τ i) 5 none) := ((Fr.refl _ _ _).wR (by decide)).wR (by decide)
    obtain ⟨g', e, fr, ht⟩ := ih (i + 1) f (wR (wR g 6 (τ i) 6 (some r)) 6 (τ i) 5 none) (hq.fr f1 (by decide) (by decide) (by decide)) (by omega) (by omega)
    refine ⟨g', ?_, f1.trans fr, fun t => ⟨fun ⟨j, j1, j2, j3⟩ => ?_, fun hn => ?_⟩⟩
    · rw [L_X3_belongTo_2, q1, q_nle (by omega) (by omega)]
      simp (disch := omega) only [e_nn, e_onnN, e_onnS, e_ck, e_lt, e_cl, F_within, F_in, isz0, isz1, i10, ↓reduceIte, sl_RI, sl_CI, sl_LI, sl_IR, sl_CR, sl_LR, sl_II, sl_Ie, sl_RR, sl_Re, sl_CN, sl_Ce, sl_LN, sl_Le, sl_IN, sl_INe, sl_RN, sl_RNe, up2_s, up2_n, up1_s, up1_n, upN_s, upN_n, ne_eq, not_false_eq_true, reduceCtorEq, i_le, i_lt, i_eq, i_cl, i_inb, nI_add, nI_1, i_n1, i_1n, i_sub, q3, q4, q5 i (by omega)]
      exact e
    · by_cases c : ∃ j, i + 1 ≤ j ∧ j < n ∧ τ j = t
      · exact (ht t).1 c
      · rw [(ht t).2 c]
        have : j = i := by
          by_cases d : j = i
          · exact d
          · exact absurd ⟨j, by omega, j2, j3⟩ c
        subst this
        subst j3
        simp (disch := omega) only [sl_RI, sl_CI, sl_LI, sl_IR, sl_CR, sl_LR, sl_II, sl_Ie, sl_RR, sl_Re, sl_CN, sl_Ce, sl_LN, sl_Le, sl_IN, sl_INe, sl_RN, sl_RNe, up2_s, up2_n, up1_s, up1_n, upN_s, upN_n, ne_eq, not_false_eq_true, reduceCtorEq, and_self]
    · rw [(ht t).2 (fun ⟨j, j1, j2, j3⟩ => hn ⟨j, by omega, j2, j3⟩)]
      have : t ≠ τ i := fun e => hn ⟨i, Nat.le_refl _, by omega, e.symm⟩
      simp (disch := omega) only [sl_RI, sl_CI, sl_LI, sl_IR, sl_CR, sl_LR, sl_II, sl_Ie, sl_RR, sl_Re, sl_CN, sl_Ce, sl_LN, sl_Le, sl_IN, sl_INe, sl_RN, sl_RNe, up2_s, up2_n, up1_s, up1_n, upN_s, upN_n, ne_eq, not_false_eq_true, reduceCtorEq]
theorem F_belongTo {g : Hp} (hq : RW g p n τ) : ∃ g', F_X3_belongTo p (some r) g = some ((), g') ∧ Fr [] [6] g g' ∧ ∀ t, ((∃ j, j < n ∧ τ j = t) → pR g' 6 t 6 = some r ∧ pR g' 6 t 5 = none) ∧ (¬ (∃ j, j < n ∧ τ j = t) → pR g' 6 t = pR g 6 t) := by
  obtain ⟨g', e, fr, ht⟩ := bel_l (r := r) (fun h16 => some ((), h16)) n 0 FU g hq (by omega) (by have := hq.2.1; unfold FU; omega)
  exact ⟨g', e, fr, fun t => ⟨fun ⟨j, j1, j2⟩ => (ht t).1 ⟨j, by omega, j1, j2⟩, fun hn => (ht t).2 (fun ⟨j, _, j1, j2⟩ => hn ⟨j, j1, j2⟩)⟩⟩
theorem F_append {g : Hp} {s : Nat} (hs : s < 8) (e2 : pI g 2 r 2 = nI s) (r1 : pR g 2 r 1 = some r) (l : pL g 14 r = 8) (hq : RW g p n τ) : ∃ g', F_X2_append r (some p) g = some ((), g') ∧ Fr [2] [6, 14] g g' ∧ pI g' 2 = up2 (pI g 2) r 2 (nI (s + 1)) ∧ pR g' 14 = up2 (pR g 14) r s (some p) ∧ ∀ t, ((∃ j, j < n ∧ τ j = t) → pR g' 6 t 6 = some r ∧ pR g' 6 t 5 = none) ∧ (¬ (∃ j, j < n ∧ τ j = t) → pR g' 6 t = pR g 6 t) := by
  have f1 : Fr [2] [6, 14] g (wI (wR g 14 r s (some p)) 2 r 2 (nI (s + 1))) := ((Fr.refl _ _ _).wR (by decide)).wI (by decide)
  obtain ⟨g', e, fr, ht⟩ := F_belongTo (r := r) (hq.fr f1 (by decide) (by decide) (by decide))
  refine ⟨g', ?_, f1.trans (fr.mono (by decide) (by decide)), ?_, ?_, fun t => ?_⟩
  · rw [F_X2_append, e2, q_nleL 8 (by omega) (by omega)]
    simp (disch := omega) only [e_nn, e_onnN, e_onnS, e_ck, e_lt, e_cl, F_within, F_in, isz0, isz1, i10, ↓reduceIte, sl_RI, sl_CI, sl_LI, sl_IR, sl_CR, sl_LR, sl_II, sl_Ie, sl_RR, sl_Re, sl_CN, sl_Ce, sl_LN, sl_Le, sl_IN, sl_INe, sl_RN, sl_RNe, up2_s, up2_n, up1_s, up1_n, upN_s, upN_n, ne_eq, not_false_eq_true, reduceCtorEq, i_le, i_lt, i_eq, i_cl, i_inb, nI_add, nI_1, i_n1, i_1n, i_sub, r1, l, e2, e]
  · rw [fr.I (by decide)]; simp (disch := omega) only [sl_RI, sl_CI, sl_LI, sl_IR, sl_CR, sl_LR, sl_II, sl_Ie, sl_RR, sl_Re, sl_CN, sl_Ce, sl_LN, sl_Le, sl_IN, sl_INe, sl_RN, sl_RNe, up2_s, up2_n, up1_s, up1_n, upN_s, upN_n, ne_eq, not_false_eq_true, reduceCtorEq]
  · rw [fr.R (by decide)]; simp (disch := omega) only [sl_RI, sl_CI, sl_LI, sl_IR, sl_CR, sl_LR, sl_II, sl_Ie, sl_RR, sl_Re, sl_CN, sl_Ce, sl_LN, sl_Le, sl_IN, sl_INe, sl_RN, sl_RNe, up2_s, up2_n, up1_s, up1_n, upN_s, upN_n, ne_eq, not_false_eq_true, reduceCtorEq]
  · have := ht t
    simpa (disch := omega) only [sl_RI, sl_CI, sl_LI, sl_IR, sl_CR, sl_LR, sl_II, sl_Ie, sl_RR, sl_Re, sl_CN, sl_Ce, sl_LN, sl_Le, sl_IN, sl_INe, sl_RN, sl_RNe, up2_s, up2_n, up1_s, up1_n, upN_s, upN_n, ne_eq, not_false_eq_true, reduceCtorEq] using this
end ROWS
section ROWS
variable {β : Type} {a b zb : Nat} {ρ ω : Nat → Nat} {τ : Nat → Nat → Nat}
theorem move_l (hab : a ≠ b) (hz : zb ≤ 8) (v1 : Int32) (ka : Hp → Option β) : ∀ m i s f g, i + m = zb → s + m ≤ 8 → m < f → pI g 2 b 2 = nI zb → pR g 2 b 1 = some b → pL g 14 b = 8 → pI g 2 a 2 = nI s → pR g 2 a 1 = some a → pL g 14 a = 8 → (∀ k, k < zb → pR g 14 b k = some (ρ k) ∧ RW g (ρ k) (ω k) (τ k)) →
    ∃ g', L_X2_moveRows_6 b v1 (some a) ka f (nI i) g = ka g' ∧ Fr [2] [6, 14] g g' ∧ pI g' 2 = up2 (pI g 2) a 2 (nI (s + m)) ∧ (∀ a', a' ≠ a → pR g' 14 a' = pR g 14 a') ∧ (∀ k, k < s → pR g' 14 a k = pR g 14 a k) ∧ (∀ k, k < m → pR g' 14 a (s + k) = some (ρ (i + k))) ∧ ∀ t, ((∃ k, i ≤ k ∧ k < zb ∧ ∃ j, j < ω k ∧ τ k j = t) → pR g' 6 t 6 = some a ∧ pR g' 6 t 5 = none) ∧ (¬ (∃ k, i ≤ k ∧ k < zb ∧ ∃ j, j < ω k ∧ τ k j = t) → pR g' 6 t = pR g 6 t) := by
  intro m
  induction m with
  | zero =>
    intro i s f g hi hs hf eb rb lb ea ra la hk
    obtain ⟨f, rfl⟩ := fu_1 hf
    refine ⟨g, ?_, Fr.refl _ _ _, (up2_id ea).symm, fun _ _ => rfl, fun _ _ => rfl, fun k hk => by omega, fun t => ⟨fun ⟨k, k1, k2, _⟩ => by omega, fun _ => rfl⟩⟩
    rw [L_X2_moveRows_6, eb, q_le (by omega) (by omega)]
  | succ m ih =>
    intro i s f g hi hs hf eb rb lb ea ra la hk
    obtain ⟨f, rfl⟩ := fu_1 hf
    obtain ⟨g1, e1, fr1, u1, u2, u3⟩ := F_append (r := a) (s := s) (by omega) ea ra la (hk i (by omega)).2
    obtain ⟨g', e, fr, w1, w2, w3, w4, w5⟩ := ih (i + 1) (s + 1) f g1 (by omega) (by omega) (by omega) (by rw [u1, up2_n _ _ _ (Ne.symm hab)]; exact eb) (by rw [fr1.R (by decide)]; exact rb) (by rw [fr1.L]; exact lb) (by rw [u1, up2_s, up1_s]) (by rw [fr1.R (by decide)]; exact ra) (by rw [fr1.L]; exact la) (fun k hk2 => ⟨by rw [u2, up2_n _ _ _ (Ne.symm hab)]; exact (hk k hk2).1, (hk k hk2).2.fr fr1 (by decide) (by decide) (by decide)⟩)
    refine ⟨g', ?_, fr1.trans fr, ?_, fun a' ha' => ?_, fun k hk2 => ?_, fun k hk2 => ?_, fun t => ⟨fun ⟨k, k1, k2, j, j1, j2⟩ => ?_, fun hn => ?_⟩⟩
    · rw [L_X2_moveRows_6, eb, q_nle (by omega) (by omega), rb, e_nn, lb, i_inb (by omega) (by omega), e_ck, e_nn, i_cl (by omega), (hk i (by omega)).1, e1, e_cl, nI_1]
      exact e
    · rw [w1, u1, up2_up2, show s + 1 + m = s + (m + 1) by omega]
    · rw [w2 a' ha', u2, up2_n _ _ _ ha']
    · rw [w3 k (by omega), u2, up2_s, up1_n _ _ (by omega)]
    · by_cases c : k = 0
      · subst c
        rw [w3 (s + 0) (by omega), u2, up2_s]
        exact up1_s _ _ _
      · obtain ⟨k', rfl⟩ : ∃ k', k = k' + 1 := ⟨k - 1, by omega⟩
        have := w4 k' (by omega)
        rw [show s + (k' + 1) = s + 1 + k' by omega, show i + (k' + 1) = i + 1 + k' by omega]
        exact this
    · by_cases c : ∃ k, i + 1 ≤ k ∧ k < zb ∧ ∃ j, j < ω k ∧ τ k j = t
      · exact (w5 t).1 c
      · rw [(w5 t).2 c]
        have : k = i := by
          by_cases d : k = i
          · exact d
          · exact absurd ⟨k, by omega, k2, j, j1, j2⟩ c
        subst this
        exact (u3 t).1 ⟨j, j1, j2⟩
    · rw [(w5 t).2 (fun ⟨k, k1, k2, k3⟩ => hn ⟨k, by omega, k2, k3⟩)]
      exact (u3 t).2 (fun ⟨j, j1, j2⟩ => hn ⟨i, Nat.le_refl _, by omega, j, j1, j2⟩)
end ROWS
section ROWS
variable {β : Type} {p n : Nat} {τ : Nat → Nat} {st : Option Nat}
/-- what lieAt does to a trunk -/
def lies (st : Option Nat) (g g' : Hp) (t : Nat) : Prop := pR g' 6 t 6 = none ∧ (pR g 6 t 6 = none → pR g' 6 t 5 = pR g 6 t 5) ∧ (pR g 6 t 6 ≠ none → pR g' 6 t 5 = st)
theorem lie_l (ka : Hp → Option β) : ∀ m i f g, RW g p n τ → i + m = n → m < f → ∃ g', L_X3_lieAt_2 p st ka f (nI i) g = ka g' ∧ Fr [] [6] g g' ∧ ∀ t, ((∃ j, i ≤ j ∧ j < n ∧ τ j = t) → lies st g g' t) ∧ (¬ (∃ j, i ≤ j ∧ j < n ∧ τ j = t) → pR g' 6 t = pR g 6 t) := by
  intro m
  induction m with
  | zero =>
    intro i f g hq hi hf
    obtain ⟨f, rfl⟩ := fu_1 hf
    obtain ⟨q1, q2, q3, q4, q5⟩ := hq
    refine ⟨g, ?_, Fr.refl _ _ _, fun t => ⟨fun ⟨j, j1, j2, _⟩ => by omega, fun _ => rfl⟩⟩
    rw [L_X3_lieAt_2, q1, q_le (by omega) (by omega)]
  | succ m ih =>
    intro i f g hq hi hf
    obtain ⟨f, rfl⟩ := fu_1 hf
    obtain ⟨q1, q2, q3, q4, q5⟩ := id hq
    have red : ∀ g1 : Hp, (∀ t, t ≠ τ i → pR g1 6 t = pR g 6 t) → (lies st g g1 (τ i)) → (∃ g', L_X3_lieAt_2 p st ka f (nI (i + 1)) g1 = ka g' ∧ Fr [] [6] g1 g' ∧ ∀ t, ((∃ j, i + 1 ≤ j ∧ j < n ∧ τ j = t) → lies st g1 g' t) ∧ (¬ (∃ j, i + 1 ≤ j ∧ j < n ∧ τ j = t) → pR g' 6 t = pR g1 6 t)) → L_X3_lieAt_2 p st ka (f + 1) (nI i) g = L_X3_lieAt_2 p st ka f (nI (i + 1)) g1 → Fr [] [6] g g1 → ∃ g', L_X3_lieAt_2 p st ka (f + 1) (nI i) g = ka g' ∧ Fr [] [6] g g' ∧ ∀ t, ((∃ j, i ≤ j ∧ j < n ∧ τ j = t) → lies st g g' t) ∧ (¬ (∃ j, i ≤ j ∧ j < n ∧ τ j = t) → pR g' 6 t = pR g 6 t) := by
      intro g1 h1 h2 ⟨g', e, fr, ht⟩ h3 f1
      refine ⟨g', h3.trans e, f1.trans fr, fun t => ⟨fun ⟨j, j1, j2, j3⟩ => ?_, fun hn => ?_⟩⟩
      · by_cases c : ∃ j, i + 1 ≤ j ∧ j < n ∧ τ j = t
        · obtain ⟨k1, k2, k3⟩ := (ht t).1 c
          by_cases d : t = τ i
          · subst d
            obtain ⟨l1, l2, l3⟩ := h2
            exact ⟨k1, fun e => (k2 l1).trans (l2 e), fun e => (k2 l1).trans (l3 e)⟩
          · unfold lies
            rw [← h1 t d]
            exact ⟨k1, k2, k3⟩
        · have : j = i := by
            by_cases d : j = i
            · exact d
            · exact absurd ⟨j, by omega, j2, j3⟩ c
          subst this
          subst j3
          unfold lies
          rw [(ht _).2 c]
          exact h2
      · rw [(ht t).2 (fun ⟨j, j1, j2, j3⟩ => hn ⟨j, by omega, j2, j3⟩)]
        exact h1 t (fun e => hn ⟨i, Nat.le_refl _, by omega, e.symm⟩)
    cases ec : pR g 6 (τ i) 6 with
    | none =>
      refine red g (fun _ _ => rfl) ⟨ec, fun _ => rfl, fun e => absurd ec e⟩ (ih (i + 1) f g hq (by omega) (by omega)) ?_ (Fr.refl _ _ _)
      rw [L_X3_lieAt_2, q1, q_nle (by omega) (by omega), q3, e_nn, q4, i_inb (by omega) (by omega), e_ck, i_cl (by omega), q5 i (by omega), e_nn, ec, e_onnN, nI_1]
    | some y =>
      have f1 : Fr [] [6] g (wR (wR g 6 (τ i) 6 none) 6 (τ i) 5 st) := ((Fr.refl _ _ _).wR (by decide)).wR (by decide)
      refine red (wR (wR g 6 (τ i) 6 none) 6 (τ i) 5 st) (fun t ht => by simp (disch := omega) only [sl_RI, sl_CI, sl_LI, sl_IR, sl_CR, sl_LR, sl_II, sl_Ie, sl_RR, sl_Re, sl_CN, sl_Ce, sl_LN, sl_Le, sl_IN, sl_INe, sl_RN, sl_RNe, up2_s, up2_n, up1_s, up1_n, upN_s, upN_n, ne_eq, not_false_eq_true, reduceCtorEq]) ⟨by simp (disch := omega) only [sl_RI, sl_CI, sl_LI, sl_IR, sl_CR, sl_LR, sl_II, sl_Ie, sl_RR, sl_Re, sl_CN, sl_Ce, sl_LN, sl_Le, sl_IN, sl_INe, sl_RN, sl_RNe, up2_s, up2_n, up1_s, up1_n, upN_s, upN_n, ne_eq, not_false_eq_true, reduceCtorEq], fun e => by rw [ec] at e; exact absurd e (by simp), fun _ => by simp (disch := omega) only [sl_RI, sl_CI, sl_LI, sl_IR, sl_CR, sl_LR, sl_II, sl_Ie, sl_RR, sl_Re, sl_CN, sl_Ce, sl_LN, sl_Le, sl_IN, sl_INe, sl_RN, sl_RNe, up2_s, up2_n, up1_s, up1_n, upN_s, upN_n, ne_eq, not_false_eq_true, reduceCtorEq]⟩ (ih (i + 1) f (wR (wR g 6 (τ i) 6 none) 6 (τ i) 5 st) (hq.fr f1 (by decide) (by decide) (by decide)) (by omega) (by omega)) ?_ f1
      rw [L_X3_lieAt_2, q1, q_nle (by omega) (by omega)]
      simp (disch := omega) only [e_nn, e_onnN, e_onnS, e_ck, e_lt, e_cl, F_within, F_in, isz0, isz1, i10, ↓reduceIte, sl_RI, sl_CI, sl_LI, sl_IR, sl_CR, sl_LR, sl_II, sl_Ie, sl_RR, sl_Re, sl_CN, sl_Ce, sl_LN, sl_Le, sl_IN, sl_INe, sl_RN, sl_RNe, up2_s, up2_n, up1_s, up1_n, upN_s, upN_n, ne_eq, not_false_eq_true, reduceCtorEq, i_le, i_lt, i_eq, i_cl, i_inb, nI_add, nI_1, i_n1, i_1n, i_sub, q3, q4, q5 i (by omega), ec]
theorem F_lieAt {g : Hp} (hq : RW g p n τ) : ∃ g', F_X3_lieAt p st g = some ((), g') ∧ Fr [] [6] g g' ∧ ∀ t, ((∃ j, j < n ∧ τ j = t) → lies st g g' t) ∧ (¬ (∃ j, j < n ∧ τ j = t) → pR g' 6 t = pR g 6 t) := by
  obtain ⟨g', e, fr, ht⟩ := lie_l (st := st) (fun h16 => some ((), h16)) n 0 FU g hq (by omega) (by have := hq.2.1; unfold FU; omega)
  exact ⟨g', e, fr, fun t => ⟨fun ⟨j, j1, j2⟩ => (ht t).1 ⟨j, by omega, j1, j2⟩, fun hn => (ht t).2 (fun ⟨j, _, j1, j2⟩ => hn ⟨j, j1, j2⟩)⟩⟩
end ROWS
section ROWS
variable {β : Type} {r zb : Nat} {ρ ω : Nat → Nat} {τ : Nat → Nat → Nat}
theorem scat_l (hz : zb ≤ 8) (ka : Hp → Option β) : ∀ m i f g, i + m = zb → m < f → pI g 2 r 2 = nI zb → pR g 2 r 1 = some r → pL g 14 r = 8 → (∀ k, k < zb → pR g 14 r k = some (ρ k) ∧ RW g (ρ k) (ω k) (τ k)) →
    ∃ g', L_X2_scatter_2 r ka f (nI i) g = ka g' ∧ Fr [] [6] g g' ∧ ∀ t, ((∃ k, i ≤ k ∧ k < zb ∧ ∃ j, j < ω k ∧ τ k j = t) → lies (pR g 2 r 3) g g' t) ∧ (¬ (∃ k, i ≤ k ∧ k < zb ∧ ∃ j, j < ω k ∧ τ k j = t) → pR g' 6 t = pR g 6 t) := by
  intro m
  induction m with
  | zero =>
    intro i f g hi hf eb rb lb hk
    obtain ⟨f, rfl⟩ := fu_1 hf
    refine ⟨g, ?_, Fr.refl _ _ _, fun t => ⟨fun ⟨k, k1, k2, _⟩ => by omega, fun _ => rfl⟩⟩
    rw [L_X2_scatter_2, eb, q_le (by omega) (by omega)]
  | succ m ih =>
    intro i f g hi hf eb rb lb hk
    obtain ⟨f, rfl⟩ := fu_1 hf
    obtain ⟨g1, e1, fr1, u3⟩ := F_lieAt (st := pR g 2 r 3) (hk i (by omega)).2
    obtain ⟨g', e, fr, w5⟩ := ih (i + 1) f g1 (by omega) (by omega) (by rw [fr1.I (by decide)]; exact eb) (by rw [fr1.R (by decide)]; exact rb) (by rw [fr1.L]; exact lb) (fun k hk2 => ⟨by rw [fr1.R (by decide)]; exact (hk k hk2).1, (hk k hk2).2.fr fr1 (by decide) (by decide) (by decide)⟩)
    rw [fr1.R (k := 2) (by decide)] at w5
    refine ⟨g', ?_, fr1.trans fr, fun t => ⟨fun ⟨k, k1, k2, j, j1, j2⟩ => ?_, fun hn => ?_⟩⟩
    · rw [L_X2_scatter_2, eb, q_nle (by omega) (by omega), rb, e_nn, lb, i_inb (by omega) (by omega), e_ck, i_cl (by omega), (hk i (by omega)).1, e_nn, e1, e_cl, nI_1]
      exact e
    · by_cases c : ∃ k, i + 1 ≤ k ∧ k < zb ∧ ∃ j, j < ω k ∧ τ k j = t
      · obtain ⟨k1, k2, k3⟩ := (w5 t).1 c
        by_cases d : ∃ j, j < ω i ∧ τ i j = t
        · obtain ⟨l1, l2, l3⟩ := (u3 t).1 d
          exact ⟨k1, fun e => (k2 l1).trans (l2 e), fun e => (k2 l1).trans (l3 e)⟩
        · unfold lies
          rw [← (u3 t).2 d]
          exact ⟨k1, k2, k3⟩
      · unfold lies
        rw [(w5 t).2 c]
        have : k = i := by
          by_cases d : k = i
          · exact d
          · exact absurd ⟨k, by omega, k2, j, j1, j2⟩ c
        subst this
        exact (u3 t).1 ⟨j, j1, j2⟩
    · rw [(w5 t).2 (fun ⟨k, k1, k2, k3⟩ => hn ⟨k, by omega, k2, k3⟩)]
      exact (u3 t).2 (fun ⟨j, j1, j2⟩ => hn ⟨i, Nat.le_refl _, by omega, j, j1, j2⟩)
end ROWS
section ROWS
variable {β : Type} {p n : Nat} {τ : Nat → Nat} {rem : Nat}
/-- what loseTrunks does to a trunk of the row -/
def loses (rem : Nat) (g g' : Hp) (t : Nat) : Prop := (t % 2 = rem → pR g' 6 t 6 = none) ∧ (t % 2 ≠ rem → pR g' 6 t 6 = pR g 6 t 6) ∧ pR g' 6 t 5 = pR g 6 t 5
theorem lose_l (hrem : rem < 2) (ka : Int32 → Hp → Option β) : ∀ m i f acc g, RW g p n τ → (∀ j, j < n → pI g 6 (τ j) 0 = nI (τ j) ∧ τ j < 120) → i + m = n → m < f → ∃ g', L_X3_loseTrunks_4 p (nI rem) ka f acc (nI i) g = ka (acc + su (fun k => if τ (i + k) % 2 = rem then 1 else 0) m) g' ∧ Fr [] [6] g g' ∧ ∀ t, ((∃ j, i ≤ j ∧ j < n ∧ τ j = t) → loses rem g g' t) ∧ (¬ (∃ j, i ≤ j ∧ j < n ∧ τ j = t) → pR g' 6 t = pR g 6 t) := by
  intro m
  induction m with
  | zero =>
    intro i f acc g hq hnum hi hf
    obtain ⟨f, rfl⟩ := fu_1 hf
    obtain ⟨q1, q2, q3, q4, q5⟩ := hq
    refine ⟨g, ?_, Fr.refl _ _ _, fun t => ⟨fun ⟨j, j1, j2, _⟩ => by omega, fun _ => rfl⟩⟩
    rw [L_X3_loseTrunks_4, q1, q_le (by omega) (by omega), su, Int32.add_zero]
  | succ m ih =>
    intro i f acc g hq hnum hi hf
    obtain ⟨f, rfl⟩ := fu_1 hf
    obtain ⟨q1, q2, q3, q4, q5⟩ := id hq
    obtain ⟨n1, n2⟩ := hnum i (by omega)
    have em : nI (τ i) - nI (τ i) / (2 : Int32) * (2 : Int32) = nI (τ i % 2) := i_rem (by omega) (by decide) (by decide)
    have red : ∀ (g1 : Hp) (A : Int32), (∀ t, t ≠ τ i → pR g1 6 t = pR g 6 t) → (loses rem g g1 (τ i)) → L_X3_loseTrunks_4 p (nI rem) ka (f + 1) acc (nI i) g = L_X3_loseTrunks_4 p (nI rem) ka f A (nI (i + 1)) g1 → Fr [] [6] g g1 → A = acc + (if τ i % 2 = rem then 1 else 0) → ∃ g', L_X3_loseTrunks_4 p (nI rem) ka (f + 1) acc (nI i) g = ka (acc + su (fun k => if τ (i + k) % 2 = rem then 1 else 0) (m + 1)) g' ∧ Fr [] [6] g g' ∧ ∀ t, ((∃ j, i ≤ j ∧ j < n ∧ τ j = t) → loses rem g g' t) ∧ (¬ (∃ j, i ≤ j ∧ j < n ∧ τ j = t) → pR g' 6 t = pR g 6 t) := by
      intro g1 A h1 h2 h3 f1 hA
      obtain ⟨g', e, fr, ht⟩ := ih (i + 1) f A g1 (hq.fr f1 (by decide) (by decide) (by decide)) (fun j hj => by rw [f1.I (by decide)]; exact hnum j hj) (by omega) (by omega)
      refine ⟨g', ?_, f1.trans fr, fun t => ⟨fun ⟨j, j1, j2, j3⟩ => ?_, fun hn => ?_⟩⟩
      · rw [h3, e, su_off (fun k => if τ k % 2 = rem then (1 : Int32) else 0), ← Int32.add_assoc, hA]
      · by_cases c : ∃ j, i + 1 ≤ j ∧ j < n ∧ τ j = t
        · obtain ⟨k1, k2, k3⟩ := (ht t).1 c
          by_cases d : t = τ i
          · subst d
            obtain ⟨l1, l2, l3⟩ := h2
            exact ⟨k1, fun e => (k2 e).trans (l2 e), k3.trans l3⟩
          · unfold loses
            rw [← h1 t d]
            exact ⟨k1, k2, k3⟩
        · have : j = i := by
            by_cases d : j = i
            · exact d
            · exact absurd ⟨j, by omega, j2, j3⟩ c
          subst this
          subst j3
          unfold loses
          rw [(ht _).2 c]
          exact h2
      · rw [(ht t).2 (fun ⟨j, j1, j2, j3⟩ => hn ⟨j, by omega, j2, j3⟩)]
        exact h1 t (fun e => hn ⟨i, Nat.le_refl _, by omega, e.symm⟩)
    by_cases ec : τ i % 2 = rem
    · have f1 : Fr [] [6] g (wR g 6 (τ i) 6 none) := (Fr.refl _ _ _).wR (by decide)
      refine red (wR g 6 (τ i) 6 none) (acc + 1) (fun t ht => by simp (disch := omega) only [sl_RI, sl_CI, sl_LI, sl_IR, sl_CR, sl_LR, sl_II, sl_Ie, sl_RR, sl_Re, sl_CN, sl_Ce, sl_LN, sl_Le, sl_IN, sl_INe, sl_RN, sl_RNe, up2_s, up2_n, up1_s, up1_n, upN_s, upN_n, ne_eq, not_false_eq_true, reduceCtorEq]) ⟨fun _ => by simp (disch := omega) only [sl_RI, sl_CI, sl_LI, sl_IR, sl_CR, sl_LR, sl_II, sl_Ie, sl_RR, sl_Re, sl_CN, sl_Ce, sl_LN, sl_Le, sl_IN, sl_INe, sl_RN, sl_RNe, up2_s, up2_n, up1_s, up1_n, upN_s, upN_n, ne_eq, not_false_eq_true, reduceCtorEq], fun e => absurd ec e, by simp (disch := omega) only [sl_RI, sl_CI, sl_LI, sl_IR, sl_CR, sl_LR, sl_II, sl_Ie, sl_RR, sl_Re, sl_CN, sl_Ce, sl_LN, sl_Le, sl_IN, sl_INe, sl_RN, sl_RNe, up2_s, up2_n, up1_s, up1_n, upN_s, upN_n, ne_eq, not_false_eq_true, reduceCtorEq]⟩ ?_ f1 (by rw [if_pos ec])
      rw [L_X3_loseTrunks_4, q1, q_nle (by omega) (by omega), q3, e_nn, q4, i_inb (by omega) (by omega), e_ck, e_ck, i_cl (by omega), q5 i (by omega), e_nn, e_nn, n1, em, q_eq ec, e_lt, nI_1]
    · refine red g acc (fun _ _ => rfl) ⟨fun e => absurd e ec, fun _ => rfl, rfl⟩ ?_ (Fr.refl _ _ _) (by rw [if_neg ec, Int32.add_zero])
      rw [L_X3_loseTrunks_4, q1, q_nle (by omega) (by omega), q3, e_nn, q4, i_inb (by omega) (by omega), e_ck, e_ck, i_cl (by omega), q5 i (by omega), e_nn, e_nn, n1, em, q_ne ec (by omega) (by omega), nI_1]
theorem F_lose3 {g : Hp} (hrem : rem < 2) (hq : RW g p n τ) (hnum : ∀ j, j < n → pI g 6 (τ j) 0 = nI (τ j) ∧ τ j < 120) : ∃ g', F_X3_loseTrunks p (nI rem) g = some (su (fun k => if τ k % 2 = rem then 1 else 0) n, g') ∧ Fr [] [6] g g' ∧ ∀ t, ((∃ j, j < n ∧ τ j = t) → loses rem g g' t) ∧ (¬ (∃ j, j < n ∧ τ j = t) → pR g' 6 t = pR g 6 t) := by
  obtain ⟨g', e, fr, ht⟩ := lose_l hrem (fun k13 h14 => some (k13, h14)) n 0 FU 0 g hq hnum (by omega) (by have := hq.2.1; unfold FU; omega)
  simp only [Nat.zero_add, Int32.zero_add] at e
  exact ⟨g', e, fr, fun t => ⟨fun ⟨j, j1, j2⟩ => (ht t).1 ⟨j, by omega, j1, j2⟩, fun hn => (ht t).2 (fun ⟨j, _, j1, j2⟩ => hn ⟨j, j1, j2⟩)⟩⟩
end ROWS
section ROWS
variable {β : Type} {r zb : Nat} {ρ ω : Nat → Nat} {τ : Nat → Nat → Nat} {rem : Nat}
theorem lose2_l (hrem : rem < 2) (hz : zb ≤ 8) (ka : Int32 → Hp → Option β) : ∀ m i f acc g, i + m = zb → m < f → pI g 2 r 2 = nI zb → pR g 2 r 1 = some r → pL g 14 r = 8 → (∀ k, k < zb → pR g 14 r k = some (ρ k) ∧ RW g (ρ k) (ω k) (τ k) ∧ ∀ j, j < ω k → pI g 6 (τ k j) 0 = nI (τ k j) ∧ τ k j < 120) →
    ∃ g', L_X2_loseTrunks_4 r (nI rem) ka f acc (nI i) g = ka (acc + su (fun k => su (fun j => if τ (i + k) j % 2 = rem then 1 else 0) (ω (i + k))) m) g' ∧ Fr [] [6] g g' ∧ ∀ t, ((∃ k, i ≤ k ∧ k < zb ∧ ∃ j, j < ω k ∧ τ k j = t) → loses rem g g' t) ∧ (¬ (∃ k, i ≤ k ∧ k < zb ∧ ∃ j, j < ω k ∧ τ k j = t) → pR g' 6 t = pR g 6 t) := by
  intro m
  induction m with
  | zero =>
    intro i f acc g hi hf eb rb lb hk
    obtain ⟨f, rfl⟩ := fu_1 hf
    refine ⟨g, ?_, Fr.refl _ _ _, fun t => ⟨fun ⟨k, k1, k2, _⟩ => by omega, fun _ => rfl⟩⟩
    rw [L_X2_loseTrunks_4, eb, q_le (by omega) (by omega), su, Int32.add_zero]
  | succ m ih =>
    intro i f acc g hi hf eb rb lb hk
    obtain ⟨f, rfl⟩ := fu_1 hf
    obtain ⟨g1, e1, fr1, u3⟩ := F_lose3 hrem (hk i (by omega)).2.1 (hk i (by omega)).2.2
    obtain ⟨g', e, fr, w5⟩ := ih (i + 1) f (acc + su (fun j => if τ i j % 2 = rem then 1 else 0) (ω i)) g1 (by omega) (by omega) (by rw [fr1.I (by decide)]; exact eb) (by rw [fr1.R (by decide)]; exact rb) (by rw [fr1.L]; exact lb) (fun k hk2 => ⟨by rw [fr1.R (by decide)]; exact (hk k hk2).1, (hk k hk2).2.1.fr fr1 (by decide) (by decide) (by decide), fun j hj => by rw [fr1.I (by decide)]; exact (hk k hk2).2.2 j hj⟩)
    refine ⟨g', ?_, fr1.trans fr, fun t => ⟨fun ⟨k, k1, k2, j, j1, j2⟩ => ?_, fun hn => ?_⟩⟩
    · rw [L_X2_loseTrunks_4, eb, q_nle (by omega) (by omega), rb, e_nn, lb, i_inb (by omega) (by omega), e_ck, i_cl (by omega), (hk i (by omega)).1, e_nn, e1, e_cl, nI_1, su_off (fun k => su (fun j => if τ k j % 2 = rem then (1 : Int32) else 0) (ω k)), ← Int32.add_assoc]
      exact e
    · by_cases c : ∃ k, i + 1 ≤ k ∧ k < zb ∧ ∃ j, j < ω k ∧ τ k j = t
      · obtain ⟨k1, k2, k3⟩ := (w5 t).1 c
        by_cases d : ∃ j, j < ω i ∧ τ i j = t
        · obtain ⟨l1, l2, l3⟩ := (u3 t).1 d
          exact ⟨k1, fun e => (k2 e).trans (l2 e), k3.trans l3⟩
        · unfold loses
          rw [← (u3 t).2 d]
          exact ⟨k1, k2, k3⟩
      · unfold loses
        rw [(w5 t).2 c]
        have : k = i := by
          by_cases d : k = i
          · exact d
          · exact absurd ⟨k, by omega, k2, j, j1, j2⟩ c
        subst this
        exact (u3 t).1 ⟨j, j1, j2⟩
    · rw [(w5 t).2 (fun ⟨k, k1, k2, k3⟩ => hn ⟨k, by omega, k2, k3⟩)]
      exact (u3 t).2 (fun ⟨j, j1, j2⟩ => hn ⟨i, Nat.le_refl _, by omega, j, j1, j2⟩)
end ROWS
