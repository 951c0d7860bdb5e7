section OPS
variable {nw : Nat} {z : Nat → Nat} {ro : Nat → Nat → Nat} {w : Nat → Nat} {tt : Nat → Nat → Nat} {q0 : Nat} {h : Hp}
theorem fu_1 {f m : Nat} (hf : m < f) : ∃ g, f = g + 1 := ⟨f - 1, by omega⟩
theorem find_c (I : SimG nw z ro w tt q0 h) {β : Type} (x : Int32) (ka : Hp → Option β) (kb : Int32 → Hp → Option β) : ∀ m i f, i + m = pC h 6 → m < f →
    L_X7_find_2 0 x ka kb f (nI i) h = match fnd (fun t => decide (pI h 34 0 t = x)) m i with | none => ka h | some t => kb (nI t) h := by
  have hT := I.c_hT
  intro m
  induction m with
  | zero =>
    intro i f hi hf
    obtain ⟨f, rfl⟩ := fu_1 hf
    rw [L_X7_find_2]
    have c : pC h 6 ≤ i := by omega
    simp (disch := omega) only [I.c_i3, i_le, i_lt, i_eq, i_cl, i_inb, nI_add, nI_1, i_n1, i_1n, i_sub, c, ↓reduceIte, fnd]
  | succ m ih =>
    intro i f hi hf
    obtain ⟨f, rfl⟩ := fu_1 hf
    rw [L_X7_find_2]
    have c : ¬ pC h 6 ≤ i := by omega
    have e := (I.tr.1 i (by omega)).1.2.1
    simp (disch := omega) only [I.c_i3, I.r7_2, I.l20_0, I.a20 i (by omega), i_le, i_lt, i_eq, i_cl, i_inb, nI_add, nI_1, i_n1, i_1n, i_sub, c, e_nn, e_onnN, e_onnS, e_ck, e_lt, e_cl, F_within, F_in, isz0, isz1, i10, ↓reduceIte, fnd, e]
    by_cases d : pI h 34 0 i = x
    · simp only [d, ↓reduceIte, decide_true]
    · simp only [d, ↓reduceIte, decide_false, Bool.false_eq_true]
      exact ih (i + 1) f (by omega) (by omega)
theorem find_m {T : Nat} (hT : T ≤ 120) (e11 : pI h 8 0 11 = nI T) (r12 : pR h 8 0 12 = some 0) (l34 : pL h 34 0 = 120) {β : Type} (x : Int32) (ka : Hp → Option β) (kb : Int32 → Hp → Option β) : ∀ m i f, i + m = T → m < f →
    L_X8_find_2 0 x ka kb f (nI i) h = match fnd (fun t => decide (pI h 34 0 t = x)) m i with | none => ka h | some t => kb (nI t) h := by
  intro m
  induction m with
  | zero =>
    intro i f hi hf
    obtain ⟨f, rfl⟩ := fu_1 hf
    rw [L_X8_find_2]
    have c : T ≤ i := by omega
    simp (disch := omega) only [e11, i_le, i_lt, i_eq, i_cl, i_inb, nI_add, nI_1, i_n1, i_1n, i_sub, c, ↓reduceIte, fnd]
  | succ m ih =>
    intro i f hi hf
    obtain ⟨f, rfl⟩ := fu_1 hf
    rw [L_X8_find_2]
    have c : ¬ T ≤ i := by omega
    simp (disch := omega) only [e11, r12, l34, i_le, i_lt, i_eq, i_cl, i_inb, nI_add, nI_1, i_n1, i_1n, i_sub, c, e_nn, e_onnN, e_onnS, e_ck, e_lt, e_cl, F_within, F_in, isz0, isz1, i10, ↓reduceIte, fnd]
    by_cases d : pI h 34 0 i = x
    · simp only [d, ↓reduceIte, decide_true]
    · simp only [d, ↓reduceIte, decide_false, Bool.false_eq_true]
      exact ih (i + 1) f (by omega) (by omega)
/-- the answer of find -/
def fans (T : Nat) (m : Nat → Int32) (x : Int32) : Int32 := match fnd (fun t => decide (m t = x)) T 0 with
  | none => -1
  | some t => nI t
theorem F_find_c (I : SimG nw z ro w tt q0 h) (x : Int32) : F_X7_find 0 x h = some (fans (pC h 6) (pI h 34 0) x, h) := by
  have hT := I.c_hT
  unfold F_X7_find fans
  have e := find_c I x (fun h8 => some ((-1 : Int32), h8)) (fun k9 h10 => some (k9, h10)) (pC h 6) 0 FU (by omega) (by unfold FU; omega)
  rw [show (0 : Int32) = nI 0 from rfl, e]
  split <;> rfl
theorem F_find_m {T : Nat} (hT : T ≤ 120) (e11 : pI h 8 0 11 = nI T) (r12 : pR h 8 0 12 = some 0) (l34 : pL h 34 0 = 120) (x : Int32) : F_X8_find 0 x h = some (fans T (pI h 34 0) x, h) := by
  unfold F_X8_find fans
  have e := find_m hT e11 r12 l34 x (fun h8 => some ((-1 : Int32), h8)) (fun k9 h10 => some (k9, h10)) T 0 FU (by omega) (by unfold FU; omega)
  rw [show (0 : Int32) = nI 0 from rfl, e]
  split <;> rfl
theorem op_find (I : SimG nw z ro w tt q0 h) (x : Int32) : OP (F_X7_find 0 x) (F_X8_find 0 x) h := OP.same I (F_find_c I x) (F_find_m I.c_hT I.c_j11 I.r8_12 I.l34_0 x)
theorem F_state6 {t : Nat} (x : Int32) (hx : (x = 0 ∧ (∃ p, pR h 6 t 5 = some p)) ∨ (x = 1 ∧ pR h 6 t 5 = none ∧ ∃ r, pR h 6 t 6 = some r) ∨ (x = 2 ∧ pR h 6 t 5 = none ∧ pR h 6 t 6 = none ∧ pI h 6 t 7 ≠ -1) ∨ (x = 3 ∧ pR h 6 t 5 = none ∧ pR h 6 t 6 = none ∧ pI h 6 t 7 = -1)) : F_X6_state t h = some (x, h) := by
  unfold F_X6_state
  rcases hx with ⟨rfl, p, e⟩ | ⟨rfl, e, p, e2⟩ | ⟨rfl, e, e2, e3⟩ | ⟨rfl, e, e2, e3⟩
  · simp only [e, e_nn, e_onnN, e_onnS, e_ck, e_lt, e_cl, F_within, F_in, isz0, isz1, i10, ↓reduceIte]
  · simp only [e, e2, e_nn, e_onnN, e_onnS, e_ck, e_lt, e_cl, F_within, F_in, isz0, isz1, i10, ↓reduceIte]
  · simp only [e, e2, e3, e_nn, e_onnN, e_onnS, e_ck, e_lt, e_cl, F_within, F_in, isz0, isz1, i10, ↓reduceIte]
  · simp only [e, e2, e3, e_nn, e_onnN, e_onnS, e_ck, e_lt, e_cl, F_within, F_in, isz0, isz1, i10, ↓reduceIte]
theorem op_told (I : SimG nw z ro w tt q0 h) (x y : Int32) : OP (F_X7_told 0 x y) (F_X8_told 0 x y) h := by
  have hT := I.c_hT
  rcases wi_ix x (n := pC h 6) (by omega) with ⟨e1, e2⟩ | ⟨e1, j, hj, rfl, e2⟩
  · refine OP.same I (r := -1) ?_ ?_
    · simp only [F_X7_told, I.trunkAt, e_nn, e_onnN, e_onnS, e_ck, e_lt, e_cl, F_within, F_in, isz0, isz1, i10, ↓reduceIte, e2]
    · simp only [F_X8_told, F_isTrunk I.c_j11, e_nn, e_onnN, e_onnS, e_ck, e_lt, e_cl, F_within, F_in, isz0, isz1, i10, ↓reduceIte, e1]
  · obtain ⟨⟨a0, a1, a2, a3, a4, a7⟩, -, hst⟩ := I.tr.1 j hj
    have hm : ∀ B : Int32, F_X8_told 0 (nI j) y h = some (B, h) → F_X7_told 0 (nI j) y h = some (B, h) → OP (F_X7_told 0 (nI j) y) (F_X8_told 0 (nI j) y) h := fun B a b => OP.same I b a
    have key : ∃ B : Int32, F_X8_told 0 (nI j) y h = some (B, h) ∧ F_X7_told 0 (nI j) y h = some (B, h) := by
      rw [F_X8_told, F_isTrunk I.c_j11, e_cl, e1, if_neg (by decide), F_X7_told, I.trunkAt, e_cl, e2, e_onnS]
      by_cases c0 : y = 0
      · rw [if_pos c0, if_pos c0, I.r8_12, e_nn, I.l34_0, i_inb (by omega) (by omega), e_ck, i_cl (by omega), a1]
        exact ⟨_, rfl, rfl⟩
      rw [if_neg c0, if_neg c0]
      by_cases c1 : y = 1
      · rw [if_pos c1, if_pos c1, I.r8_13, e_nn, I.l35_0, i_inb (by omega) (by omega), e_ck, i_cl (by omega), a2]
        exact ⟨_, rfl, rfl⟩
      rw [if_neg c1, if_neg c1]
      by_cases c2 : y = 2
      · rw [if_pos c2, if_pos c2, I.r8_14, e_nn, I.l36_0, i_inb (by omega) (by omega), e_ck, i_cl (by omega), a3]
        exact ⟨_, rfl, rfl⟩
      rw [if_neg c2, if_neg c2]
      by_cases c3 : y = 3
      · rw [if_pos c3, if_pos c3, I.r8_15, e_nn, I.l37_0, i_inb (by omega) (by omega), e_ck, i_cl (by omega), a4]
        exact ⟨_, rfl, rfl⟩
      rw [if_neg c3, if_neg c3]
      by_cases c4 : y = 4
      · rw [if_pos c4, if_pos c4, I.r8_16, e_nn, I.l38_0, i_inb (by omega) (by omega), e_ck, i_cl (by omega)]
        refine ⟨pI h 38 0 j, rfl, ?_⟩
        rw [F_state6 (pI h 38 0 j), e_cl]
        rcases hst with ⟨b1, ⟨p, -, b2, -⟩, b3, b4⟩ | ⟨b1, b2, ⟨r, -, b3, -⟩, b4⟩ | ⟨b1, b2, b3, v, b4, b5⟩ | ⟨b1, b2, b3, b4⟩
        · exact Or.inl ⟨b1, p, b2⟩
        · exact Or.inr (Or.inl ⟨b1, b2, r, b3⟩)
        · exact Or.inr (Or.inr (Or.inl ⟨b1, b2, b3, by rw [a7, b5]; exact i_m1 b4⟩))
        · exact Or.inr (Or.inr (Or.inr ⟨b1, b2, b3, by rw [a7, b4]⟩))
      rw [if_neg c4, if_neg c4]
      have q20 : ((2 : Int32) = 0) = False := eq_false (by decide)
      have q30 : ((3 : Int32) = 0) = False := eq_false (by decide)
      have q21 : ((2 : Int32) = 1) = False := eq_false (by decide)
      have q31 : ((3 : Int32) = 1) = False := eq_false (by decide)
      have q01 : ((0 : Int32) = 1) = False := eq_false (by decide)
      by_cases c5 : y = 5
      · rw [if_pos c5, if_pos c5, I.r8_16, e_nn, I.l38_0, i_inb (by omega) (by omega), e_ck, i_cl (by omega), I.r8_17, e_nn, I.l39_0, i_inb (by omega) (by omega), e_ck, F_X7_numberOf]
        rcases hst with ⟨b1, ⟨p, b0, b2, b3⟩, -, -⟩ | ⟨b1, b2, -⟩ | ⟨b1, b2, -⟩ | ⟨b1, b2, -⟩
        · refine ⟨nI p, ?_, ?_⟩
          · simp only [b1, b3, ↓reduceIte]
          · simp only [b2, e_nn, e_onnN, e_onnS, e_ck, e_lt, e_cl, F_within, F_in, isz0, isz1, i10, ↓reduceIte, (I.st.1 p b0).1]
        · exact ⟨-1, by simp only [b1, i10, ↓reduceIte], by simp only [b2, e_nn, e_onnN, e_onnS, e_ck, e_lt, e_cl, F_within, F_in, isz0, isz1, i10, ↓reduceIte]⟩
        · exact ⟨-1, by simp only [b1, q20, ↓reduceIte], by simp only [b2, e_nn, e_onnN, e_onnS, e_ck, e_lt, e_cl, F_within, F_in, isz0, isz1, i10, ↓reduceIte]⟩
        · exact ⟨-1, by simp only [b1, q30, ↓reduceIte], by simp only [b2, e_nn, e_onnN, e_onnS, e_ck, e_lt, e_cl, F_within, F_in, isz0, isz1, i10, ↓reduceIte]⟩
      rw [if_neg c5, if_neg c5]
      by_cases c6 : y = 6
      · rw [if_pos c6, if_pos c6, I.r8_16, e_nn, I.l38_0, i_inb (by omega) (by omega), e_ck, i_cl (by omega), I.r8_18, e_nn, I.l40_0, i_inb (by omega) (by omega), e_ck]
        rcases hst with ⟨b1, -, b2, -⟩ | ⟨b1, -, ⟨r, b0, b2, b3⟩, -⟩ | ⟨b1, -, b2, -⟩ | ⟨b1, -, b2, -⟩
        · exact ⟨-1, by simp only [b1, q01, ↓reduceIte], by simp only [b2, e_nn, e_onnN, e_onnS, e_ck, e_lt, e_cl, F_within, F_in, isz0, isz1, i10, ↓reduceIte]⟩
        · refine ⟨nI r, ?_, ?_⟩
          · simp only [b1, b3, ↓reduceIte]
          · simp only [b2, e_nn, e_onnN, e_onnS, e_ck, e_lt, e_cl, F_within, F_in, isz0, isz1, i10, ↓reduceIte, (I.rf r b0).1.1]
        · exact ⟨-1, by simp only [b1, q21, ↓reduceIte], by simp only [b2, e_nn, e_onnN, e_onnS, e_ck, e_lt, e_cl, F_within, F_in, isz0, isz1, i10, ↓reduceIte]⟩
        · exact ⟨-1, by simp only [b1, q31, ↓reduceIte], by simp only [b2, e_nn, e_onnN, e_onnS, e_ck, e_lt, e_cl, F_within, F_in, isz0, isz1, i10, ↓reduceIte]⟩
      rw [if_neg c6, if_neg c6]
      by_cases c7 : y = 7
      · rw [if_pos c7, if_pos c7, I.r8_21, e_nn, I.l43_0, i_inb (by omega) (by omega), e_ck, i_cl (by omega), a7]
        exact ⟨_, rfl, rfl⟩
      rw [if_neg c7, if_neg c7]
      exact ⟨-1, rfl, rfl⟩
    obtain ⟨B, k1, k2⟩ := key
    exact OP.same I k2 k1
end OPS
