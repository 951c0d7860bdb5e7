theorem su_ext {f g : Nat → Int32} : ∀ {n : Nat}, (∀ k, k < n → f k = g k) → su f n = su g n
  | 0, _ => rfl
  | n + 1, h => by
    rw [su, su, su_ext (fun k hk => h k (by omega)), h n (by omega)]
theorem su_peel (f : Nat → Int32) : ∀ n, su f (n + 1) = f 0 + su (fun k => f (k + 1)) n
  | 0 => by rw [su, su, su, Int32.add_comm]
  | n + 1 => by
    have e := su_peel f n
    rw [su, e, su, Int32.add_assoc]
theorem su_zero {f : Nat → Int32} : ∀ {n : Nat}, (∀ k, k < n → f k = 0) → su f n = 0
  | 0, _ => rfl
  | n + 1, h => by
    rw [su, su_zero (fun k hk => h k (by omega)), h n (by omega)]
    decide
theorem su_add (f g : Nat → Int32) : ∀ n, su (fun k => f k + g k) n = su f n + su g n
  | 0 => (Int32.add_zero 0).symm
  | n + 1 => by
    rw [su, su, su, su_add f g n]
    grind
theorem r_sub {a k : Nat} (h : k ≤ a + 8) : nI a - (nI k - 8) = nI (a + 8 - k) := by
  have e : nI (a + 8 - k) + nI k = nI a + 8 := by
    rw [nI_add, show a + 8 - k + k = a + 8 by omega, ← nI_add]
    rfl
  grind
section OPS
variable {nw : Nat} {z : Nat → Nat} {ro : Nat → Nat → Nat} {w : Nat → Nat} {tt : Nat → Nat → Nat} {q0 : Nat} {h : Hp}
theorem cnt_80 {T : Nat} (hT : T ≤ 120) (e11 : pI h 8 0 11 = nI T) (r16 : pR h 8 0 16 = some 0) (l38 : pL h 38 0 = 120) {β : Type} (ka : Int32 → Hp → Option β) : ∀ m i f acc, i + m = T → m < f →
    L_X8_count_80 0 ka f acc (nI i) h = ka (acc + su (fun k => if pI h 38 0 (i + k) = 2 then 1 else 0) m) h := by
  intro m
  induction m with
  | zero =>
    intro i f acc hi hf
    obtain ⟨f, rfl⟩ := fu_1 hf
    rw [L_X8_count_80, e11, q_le (by omega) (by omega), su, Int32.add_zero]
  | succ m ih =>
    intro i f acc hi hf
    obtain ⟨f, rfl⟩ := fu_1 hf
    rw [L_X8_count_80, e11, q_nle (by omega) (by omega), r16, e_nn, l38, i_inb (by omega) (by omega), e_ck, i_cl (by omega), nI_1, su_peel]
    have e : (fun k => if pI h 38 0 (i + (k + 1)) = 2 then (1 : Int32) else 0) = fun k => if pI h 38 0 (i + 1 + k) = 2 then 1 else 0 := by
      funext k; rw [show i + (k + 1) = i + 1 + k by omega]
    rw [e]
    simp only [Nat.add_zero]
    by_cases c : pI h 38 0 i = 2
    · rw [if_pos c, if_pos c, ih (i + 1) f _ (by omega) (by omega), Int32.add_assoc]
    · rw [if_neg c, if_neg c, ih (i + 1) f _ (by omega) (by omega), Int32.add_assoc]
theorem cnt_116 {T : Nat} (hT : T ≤ 120) (e11 : pI h 8 0 11 = nI T) (r16 : pR h 8 0 16 = some 0) (l38 : pL h 38 0 = 120) {β : Type} (ka : Int32 → Hp → Option β) : ∀ m i f acc, i + m = T → m < f →
    L_X8_count_116 0 ka f acc (nI i) h = ka (acc + su (fun k => if pI h 38 0 (i + k) = 3 then 1 else 0) m) h := by
  intro m
  induction m with
  | zero =>
    intro i f acc hi hf
    obtain ⟨f, rfl⟩ := fu_1 hf
    rw [L_X8_count_116, e11, q_le (by omega) (by omega), su, Int32.add_zero]
  | succ m ih =>
    intro i f acc hi hf
    obtain ⟨f, rfl⟩ := fu_1 hf
    rw [L_X8_count_116, e11, q_nle (by omega) (by omega), r16, e_nn, l38, i_inb (by omega) (by omega), e_ck, i_cl (by omega), nI_1, su_peel]
    have e : (fun k => if pI h 38 0 (i + (k + 1)) = 3 then (1 : Int32) else 0) = fun k => if pI h 38 0 (i + 1 + k) = 3 then 1 else 0 := by
      funext k; rw [show i + (k + 1) = i + 1 + k by omega]
    rw [e]
    simp only [Nat.add_zero]
    by_cases c : pI h 38 0 i = 3
    · rw [if_pos c, if_pos c, ih (i + 1) f _ (by omega) (by omega), Int32.add_assoc]
    · rw [if_neg c, if_neg c, ih (i + 1) f _ (by omega) (by omega), Int32.add_assoc]
theorem wi_100 (x : Int32) {S : Nat} (hS : S ≤ 12) : (∃ j, j < S ∧ x = nI (100 + j)) ∨ ((x < 100 ∨ ixo (x - 100) S = none ∧ ¬ x < 100) ∧ wi x 100 (99 + nI S) = 0) := by
  by_cases c : x < 100
  · refine Or.inr ⟨Or.inl c, ?_⟩
    unfold wi
    rw [if_pos c]
  · have x0 : ¬ x < 0 := fun d => c (by
      rw [Int32.lt_iff_toInt_lt] at d ⊢
      have e1 : (0 : Int32).toInt = 0 := by decide
      have e2 : (100 : Int32).toInt = 100 := by decide
      omega)
    obtain ⟨k, hk, rfl⟩ := nI_of x0
    have c' : ¬ k < 100 := fun d => c (by rw [i_ltR 100 (by omega) hk]; exact d)
    obtain ⟨j, rfl⟩ : ∃ j, k = 100 + j := ⟨k - 100, by omega⟩
    by_cases d : j < S
    · exact Or.inl ⟨j, d, rfl⟩
    · refine Or.inr ⟨Or.inr ⟨?_, c⟩, ?_⟩
      · have e : nI (100 + j) - 100 = nI j := by
          have := i_sub (a := 100 + j) (b := 100) (by omega)
          rw [show 100 + j - 100 = j by omega] at this
          exact this
        rw [e]
        unfold ixo
        rw [if_neg]
        rw [i_cl (by omega)]
        omega
      · unfold wi
        rw [if_neg c, show (99 : Int32) = nI 99 from rfl, nI_add, q_lt (by omega) hk]
theorem op_count (I : SimG nw z ro w tt q0 h) (x : Int32) : OP (F_X7_count 0 x) (F_X8_count 0 x) h := by
  have hT := I.c_hT
  have hS := I.c_hS
  obtain ⟨n1, n2, n3⟩ := I.gnw
  have key : ∃ B : Int32, F_X8_count 0 x h = some (B, h) ∧ F_X7_count 0 x h = some (B, h) := by
    rw [F_X8_count, F_X7_count]
    by_cases c0 : x = 0
    · rw [if_pos c0, if_pos c0, n1, n2]; exact ⟨_, rfl, rfl⟩
    rw [if_neg c0, if_neg c0]
    by_cases c1 : x = 1
    · rw [if_pos c1, if_pos c1, I.c_i1, I.c_j1]; exact ⟨_, rfl, rfl⟩
    rw [if_neg c1, if_neg c1]
    by_cases c2 : x = 2
    · rw [if_pos c2, if_pos c2, I.c_i3, I.c_j11]; exact ⟨_, rfl, rfl⟩
    rw [if_neg c2, if_neg c2]
    by_cases c3 : x = 3
    · rw [if_pos c3, if_pos c3, I.c_i5, I.c_j24]; exact ⟨_, rfl, rfl⟩
    rw [if_neg c3, if_neg c3]
    by_cases c4 : x = 4
    · rw [if_pos c4, if_pos c4, I.c_i7, I.c_j30]; exact ⟨_, rfl, rfl⟩
    rw [if_neg c4, if_neg c4]
    by_cases c5 : x = 5
    · rw [if_pos c5, if_pos c5, I.tk]; exact ⟨_, rfl, rfl⟩
    rw [if_neg c5, if_neg c5]
    by_cases c6 : x = 6
    · rw [if_pos c6, if_pos c6, I.so.1]
      have e := cnt_80 I.c_hT I.c_j11 I.r8_16 I.l38_0 (fun k28 h29 => some (k28, h29)) (pC h 6) 0 FU 0 (by omega) (by unfold FU; omega)
      refine ⟨_, e.trans ?_, rfl⟩
      simp only [Nat.zero_add, Int32.zero_add]
      rfl
    rw [if_neg c6, if_neg c6]
    by_cases c7 : x = 7
    · rw [if_pos c7, if_pos c7, I.so.2]
      have e := cnt_116 I.c_hT I.c_j11 I.r8_16 I.l38_0 (fun k28 h29 => some (k28, h29)) (pC h 6) 0 FU 0 (by omega) (by unfold FU; omega)
      refine ⟨_, e.trans ?_, rfl⟩
      simp only [Nat.zero_add, Int32.zero_add]
      rfl
    rw [if_neg c7, if_neg c7, F_in, e_cl, I.c_j1]
    rcases wi_100 x I.c_hS with ⟨j, hj, rfl⟩ | ⟨c, e⟩
    · have e : nI (100 + j) - 100 = nI j := by
        have := i_sub (a := 100 + j) (b := 100) (by omega)
        rw [show 100 + j - 100 = j by omega] at this
        exact this
      have e2 : wi (nI (100 + j)) 100 (99 + nI (pC h 4)) = 1 := by
        unfold wi
        rw [q_nltR 100 (by omega) (by omega), show (99 : Int32) = nI 99 from rfl, nI_add, q_nlt (by omega) (by omega)]
      rw [e2, if_neg (by decide), I.r8_7, e_nn, I.l30_0, e, i_inb (by omega) (by omega), e_ck, i_cl (by omega), q_leL 100 (by omega) (by omega), F_X7_pondOf, I.stationAt, e_cl, ixo_nI hj (by omega), e_onnS, e_cl, (I.st.1 j hj).2.2.2.2.2.2.1]
      exact ⟨_, rfl, rfl⟩
    · rw [e, if_pos rfl]
      refine ⟨-1, rfl, ?_⟩
      rcases c with c | ⟨c, d⟩
      · rw [if_neg]
        intro d
        rw [Int32.lt_iff_toInt_lt] at c
        rw [Int32.le_iff_toInt_le] at d
        omega
      · rw [if_pos (by rw [Int32.lt_iff_toInt_lt] at d; rw [Int32.le_iff_toInt_le]; omega), F_X7_pondOf, I.stationAt, e_cl, c, e_onnN, e_cl]
  obtain ⟨B, k1, k2⟩ := key
  exact OP.same I k2 k1
theorem rest_c {c : Nat} {k : Nat} (hk : k ≤ nw + 8) (hn : nw ≤ 20000) (e5 : pI h 0 c 5 = nI k - 8) {p : Nat} (e2 : pR h 0 c 2 = some p) : F_X0_rests c (nI nw) h = some (if k ≤ nw then 0 else 1, h) := by
  rw [F_X0_rests, e2, e_onnS, e5, r_sub hk]
  by_cases d : k ≤ nw
  · rw [if_pos d, q_leL 8 (by omega) (by omega)]
  · rw [if_neg d, q_nleL 8 (by omega) (by omega)]
theorem rest_m {c : Nat} {k : Nat} (hc : c < 10) (hk : k ≤ nw + 8) (hn : nw ≤ 20000) (e0 : pI h 8 0 0 = nI nw) (r32 : pR h 8 0 32 = some 0) (r34 : pR h 8 0 34 = some 0) (l51 : pL h 51 0 = 10) (l53 : pL h 53 0 = 10) (e5 : pI h 53 0 c = nI k - 8) (e2 : pI h 51 0 c = 0) : F_X8_isResting 0 (nI c) h = some (if k ≤ nw then 0 else 1, h) := by
  rw [F_X8_isResting, r32, e_nn, l51, i_inb (by omega) (by omega), e_ck, i_cl (by omega), if_pos e2, r34, e_nn, l53, i_inb (by omega) (by omega), e_ck, e0, e5, r_sub hk]
  by_cases d : k ≤ nw
  · rw [if_pos d, q_leL 8 (by omega) (by omega)]
  · rw [if_neg d, q_nleL 8 (by omega) (by omega)]
end OPS
