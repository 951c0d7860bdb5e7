/-! which raft goes next at a weir -/
theorem i_subT {a b : Nat} (ha : a < 2147483648) (hb : b < 2147483648) : (nI a - nI b).toInt = (a : Int) - (b : Int) := by
  rw [Int32.toInt_sub, nI_toInt ha, nI_toInt hb]
  simp only [Int.bmod]
  split <;> omega
theorem i_sub0 {a b : Nat} (ha : a < 2147483648) (hb : b < 2147483648) : (nI a - nI b = 0) = (a = b) := by
  apply propext
  constructor
  · intro e
    have := congrArg Int32.toInt e
    rw [i_subT ha hb, show (0 : Int32).toInt = 0 from by decide] at this
    omega
  · intro e
    subst e
    exact Int32.sub_self _
theorem i_subP {a b : Nat} (ha : a < 2147483648) (hb : b < 2147483648) : (0 ≤ nI a - nI b) = (b ≤ a) := by
  apply propext
  rw [Int32.le_iff_toInt_le, i_subT ha hb, show (0 : Int32).toInt = 0 from by decide]
  omega
theorem i_subN {a b : Nat} (ha : a < 2147483648) (hb : b < 2147483648) : (nI a - nI b ≤ 0) = (a ≤ b) := by
  apply propext
  rw [Int32.le_iff_toInt_le, i_subT ha hb, show (0 : Int32).toInt = 0 from by decide]
  omega
def rgN (h : Hp) (ro : Nat → Nat → Nat) (tt : Nat → Nat → Nat) (r : Nat) : Nat := (pI h 55 0 (pI h 35 0 (tt (ro r 0) 0)).toNatClampNeg).toNatClampNeg
def kyr (h : Hp) (z : Nat → Nat) (ro : Nat → Nat → Nat) (w : Nat → Nat) (tt : Nat → Nat → Nat) (r : Nat) : Nat := rgN h ro tt r * 1000000 + (100 - mny z ro w r) * 1000 + r
/-- ready at s, and not too wide -/
def fit (h : Hp) (z : Nat → Nat) (ro : Nat → Nat → Nat) (s r : Nat) : Prop := pI h 45 0 r = 1 ∧ pI h 46 0 r = nI s ∧ ¬ pI h 27 0 s < wdt h z ro r
def cnd (h : Hp) (z : Nat → Nat) (ro : Nat → Nat → Nat) (s r : Nat) : Prop := r < pC h 2 ∧ fit h z ro s r ∧ nI (5 * z r) ≤ pI h 30 0 s
section OPS
variable {nw : Nat} {z : Nat → Nat} {ro : Nat → Nat → Nat} {w : Nat → Nat} {tt : Nat → Nat → Nat} {q0 : Nat} {h g : Hp}
theorem SimG.rgE (I : SimG nw z ro w tt q0 h) {r : Nat} (hr : r < pC h 2) (hz : 0 < z r) : ∃ o, o < 8 ∧ pI h 35 0 (tt (ro r 0) 0) = nI o ∧ pI h 55 0 o = nI (rgN h ro tt r) ∧ rgN h ro tt r ≤ 9 ∧ tt (ro r 0) 0 < pC h 6 := by
  have w1 := ((I.rw.1 r hr).2.2.2.2 0 hz).2.2
  obtain ⟨a1, a2, a3, a4⟩ := I.of_m (j := 0) hr hz (by omega)
  obtain ⟨-, ⟨⟨o, o1, o2⟩, -⟩, -⟩ := I.tr.1 _ a2
  obtain ⟨-, k, k1, k2⟩ := I.rg o o1
  have e : rgN h ro tt r = k := by unfold rgN; rw [o2, i_cl (by omega), k2, i_cl (by omega)]
  exact ⟨o, o1, o2, by rw [e]; exact k2, by rw [e]; exact k1, a2⟩
theorem SimG.rightOf (I : SimG nw z ro w tt q0 h) (c : CE h g) {r : Nat} (hr : r < pC h 2) (hz : 0 < z r) : F_X7_rightOf 0 (some r) g = some (nI (rgN h ro tt r), g) := by
  obtain ⟨o, o1, o2, o3, o4, o5⟩ := I.rgE hr hz
  rw [F_X7_rightOf, e_nn, I.firstC c hr hz, e_cl, e_onnS, c.R (k := 7) (by decide), I.r7_11, e_nn, c.I (k := 6) (by decide), (I.tr.1 _ o5).1.2.2.1, o2, c.L (k := 23) (by decide), I.l23_0, i_inb (by omega) (by omega), e_ck, i_cl (by omega), c.I (k := 23) (by decide), (I.rg o o1).1, o3]
theorem SimG.ahead (I : SimG nw z ro w tt q0 h) (c : CE h g) {a b : Nat} (ha : a < pC h 2) (hza : 0 < z a) (hb : b < pC h 2) (hzb : 0 < z b) : F_X7_goesAhead 0 (some a) (some b) g = some (if kyr h z ro w tt a < kyr h z ro w tt b then 1 else 0, g) := by
  have hR := I.c_hR
  obtain ⟨-, -, -, -, r1, -⟩ := I.rgE ha hza
  obtain ⟨-, -, -, -, r2, -⟩ := I.rgE hb hzb
  have m1 := I.mny_le ha
  have m2 := I.mny_le hb
  rw [F_X7_goesAhead, I.rightOf c ha hza, e_cl, I.rightOf c hb hzb, e_cl]
  unfold kyr
  by_cases c1 : rgN h ro tt a = rgN h ro tt b
  · rw [if_pos (by rw [i_sub0 (by omega) (by omega)]; exact c1), e_nn, I.count2 c ha, e_cl, e_nn, I.count2 c hb, e_cl]
    by_cases c2 : mny z ro w a = mny z ro w b
    · rw [if_pos (by rw [i_sub0 (by omega) (by omega)]; exact c2), c.I (k := 2) (by decide), (I.rf a ha).1.1, (I.rf b hb).1.1]
      by_cases c3 : b ≤ a
      · rw [q_le c3 (by omega), if_neg (by omega)]
      · rw [q_nle (by omega) (by omega), if_pos (by omega)]
    · rw [if_neg (by rw [i_sub0 (by omega) (by omega)]; exact c2)]
      by_cases c3 : mny z ro w a ≤ mny z ro w b
      · rw [if_pos (by rw [i_subN (by omega) (by omega)]; exact c3), if_neg (by omega)]
      · rw [if_neg (by rw [i_subN (by omega) (by omega)]; exact c3), if_pos (by omega)]
  · rw [if_neg (by rw [i_sub0 (by omega) (by omega)]; exact c1)]
    by_cases c3 : rgN h ro tt b ≤ rgN h ro tt a
    · rw [if_pos (by rw [i_subP (by omega) (by omega)]; exact c3), if_neg (by omega)]
    · rw [if_neg (by rw [i_subP (by omega) (by omega)]; exact c3), if_pos (by omega)]
theorem SimG.aheadM (I : SimG nw z ro w tt q0 h) (m : ME h g) {a b : Nat} (ha : a < pC h 2) (hza : 0 < z a) (hb : b < a) (hzb : 0 < z b) : F_X8_isAhead 0 (nI a) (nI b) g = some (if kyr h z ro w tt a < kyr h z ro w tt b then 1 else 0, g) := by
  have hR := I.c_hR
  have hT := I.c_hT
  obtain ⟨o, o1, o2, o3, r1, o5⟩ := I.rgE ha hza
  obtain ⟨p, p1, p2, p3, r2, p5⟩ := I.rgE (r := b) (by omega) hzb
  have m1 := I.mny_le ha
  have m2 := I.mny_le (r := b) (by omega)
  rw [F_X8_isAhead, I.firstM m ha hza, e_cl, m.R (k := 8) (by decide), I.r8_13, e_nn, m.L (k := 35) (by decide), I.l35_0, i_inb (by omega) (by omega), e_ck, I.r8_36, e_nn, i_cl (by omega), m.I (k := 35) (by decide), o2, m.L (k := 55) (by decide), I.l55_0, i_inb (by omega) (by omega), e_ck, I.firstM m (by omega) hzb, e_cl, e_nn, m.L (k := 35) (by decide), I.l35_0, i_inb (by omega) (by omega), e_ck, e_nn, i_cl (by omega), m.I (k := 35) (by decide), p2, m.L (k := 55) (by decide), I.l55_0, i_inb (by omega) (by omega), e_ck, i_cl (by omega), i_cl (by omega), m.I (k := 55) (by decide), o3, p3]
  unfold kyr
  by_cases c1 : rgN h ro tt a < rgN h ro tt b
  · rw [q_lt c1 (by omega), if_pos (by omega)]
  · rw [q_nlt (by omega) (by omega)]
    by_cases c2 : rgN h ro tt a = rgN h ro tt b
    · rw [q_eq c2, I.many m ha, e_cl, I.many m (by omega), e_cl]
      by_cases c3 : mny z ro w a ≤ mny z ro w b
      · rw [q_le c3 (by omega), if_neg (by omega)]
      · rw [q_nle (by omega) (by omega), if_pos (by omega)]
    · rw [q_ne c2 (by omega) (by omega), if_neg (by omega)]
/-- what a raft that is ready has -/
theorem SimG.rdy (I : SimG nw z ro w tt q0 h) {r : Nat} (hr : r < pC h 2) (e : pI h 45 0 r = 1) : 0 < z r ∧ (∃ p, p < pC h 4 ∧ 0 < p ∧ pR h 2 r 3 = some p ∧ pI h 46 0 r = nI p) ∧ (∃ c, c < pC h 0 ∧ pR h 2 r 4 = some c ∧ pI h 48 0 r = nI c ∧ pR h 0 c 3 = some r ∧ crw h r = c) ∧ pI h 49 0 r = -1 := by
  have hz := I.z47 hr
  obtain ⟨-, b⟩ := I.rf r hr
  rcases b with ⟨b1, -⟩ | ⟨b1, -⟩ | ⟨b1, b2, b3, ⟨c, c1, c2, c3, c4⟩, b5⟩ | ⟨b1, -⟩
  · rw [e] at b1; exact absurd b1 (by decide)
  · rw [e] at b1; exact absurd b1 (by decide)
  · refine ⟨?_, b3, ⟨c, c1, c2, c3, c4, crw_S c2⟩, b5⟩
    rw [hz] at b2
    refine Nat.pos_of_ne_zero (fun q => b2 (by rw [q]; rfl))
  · rw [e] at b1; exact absurd b1 (by decide)
theorem SimG.fits (I : SimG nw z ro w tt q0 h) (c : CE h g) {r s : Nat} (hr : r < pC h 2) (hs : s < pC h 4) : (fit h z ro s r ∧ F_X2_fits r (some s) g = some (1, g)) ∨ (¬ fit h z ro s r ∧ F_X2_fits r (some s) g = some (0, g)) := by
  have hS := I.c_hS
  rw [F_X2_fits, c.R (k := 2) (by decide), I.state2g hr (by rw [c.I (by decide)]) (by rw [c.R (by decide)]), e_cl, I.width2 c hr, e_cl, e_nn, c.I (k := 4) (by decide), (I.st.1 s hs).2.2.1]
  by_cases c1 : pI h 45 0 r = 1
  rotate_left
  · refine Or.inr ⟨fun q => c1 q.1, ?_⟩
    rw [if_neg c1]
    split <;> rfl
  rw [if_pos c1]
  obtain ⟨-, ⟨p, p1, p2, p3, p4⟩, -⟩ := I.rdy hr c1
  rw [p3]
  by_cases c2 : p = s
  rotate_left
  · refine Or.inr ⟨fun q => ?_, by rw [if_neg (by simpa using c2)]⟩
    have := q.2.1
    rw [p4, i_eq (by omega) (by omega)] at this
    exact c2 this
  subst c2
  rw [if_pos rfl]
  by_cases c3 : pI h 27 0 p < wdt h z ro r
  · exact Or.inr ⟨fun q => q.2.2 c3, by rw [if_pos c3]⟩
  · exact Or.inl ⟨⟨c1, p4, c3⟩, by rw [if_neg c3]⟩
theorem SimG.needC (I : SimG nw z ro w tt q0 h) (c : CE h g) {r : Nat} (hr : r < pC h 2) : F_X2_need r g = some (nI (5 * z r), g) := by
  rw [F_X2_need, c.I (k := 2) (by decide), (I.rw.1 r hr).1, show (5 : Int32) = nI 5 from rfl, pk_mul]
def spC (h : Hp) (z : Nat → Nat) (ro : Nat → Nat → Nat) (w : Nat → Nat) (tt : Nat → Nat → Nat) (s : Nat) (κ : Nat → Nat) (i : Nat) (v : Option Nat) : Prop := (∀ b, v = some b → cnd h z ro s b ∧ κ b < i) ∧ ∀ r, cnd h z ro s r → κ r < i → ∃ b, v = some b ∧ kyr h z ro w tt b ≤ kyr h z ro w tt r
theorem spC.skip {s : Nat} {κ : Nat → Nat} {i : Nat} {v : Option Nat} (a : spC h z ro w tt s κ i v) (hn : ∀ r, cnd h z ro s r → κ r ≠ i) : spC h z ro w tt s κ (i + 1) v :=
  ⟨fun b hb => ⟨(a.1 b hb).1, by have := (a.1 b hb).2; omega⟩, fun r hr hk => a.2 r hr (by have := hn r hr; omega)⟩
theorem spC.keep {s : Nat} {κ : Nat → Nat} {i : Nat} {b r : Nat} (a : spC h z ro w tt s κ i (some b)) (hn : ∀ r', cnd h z ro s r' → κ r' = i → r' = r) (hb : ¬ kyr h z ro w tt r < kyr h z ro w tt b) : spC h z ro w tt s κ (i + 1) (some b) :=
  ⟨fun b hb => ⟨(a.1 b hb).1, by have := (a.1 b hb).2; omega⟩, fun r' hr hk => by
    by_cases e : κ r' = i
    · rw [hn r' hr e]; exact ⟨b, rfl, by omega⟩
    · exact a.2 r' hr (by omega)⟩
theorem spC.take {s : Nat} {κ : Nat → Nat} {i : Nat} {v : Option Nat} {r : Nat} (a : spC h z ro w tt s κ i v) (hr : cnd h z ro s r) (hk : κ r = i) (hn : ∀ r', cnd h z ro s r' → κ r' = i → r' = r) (hb : ∀ b, v = some b → kyr h z ro w tt r < kyr h z ro w tt b) : spC h z ro w tt s κ (i + 1) (some r) :=
  ⟨fun b hb => by cases hb; exact ⟨hr, by omega⟩, fun r' hr' hk' => by
    refine ⟨r, rfl, ?_⟩
    by_cases e : κ r' = i
    · rw [hn r' hr' e]; exact Nat.le_refl _
    · obtain ⟨b, h1, h2⟩ := a.2 r' hr' (by omega)
      have := hb b h1
      omega⟩
theorem next_c (I : SimG nw z ro w tt q0 h) (c : CE h g) {s : Nat} (hs : s < pC h 4) {β : Type} (ka : Option Nat → Hp → Option β) : ∀ m i f v, i + m = pC h 0 → m < f → spC h z ro w tt s (crw h) i v → ∃ v', L_X7_nextAt_4 0 (some s) ka f v (nI i) g = ka v' g ∧ spC h z ro w tt s (crw h) (pC h 0) v' := by
  have hC := I.c_hC
  have hR := I.c_hR
  have hS := I.c_hS
  intro m
  induction m with
  | zero =>
    intro i f v hi hf a
    obtain ⟨f, rfl⟩ := fu_1 hf
    refine ⟨v, ?_, by rw [show pC h 0 = i by omega]; exact a⟩
    rw [L_X7_nextAt_4, c.I (k := 7) (by decide), I.c_i7, q_le (by omega) (by omega)]
  | succ m ih =>
    intro i f v hi hf a
    obtain ⟨f, rfl⟩ := fu_1 hf
    rw [L_X7_nextAt_4, c.I (k := 7) (by decide), I.c_i7, q_nle (by omega) (by omega), c.R (k := 7) (by decide), I.r7_6, e_nn, c.L (k := 22) (by decide), I.l22_0, i_inb (by omega) (by omega), e_ck, i_cl (by omega), c.R (k := 22) (by decide), I.a22 i (by omega), e_nn, c.R (k := 0) (by decide), nI_1]
    have own : ∀ r', cnd h z ro s r' → crw h r' = i → pR h 0 i 3 = some r' := by
      intro r' hr' hk
      obtain ⟨-, -, ⟨d, d1, d2, d3, d4, d5⟩, -⟩ := I.rdy hr'.1 hr'.2.1.1
      rw [d5] at hk; subst hk; exact d4
    cases e : pR h 0 i 3 with
    | none =>
      rw [e_onnN]
      exact ih (i + 1) f v (by omega) (by omega) (a.skip (fun r' hr' hk => by have := own r' hr' hk; rw [e] at this; cases this))
    | some r =>
      have uq : ∀ r', cnd h z ro s r' → crw h r' = i → r' = r := fun r' hr' hk => by have := own r' hr' hk; rw [e] at this; cases this; rfl
      obtain ⟨hr, hcr⟩ : r < pC h 2 ∧ crw h r = i := by
        obtain ⟨-, q⟩ := I.cr.1 i (by omega)
        rcases q with ⟨-, -, q, -⟩ | ⟨-, -, ⟨r', q1, q2, q3, -⟩, -⟩ | ⟨-, -, q, -⟩
        · rw [e] at q; cases q
        · rw [e] at q2; cases q2; exact ⟨q1, crw_S q3⟩
        · rw [e] at q; cases q
      rw [e_onnS]
      rcases I.fits c hr hs with ⟨ft, ef⟩ | ⟨ft, ef⟩
      rotate_left
      · rw [ef, e_cl, if_pos rfl]
        exact ih (i + 1) f v (by omega) (by omega) (a.skip (fun r' hr' hk => ft (by rw [← uq r' hr' hk]; exact hr'.2.1)))
      rw [ef, e_cl, if_neg (by decide), I.needC c hr, e_cl, e_nn, c.I (k := 4) (by decide), (I.st.1 s hs).2.2.2.2.2.2.1]
      by_cases c2 : pI h 30 0 s < nI (5 * z r)
      · rw [if_pos c2]
        exact ih (i + 1) f v (by omega) (by omega) (a.skip (fun r' hr' hk => i_nle.mpr c2 (by rw [← uq r' hr' hk]; exact hr'.2.2)))
      rw [if_neg c2]
      have hcn : cnd h z ro s r := ⟨hr, ft, by
        by_cases q : nI (5 * z r) ≤ pI h 30 0 s
        · exact q
        · exact absurd (i_nle.mp q) c2⟩
      cases v with
      | none =>
        rw [e_onnN]
        exact ih (i + 1) f (some r) (by omega) (by omega) (a.take hcn hcr uq (fun b hb => by cases hb))
      | some b =>
        obtain ⟨⟨hb, fb, -⟩, -⟩ := a.1 b rfl
        rw [e_onnS, I.ahead c hr (I.rdy hr ft.1).1 hb (I.rdy hb fb.1).1, e_cl]
        by_cases c3 : kyr h z ro w tt r < kyr h z ro w tt b
        · rw [if_pos c3, if_neg (by decide)]
          exact ih (i + 1) f (some r) (by omega) (by omega) (a.take hcn hcr uq (fun b' hb' => by cases hb'; exact c3))
        · rw [if_neg c3, if_pos rfl]
          exact ih (i + 1) f (some b) (by omega) (by omega) (a.keep uq c3)
theorem weir_m (I : SimG nw z ro w tt q0 h) (c : ME h g) {s : Nat} (hs : s < pC h 4) {β : Type} (ka : Int32 → Hp → Option β) : ∀ m i f v, i + m = pC h 2 → m < f → spC h z ro w tt s id i v → ∃ v', L_X8_weir_29 0 (nI s) ka f (vK v) (nI i) g = ka (vK v') g ∧ spC h z ro w tt s id (pC h 2) v' := by
  have hC := I.c_hC
  have hR := I.c_hR
  have hS := I.c_hS
  intro m
  induction m with
  | zero =>
    intro i f v hi hf a
    obtain ⟨f, rfl⟩ := fu_1 hf
    refine ⟨v, ?_, by rw [show pC h 2 = i by omega]; exact a⟩
    rw [L_X8_weir_29, c.I (k := 8) (by decide), I.c_j24, q_le (by omega) (by omega)]
  | succ m ih =>
    intro i f v hi hf a
    obtain ⟨f, rfl⟩ := fu_1 hf
    have hr : i < pC h 2 := by omega
    have uq : ∀ r', cnd h z ro s r' → id r' = i → r' = i := fun r' _ hk => hk
    have skip : ¬ cnd h z ro s i → ∃ v', L_X8_weir_29 0 (nI s) ka f (vK v) (nI (i + 1)) g = ka (vK v') g ∧ spC h z ro w tt s id (pC h 2) v' := fun q => ih (i + 1) f v (by omega) (by omega) (a.skip (fun r' hr' hk => q (by rw [← uq r' hr' hk]; exact hr')))
    rw [L_X8_weir_29, c.I (k := 8) (by decide), I.c_j24, q_nle (by omega) (by omega), c.R (k := 8) (by decide), I.r8_25, e_nn, c.L (k := 45) (by decide), I.l45_0, i_inb (by omega) (by omega), e_ck, i_cl (by omega), c.I (k := 45) (by decide), nI_1]
    by_cases c1 : pI h 45 0 i = 1
    rotate_left
    · rw [if_neg c1]; exact skip (fun q => c1 q.2.1.1)
    rw [if_pos c1, I.r8_26, e_nn, c.L (k := 46) (by decide), I.l46_0, i_inb (by omega) (by omega), e_ck, c.I (k := 46) (by decide)]
    by_cases c2 : pI h 46 0 i = nI s
    rotate_left
    · rw [if_neg c2]; exact skip (fun q => c2 q.2.1.2.1)
    rw [if_pos c2, I.widthM c hr, e_cl, c.R (k := 8) (by decide), I.r8_4, e_nn, c.L (k := 27) (by decide), I.l27_0, i_inb (by omega) (by omega), e_ck, i_cl (by omega), c.I (k := 27) (by decide)]
    by_cases c3 : pI h 27 0 s < wdt h z ro i
    · rw [if_pos c3]; exact skip (fun q => q.2.1.2.2 c3)
    rw [if_neg c3, I.r8_27, e_nn, c.L (k := 47) (by decide), I.l47_0, i_inb (by omega) (by omega), e_ck, I.r8_7, e_nn, c.L (k := 30) (by decide), I.l30_0, i_inb (by omega) (by omega), e_ck, c.I (k := 47) (by decide), I.z47 hr, show (5 : Int32) = nI 5 from rfl, pk_mul, c.I (k := 30) (by decide)]
    by_cases c4 : nI (5 * z i) ≤ pI h 30 0 s
    rotate_left
    · rw [if_neg c4]; exact skip (fun q => c4 q.2.2)
    have hcn : cnd h z ro s i := ⟨hr, ⟨c1, c2, c3⟩, c4⟩
    rw [if_pos c4]
    cases v with
    | none =>
      rw [show vK none = -1 from rfl, if_pos rfl]
      exact ih (i + 1) f (some i) (by omega) (by omega) (a.take hcn rfl uq (fun b hb => by cases hb))
    | some b =>
      obtain ⟨⟨hb, fb, -⟩, hbi⟩ := a.1 b rfl
      have hbi : b < i := hbi
      rw [show vK (some b) = nI b from rfl, q_m1 (by omega), I.aheadM c hr (I.rdy hr c1).1 hbi (I.rdy hb fb.1).1, e_cl]
      by_cases c5 : kyr h z ro w tt i < kyr h z ro w tt b
      · rw [if_pos c5, if_neg (by decide)]
        exact ih (i + 1) f (some i) (by omega) (by omega) (a.take hcn rfl uq (fun b' hb' => by cases hb'; exact c5))
      · rw [if_neg c5, if_pos rfl]
        exact ih (i + 1) f (some b) (by omega) (by omega) (a.keep uq c5)
/-- both choose the same -/
theorem SimG.choice (I : SimG nw z ro w tt q0 h) {s : Nat} {v v' : Option Nat} (a : spC h z ro w tt s (crw h) (pC h 0) v) (b : spC h z ro w tt s id (pC h 2) v') : v = v' := by
  have hR := I.c_hR
  have c1 : ∀ r, cnd h z ro s r → crw h r < pC h 0 := fun r hr => by
    obtain ⟨-, -, ⟨d, d1, d2, d3, d4, d5⟩, -⟩ := I.rdy hr.1 hr.2.1.1
    omega
  cases v with
  | none =>
    cases v' with
    | none => rfl
    | some y =>
      obtain ⟨q, -⟩ := b.1 y rfl
      obtain ⟨x, hx, -⟩ := a.2 y q (c1 y q)
      cases hx
  | some x =>
    obtain ⟨q, -⟩ := a.1 x rfl
    obtain ⟨y, hy, l1⟩ := b.2 x q q.1
    subst hy
    obtain ⟨q', -⟩ := b.1 y rfl
    obtain ⟨x', hx, l2⟩ := a.2 y q' (c1 y q')
    cases hx
    have e : kyr h z ro w tt x = kyr h z ro w tt y := by omega
    have z1 := (I.rdy q.1 q.2.1.1).1
    have z2 := (I.rdy q'.1 q'.2.1.1).1
    have m1 := I.mny_le q.1
    have m2 := I.mny_le q'.1
    obtain ⟨-, -, -, -, r1, -⟩ := I.rgE q.1 z1
    obtain ⟨-, -, -, -, r2, -⟩ := I.rgE q'.1 z2
    have k1 := q.1
    have k2 := q'.1
    unfold kyr at e
    congr 1
    omega
end OPS
