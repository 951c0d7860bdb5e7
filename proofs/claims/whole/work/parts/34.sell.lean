theorem su_chg {f g : Nat → Int32} {t : Nat} (he : ∀ k, k ≠ t → g k = f k) : ∀ {n : Nat}, t < n → su g n = su f n + (g t - f t)
  | 0, h => by omega
  | n + 1, h => by
    rw [su, su]
    by_cases e : t = n
    · subst e
      rw [su_ext (g := f) (fun k hk => he k (by omega))]
      grind
    · rw [su_chg he (n := n) (by omega), he n (by omega)]
      grind
theorem cnt_up {T t : Nat} {m : Nat → Int32} (ht : t < T) (a v : Int32) : cnt T (up1 m t a) v = cnt T m v + ((if a = v then 1 else 0) - (if m t = v then 1 else 0)) := by
  unfold cnt
  rw [su_chg (f := fun t => if m t = v then (1 : Int32) else 0) (t := t) (fun k hk => by simp only [up1_n _ _ hk]) ht]
  simp only [up1_s]
def bok (d : Nat → Nat) (i : Nat) (b : Option Nat) : Bool := match b with | none => true | some k => decide (d k ≤ d i)
theorem bok_iff {d : Nat → Nat} {i : Nat} {b : Option Nat} : bok d i b = true ↔ ∀ k, b = some k → d k ≤ d i := by
  cases b with
  | none => exact ⟨fun _ k h => (by cases h), fun _ => rfl⟩
  | some k => exact ⟨fun e k' h => by cases h; simpa [bok] using e, fun e => by simpa [bok] using e k rfl⟩
/-- the last that is told for the latest day -/
def bst (ok : Nat → Bool) (d : Nat → Nat) : Nat → Nat → Option Nat → Option Nat
  | 0, _, b => b
  | m + 1, i, b => if ok i = true ∧ bok d i b = true then bst ok d m (i + 1) (some i) else bst ok d m (i + 1) b
def vS (σ : Nat → Int32) (b : Option Nat) : Int32 := match b with | none => 0 | some k => σ k
def vD (d : Nat → Nat) (b : Option Nat) : Int32 := match b with | none => -1 | some k => nI (d k)
def vK (b : Option Nat) : Int32 := match b with | none => -1 | some k => nI k
theorem bst_y {ok : Nat → Bool} {d : Nat → Nat} {m i : Nat} {b : Option Nat} (h1 : ok i = true) (h2 : ∀ k, b = some k → d k ≤ d i) : bst ok d (m + 1) i b = bst ok d m (i + 1) (some i) := by
  rw [bst, if_pos ⟨h1, bok_iff.mpr h2⟩]
theorem bst_n {ok : Nat → Bool} {d : Nat → Nat} {m i : Nat} {b : Option Nat} (h1 : ¬ ok i = true) : bst ok d (m + 1) i b = bst ok d m (i + 1) b := by
  rw [bst, if_neg (fun e => h1 e.1)]
theorem bst_k {ok : Nat → Bool} {d : Nat → Nat} {m i : Nat} {b : Option Nat} (h1 : ¬ ∀ k, b = some k → d k ≤ d i) : bst ok d (m + 1) i b = bst ok d m (i + 1) b := by
  rw [bst, if_neg (fun e => h1 (bok_iff.mp e.2))]
theorem bst_lt {ok : Nat → Bool} {d : Nat → Nat} : ∀ {m i : Nat} {b : Option Nat} {n : Nat}, i + m = n → (∀ k, b = some k → k < n) → ∀ k, bst ok d m i b = some k → k < n
  | 0, i, b, n, h, hb, k, e => hb k e
  | m + 1, i, b, n, h, hb, k, e => by
    rw [bst] at e
    split at e
    · exact bst_lt (by omega) (fun k h => by cases h; omega) k e
    · exact bst_lt (by omega) hb k e
theorem bst_ext {ok ok' : Nat → Bool} {d d' : Nat → Nat} {n : Nat} (ho : ∀ k, k < n → ok k = ok' k) (hd : ∀ k, k < n → d k = d' k) : ∀ {m i : Nat} {b : Option Nat}, i + m = n → (∀ k, b = some k → k < n) → bst ok d m i b = bst ok' d' m i b
  | 0, i, b, h, hb => rfl
  | m + 1, i, b, h, hb => by
    rw [bst, bst, ho i (by omega)]
    have e : bok d i b = true ↔ bok d' i b = true := by
      rw [bok_iff, bok_iff]
      constructor
      · intro q k hk; rw [← hd k (hb k hk), ← hd i (by omega)]; exact q k hk
      · intro q k hk; rw [hd k (hb k hk), hd i (by omega)]; exact q k hk
    by_cases c : ok' i = true ∧ bok d' i b = true
    · rw [if_pos c, if_pos ⟨c.1, e.mpr c.2⟩]
      exact bst_ext ho hd (by omega) (fun k h => by cases h; omega)
    · rw [if_neg c, if_neg (fun q => c ⟨q.1, e.mp q.2⟩)]
      exact bst_ext ho hd (by omega) hb
section OPS
variable {nw : Nat} {z : Nat → Nat} {ro : Nat → Nat → Nat} {w : Nat → Nat} {tt : Nat → Nat → Nat} {q0 : Nat} {h : Hp}
theorem inf_c {q n len : Nat} {K : Nat → Bool} {d : Nat → Nat} {σ : Nat → Int32} {ky : Int32} {D : Nat} (e3 : pI h 5 q 3 = nI n) (hn : n ≤ len) (hl : len < 1000) (r0 : pR h 5 q 0 = some q) (r1 : pR h 5 q 1 = some q) (r2 : pR h 5 q 2 = some q) (l0 : pL h 16 q = len) (l1 : pL h 17 q = len) (l2 : pL h 18 q = len)
    (hk : ∀ k, k < n → (pI h 16 q k = ky ↔ K k = true) ∧ pI h 17 q k = nI (d k) ∧ pI h 18 q k = σ k ∧ d k < 2147483648) (hD : D < 2147483648) {β : Type} (ka : Int32 → Hp → Option β) : ∀ m i f b, i + m = n → m < f → (∀ k, b = some k → k < n) →
    L_X5_inForce_8 q ky (nI D) ka f (vS σ b) (vD d b) (nI i) h = ka (vS σ (bst (fun k => K k && decide (d k ≤ D)) d m i b)) h := by
  intro m
  induction m with
  | zero =>
    intro i f b hi hf hb
    obtain ⟨f, rfl⟩ := fu_1 hf
    rw [L_X5_inForce_8, e3, q_le (by omega) (by omega), bst]
  | succ m ih =>
    intro i f b hi hf hb
    obtain ⟨f, rfl⟩ := fu_1 hf
    obtain ⟨k1, k2, k3, k4⟩ := hk i (by omega)
    rw [L_X5_inForce_8, e3, q_nle (by omega) (by omega), r0, e_nn, l0, i_inb (by omega) (by omega), e_ck, i_cl (by omega), nI_1]
    by_cases c1 : K i = true
    · rw [if_pos (k1.mpr c1), r1, e_nn, l1, i_inb (by omega) (by omega), e_ck, e_ck, e_ck, k2]
      by_cases c2 : d i ≤ D
      · rw [q_nlt c2 hD]
        by_cases c3 : ∀ k, b = some k → d k ≤ d i
        · rw [bst_y (by simp only [c1, c2, decide_true, Bool.and_self]) c3, ← ih (i + 1) f (some i) (by omega) (by omega) (fun k h => by cases h; omega)]
          have : ¬ nI (d i) < vD d b := by
            cases b with
            | none =>
              show ¬ nI (d i) < -1
              intro e
              rw [Int32.lt_iff_toInt_lt, nI_toInt k4] at e
              have : (-1 : Int32).toInt = -1 := by decide
              omega
            | some k =>
              show ¬ nI (d i) < nI (d k)
              exact nI_nlt (c3 k rfl) k4
          rw [if_neg this, r2, e_nn, l2, i_inb (by omega) (by omega), e_ck, k3]
          rfl
        · rw [bst_k c3, ← ih (i + 1) f b (by omega) (by omega) hb]
          cases b with
          | none => exact absurd (fun k h => by cases h) c3
          | some k =>
            have k5 := (hk k (hb k rfl)).2.2.2
            rw [show vD d (some k) = nI (d k) from rfl, q_lt (by
              by_cases g : d k ≤ d i
              · exact absurd (fun k' h => by cases h; exact g) c3
              · omega) k5]
      · rw [q_lt (by omega) k4, bst_n (by simp only [c2, decide_false, Bool.and_false, Bool.false_eq_true, not_false_eq_true]), ih (i + 1) f b (by omega) (by omega) hb]
    · rw [if_neg (fun e => c1 (k1.mp e)), bst_n (by simp only [c1, Bool.false_and, Bool.false_eq_true, not_false_eq_true]), ih (i + 1) f b (by omega) (by omega) hb]
theorem toll_m {n : Nat} {d : Nat → Nat} {D : Nat} (e3 : pI h 8 0 38 = nI n) (hn : n ≤ 30) (r1 : pR h 8 0 39 = some 0) (l1 : pL h 57 0 = 30)
    (hk : ∀ k, k < n → pI h 57 0 k = nI (d k) ∧ d k < 2147483648) (hD : D < 2147483648) {β : Type} (ka : Int32 → Hp → Option β) : ∀ m i f b, i + m = n → m < f → (∀ k, b = some k → k < n) →
    L_X8_tollOf_4 0 (nI D) ka f (vK b) (nI i) h = ka (vK (bst (fun k => true && decide (d k ≤ D)) d m i b)) h := by
  intro m
  induction m with
  | zero =>
    intro i f b hi hf hb
    obtain ⟨f, rfl⟩ := fu_1 hf
    rw [L_X8_tollOf_4, e3, q_le (by omega) (by omega), bst]
  | succ m ih =>
    intro i f b hi hf hb
    obtain ⟨f, rfl⟩ := fu_1 hf
    obtain ⟨k2, k4⟩ := hk i (by omega)
    rw [L_X8_tollOf_4, e3, q_nle (by omega) (by omega), r1, e_nn, l1, i_inb (by omega) (by omega), e_ck, e_ck, i_cl (by omega), nI_1, k2]
    by_cases c2 : d i ≤ D
    · rw [q_nlt c2 hD]
      cases b with
      | none =>
        rw [bst_y (by simp only [c2, decide_true, Bool.and_self]) (fun k h => by cases h), ← ih (i + 1) f (some i) (by omega) (by omega) (fun k h => by cases h; omega)]
        rw [show vK none = -1 from rfl, if_pos rfl]
        rfl
      | some k =>
        have k5 := hb k rfl
        obtain ⟨k6, k7⟩ := hk k k5
        rw [show vK (some k) = nI k from rfl, q_m1 (by omega), i_inb (by omega) (by omega), e_ck, i_cl (by omega), k6]
        by_cases c3 : d k ≤ d i
        · rw [q_nlt c3 k4, bst_y (by simp only [c2, decide_true, Bool.and_self]) (fun k h => by cases h; exact c3), ← ih (i + 1) f (some i) (by omega) (by omega) (fun k h => by cases h; omega)]
          rfl
        · rw [q_lt (by omega) k7, bst_k (fun e => c3 (e k rfl)), ← ih (i + 1) f (some k) (by omega) (by omega) hb]
          rfl
    · rw [q_lt (by omega) k4, bst_n (by simp only [c2, decide_false, Bool.and_false, Bool.false_eq_true, not_false_eq_true]), ih (i + 1) f b (by omega) (by omega) hb]
theorem price_m {n : Nat} {K : Nat → Bool} {d : Nat → Nat} {D : Nat} {ci so : Int32} (e3 : pI h 8 0 41 = nI n) (e0 : pI h 8 0 0 / (24 : Int32) = nI D) (hn : n ≤ 100) (r42 : pR h 8 0 42 = some 0) (r43 : pR h 8 0 43 = some 0) (r44 : pR h 8 0 44 = some 0) (l59 : pL h 59 0 = 100) (l60 : pL h 60 0 = 100) (l61 : pL h 61 0 = 100)
    (hk : ∀ k, k < n → ((pI h 59 0 k = ci ∧ pI h 60 0 k = so) ↔ K k = true) ∧ pI h 61 0 k = nI (d k) ∧ d k < 2147483648) (hD : D < 2147483648) {β : Type} (ka : Int32 → Hp → Option β) : ∀ m i f b, i + m = n → m < f → (∀ k, b = some k → k < n) →
    L_X8_priceNow_5 0 ci so ka f (vK b) (nI i) h = ka (vK (bst (fun k => K k && decide (d k ≤ D)) d m i b)) h := by
  intro m
  induction m with
  | zero =>
    intro i f b hi hf hb
    obtain ⟨f, rfl⟩ := fu_1 hf
    rw [L_X8_priceNow_5, e3, q_le (by omega) (by omega), bst]
  | succ m ih =>
    intro i f b hi hf hb
    obtain ⟨f, rfl⟩ := fu_1 hf
    obtain ⟨k1, k2, k4⟩ := hk i (by omega)
    rw [L_X8_priceNow_5, e3, q_nle (by omega) (by omega), r42, e_nn, l59, i_inb (by omega) (by omega), e_ck, i_cl (by omega), nI_1]
    have fno : ¬ K i = true → bst (fun k => K k && decide (d k ≤ D)) d (m + 1) i b = bst (fun k => K k && decide (d k ≤ D)) d m (i + 1) b := fun c => bst_n (by simp only [c, Bool.false_and, Bool.false_eq_true, not_false_eq_true])
    by_cases c0 : pI h 59 0 i = ci
    rotate_left
    · rw [if_neg c0, fno (fun e => c0 (k1.mpr e).1), ih (i + 1) f b (by omega) (by omega) hb]
    rw [if_pos c0, r43, e_nn, l60, i_inb (by omega) (by omega), e_ck]
    by_cases c1 : pI h 60 0 i = so
    rotate_left
    · rw [if_neg c1, fno (fun e => c1 (k1.mpr e).2), ih (i + 1) f b (by omega) (by omega) hb]
    have c := k1.mp ⟨c0, c1⟩
    rw [if_pos c1, r44, e_nn, l61, i_inb (by omega) (by omega), e_ck, e_ck, e0, k2]
    by_cases c2 : d i ≤ D
    · rw [q_nlt c2 hD]
      cases b with
      | none =>
        rw [bst_y (by simp only [c, c2, decide_true, Bool.and_self]) (fun k h => by cases h), ← ih (i + 1) f (some i) (by omega) (by omega) (fun k h => by cases h; omega)]
        rw [show vK none = -1 from rfl, if_pos rfl]
        rfl
      | some k =>
        have k5 := hb k rfl
        obtain ⟨-, k6, k7⟩ := hk k k5
        rw [show vK (some k) = nI k from rfl, q_m1 (by omega), i_inb (by omega) (by omega), e_ck, i_cl (by omega), k6]
        by_cases c3 : d k ≤ d i
        · rw [q_nlt c3 k4, bst_y (by simp only [c, c2, decide_true, Bool.and_self]) (fun k h => by cases h; exact c3), ← ih (i + 1) f (some i) (by omega) (by omega) (fun k h => by cases h; omega)]
          rfl
        · rw [q_lt (by omega) k7, bst_k (fun e => c3 (e k rfl)), ← ih (i + 1) f (some k) (by omega) (by omega) hb]
          rfl
    · rw [q_lt (by omega) k4, bst_n (by simp only [c2, decide_false, Bool.and_false, Bool.false_eq_true, not_false_eq_true]), ih (i + 1) f b (by omega) (by omega) hb]
/-- the toll of the day, in both -/
theorem SimG.tollNow (I : SimG nw z ro w tt q0 h) : ∃ v : Int32, F_X5_inForce 0 0 (nI (nw / 24)) h = some (v, h) ∧ ∀ g : Hp, pI g 8 0 38 = pI h 8 0 38 → pR g 8 0 = pR h 8 0 → pL g 57 0 = pL h 57 0 → pL g 58 0 = pL h 58 0 → pI g 57 0 = pI h 57 0 → pI g 58 0 = pI h 58 0 → F_X8_tollOf 0 (nI (nw / 24)) g = some (v, g) := by
  obtain ⟨n1, n2, n3⟩ := I.gnw
  obtain ⟨n, hn, ex, ey, hk⟩ := I.to
  have hd : ∃ d : Nat → Nat, ∀ k, k < n → pI h 57 0 k = nI (d k) ∧ d k < 2147483648 := by
    refine ⟨fun k => (pI h 57 0 k).toNatClampNeg, fun k hk2 => ?_⟩
    obtain ⟨-, -, -, d, d1, d2⟩ := hk k hk2
    show pI h 57 0 k = nI ((pI h 57 0 k).toNatClampNeg) ∧ (pI h 57 0 k).toNatClampNeg < 2147483648
    rw [d2, i_cl (by omega)]
    exact ⟨rfl, by omega⟩
  obtain ⟨d, hd⟩ := hd
  have ec := inf_c (q := 0) (n := n) (len := 30) (K := fun _ => true) (d := d) (σ := pI h 58 0) (ky := 0) (D := nw / 24) ex hn (by omega) I.r5_00 I.r5_01 I.r5_02 I.l16_0 I.l17_0 I.l18_0 (fun k hk2 => by
    obtain ⟨a1, a2, a3, -⟩ := hk k hk2
    obtain ⟨b1, b2⟩ := hd k hk2
    exact ⟨by simp only [a1], by rw [a2, b1], a3, b2⟩) (by omega) (fun k16 h17 => some (k16, h17)) n 0 FU none (by omega) (by unfold FU; omega) (fun k h => by cases h)
  refine ⟨_, ec, ?_⟩
  intro g e1 e2 e3 e4 e5 e6
  have em2 := toll_m (h := g) (n := n) (d := d) (D := nw / 24) (by rw [e1]; exact ey) hn (by rw [e2]; exact I.r8_39) (by rw [e3]; exact I.l57_0) (fun k hk2 => by rw [e5]; exact hd k hk2) (by omega) (fun k10 h11 => if k10 = (-1 : Int32) then some ((0 : Int32), h11) else nn (pR h11 8 0 40) fun n13 => ck (inb k10 (pL h11 58 n13)) <| some ((pI h11 58 n13 (k10).toNatClampNeg), h11)) n 0 FU none (by omega) (by unfold FU; omega) (fun k h => by cases h)
  rw [F_X8_tollOf]
  refine em2.trans ?_
  have hlt := bst_lt (ok := fun k => true && decide (d k ≤ nw / 24)) (d := d) (m := n) (i := 0) (b := none) (n := n) (by omega) (fun k h => by cases h)
  generalize bst (fun k => true && decide (d k ≤ nw / 24)) d n 0 none = b at hlt ⊢
  cases b with
  | none => rw [show vK none = -1 from rfl, if_pos rfl]; rfl
  | some k =>
    have := hlt k rfl
    rw [show vK (some k) = nI k from rfl, q_m1 (by omega), e2, I.r8_40, e_nn, e4, I.l58_0, i_inb (by omega) (by omega), e_ck, i_cl (by omega), e6]
    rfl
theorem SimG.priceNow (I : SimG nw z ro w tt q0 h) {c s : Nat} (hc : c < 12) (hs : s < 4) : ∃ v : Nat, v ≤ 1000 ∧ F_X5_inForce 1 (nI (c * 4 + s)) (nI (nw / 24)) h = some (nI v, h) ∧ ∀ g : Hp, pI g 8 = pI h 8 → pR g 8 0 = pR h 8 0 → pL g = pL h → (∀ k, 59 ≤ k → pI g k = pI h k) → F_X8_priceNow 0 (nI c) (nI s) g = some (nI v, g) := by
  obtain ⟨n1, n2, n3⟩ := I.gnw
  obtain ⟨n, hn, ex, ey, hk⟩ := I.pr
  obtain ⟨d, hd⟩ : ∃ d : Nat → Nat, ∀ k, k < n → pI h 61 0 k = nI (d k) ∧ d k < 2147483648 := by
    refine ⟨fun k => (pI h 61 0 k).toNatClampNeg, fun k hk2 => ?_⟩
    obtain ⟨-, -, -, ⟨d, d1, d2⟩, -⟩ := hk k hk2
    show pI h 61 0 k = nI ((pI h 61 0 k).toNatClampNeg) ∧ (pI h 61 0 k).toNatClampNeg < 2147483648
    rw [d2, i_cl (by omega)]
    exact ⟨rfl, by omega⟩
  have ec := inf_c (q := 1) (n := n) (len := 100) (K := fun k => decide (pI h 59 0 k = nI c ∧ pI h 60 0 k = nI s)) (d := d) (σ := pI h 62 0) (ky := nI (c * 4 + s)) (D := nw / 24) ex hn (by omega) I.r5_10 I.r5_11 I.r5_12 I.l16_1 I.l17_1 I.l18_1 (fun k hk2 => by
    obtain ⟨⟨c', s', c1, s1, a1, a2, a3⟩, a4, a5, -⟩ := hk k hk2
    obtain ⟨b1, b2⟩ := hd k hk2
    refine ⟨?_, by rw [a4, b1], a5, b2⟩
    rw [a1, a2, a3, decide_eq_true_iff, i_eq (by omega) (by omega), i_eq (by omega) (by omega), i_eq (by omega) (by omega)]
    omega) (by omega) (fun k16 h17 => some (k16, h17)) n 0 FU none (by omega) (by unfold FU; omega) (fun k h => by cases h)
  have hlt := bst_lt (ok := fun k => decide (pI h 59 0 k = nI c ∧ pI h 60 0 k = nI s) && decide (d k ≤ nw / 24)) (d := d) (m := n) (i := 0) (b := none) (n := n) (by omega) (fun k h => by cases h)
  have em : ∀ g : Hp, pI g 8 = pI h 8 → pR g 8 0 = pR h 8 0 → pL g = pL h → (∀ k, 59 ≤ k → pI g k = pI h k) → _ := fun g e1 e2 e3 e5 => price_m (h := g) (n := n) (K := fun k => decide (pI h 59 0 k = nI c ∧ pI h 60 0 k = nI s)) (d := d) (D := nw / 24) (ci := nI c) (so := nI s) (by rw [e1]; exact ey) (by rw [e1, n2]; exact i_div (d := 24) (by omega) (by omega) (by omega)) hn (by rw [e2]; exact I.r8_42) (by rw [e2]; exact I.r8_43) (by rw [e2]; exact I.r8_44) (by rw [e3]; exact I.l59_0) (by rw [e3]; exact I.l60_0) (by rw [e3]; exact I.l61_0) (fun k hk2 => by
      rw [e5 59 (by omega), e5 60 (by omega), e5 61 (by omega), decide_eq_true_iff]
      exact ⟨Iff.rfl, hd k hk2⟩) (by omega) (fun k18 h19 => if k18 = (-1 : Int32) then some ((0 : Int32), h19) else nn (pR h19 8 0 45) fun n21 => ck (inb k18 (pL h19 62 n21)) <| some ((pI h19 62 n21 (k18).toNatClampNeg), h19)) n 0 FU none (by omega) (by unfold FU; omega) (fun k h => by cases h)
  generalize bst (fun k => decide (pI h 59 0 k = nI c ∧ pI h 60 0 k = nI s) && decide (d k ≤ nw / 24)) d n 0 none = b at hlt ec em
  cases b with
  | none =>
    refine ⟨0, by omega, ec, fun g e1 e2 e3 e5 => ?_⟩
    rw [F_X8_priceNow]
    refine (em g e1 e2 e3 e5).trans ?_
    rw [show vK none = -1 from rfl, if_pos rfl]; rfl
  | some k =>
    have hk3 := hlt k rfl
    obtain ⟨-, -, -, -, v, v1, v2⟩ := hk k hk3
    refine ⟨v, v1, ?_, fun g e1 e2 e3 e5 => ?_⟩
    · rw [← v2]; exact ec
    rw [F_X8_priceNow]
    refine (em g e1 e2 e3 e5).trans ?_
    rw [show vK (some k) = nI k from rfl, q_m1 (by omega), e2, I.r8_45, e_nn, e3, I.l62_0, i_inb (by omega) (by omega), e_ck, i_cl (by omega), e5 62 (by omega), v2]
theorem op_sell (I : SimG nw z ro w tt q0 h) (x : Int32) : OP (F_X7_sell 0 x) (F_X8_sell 0 x) h := by
  have hT := I.c_hT
  have hS := I.c_hS
  obtain ⟨n1, n2, n3⟩ := I.gnw
  rcases wi_ix x (n := pC h 6) (by omega) with ⟨e1, e2⟩ | ⟨e1, t, ht, rfl, e2⟩
  · refine OP.same I (r := -1) ?_ ?_
    · rw [F_X7_sell, I.trunkAt, e_cl, e2, e_onnN]
    · rw [F_X8_sell, F_isTrunk I.c_j11, e_cl, e1, if_pos rfl]
  obtain ⟨⟨a0, a1, a2, a3, a4, a7⟩, ⟨⟨o, o1, o2⟩, ⟨s, s1, s2⟩, ⟨q, q1, q2, q3⟩⟩, hst⟩ := I.tr.1 t ht
  have hno : pI h 38 0 t ≠ 0 → pR h 6 t 5 = none → OP (F_X7_sell 0 (nI t)) (F_X8_sell 0 (nI t)) h := by
    intro k1 k2
    refine OP.same I (r := -1) ?_ ?_
    · rw [F_X7_sell, I.trunkAt, e_cl, e2, e_onnS, k2, e_onnN]
    · rw [F_X8_sell, F_isTrunk I.c_j11, e_cl, e1, if_neg (by decide), I.r8_16, e_nn, I.l38_0, i_inb (by omega) (by omega), e_ck, i_cl (by omega), if_neg k1]
  rcases hst with ⟨d1, ⟨p, p1, p2, p3⟩, d3, d4⟩ | ⟨d1, d2, -⟩ | ⟨d1, d2, -⟩ | ⟨d1, d2, -⟩
  rotate_left
  · exact hno (by rw [d1]; decide) d2
  · exact hno (by rw [d1]; decide) d2
  · exact hno (by rw [d1]; decide) d2
  have ec : pI h 4 p 6 = pI h 31 0 p := (I.st.1 p p1).2.2.2.2.2.1
  have ep0 : pI h 4 p 0 = nI p := (I.st.1 p p1).1
  by_cases cc : pI h 31 0 p = 0
  · refine OP.same I (r := -1) ?_ ?_
    · rw [F_X7_sell, I.trunkAt, e_cl, e2, e_onnS, p2, e_onnS, ec, if_pos cc]
    · rw [F_X8_sell, F_isTrunk I.c_j11, e_cl, e1, if_neg (by decide), I.r8_16, e_nn, I.l38_0, i_inb (by omega) (by omega), e_ck, i_cl (by omega), if_pos d1, I.r8_17, e_nn, I.l39_0, i_inb (by omega) (by omega), e_ck, I.r8_8, e_nn, I.l31_0, p3, i_inb (by omega) (by omega), e_ck, i_cl (by omega), if_pos cc]
  have g1 := I.nx.1
  rcases I.has ht with ⟨hj, hk⟩ | ⟨hj, hk⟩
  · refine OP.same I (r := -1) ?_ ?_
    · rw [F_X7_sell, I.trunkAt, e_cl, e2, e_onnS, p2, e_onnS, ec, if_neg cc, g1, e_nn, hk, e_cl, if_neg (by decide)]
    · rw [F_X8_sell, F_isTrunk I.c_j11, e_cl, e1, if_neg (by decide), I.r8_16, e_nn, I.l38_0, i_inb (by omega) (by omega), e_ck, i_cl (by omega), if_pos d1, I.r8_17, e_nn, I.l39_0, i_inb (by omega) (by omega), e_ck, I.r8_8, e_nn, I.l31_0, p3, i_inb (by omega) (by omega), e_ck, i_cl (by omega), if_neg cc]
      rcases I.isNext (g := h) rfl rfl rfl rfl ht with ⟨-, k⟩ | ⟨k0, k⟩
      · rw [k, e_cl, if_neg (by decide)]
      · obtain ⟨j, j1, j2⟩ := hj; exact absurd j2 (k0 j j1)
  obtain ⟨v, v1, v2, v3⟩ := I.priceNow (c := p) (s := s) (by omega) (by omega)
  refine ⟨nI v * nI q, (wI (wI (wI (wR h 6 t 5 none) 6 t 7 (nI v * nI q)) 24 0 o (pI h 24 0 o + nI v * nI q)) 7 0 16 (pI h 7 0 16 + 1)), (wI (wI (wI (wI (wI (wI (wR h 6 t 5 none) 6 t 7 (nI v * nI q)) 24 0 o (pI h 24 0 o + nI v * nI q)) 7 0 16 (pI h 7 0 16 + 1)) 38 0 t 2) 43 0 t (nI v * nI q)) 56 0 o (pI h 56 0 o + nI v * nI q)), ?_, ?_, nw, z, ro, w, tt, q0, ?_⟩
  · have e24 : nI nw / (24 : Int32) = nI (nw / 24) := i_div (d := 24) (by omega) (by omega) (by omega)
    rw [F_X7_sell, I.trunkAt, e_cl, e2, e_onnS, p2, e_onnS, ec, if_neg cc, g1, e_nn, hk, e_cl, if_pos rfl, p2, a3, s2, F_X7_marketOf, e_nn, ep0, show (4 : Int32) = nI 4 from rfl, pk_mul, nI_add, e_cl, F_X7_today, n1, e24, e_cl, I.r7_10, e_nn, v2, e_cl]
    simp (disch := omega) only [e_nn, e_onnN, e_onnS, e_ck, e_lt, e_cl, F_within, F_in, isz0, isz1, i10, ↓reduceIte, sl_RI, sl_CI, sl_LI, sl_IR, sl_CR, sl_LR, sl_II, sl_Ie, sl_RR, sl_Re, sl_CN, sl_Ce, sl_LN, sl_Le, sl_IN, sl_INe, sl_RN, sl_RNe, up2_s, up2_n, up1_s, up1_n, upN_s, upN_n, ne_eq, not_false_eq_true, reduceCtorEq, i_le, i_lt, i_eq, i_cl, i_inb, nI_add, nI_1, i_n1, i_1n, i_sub, a4, q3, a2, o2, I.r7_12, I.l24_0]
  · rcases I.isNext (g := (wI (wI (wI (wR h 6 t 5 none) 6 t 7 (nI v * nI q)) 24 0 o (pI h 24 0 o + nI v * nI q)) 7 0 16 (pI h 7 0 16 + 1))) (by simp (disch := omega) only [sl_RI, sl_CI, sl_LI, sl_IR, sl_CR, sl_LR, sl_II, sl_Ie, sl_RR, sl_Re, sl_CN, sl_Ce, sl_LN, sl_Le, sl_IN, sl_INe, sl_RN, sl_RNe, up2_s, up2_n, up1_s, up1_n, upN_s, upN_n, ne_eq, not_false_eq_true, reduceCtorEq]) (by simp (disch := omega) only [sl_RI, sl_CI, sl_LI, sl_IR, sl_CR, sl_LR, sl_II, sl_Ie, sl_RR, sl_Re, sl_CN, sl_Ce, sl_LN, sl_Le, sl_IN, sl_INe, sl_RN, sl_RNe, up2_s, up2_n, up1_s, up1_n, upN_s, upN_n, ne_eq, not_false_eq_true, reduceCtorEq]) (by simp (disch := omega) only [sl_RI, sl_CI, sl_LI, sl_IR, sl_CR, sl_LR, sl_II, sl_Ie, sl_RR, sl_Re, sl_CN, sl_Ce, sl_LN, sl_Le, sl_IN, sl_INe, sl_RN, sl_RNe, up2_s, up2_n, up1_s, up1_n, upN_s, upN_n, ne_eq, not_false_eq_true, reduceCtorEq]) (by simp (disch := omega) only [sl_RI, sl_CI, sl_LI, sl_IR, sl_CR, sl_LR, sl_II, sl_Ie, sl_RR, sl_Re, sl_CN, sl_Ce, sl_LN, sl_Le, sl_IN, sl_INe, sl_RN, sl_RNe, up2_s, up2_n, up1_s, up1_n, upN_s, upN_n, ne_eq, not_false_eq_true, reduceCtorEq]) ht with ⟨⟨j, j1, j2⟩, k⟩ | ⟨k0, k⟩
    · exact absurd j2 (hj j j1)
    have v4 := v3 (wI (wI (wI (wR h 6 t 5 none) 6 t 7 (nI v * nI q)) 24 0 o (pI h 24 0 o + nI v * nI q)) 7 0 16 (pI h 7 0 16 + 1)) (by simp (disch := omega) only [sl_RI, sl_CI, sl_LI, sl_IR, sl_CR, sl_LR, sl_II, sl_Ie, sl_RR, sl_Re, sl_CN, sl_Ce, sl_LN, sl_Le, sl_IN, sl_INe, sl_RN, sl_RNe, up2_s, up2_n, up1_s, up1_n, upN_s, upN_n, ne_eq, not_false_eq_true, reduceCtorEq]) (by simp (disch := omega) only [sl_RI, sl_CI, sl_LI, sl_IR, sl_CR, sl_LR, sl_II, sl_Ie, sl_RR, sl_Re, sl_CN, sl_Ce, sl_LN, sl_Le, sl_IN, sl_INe, sl_RN, sl_RNe, up2_s, up2_n, up1_s, up1_n, upN_s, upN_n, ne_eq, not_false_eq_true, reduceCtorEq]) (by simp (disch := omega) only [sl_RI, sl_CI, sl_LI, sl_IR, sl_CR, sl_LR, sl_II, sl_Ie, sl_RR, sl_Re, sl_CN, sl_Ce, sl_LN, sl_Le, sl_IN, sl_INe, sl_RN, sl_RNe, up2_s, up2_n, up1_s, up1_n, upN_s, upN_n, ne_eq, not_false_eq_true, reduceCtorEq]) (fun k hk => by simp (disch := omega) only [sl_RI, sl_CI, sl_LI, sl_IR, sl_CR, sl_LR, sl_II, sl_Ie, sl_RR, sl_Re, sl_CN, sl_Ce, sl_LN, sl_Le, sl_IN, sl_INe, sl_RN, sl_RNe, up2_s, up2_n, up1_s, up1_n, upN_s, upN_n, ne_eq, not_false_eq_true, reduceCtorEq])
    rw [F_X8_sell, F_isTrunk (S := pC h 6) (by simp (disch := omega) only [sl_RI, sl_CI, sl_LI, sl_IR, sl_CR, sl_LR, sl_II, sl_Ie, sl_RR, sl_Re, sl_CN, sl_Ce, sl_LN, sl_Le, sl_IN, sl_INe, sl_RN, sl_RNe, up2_s, up2_n, up1_s, up1_n, upN_s, upN_n, ne_eq, not_false_eq_true, reduceCtorEq, I.c_j11]), e_cl, e1, if_neg (by decide)]
    simp (disch := omega) only [e_nn, e_onnN, e_onnS, e_ck, e_lt, e_cl, F_within, F_in, isz0, isz1, i10, ↓reduceIte, sl_RI, sl_CI, sl_LI, sl_IR, sl_CR, sl_LR, sl_II, sl_Ie, sl_RR, sl_Re, sl_CN, sl_Ce, sl_LN, sl_Le, sl_IN, sl_INe, sl_RN, sl_RNe, up2_s, up2_n, up1_s, up1_n, upN_s, upN_n, ne_eq, not_false_eq_true, reduceCtorEq, i_le, i_lt, i_eq, i_cl, i_inb, nI_add, nI_1, i_n1, i_1n, i_sub, I.r8_16, I.l38_0, d1, I.r8_17, I.l39_0, I.r8_8, I.l31_0, p3, cc, k, I.r8_14, I.l36_0, s2, v4, I.r8_15, I.l37_0, q3, I.r8_21, I.l43_0, I.r8_13, I.l35_0, o2, I.r8_37, I.l56_0]
  · unfold SimG
    simp (disch := omega) only [sl_RI, sl_CI, sl_LI, sl_IR, sl_CR, sl_LR, sl_II, sl_Ie, sl_RR, sl_Re, sl_CN, sl_Ce, sl_LN, sl_Le, sl_IN, sl_INe, sl_RN, sl_RNe, up2_s, up2_n, up1_s, up1_n, upN_s, upN_n, ne_eq, not_false_eq_true, reduceCtorEq]
    refine ⟨I.w7, I.w1, I.w5, I.w8, I.ln, I.ct, I.a19, I.a20, I.a21, I.a22, I.st, I.sb, ?_, I.rf, I.cr, ?_, ?_, I.to, I.pr, I.gnw, I.tk, I.rg, ?_, ?_⟩
    · refine ⟨fun t' ht' => ?_, fun t' ht' => ?_⟩
      · by_cases e : t' = t
        · subst e
          simp (disch := omega) only [sl_RI, sl_CI, sl_LI, sl_IR, sl_CR, sl_LR, sl_II, sl_Ie, sl_RR, sl_Re, sl_CN, sl_Ce, sl_LN, sl_Le, sl_IN, sl_INe, sl_RN, sl_RNe, up2_s, up2_n, up1_s, up1_n, upN_s, upN_n, ne_eq, not_false_eq_true, reduceCtorEq]
          refine ⟨⟨a0, a1, a2, a3, a4, trivial⟩, ⟨⟨o, o1, o2⟩, ⟨s, s1, s2⟩, ⟨q, q1, q2, q3⟩⟩, Or.inr (Or.inr (Or.inl ⟨trivial, trivial, d3, v * q, ?_, ?_⟩))⟩
          · have : v * q ≤ 1000 * 9 := Nat.mul_le_mul v1 q2
            omega
          · rw [pk_mul]
        · have := I.tr.1 t' ht'
          simpa (disch := omega) only [sl_RI, sl_CI, sl_LI, sl_IR, sl_CR, sl_LR, sl_II, sl_Ie, sl_RR, sl_Re, sl_CN, sl_Ce, sl_LN, sl_Le, sl_IN, sl_INe, sl_RN, sl_RNe, up2_s, up2_n, up1_s, up1_n, upN_s, upN_n, ne_eq, not_false_eq_true, reduceCtorEq] using this
      · rw [up1_n _ _ (by omega)]; exact I.tr.2 t' ht'
    · obtain ⟨f1, f2, f3, f4⟩ := I.rw
      refine ⟨f1, fun p' hp' => ?_, fun r hr i hi j hj => ?_, fun t' ht' hm => ?_⟩
      · obtain ⟨k1, k2, k3, k4, k5, k6⟩ := f2 p' hp'
        refine ⟨k1, k2, k3, k4, ?_, k6⟩
        rw [k5]
        refine su_ext (fun j hj => ?_)
        by_cases e : tt p' j = t
        · rw [e]; simp (disch := omega) only [sl_RI, sl_CI, sl_LI, sl_IR, sl_CR, sl_LR, sl_II, sl_Ie, sl_RR, sl_Re, sl_CN, sl_Ce, sl_LN, sl_Le, sl_IN, sl_INe, sl_RN, sl_RNe, up2_s, up2_n, up1_s, up1_n, upN_s, upN_n, ne_eq, not_false_eq_true, reduceCtorEq]
        · simp (disch := omega) only [sl_RI, sl_CI, sl_LI, sl_IR, sl_CR, sl_LR, sl_II, sl_Ie, sl_RR, sl_Re, sl_CN, sl_Ce, sl_LN, sl_Le, sl_IN, sl_INe, sl_RN, sl_RNe, up2_s, up2_n, up1_s, up1_n, upN_s, upN_n, ne_eq, not_false_eq_true, reduceCtorEq]
      · obtain ⟨k1, k2⟩ := f3 r hr i hi j hj
        have : tt (ro r i) j ≠ t := fun e => by rw [e, d1] at k1; exact absurd k1 (by decide)
        rw [up1_n _ _ this]
        exact ⟨k1, k2⟩
      · have : t' ≠ t := fun e => by rw [e, up1_s] at hm; exact absurd hm (by decide)
        rw [up1_n _ _ this] at hm
        exact f4 t' ht' hm
    · obtain ⟨g1, g2, g3, g4, g5, g6⟩ := I.nx
      refine ⟨g1, g2, g3, fun j hj2 => ?_, g5, g6⟩
      rw [up1_n _ _ (hj j hj2)]
      exact g4 j hj2
    · have e := I.ba o o1
      rw [e]
      exact I.ba.up o _
    · obtain ⟨k1, k2⟩ := I.so
      rw [cnt_up ht, cnt_up ht, k1, k2, d1]
      exact ⟨by congr 1, by rw [show ((if (2 : Int32) = 3 then (1 : Int32) else 0) - if (0 : Int32) = 3 then 1 else 0) = 0 from by decide, Int32.add_zero]⟩
end OPS
