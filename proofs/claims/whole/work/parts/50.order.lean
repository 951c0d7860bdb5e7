/-! the orders in which rafts pass, by numbers -/
def fct : Nat → Nat
  | 0 => 1
  | n + 1 => (n + 1) * fct n
def dec : Nat → List Nat → Nat → List Nat
  | 0, _, _ => []
  | m + 1, av, p => av.getD (p / fct m) 0 :: dec m (av.eraseIdx (p / fct m)) (p % fct m)
def prm (n p k : Nat) : Nat := (dec n (List.range n) p).getD k 0
def g8 : Hp := (fun _ => 0, fun _ _ => 5, fun _ _ _ => 0, fun _ _ _ => some 0)
def gq (n : Nat) (l : List Nat) : Hp := (fun _ => 0, fun _ _ => n, fun k _ i => if k = 1 then nI n else nI (l.getD i 0), fun _ _ _ => some 0)
def okM (n p : Nat) : Bool := match F_X8_orders 0 (nI p) (nI n) g8 with
  | none => false
  | some q => (List.range n).all fun k => decide (pI q.2 64 0 k = nI (prm n p k))
def okC (n p : Nat) : Bool := match F_X1_nextOrder 0 (gq n (dec n (List.range n) p)) with
  | none => false
  | some q => if p + 1 < fct n then decide (q.1 = 1) && (List.range n).all (fun k => decide (pI q.2 10 0 k = nI (prm n (p + 1) k))) else decide (q.1 = 0)
def okP (n p : Nat) : Bool := (List.range n).all fun k => decide (prm n p k < n)
set_option maxRecDepth 20000 in
theorem ok_all : ((List.range 6).all fun n => (List.range (fct n)).all fun p => okM n p && (okC n p && okP n p)) = true := by decide +kernel
theorem ok_np {n p : Nat} (hn : n ≤ 5) (hp : p < fct n) : okM n p = true ∧ okC n p = true ∧ okP n p = true := by
  have h := ok_all
  rw [List.all_eq_true] at h
  have h1 := h n (List.mem_range.mpr (by omega))
  rw [List.all_eq_true] at h1
  have h2 := h1 p (List.mem_range.mpr hp)
  simp only [Bool.and_eq_true] at h2
  exact h2
theorem prm_lt {n p k : Nat} (hn : n ≤ 5) (hp : p < fct n) (hk : k < n) : prm n p k < n := by
  have := (ok_np hn hp).2.2
  rw [okP, List.all_eq_true] at this
  exact of_decide_eq_true (this k (List.mem_range.mpr hk))
set_option maxRecDepth 20000 in
theorem prm_0 {n k : Nat} (hn : n ≤ 5) (hk : k < n) : prm n 0 k = k := by
  have : ((List.range 6).all fun n => (List.range n).all fun k => decide (prm n 0 k = k)) = true := by decide +kernel
  rw [List.all_eq_true] at this
  have := this n (List.mem_range.mpr (by omega))
  rw [List.all_eq_true] at this
  exact of_decide_eq_true (this k (List.mem_range.mpr hk))
theorem fct_pos : ∀ n, 0 < fct n
  | 0 => by decide
  | n + 1 => by rw [fct]; exact Nat.mul_pos (Nat.succ_pos n) (fct_pos n)
theorem fct_le {n : Nat} (hn : n ≤ 5) : fct n ≤ 120 := by
  match n, hn with
  | 0, _ => decide
  | 1, _ => decide
  | 2, _ => decide
  | 3, _ => decide
  | 4, _ => decide
  | 5, _ => decide
  | n + 6, h => exact absurd h (by omega)
theorem inb_S {x : Int32} {n : Nat} (h : inb x n = true) : ¬ x < 0 ∧ x.toNatClampNeg < n := by simpa [inb] using h
theorem inb_up {x : Int32} {n m : Nat} (h : inb x n = true) (hm : n ≤ m) : inb x m = true := by
  obtain ⟨h1, h2⟩ := inb_S h
  simp only [inb, h1, not_false_eq_true, decide_true, Bool.true_and, decide_eq_true_eq]
  omega
/-- two heaps with the same first n places of the order -/
def AG (n : Nat) (g g0 : Hp) : Prop := n ≤ 5 ∧ pI g 1 0 5 = pI g0 1 0 5 ∧ pR g 1 0 1 = some 0 ∧ pR g0 1 0 1 = some 0 ∧ pL g 10 0 = 5 ∧ pL g0 10 0 = n ∧ ∀ i, i < n → pI g 10 0 i = pI g0 10 0 i
section NO
variable {γ : Type} {n : Nat} {g g0 : Hp}
theorem no7 (a : AG n g g0) (κ0 : Int32 → Hp → Option γ) {o : γ} : ∀ f v, L_X1_nextOrder_7 0 κ0 f v g0 = some o → ∃ x, κ0 x g0 = some o ∧ ∀ (β : Type) (κ : Int32 → Hp → Option β), L_X1_nextOrder_7 0 κ f v g = κ x g := by
  obtain ⟨a0, a1, a2, a3, a4, a5, a6⟩ := a
  intro f
  induction f with
  | zero => intro v h; cases h
  | succ f ih =>
    intro v h
    rw [L_X1_nextOrder_7] at h
    by_cases c : v < 0
    · rw [if_pos c] at h
      exact ⟨v, h, fun β κ => by rw [L_X1_nextOrder_7, if_pos c]⟩
    rw [if_neg c, a3, e_nn, a5] at h
    obtain ⟨i1, h⟩ := ck_S h
    obtain ⟨i2, h⟩ := ck_S h
    rw [← a6 _ (inb_S i1).2, ← a6 _ (inb_S i2).2] at h
    by_cases d : pI g 10 0 v.toNatClampNeg ≤ pI g 10 0 (v + 1).toNatClampNeg
    · rw [if_pos d] at h
      exact ⟨v, h, fun β κ => by rw [L_X1_nextOrder_7, if_neg c, a2, e_nn, a4, inb_up i1 a0, e_ck, inb_up i2 a0, e_ck, if_pos d]⟩
    · rw [if_neg d] at h
      obtain ⟨x, h1, h2⟩ := ih _ h
      exact ⟨x, h1, fun β κ => by rw [L_X1_nextOrder_7, if_neg c, a2, e_nn, a4, inb_up i1 a0, e_ck, inb_up i2 a0, e_ck, if_neg d, h2]⟩
theorem no47 (a : AG n g g0) (w : Int32) (κ0 : Int32 → Hp → Option γ) {o : γ} : ∀ f v, L_X1_nextOrder_47 0 w κ0 f v g0 = some o → ∃ x, κ0 x g0 = some o ∧ ∀ (β : Type) (κ : Int32 → Hp → Option β), L_X1_nextOrder_47 0 w κ f v g = κ x g := by
  obtain ⟨a0, a1, a2, a3, a4, a5, a6⟩ := a
  intro f
  induction f with
  | zero => intro v h; cases h
  | succ f ih =>
    intro v h
    rw [L_X1_nextOrder_47] at h
    by_cases c : v ≤ w
    · rw [if_pos c] at h
      exact ⟨v, h, fun β κ => by rw [L_X1_nextOrder_47, if_pos c]⟩
    rw [if_neg c, a3, e_nn, a5] at h
    obtain ⟨i1, h⟩ := ck_S h
    obtain ⟨i2, h⟩ := ck_S h
    rw [← a6 _ (inb_S i1).2, ← a6 _ (inb_S i2).2] at h
    by_cases d : pI g 10 0 w.toNatClampNeg ≤ pI g 10 0 v.toNatClampNeg
    · rw [if_pos d] at h
      exact ⟨v, h, fun β κ => by rw [L_X1_nextOrder_47, if_neg c, a2, e_nn, a4, inb_up i1 a0, e_ck, inb_up i2 a0, e_ck, if_pos d]⟩
    · rw [if_neg d] at h
      obtain ⟨x, h1, h2⟩ := ih _ h
      exact ⟨x, h1, fun β κ => by rw [L_X1_nextOrder_47, if_neg c, a2, e_nn, a4, inb_up i1 a0, e_ck, inb_up i2 a0, e_ck, if_neg d, h2]⟩
theorem AG.wI (a : AG n g g0) (i : Nat) (v : Int32) : AG n (wI g 10 0 i v) (wI g0 10 0 i v) := by
  obtain ⟨a0, a1, a2, a3, a4, a5, a6⟩ := a
  refine ⟨a0, ?_, a2, a3, a4, a5, fun j hj => ?_⟩
  · simp (disch := omega) only [sl_RI, sl_CI, sl_LI, sl_IR, sl_CR, sl_LR, sl_II, sl_Ie, sl_RR, sl_Re, sl_CN, sl_Ce, sl_LN, sl_Le, sl_IN, sl_INe, sl_RN, sl_RNe, up2_s, up2_n, up1_s, up1_n, upN_s, upN_n, ne_eq, not_false_eq_true, reduceCtorEq]; exact a1
  · simp (disch := omega) only [sl_RI, sl_CI, sl_LI, sl_IR, sl_CR, sl_LR, sl_II, sl_Ie, sl_RR, sl_Re, sl_CN, sl_Ce, sl_LN, sl_Le, sl_IN, sl_INe, sl_RN, sl_RNe, up2_s, up2_n, up1_s, up1_n, upN_s, upN_n, ne_eq, not_false_eq_true, reduceCtorEq]
    by_cases e : j = i
    · subst e; rw [up1_s, up1_s]
    · rw [up1_n _ _ e, up1_n _ _ e]; exact a6 j hj
theorem no_swap (a : AG n g g0) {x y : Int32} {g0' : Hp} (h : F_X1_swap 0 x y g0 = some ((), g0')) : ∃ g', F_X1_swap 0 x y g = some ((), g') ∧ AG n g' g0' ∧ Fr [10] [] g g' := by
  obtain ⟨a0, a1, a2, a3, a4, a5, a6⟩ := id a
  rw [F_X1_swap, a3, e_nn, a5] at h
  obtain ⟨i1, h⟩ := ck_S h
  obtain ⟨i2, h⟩ := ck_S h
  obtain ⟨-, h⟩ := ck_S h
  rw [e_lt, sl_RI, a3, e_nn, sl_LI, a5] at h
  obtain ⟨-, h⟩ := ck_S h
  rw [e_lt] at h
  injection h with h
  injection h with _ h
  rw [← a6 _ (inb_S i1).2, ← a6 _ (inb_S i2).2] at h
  refine ⟨wI (wI g 10 0 x.toNatClampNeg (pI g 10 0 y.toNatClampNeg)) 10 0 y.toNatClampNeg (pI g 10 0 x.toNatClampNeg), ?_, by rw [← h]; exact (a.wI _ _).wI _ _, ((Fr.refl _ _ _).wI (by decide)).wI (by decide)⟩
  rw [F_X1_swap, a2, e_nn, a4, inb_up i1 a0, e_ck, inb_up i2 a0, e_ck, e_ck, e_lt, sl_RI, a2, e_nn, sl_LI, a4, inb_up i2 a0, e_ck, e_lt]
end NO
theorem no91 {γ : Type} {n : Nat} (κ0 : Hp → Option γ) {o : γ} : ∀ f v w (g g0 : Hp), AG n g g0 → L_X1_nextOrder_91 0 κ0 f v w g0 = some o → ∃ g0' g', κ0 g0' = some o ∧ AG n g' g0' ∧ Fr [10] [] g g' ∧ ∀ (β : Type) (κ : Hp → Option β), L_X1_nextOrder_91 0 κ f v w g = κ g' := by
  intro f
  induction f with
  | zero => intro v w g g0 a h; cases h
  | succ f ih =>
    intro v w g g0 a h
    rw [L_X1_nextOrder_91] at h
    by_cases c : w ≤ v
    · rw [if_pos c] at h
      exact ⟨g0, g, h, a, Fr.refl _ _ _, fun β κ => by rw [L_X1_nextOrder_91, if_pos c]⟩
    rw [if_neg c] at h
    obtain ⟨u, g1, e1, h⟩ := cl_S h
    obtain ⟨g', e2, a2, f2⟩ := no_swap a e1
    obtain ⟨g0'', g'', h1, h2, h3, h4⟩ := ih _ _ g' g1 a2 h
    exact ⟨g0'', g'', h1, h2, f2.trans h3, fun β κ => by rw [L_X1_nextOrder_91, if_neg c, e2, e_cl, h4]⟩
theorem no_next {n : Nat} {g g0 g0' : Hp} {r : Int32} (a : AG n g g0) (h : F_X1_nextOrder 0 g0 = some (r, g0')) : ∃ g', F_X1_nextOrder 0 g = some (r, g') ∧ AG n g' g0' ∧ Fr [10] [] g g' := by
  rw [F_X1_nextOrder] at h
  obtain ⟨x, h1, h2⟩ := no7 a _ _ _ h
  rw [F_X1_nextOrder, a.2.1, h2]
  by_cases c : 0 ≤ x
  · rw [if_pos c] at h1 ⊢
    obtain ⟨y, h3, h4⟩ := no47 a x _ _ _ h1
    rw [a.2.1, h4]
    obtain ⟨u, g1, e1, h5⟩ := cl_S h3
    obtain ⟨g2, e2, a2, f2⟩ := no_swap a e1
    obtain ⟨g3, g4, h6, h7, h8, h9⟩ := no91 _ _ _ _ _ _ a2 h5
    rw [e2, e_cl, a2.2.1, h9]
    injection h6 with h6
    injection h6 with h6 h10
    subst h6 h10
    exact ⟨g4, rfl, h7, f2.trans h8⟩
  · rw [if_neg c] at h1 ⊢
    injection h1 with h1
    injection h1 with h1 h10
    subst h1 h10
    exact ⟨g, rfl, a, Fr.refl _ _ _⟩
/-- the class's next order -/
theorem next_ord {n p : Nat} {g : Hp} (hn : n ≤ 5) (hp : p < fct n) (e5 : pI g 1 0 5 = nI n) (r1 : pR g 1 0 1 = some 0) (l : pL g 10 0 = 5) (ho : ∀ k, k < n → pI g 10 0 k = nI (prm n p k)) : ∃ g', F_X1_nextOrder 0 g = some (if p + 1 < fct n then 1 else 0, g') ∧ Fr [10] [] g g' ∧ (p + 1 < fct n → ∀ k, k < n → pI g' 10 0 k = nI (prm n (p + 1) k)) := by
  have ok := (ok_np hn hp).2.1
  rw [okC] at ok
  cases e : F_X1_nextOrder 0 (gq n (dec n (List.range n) p)) with
  | none => rw [e] at ok; cases ok
  | some q =>
    rw [e] at ok
    obtain ⟨r, g0'⟩ := q
    have a : AG n g (gq n (dec n (List.range n) p)) := ⟨hn, by rw [e5]; rfl, r1, rfl, l, rfl, fun k hk => by rw [ho k hk]; rfl⟩
    obtain ⟨g', h1, h2, h3⟩ := no_next a e
    by_cases c : p + 1 < fct n
    · simp only [if_pos c, Bool.and_eq_true, decide_eq_true_eq, List.all_eq_true] at ok
      refine ⟨g', by rw [if_pos c, h1, ok.1], h3, fun _ k hk => ?_⟩
      rw [h2.2.2.2.2.2.2 k hk]
      exact ok.2 k (List.mem_range.mpr hk)
    · simp only [if_neg c, decide_eq_true_eq] at ok
      exact ⟨g', by rw [if_neg c, h1, ok], h3, fun q => absurd q c⟩
section OR
variable {γ : Type} {g g0 : Hp} {v2 v3 v4 v5 : Int32}
theorem or20 (κ0 : Int32 → Hp → Option γ) {o : γ} : ∀ f v w, L_X8_orders_20 0 v2 v3 v4 v5 κ0 f v w g0 = some o → ∃ x, κ0 x g0 = some o ∧ ∀ (β : Type) (κ : Int32 → Hp → Option β), L_X8_orders_20 0 v2 v3 v4 v5 κ f v w g = κ x g := by
  intro f
  induction f with
  | zero => intro v w h; cases h
  | succ f ih =>
    intro v w h
    rw [L_X8_orders_20] at h
    by_cases c : v2 - v5 ≤ w
    · rw [if_pos c] at h
      exact ⟨v, h, fun β κ => by rw [L_X8_orders_20, if_pos c]⟩
    · rw [if_neg c] at h
      obtain ⟨x, h1, h2⟩ := ih _ _ h
      exact ⟨x, h1, fun β κ => by rw [L_X8_orders_20, if_neg c, h2]⟩
theorem or56 {v7 : Int32} (κ0 : Int32 → Hp → Option γ) {o : γ} : ∀ f v, L_X8_orders_56 0 v2 v3 v4 v5 v7 κ0 f v g0 = some o → ∃ x, κ0 x g0 = some o ∧ ∀ (β : Type) (κ : Int32 → Hp → Option β), L_X8_orders_56 0 v2 v3 v4 v5 v7 κ f v g = κ x g := by
  intro f
  induction f with
  | zero => intro v h; cases h
  | succ f ih =>
    intro v h
    rw [L_X8_orders_56] at h
    by_cases c : ((v4 >>> (v &&& 31)) &&& (1 : Int32)) = (1 : Int32)
    · rw [if_pos c] at h
      obtain ⟨x, h1, h2⟩ := ih _ h
      exact ⟨x, h1, fun β κ => by rw [L_X8_orders_56, if_pos c, h2]⟩
    · rw [if_neg c] at h
      exact ⟨v, h, fun β κ => by rw [L_X8_orders_56, if_neg c]⟩
theorem or81 {v7 : Int32} (κ0 : Int32 → Hp → Option γ) {o : γ} : ∀ f v, L_X8_orders_81 0 v2 v3 v4 v5 v7 κ0 f v g0 = some o → ∃ x, κ0 x g0 = some o ∧ ∀ (β : Type) (κ : Int32 → Hp → Option β), L_X8_orders_81 0 v2 v3 v4 v5 v7 κ f v g = κ x g := by
  intro f
  induction f with
  | zero => intro v h; cases h
  | succ f ih =>
    intro v h
    rw [L_X8_orders_81] at h
    by_cases c : ((v4 >>> (v &&& 31)) &&& (1 : Int32)) = (1 : Int32)
    · rw [if_pos c] at h
      obtain ⟨x, h1, h2⟩ := ih _ h
      exact ⟨x, h1, fun β κ => by rw [L_X8_orders_81, if_pos c, h2]⟩
    · rw [if_neg c] at h
      exact ⟨v, h, fun β κ => by rw [L_X8_orders_81, if_neg c]⟩
theorem or73 (κ0 : Int32 → Hp → Option γ) {o : γ} : ∀ f v w, L_X8_orders_73 0 v2 v3 v4 v5 κ0 f v w g0 = some o → ∃ x, κ0 x g0 = some o ∧ ∀ (β : Type) (κ : Int32 → Hp → Option β), L_X8_orders_73 0 v2 v3 v4 v5 κ f v w g = κ x g := by
  intro f
  induction f with
  | zero => intro v w h; cases h
  | succ f ih =>
    intro v w h
    rw [L_X8_orders_73] at h
    by_cases c : v ≤ 0
    · rw [if_pos c] at h
      exact ⟨w, h, fun β κ => by rw [L_X8_orders_73, if_pos c]⟩
    · rw [if_neg c] at h
      obtain ⟨y, h1, h2⟩ := or81 (g := g) _ _ _ h
      obtain ⟨x, h3, h4⟩ := ih _ _ h1
      exact ⟨x, h3, fun β κ => by rw [L_X8_orders_73, if_neg c, h2, h4]⟩
end OR
theorem or8 {v2 : Int32} {g0' : Hp} : ∀ f a b c (g g0 : Hp), pR g 8 0 48 = some 0 → pR g0 8 0 48 = some 0 → pL g 64 0 = 5 → pL g0 64 0 = 5 → ¬ c < 0 → (∀ i, i < c.toNatClampNeg → pI g 64 0 i = pI g0 64 0 i) → L_X8_orders_8 0 v2 (fun h21 => some ((), h21)) f a b c g0 = some ((), g0') → ∃ g', L_X8_orders_8 0 v2 (fun h21 => some ((), h21)) f a b c g = some ((), g') ∧ Fr [64] [] g g' ∧ ∀ i, i < v2.toNatClampNeg → pI g' 64 0 i = pI g0' 64 0 i := by
  intro f
  induction f with
  | zero => intro a b c g g0 _ _ _ _ _ _ h; cases h
  | succ f ih =>
    intro a b c g g0 r r0 l l0 hc hi h
    rw [L_X8_orders_8] at h
    by_cases d : v2 ≤ c
    · rw [if_pos d] at h
      injection h with h
      injection h with _ h
      subst h
      refine ⟨g, by rw [L_X8_orders_8, if_pos d], Fr.refl _ _ _, fun i hi2 => hi i ?_⟩
      obtain ⟨j, hj, e⟩ := nI_of hc
      subst e
      by_cases q : v2 < 0
      · have : v2.toNatClampNeg = 0 := by
          rw [Int32.lt_iff_toInt_lt, show (0 : Int32).toInt = 0 from by decide] at q
          unfold Int32.toNatClampNeg
          omega
        omega
      · obtain ⟨y, hy, e⟩ := nI_of q
        subst e
        rw [i_cl hy] at hi2
        rw [i_le hy hj] at d
        rw [i_cl hj]
        omega
    · rw [if_neg d] at h
      obtain ⟨x, h1, h2⟩ := or20 (g := g) _ _ _ _ h
      obtain ⟨z1, h1⟩ := ck_S h1
      obtain ⟨-, h1⟩ := ck_S h1
      obtain ⟨y, h3, h4⟩ := or56 (g := g) _ _ _ h1
      obtain ⟨u, h5, h6⟩ := or73 (g := g) _ _ _ _ h3
      rw [r0, e_nn, l0] at h5
      obtain ⟨i1, h5⟩ := ck_S h5
      rw [e_lt] at h5
      obtain ⟨j, hj, e⟩ := nI_of hc
      subst e
      have j5 := (inb_S i1).2
      rw [i_cl hj] at j5 h5 hi
      rw [nI_1] at h5
      obtain ⟨g', k1, k2, k3⟩ := ih _ _ _ (wI g 64 0 j u) (wI g0 64 0 j u) (by rw [sl_RI]; exact r) (by rw [sl_RI]; exact r0) (by rw [sl_LI]; exact l) (by rw [sl_LI]; exact l0) (nI_pos (by omega)) (fun i hi2 => by
        rw [i_cl (by omega)] at hi2
        simp (disch := omega) only [sl_RI, sl_CI, sl_LI, sl_IR, sl_CR, sl_LR, sl_II, sl_Ie, sl_RR, sl_Re, sl_CN, sl_Ce, sl_LN, sl_Le, sl_IN, sl_INe, sl_RN, sl_RNe, up2_s, up2_n, up1_s, up1_n, upN_s, upN_n, ne_eq, not_false_eq_true, reduceCtorEq]
        by_cases e : i = j
        · subst e; rw [up1_s, up1_s]
        · rw [up1_n _ _ e, up1_n _ _ e]; exact hi i (by omega)) h5
      refine ⟨g', ?_, (((Fr.refl _ _ g).wI (by decide) : Fr [64] [] g (wI g 64 0 j u))).trans k2, k3⟩
      rw [L_X8_orders_8, if_neg d, h2, z1, e_ck, e_ck, h4, h6, r, e_nn, l, i1, e_ck, e_lt, i_cl hj, nI_1]
      exact k1
/-- the reference's order -/
theorem the_ord {n p : Nat} {g : Hp} (hn : n ≤ 5) (hp : p < fct n) (r : pR g 8 0 48 = some 0) (l : pL g 64 0 = 5) : ∃ g', F_X8_orders 0 (nI p) (nI n) g = some ((), g') ∧ Fr [64] [] g g' ∧ ∀ k, k < n → pI g' 64 0 k = nI (prm n p k) := by
  have ok := (ok_np hn hp).1
  rw [okM] at ok
  cases e : F_X8_orders 0 (nI p) (nI n) g8 with
  | none => rw [e] at ok; cases ok
  | some q =>
    rw [e] at ok
    obtain ⟨u, g0'⟩ := q
    simp only [decide_eq_true_eq, List.all_eq_true] at ok
    rw [F_X8_orders] at e
    obtain ⟨g', h1, h2, h3⟩ := or8 (v2 := nI n) FU (nI p) 0 0 g g8 r rfl l rfl (by decide) (fun i hi => by rw [show (0 : Int32).toNatClampNeg = 0 from by decide] at hi; omega) e
    refine ⟨g', h1, h2, fun k hk => ?_⟩
    rw [h3 k (by rw [i_cl (by omega)]; exact hk)]
    exact ok k (List.mem_range.mpr hk)
