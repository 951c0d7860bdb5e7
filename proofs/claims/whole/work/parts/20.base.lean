/-! LAYER 2: pure. Reading over writing, small numbers, sums -/
theorem e_nn {β : Type} (n : Nat) (f : Nat → Option β) : nn (some n) f = f n := rfl
theorem e_onnN {β : Type} (a : Option β) (f : Nat → Option β) : onn none a f = a := rfl
theorem e_onnS {β : Type} (n : Nat) (a : Option β) (f : Nat → Option β) : onn (some n) a f = f n := rfl
theorem e_ck {β : Type} (a : Option β) : ck true a = a := rfl
theorem e_lt {γ β : Type} (x : γ) (f : γ → β) : lt x f = f x := rfl
theorem e_cl {γ β : Type} (r : γ) (h : Hp) (f : γ → Hp → Option β) : cl (some (r, h)) f = f r h := rfl
/-- a place written -/
def up1 {α : Type} (f : Nat → α) (i : Nat) (v : α) : Nat → α := fun j => if j = i then v else f j
def up2 {α : Type} (f : Nat → Nat → α) (n i : Nat) (v : α) : Nat → Nat → α := fun m => if m = n then up1 (f m) i v else f m
def upN {α : Type} (f : Nat → Nat → α) (n : Nat) (v : α) : Nat → Nat → α := fun m i => if m = n then v else f m i
theorem up1_s {α : Type} (f : Nat → α) (i : Nat) (v : α) : up1 f i v i = v := by simp [up1]
theorem up1_n {α : Type} (f : Nat → α) {i j : Nat} (v : α) (hj : j ≠ i) : up1 f i v j = f j := by simp [up1, hj]
theorem up2_s {α : Type} (f : Nat → Nat → α) (n i : Nat) (v : α) : up2 f n i v n = up1 (f n) i v := by simp [up2]
theorem up2_n {α : Type} (f : Nat → Nat → α) {n m : Nat} (i : Nat) (v : α) (hm : m ≠ n) : up2 f n i v m = f m := by simp [up2, hm]
theorem upN_s {α : Type} (f : Nat → Nat → α) (n i : Nat) (v : α) : upN f n v n i = v := by simp [upN]
theorem upN_n {α : Type} (f : Nat → Nat → α) {n m : Nat} (v : α) (hm : m ≠ n) : upN f n v m = f m := by funext i; simp [upN, hm]
theorem sl_II {h : Hp} {k k' n i : Nat} {v : Int32} (hk : k' ≠ k) : pI (wI h k n i v) k' = pI h k' := by funext n' i'; rw [pI_wI, if_neg (fun e => hk e.1)]
theorem sl_Ie (h : Hp) (k n i : Nat) (v : Int32) : pI (wI h k n i v) k = up2 (pI h k) n i v := by
  funext n' i'
  rw [pI_wI]
  by_cases h1 : n' = n
  · subst h1
    by_cases h2 : i' = i
    · subst h2; simp [up2, up1]
    · simp [up2, up1, h2]
  · simp [up2, h1]
theorem sl_RI (h : Hp) (k n i : Nat) (v : Int32) : pR (wI h k n i v) = pR h := rfl
theorem sl_CI (h : Hp) (k n i : Nat) (v : Int32) : pC (wI h k n i v) = pC h := rfl
theorem sl_LI (h : Hp) (k n i : Nat) (v : Int32) : pL (wI h k n i v) = pL h := rfl
theorem sl_RR {h : Hp} {k k' n i : Nat} {v : Option Nat} (hk : k' ≠ k) : pR (wR h k n i v) k' = pR h k' := by funext n' i'; rw [pR_wR, if_neg (fun e => hk e.1)]
theorem sl_Re (h : Hp) (k n i : Nat) (v : Option Nat) : pR (wR h k n i v) k = up2 (pR h k) n i v := by
  funext n' i'
  rw [pR_wR]
  by_cases h1 : n' = n
  · subst h1
    by_cases h2 : i' = i
    · subst h2; simp [up2, up1]
    · simp [up2, up1, h2]
  · simp [up2, h1]
theorem sl_IR (h : Hp) (k n i : Nat) (v : Option Nat) : pI (wR h k n i v) = pI h := rfl
theorem sl_CR (h : Hp) (k n i : Nat) (v : Option Nat) : pC (wR h k n i v) = pC h := rfl
theorem sl_LR (h : Hp) (k n i : Nat) (v : Option Nat) : pL (wR h k n i v) = pL h := rfl
theorem sl_CN {h : Hp} {k k' len : Nat} (hk : k' ≠ k) : pC (wN h k len) k' = pC h k' := by rw [pC_wN, if_neg hk]
theorem sl_Ce (h : Hp) (k len : Nat) : pC (wN h k len) k = pC h k + 1 := by rw [pC_wN, if_pos rfl]
theorem sl_LN {h : Hp} {k k' len : Nat} (hk : k' ≠ k) : pL (wN h k len) k' = pL h k' := by funext n'; rw [pL_wN, if_neg (fun e => hk e.1)]
theorem sl_Le (h : Hp) (k len : Nat) : pL (wN h k len) k = up1 (pL h k) (pC h k) len := by
  funext n'
  rw [pL_wN]
  simp [up1]
theorem sl_IN {h : Hp} {k k' len : Nat} (hk : k' ≠ k) : pI (wN h k len) k' = pI h k' := by funext n' i'; rw [pI_wN, if_neg (fun e => hk e.1)]
theorem sl_INe (h : Hp) (k len : Nat) : pI (wN h k len) k = upN (pI h k) (pC h k) 0 := by
  funext n' i'
  rw [pI_wN]
  simp [upN]
theorem sl_RN {h : Hp} {k k' len : Nat} (hk : k' ≠ k) : pR (wN h k len) k' = pR h k' := by funext n' i'; rw [pR_wN, if_neg (fun e => hk e.1)]
theorem sl_RNe (h : Hp) (k len : Nat) : pR (wN h k len) k = upN (pR h k) (pC h k) none := by
  funext n' i'
  rw [pR_wN]
  simp [upN]
/-! small numbers -/
theorem li (n : Nat) : (OfNat.ofNat n : Int32) = nI n := rfl
theorem i_le {a b : Nat} (ha : a < 2147483648) (hb : b < 2147483648) : (nI a ≤ nI b) = (a ≤ b) := propext (nI_leI ha hb)
theorem i_lt {a b : Nat} (ha : a < 2147483648) (hb : b < 2147483648) : (nI a < nI b) = (a < b) := propext (nI_ltI ha hb)
theorem i_eq {a b : Nat} (ha : a < 2147483648) (hb : b < 2147483648) : (nI a = nI b) = (a = b) := propext (nI_eq ha hb)
theorem i_cl {a : Nat} (ha : a < 2147483648) : (nI a).toNatClampNeg = a := nI_clamp ha
theorem i_inb {a n : Nat} (ha : a < n) (hn : n < 2147483648) : inb (nI a) n = true := by
  have h1 : a < 2147483648 := by omega
  simp [inb, nI_clamp h1, nI_pos h1, ha]
theorem i_sub {a b : Nat} (h : b ≤ a) : nI a - nI b = nI (a - b) := pk_sub h
theorem i_div {a d : Nat} (ha : a < 2147483648) (h0 : 0 < d) (hd : d < 2147483648) : nI a / nI d = nI (a / d) := pk_div ha h0 hd
theorem i_rem {a d : Nat} (ha : a < 2147483648) (h0 : 0 < d) (hd : d < 2147483648) : nI a - nI a / nI d * nI d = nI (a % d) := pk_rem ha h0 hd
theorem i_m1 {a : Nat} (ha : a < 2147483648) : nI a ≠ -1 := by
  intro e
  have := congrArg Int32.toInt e
  rw [nI_toInt ha] at this
  have h1 : (-1 : Int32).toInt = -1 := by decide
  omega
theorem i_n1 {a : Nat} (ha : a < 2147483648) : (nI a = -1) = False := by simpa using i_m1 ha
theorem i_1n {a : Nat} (ha : a < 2147483648) : (-1 = nI a) = False := by simpa using (i_m1 ha).symm
theorem i_neg (x : Int32) (n : Nat) (hn : n < 2147483648) : x < 0 ∨ nI n ≤ x ∨ ∃ j : Nat, j < n ∧ x = nI j := pk_ix x hn
/-- an index that is looked at -/
def ixo (x : Int32) (n : Nat) : Option Nat := if ¬ x < 0 ∧ x.toNatClampNeg < n then some x.toNatClampNeg else none
theorem ixo_nI {j n : Nat} (h : j < n) (hn : n < 2147483648) : ixo (nI j) n = some j := by
  have h1 : j < 2147483648 := by omega
  simp [ixo, nI_clamp h1, nI_pos h1, h]
theorem ixo_S {x : Int32} {n j : Nat} (h : ixo x n = some j) (hn : n < 2147483648) : j < n ∧ x = nI j := by
  unfold ixo at h
  split at h
  · rename_i c
    cases h
    refine ⟨c.2, ?_⟩
    obtain ⟨j, hj, e⟩ := nI_of c.1
    rw [e, nI_clamp hj]
  · cases h
theorem ixo_N {x : Int32} {n : Nat} (h : ixo x n = none) (hn : n < 2147483648) : x < 0 ∨ nI n ≤ x := by
  unfold ixo at h
  split at h
  · cases h
  · rename_i c
    rcases i_neg x n hn with h1 | h1 | ⟨j, hj, e⟩
    · exact Or.inl h1
    · exact Or.inr h1
    · have h2 : j < 2147483648 := by omega
      exact absurd ⟨by rw [e]; exact nI_pos h2, by rw [e, nI_clamp h2]; exact hj⟩ c
/-- the numbers of a raft, a trunk .. that is asked for -/
def wi (x a b : Int32) : Int32 := if x < a then 0 else if b < x then 0 else 1
theorem F_within (x a b : Int32) (h : Hp) : F_X7_within x a b h = some (wi x a b, h) := by
  unfold F_X7_within wi
  split
  · rfl
  · split <;> rfl
theorem F_in (x a b : Int32) (h : Hp) : F_X8_in x a b h = some (wi x a b, h) := by
  unfold F_X8_in wi
  split
  · rfl
  · split <;> rfl
theorem wi_01 (x a b : Int32) : wi x a b = 0 ∨ wi x a b = 1 := by
  unfold wi
  split
  · exact Or.inl rfl
  · split
    · exact Or.inl rfl
    · exact Or.inr rfl
theorem wi_ix (x : Int32) {n : Nat} (hn : n < 2147483648) : (wi x 0 (nI n - 1) = 0 ∧ ixo x n = none) ∨ (wi x 0 (nI n - 1) = 1 ∧ ∃ j, j < n ∧ x = nI j ∧ ixo x n = some j) := by
  rcases i_neg x n hn with h1 | h1 | ⟨j, hj, e⟩
  · refine Or.inl ⟨by unfold wi; rw [if_pos h1], ?_⟩
    unfold ixo
    rw [if_neg (fun c => c.1 h1)]
  · have hx : ¬ x < 0 := by
      intro c
      rw [Int32.le_iff_toInt_le, nI_toInt hn] at h1
      rw [Int32.lt_iff_toInt_lt] at c
      have : (0 : Int32).toInt = 0 := by decide
      omega
    obtain ⟨m, hm, e⟩ := nI_of hx
    subst e
    rw [i_le hn hm] at h1
    refine Or.inl ⟨?_, ?_⟩
    · unfold wi
      rw [if_neg hx]
      rw [if_pos]
      cases n with
      | zero =>
        rw [Int32.lt_iff_toInt_lt, nI_toInt hm]
        have : (nI 0 - 1).toInt = -1 := by decide
        omega
      | succ n =>
        rw [nI_pred, i_lt (by omega) hm]
        omega
    · unfold ixo
      rw [if_neg]
      intro c
      rw [nI_clamp hm] at c
      omega
  · subst e
    refine Or.inr ⟨?_, j, hj, rfl, ixo_nI hj hn⟩
    unfold wi
    rw [if_neg (nI_pos (by omega))]
    rw [if_neg]
    cases n with
    | zero => omega
    | succ n =>
      rw [nI_pred, i_lt (by omega) (by omega)]
      omega
theorem wi_k (x : Int32) (k : Nat) (hk : k < 2147483647) : (wi x 0 (nI k) = 0 ∧ ixo x (k + 1) = none) ∨ (wi x 0 (nI k) = 1 ∧ ∃ j, j ≤ k ∧ x = nI j ∧ ixo x (k + 1) = some j) := by
  have := wi_ix x (n := k + 1) (by omega)
  rw [nI_pred] at this
  rcases this with h | ⟨h1, j, h2, h3, h4⟩
  · exact Or.inl h
  · exact Or.inr ⟨h1, j, by omega, h3, h4⟩
