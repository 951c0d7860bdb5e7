theorem at_eval {h : Hp} {n len : Nat} {kc ka : Nat} {x : Int32} {i : Int32} {o : Option Nat} (ei : i = nI n) (eo : o = some 0) (el : pL h ka 0 = len) (hn : n ≤ len) (hl : len < 2147483648) (ha : Gar n (pR h ka 0)) :
    (cl (F_X7_within x (0 : Int32) (i - (1 : Int32)) h) fun r1 h2 => if r1 = 0 then some (none, h2) else nn o fun n5 => ck (inb x (pL h2 ka n5)) <| some ((pR h2 ka n5 (x).toNatClampNeg), h2)) = some (ixo x n, h) := by
  subst ei eo
  rw [F_within, e_cl]
  rcases wi_ix x (n := n) (by omega) with ⟨h1, h2⟩ | ⟨h1, j, h2, rfl, h3⟩
  · rw [h1, h2, if_pos rfl]
  · rw [h1, h3, if_neg (by decide), e_nn, el, i_inb (by omega) hl, e_ck, i_cl (by omega), ha j h2]
theorem F_stationAt {h : Hp} {S : Nat} {x : Int32} (e1 : pI h 7 0 1 = nI S) (e2 : pR h 7 0 0 = some 0) (e3 : pL h 19 0 = 12) (hS : S ≤ 12) (ha : Gar S (pR h 19 0)) : F_X7_stationAt 0 x h = some (ixo x S, h) := by
  unfold F_X7_stationAt
  have := at_eval (kc := 0) (x := x) e1 e2 e3 hS (by decide) ha
  first | exact this | (rw [F_within, e_cl] at this ⊢; exact this)
theorem i_leL (n : Nat) {a : Nat} (hn : n < 2147483648) (ha : a < 2147483648) : ((OfNat.ofNat n : Int32) ≤ nI a) = (n ≤ a) := i_le hn ha
theorem i_leR (n : Nat) {a : Nat} (hn : n < 2147483648) (ha : a < 2147483648) : (nI a ≤ (OfNat.ofNat n : Int32)) = (a ≤ n) := i_le ha hn
theorem i_ltL (n : Nat) {a : Nat} (hn : n < 2147483648) (ha : a < 2147483648) : ((OfNat.ofNat n : Int32) < nI a) = (n < a) := i_lt hn ha
theorem i_ltR (n : Nat) {a : Nat} (hn : n < 2147483648) (ha : a < 2147483648) : (nI a < (OfNat.ofNat n : Int32)) = (a < n) := i_lt ha hn
theorem i_eqL (n : Nat) {a : Nat} (hn : n < 2147483648) (ha : a < 2147483648) : (nI a = (OfNat.ofNat n : Int32)) = (a = n) := i_eq ha hn
/-- the first place that fits, from i on, among m -/
def fnd (p : Nat → Bool) : Nat → Nat → Option Nat
  | 0, _ => none
  | m + 1, i => if p i then some i else fnd p m (i + 1)
theorem fnd_S {p : Nat → Bool} : ∀ {m i t : Nat}, fnd p m i = some t → i ≤ t ∧ t < i + m ∧ p t = true
  | 0, i, t, h => by cases h
  | m + 1, i, t, h => by
    unfold fnd at h
    split at h
    · cases h; rename_i c; exact ⟨Nat.le_refl _, by omega, c⟩
    · have := fnd_S h; exact ⟨by omega, by omega, this.2.2⟩
theorem fnd_N {p : Nat → Bool} : ∀ {m i : Nat}, fnd p m i = none → ∀ t, i ≤ t → t < i + m → p t = false
  | 0, i, h, t, h1, h2 => by omega
  | m + 1, i, h, t, h1, h2 => by
    unfold fnd at h
    split at h
    · cases h
    · rename_i c
      by_cases e : t = i
      · subst e; simpa using c
      · exact fnd_N h t (by omega) (by omega)
section QI
variable {α : Type} {x y : α} {a b : Nat}
theorem q_le (h : a ≤ b) (hb : b < 2147483648) : (if nI a ≤ nI b then x else y) = x := if_pos (nI_le h hb)
theorem q_nle (h : b < a) (ha : a < 2147483648) : (if nI a ≤ nI b then x else y) = y := if_neg (nI_ge h ha)
theorem q_lt (h : a < b) (hb : b < 2147483648) : (if nI a < nI b then x else y) = x := if_pos (nI_lt h hb)
theorem q_nlt (h : b ≤ a) (ha : a < 2147483648) : (if nI a < nI b then x else y) = y := if_neg (nI_nlt h ha)
theorem q_leL (n : Nat) (h : n ≤ b) (hb : b < 2147483648) : (if (OfNat.ofNat n : Int32) ≤ nI b then x else y) = x := if_pos (nI_le h hb)
theorem q_nleL (n : Nat) (h : b < n) (ha : n < 2147483648) : (if (OfNat.ofNat n : Int32) ≤ nI b then x else y) = y := if_neg (nI_ge h ha)
theorem q_leR (n : Nat) (h : a ≤ n) (hb : n < 2147483648) : (if nI a ≤ (OfNat.ofNat n : Int32) then x else y) = x := if_pos (nI_le h hb)
theorem q_nleR (n : Nat) (h : n < a) (ha : a < 2147483648) : (if nI a ≤ (OfNat.ofNat n : Int32) then x else y) = y := if_neg (nI_ge h ha)
theorem q_ltL (n : Nat) (h : n < b) (hb : b < 2147483648) : (if (OfNat.ofNat n : Int32) < nI b then x else y) = x := if_pos (nI_lt h hb)
theorem q_nltL (n : Nat) (h : b ≤ n) (ha : n < 2147483648) : (if (OfNat.ofNat n : Int32) < nI b then x else y) = y := if_neg (nI_nlt h ha)
theorem q_ltR (n : Nat) (h : a < n) (hb : n < 2147483648) : (if nI a < (OfNat.ofNat n : Int32) then x else y) = x := if_pos (nI_lt h hb)
theorem q_nltR (n : Nat) (h : n ≤ a) (ha : a < 2147483648) : (if nI a < (OfNat.ofNat n : Int32) then x else y) = y := if_neg (nI_nlt h ha)
theorem q_eqR (n : Nat) (h : a = n) : (if nI a = (OfNat.ofNat n : Int32) then x else y) = x := if_pos (by rw [h]; rfl)
theorem q_neR (n : Nat) (h : a ≠ n) (ha : a < 2147483648) (hn : n < 2147483648) : (if nI a = (OfNat.ofNat n : Int32) then x else y) = y := if_neg (by rw [i_eqL n hn ha]; exact h)
theorem q_eq (h : a = b) : (if nI a = nI b then x else y) = x := if_pos (by rw [h])
theorem q_ne (h : a ≠ b) (ha : a < 2147483648) (hb : b < 2147483648) : (if nI a = nI b then x else y) = y := if_neg (by rw [i_eq ha hb]; exact h)
theorem q_m1 (ha : a < 2147483648) : (if nI a = -1 then x else y) = y := if_neg (i_m1 ha)
end QI
