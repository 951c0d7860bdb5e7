theorem at_eval {h : Hp} {n len : Nat} {kc ka : Nat} {x : Int32} {i : Int32} {o : Option Nat} (ei : i = nI n) (eo : o = some 0) (el : pL h ka 0 = len) (hn : n ≤ len) (hl : len < 2147483648) (ha : Gar n (pR h ka 0)) :
    (cl (F_X7_within x (0 : Int32) (i - (1 : Int32)) h) fun r1 h2 => if r1 = 0 then some (none, h2) else nn o fun n5 => ck (inb x (pL h2 ka n5)) <| some ((pR h2 ka n5 (x).toNatClampNeg), h2)) = some (ixo x n, h) := by
  subst ei eo
  rw [F_within, e_cl]
  rcases wi_ix x (n := n) (by omega) with ⟨h1, h2⟩ | ⟨h1, j, h2, rfl, h3⟩
  · rw [h1, h2, if_pos rfl]
  · rw [h1, h3, if_neg (by decide), e_nn, el, i_inb (by omega) hl, e_ck, i_cl (by omega), ha j h2]
theorem F_stationAt {h : Hp} {S : Nat} {x : Int32} (e1 : pI h 7 0 1 = nI S) (e2 : pR h 7 0 0 = some 0) (e3 : pL h 19 0 = 12) (hS : S ≤ 12) (ha : Gar S (pR h 19 0)) : F_X7_stationAt 0 x h = some (ixo x S, h) := by
  unfold F_X7_stationAt
  have := at_eval (kc := 0) (x := x) e1 e2 e3 hS (by decide) ha
  first | exact this | (rw [F_within, e_cl] at this ⊢; exact this)
theorem i_leL {a n : Nat} (hn : n < 2147483648) (ha : a < 2147483648) : ((OfNat.ofNat n : Int32) ≤ nI a) = (n ≤ a) := i_le hn ha
theorem i_leR {a n : Nat} (hn : n < 2147483648) (ha : a < 2147483648) : (nI a ≤ (OfNat.ofNat n : Int32)) = (a ≤ n) := i_le ha hn
theorem i_ltL {a n : Nat} (hn : n < 2147483648) (ha : a < 2147483648) : ((OfNat.ofNat n : Int32) < nI a) = (n < a) := i_lt hn ha
theorem i_ltR {a n : Nat} (hn : n < 2147483648) (ha : a < 2147483648) : (nI a < (OfNat.ofNat n : Int32)) = (a < n) := i_lt ha hn
theorem i_eqL {a n : Nat} (hn : n < 2147483648) (ha : a < 2147483648) : (nI a = (OfNat.ofNat n : Int32)) = (a = n) := i_eq ha hn
/-- the first place that fits, from i on, among m -/
def fnd (p : Nat → Bool) : Nat → Nat → Option Nat
  | 0, _ => none
  | m + 1, i => if p i then some i else fnd p m (i + 1)
theorem fnd_S {p : Nat → Bool} : ∀ {m i t : Nat}, fnd p m i = some t → i ≤ t ∧ t < i + m ∧ p t = true
  | 0, i, t, h => by cases h
  | m + 1, i, t, h => by
    unfold fnd at h
    split at h
    · cases h; rename_i c; exact ⟨Nat.le_refl _, by omega, c⟩
    · have := fnd_S h; exact ⟨by omega, by omega, this.2.2⟩
theorem fnd_N {p : Nat → Bool} : ∀ {m i : Nat}, fnd p m i = none → ∀ t, i ≤ t → t < i + m → p t = false
  | 0, i, h, t, h1, h2 => by omega
  | m + 1, i, h, t, h1, h2 => by
    unfold fnd at h
    split at h
    · cases h
    · rename_i c
      by_cases e : t = i
      · subst e; simpa using c
      · exact fnd_N h t (by omega) (by omega)
