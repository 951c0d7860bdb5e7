/-! the start -/
def h4s : Hp := match F_X7_init 0 (wN h00 7 0) with
  | some q => q.2
  | none => h00
def h9s : Hp := match F_X8_init 0 (wN h4s 8 0) with
  | some q => q.2
  | none => h00
theorem st_7 : F_X7_init 0 (wN h00 7 0) = some ((), h4s) := by
  have k : (F_X7_init 0 (wN h00 7 0)).isSome = true := by decide +kernel
  unfold h4s
  cases e : F_X7_init 0 (wN h00 7 0) with
  | none => rw [e] at k; cases k
  | some q => rfl
theorem st_8 : F_X8_init 0 (wN h4s 8 0) = some ((), h9s) := by
  have k : (F_X8_init 0 (wN h4s 8 0)).isSome = true := by decide +kernel
  unfold h9s
  cases e : F_X8_init 0 (wN h4s 8 0) with
  | none => rw [e] at k; cases k
  | some q => rfl
theorem st_C : pC h4s 8 = 0 := by decide +kernel
theorem st_c4 : pC h9s 4 = 0 := by decide +kernel
theorem st_c6 : pC h9s 6 = 0 := by decide +kernel
theorem st_c2 : pC h9s 2 = 0 := by decide +kernel
theorem st_c0 : pC h9s 0 = 0 := by decide +kernel
theorem st_c3 : pC h9s 3 = 1 := by decide +kernel
theorem st_n {n k : Nat} (e : k = 0) (h : n < k) : False := by omega
set_option maxRecDepth 20000 in
theorem st_rg : ∀ o, o < 8 → pI h9s 23 0 o = 5 ∧ pI h9s 55 0 o = 5 := by decide +kernel
set_option maxRecDepth 20000 in
theorem st_ba : ∀ o, o < 8 → pI h9s 24 0 o = pI h9s 56 0 o := by decide +kernel
set_option maxRecDepth 20000 in
theorem st_w8 : ∀ i, i < 52 → (i < 52 ∧ i ≠ 0 ∧ i ≠ 1 ∧ i ≠ 11 ∧ i ≠ 22 ∧ i ≠ 24 ∧ i ≠ 30 ∧ i ≠ 38 ∧ i ≠ 41 ∧ i ≠ 46) → pR h9s 8 0 i = some 0 := by decide +kernel
set_option maxRecDepth 20000 in
theorem st_ln : ∀ q ∈ lenT, pL h9s q.1 q.2.1 = q.2.2 := by decide +kernel
set_option maxRecDepth 20000 in
theorem st_simG : SimG 0 (fun _ => 0) (fun _ _ => 0) (fun _ => 0) (fun _ _ => 0) 0 h9s := by
  refine ⟨?_, ?_, ?_, fun i hi => st_w8 i hi.1 hi, st_ln, ?_, fun i hi => (st_n st_c4 hi).elim, fun i hi => (st_n st_c6 hi).elim, fun i hi => (st_n st_c2 hi).elim, fun i hi => (st_n st_c0 hi).elim, ⟨fun n hn => (st_n st_c4 hn).elim, fun n _ => ⟨rfl, rfl, rfl, rfl, rfl, rfl, rfl, rfl, rfl⟩⟩, fun n hn => (st_n st_c4 hn).elim, ⟨fun t ht => (st_n st_c6 ht).elim, fun t _ => rfl⟩, fun r hr => (st_n st_c2 hr).elim, ⟨fun c hc => (st_n st_c0 hc).elim, fun c _ => rfl⟩, ⟨fun r hr => (st_n st_c2 hr).elim, fun p hp => ?_, fun r hr => (st_n st_c2 hr).elim, fun t ht => (st_n st_c6 ht).elim⟩, ⟨?_, ?_, ?_, fun j hj => (Nat.not_lt_zero _ hj).elim, fun r hr => (st_n st_c2 hr).elim, fun j _ hj => (Nat.not_lt_zero _ hj).elim⟩, ⟨0, by omega, ?_, ?_, fun k hk => (Nat.not_lt_zero _ hk).elim⟩, ⟨0, by omega, ?_, ?_, fun k hk => (Nat.not_lt_zero _ hk).elim⟩, ⟨?_, ?_, by omega⟩, ?_, fun o ho => ?_, st_ba, ?_⟩
  · unfold Gw7; decide +kernel
  · unfold Gw1; decide +kernel
  · unfold Gw5; decide +kernel
  · unfold Gct; decide +kernel
  · rw [st_c3] at hp
    have : p = 0 := by omega
    subst this
    refine ⟨?_, Nat.zero_le _, ?_, ?_, ?_, fun j hj => (Nat.not_lt_zero _ hj).elim⟩
    · decide +kernel
    · decide +kernel
    · decide +kernel
    · show pI h9s 3 0 2 = 0
      decide +kernel
  · decide +kernel
  · rw [st_c3]; omega
  · decide +kernel
  · decide +kernel
  · decide +kernel
  · decide +kernel
  · decide +kernel
  · decide +kernel
  · decide +kernel
  · decide +kernel
  · obtain ⟨a, b⟩ := st_rg o ho
    exact ⟨a.trans b.symm, 5, by omega, b⟩
  · rw [st_c6]
    unfold cnt su
    decide +kernel
theorem st_sim : Sim h9s := ⟨0, _, _, _, _, 0, st_simG⟩
