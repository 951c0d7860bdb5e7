theorem kin0 : Cond.instantiable RX0 6 ∈ gws := gw 449 (by decide +kernel) rfl
theorem kin1 : Cond.instantiable RX1 8 ∈ gws := gw 113 (by decide +kernel) rfl
theorem kin2 : Cond.instantiable RX2 6 ∈ gws := gw 356 (by decide +kernel) rfl
theorem kin3 : Cond.instantiable RX3 3 ∈ gws := gw 68 (by decide +kernel) rfl
theorem kin4 : Cond.instantiable RX4 10 ∈ gws := gw 203 (by decide +kernel) rfl
theorem kin5 : Cond.instantiable RX5 4 ∈ gws := gw 90 (by decide +kernel) rfl
theorem kin6 : Cond.instantiable RX6 8 ∈ gws := gw 280 (by decide +kernel) rfl
theorem kin7 : Cond.instantiable RX7 18 ∈ gws := gw 52 (by decide +kernel) rfl
theorem kin8 : Cond.instantiable RX8 52 ∈ gws := gw 727 (by decide +kernel) rfl
theorem kin : ∀ k, k < 9 → Cond.instantiable (kR k) (nf k) ∈ gws := by
  intro k hk
  match k, hk with
  | 0, _ => exact kin0
  | 1, _ => exact kin1
  | 2, _ => exact kin2
  | 3, _ => exact kin3
  | 4, _ => exact kin4
  | 5, _ => exact kin5
  | 6, _ => exact kin6
  | 7, _ => exact kin7
  | 8, _ => exact kin8
  | n + 9, h => exact absurd h (by omega)
theorem ao_4 : Cond.arrayOver (.object RX4) ∈ lw_tbl := List.mem_of_getElem? (i := 60) (by decide +kernel)
theorem ao_6 : Cond.arrayOver (.object RX6) ∈ lw_tbl := List.mem_of_getElem? (i := 62) (by decide +kernel)
theorem ao_2 : Cond.arrayOver (.object RX2) ∈ lw_tbl := List.mem_of_getElem? (i := 64) (by decide +kernel)
theorem ao_0 : Cond.arrayOver (.object RX0) ∈ lw_tbl := List.mem_of_getElem? (i := 66) (by decide +kernel)
theorem ao_3 : Cond.arrayOver (.object RX3) ∈ lw_tbl := List.mem_of_getElem? (i := 362) (by decide +kernel)
theorem nest_in : ∀ w ∈ nestW, w ∈ lw_tbl := by
  intro w hw
  have e : nestW = ([69, 114, 263, 271, 274, 685] : List Nat).filterMap (fun i => lw_tbl[i]?) := by decide +kernel
  rw [e] at hw
  obtain ⟨i, -, hi⟩ := List.mem_filterMap.mp hw
  exact List.mem_of_getElem? hi
theorem nest_onT : ∀ w ∈ nestW, w.onTables = true := by
  intro w hw
  simp only [nestW, List.mem_cons, List.not_mem_nil, or_false] at hw
  rcases hw with rfl | rfl | rfl | rfl | rfl | rfl <;> rfl
def h00 : Hp := (fun k => if k = 99 then 1 else 0, fun _ _ => 0, fun _ _ _ => 0, fun _ _ _ => none)
