set_option maxHeartbeats 4000000 in
set_option maxRecDepth 100000 in
theorem c_X8_advance {x0 : Nat} {x1 : Int32} {x2 : Int32} {h hh : Hp} {xr : Int32} (hF : F_X8_advance x0 x1 x2 h = some (xr, hh)) : Ctr yX8_advance cX8_advance 3 (some .int) 1 0 0 [.inr (8, (some x0)), .inl x1, .inl x2] h (some (.inl xr)) hh := by
  refine Ctr_i (own := RX8) (ini := False) (ls0 := [some (.inr (8, (some x0))), some (.inl x1), some (.inl x2)]) (by decide) rfl (Nat.le_of_ble_eq_true rfl) (fun e => e.elim) rfl ?_
  intro J hJ hR
  unfold F_X8_advance at hF
  refine hJ.iload_n (i := 1) dX8_advance_0 rfl rfl ?_
  refine hJ.iconst (v := 0) dX8_advance_1 (by decide) ?_
  refine hJ.bipush (v := 7) dX8_advance_2 (by decide) ?_
  replace hF := cl_S hF
  obtain ⟨r1, h2, ec3, hF⟩ := hF
  refine hJ.callS (as := [.inl x1, .inl (0 : Int32), .inl (7 : Int32)]) (st := []) dX8_advance_4 w_RX8_144 (c_X8_in ec3) (by decide) (by decide) (by decide) rfl (Nat.le_of_ble_eq_true rfl) rfl ?_
  refine hJ.if_eq (tgt := 20) dX8_advance_7 (by decide) (fun e4 => ?_) (fun e4 => ?_)
  · replace hF := ite_T e4 hF
    refine hJ.ldc dX8_advance_20 k_RX8_238 ?_
    obtain ⟨rfl, rfl⟩ := ret_S hF
    exact hR dX8_advance_22 (by decide) (by decide)
  · replace hF := ite_F e4 hF
    refine hJ.iload_n (i := 2) dX8_advance_10 rfl rfl ?_
    refine hJ.iconst (v := 1) dX8_advance_11 (by decide) ?_
    refine hJ.ldc dX8_advance_12 k_RX8_158 ?_
    replace hF := cl_S hF
    obtain ⟨r5, h6, ec7, hF⟩ := hF
    refine hJ.callS (as := [.inl x2, .inl (1 : Int32), .inl (100000 : Int32)]) (st := []) dX8_advance_14 w_RX8_144 (c_X8_in ec7) (by decide) (by decide) (by decide) rfl (Nat.le_of_ble_eq_true rfl) rfl ?_
    refine hJ.if_ne (tgt := 23) dX8_advance_17 (by decide) (fun e8 => ?_) (fun e8 => ?_)
    · replace hF := ite_F e8 hF
      refine hJ.aload_n (i := 0) dX8_advance_23 rfl rfl ?_
      refine hJ.getR dX8_advance_24 f_RX8_104 rfl ?_
      refine hJ.iload_n (i := 1) dX8_advance_27 rfl rfl ?_
      refine hJ.dup2 dX8_advance_28 ?_
      replace hF := nn_S hF
      obtain ⟨n9, e10, hF⟩ := hF
      rw [e10]
      replace hF := ck_S hF
      obtain ⟨c11, hF⟩ := hF
      refine hJ.iald dX8_advance_29 a_56 rfl c11 ?_
      refine hJ.iload_n (i := 2) dX8_advance_30 rfl rfl ?_
      refine hJ.isub dX8_advance_31 ?_
      replace hF := ck_S hF
      obtain ⟨c12, hF⟩ := hF
      replace hF := lt_S hF
      obtain ⟨h13, eh14, hF⟩ := hF
      refine hJ.iast dX8_advance_32 a_56 rfl c12 ?_
      rw [← eh14]
      refine hJ.aload_n (i := 0) dX8_advance_33 rfl rfl ?_
      refine hJ.getR dX8_advance_34 f_RX8_104 rfl ?_
      refine hJ.iload_n (i := 1) dX8_advance_37 rfl rfl ?_
      replace hF := nn_S hF
      obtain ⟨n15, e16, hF⟩ := hF
      rw [e16]
      replace hF := ck_S hF
      obtain ⟨c17, hF⟩ := hF
      refine hJ.iald dX8_advance_38 a_56 rfl c17 ?_
      obtain ⟨rfl, rfl⟩ := ret_S hF
      exact hR dX8_advance_39 (by decide) (by decide)
    · replace hF := ite_T e8 hF
      refine hJ.ldc dX8_advance_20 k_RX8_238 ?_
      obtain ⟨rfl, rfl⟩ := ret_S hF
      exact hR dX8_advance_22 (by decide) (by decide)

set_option maxHeartbeats 4000000 in
set_option maxRecDepth 100000 in
theorem c_X8_balance {x0 : Nat} {x1 : Int32} {h hh : Hp} {xr : Int32} (hF : F_X8_balance x0 x1 h = some (xr, hh)) : Ctr yX8_balance cX8_balance 2 (some .int) 1 0 0 [.inr (8, (some x0)), .inl x1] h (some (.inl xr)) hh := by
  refine Ctr_i (own := RX8) (ini := False) (ls0 := [some (.inr (8, (some x0))), some (.inl x1)]) (by decide) rfl (Nat.le_of_ble_eq_true rfl) (fun e => e.elim) rfl ?_
  intro J hJ hR
  unfold F_X8_balance at hF
  refine hJ.iload_n (i := 1) dX8_balance_0 rfl rfl ?_
  refine hJ.iconst (v := 0) dX8_balance_1 (by decide) ?_
  refine hJ.bipush (v := 7) dX8_balance_2 (by decide) ?_
  replace hF := cl_S hF
  obtain ⟨r1, h2, ec3, hF⟩ := hF
  refine hJ.callS (as := [.inl x1, .inl (0 : Int32), .inl (7 : Int32)]) (st := []) dX8_balance_4 w_RX8_144 (c_X8_in ec3) (by decide) (by decide) (by decide) rfl (Nat.le_of_ble_eq_true rfl) rfl ?_
  refine hJ.if_eq (tgt := 19) dX8_balance_7 (by decide) (fun e4 => ?_) (fun e4 => ?_)
  · replace hF := ite_T e4 hF
    refine hJ.iconst (v := 0) dX8_balance_19 (by decide) ?_
    obtain ⟨rfl, rfl⟩ := ret_S hF
    exact hR dX8_balance_20 (by decide) (by decide)
  · replace hF := ite_F e4 hF
    refine hJ.aload_n (i := 0) dX8_balance_10 rfl rfl ?_
    refine hJ.getR dX8_balance_11 f_RX8_104 rfl ?_
    refine hJ.iload_n (i := 1) dX8_balance_14 rfl rfl ?_
    replace hF := nn_S hF
    obtain ⟨n5, e6, hF⟩ := hF
    rw [e6]
    replace hF := ck_S hF
    obtain ⟨c7, hF⟩ := hF
    refine hJ.iald dX8_balance_15 a_56 rfl c7 ?_
    refine hJ.goto (tgt := 20) dX8_balance_16 (by decide) ?_
    obtain ⟨rfl, rfl⟩ := ret_S hF
    exact hR dX8_balance_20 (by decide) (by decide)

set_option maxHeartbeats 4000000 in
set_option maxRecDepth 100000 in
theorem t_X8_orders_20 {β : Type} {J : JT} (hJ : Rules cX8_orders RX8 9 0 0 0 False J) {a b : Nat} (ha : a ≤ 0) (hb : b ≤ 0) {v0 : Nat} {v2 : Int32} {v3 : Int32} {v4 : Int32} {v5 : Int32} {κ42 : Int32 → Hp → Option β} {out : β}
    (hk42 : ∀ (k6 : Int32) (h : Hp), κ42 k6 h = some out → J 42 [some (.inr (8, (some v0))), none, some (.inl v2), some (.inl v3), some (.inl v4), some (.inl v5), some (.inl k6), none, none] [] h a b)
    : ∀ (f : Nat) (v6 : Int32) (v7 : Int32) (h : Hp), L_X8_orders_20 v0 v2 v3 v4 v5 κ42 f v6 v7 h = some out → J 20 [some (.inr (8, (some v0))), none, some (.inl v2), some (.inl v3), some (.inl v4), some (.inl v5), some (.inl v6), some (.inl v7), none] [] h a b := by
  intro f
  induction f with
  | zero => intro v6 v7 h hF; simp [L_X8_orders_20] at hF
  | succ f ih =>
    intro v6 v7 h hF
    rw [L_X8_orders_20] at hF
    refine hJ.iload (i := 7) dX8_orders_20 rfl ?_
    refine hJ.iload_n (i := 2) dX8_orders_22 rfl rfl ?_
    refine hJ.iload (i := 5) dX8_orders_23 rfl ?_
    refine hJ.isub dX8_orders_25 ?_
    refine hJ.icmp_ge (tgt := 42) dX8_orders_26 (by decide) (fun e2 => ?_) (fun e2 => ?_)
    · replace hF := ite_T e2 hF
      refine hJ.forget (ls2 := [some (.inr (8, (some v0))), none, some (.inl v2), some (.inl v3), some (.inl v4), some (.inl v5), some (.inl v6), none, none]) ⟨rfl, rfl, rfl, rfl, rfl, rfl, trivial⟩ ?_
      exact hk42 v6 h hF
    · replace hF := ite_F e2 hF
      refine hJ.iload (i := 6) dX8_orders_29 rfl ?_
      refine hJ.iload (i := 7) dX8_orders_31 rfl ?_
      refine hJ.imul dX8_orders_33 ?_
      refine hJ.istore (i := 6) (ls2 := [some (.inr (8, (some v0))), none, some (.inl v2), some (.inl v3), some (.inl v4), some (.inl v5), some (.inl (v6 * v7)), some (.inl v7), none]) dX8_orders_34 (by decide) rfl ?_
      refine hJ.iinc (i := 7) (v := (v7 + (1 : Int32))) (ls2 := [some (.inr (8, (some v0))), none, some (.inl v2), some (.inl v3), some (.inl v4), some (.inl v5), some (.inl (v6 * v7)), some (.inl (v7 + (1 : Int32))), none]) dX8_orders_36 rfl (addI (by decide)) (by decide) rfl ?_
      refine hJ.goto (tgt := 20) dX8_orders_39 (by decide) ?_
      refine hJ.forget (ls2 := [some (.inr (8, (some v0))), none, some (.inl v2), some (.inl v3), some (.inl v4), some (.inl v5), some (.inl (v6 * v7)), some (.inl (v7 + (1 : Int32))), none]) ⟨rfl, rfl, rfl, rfl, rfl, rfl, rfl, trivial⟩ ?_
      exact ih (v6 * v7) (v7 + (1 : Int32)) h hF

set_option maxHeartbeats 4000000 in
set_option maxRecDepth 100000 in
theorem t_X8_orders_56 {β : Type} {J : JT} (hJ : Rules cX8_orders RX8 9 0 0 0 False J) {a b : Nat} (ha : a ≤ 0) (hb : b ≤ 0) {v0 : Nat} {v2 : Int32} {v3 : Int32} {v4 : Int32} {v5 : Int32} {v7 : Int32} {κ73 : Int32 → Hp → Option β} {out : β}
    (hk73 : ∀ (k8 : Int32) (h : Hp), κ73 k8 h = some out → J 73 [some (.inr (8, (some v0))), none, some (.inl v2), some (.inl v3), some (.inl v4), some (.inl v5), none, some (.inl v7), some (.inl k8)] [] h a b)
    : ∀ (f : Nat) (v8 : Int32) (h : Hp), L_X8_orders_56 v0 v2 v3 v4 v5 v7 κ73 f v8 h = some out → J 56 [some (.inr (8, (some v0))), none, some (.inl v2), some (.inl v3), some (.inl v4), some (.inl v5), none, some (.inl v7), some (.inl v8)] [] h a b := by
  intro f
  induction f with
  | zero => intro v8 h hF; simp [L_X8_orders_56] at hF
  | succ f ih =>
    intro v8 h hF
    rw [L_X8_orders_56] at hF
    refine hJ.iload (i := 4) dX8_orders_56 rfl ?_
    refine hJ.iload (i := 8) dX8_orders_58 rfl ?_
    refine hJ.ishr dX8_orders_60 ?_
    refine hJ.iconst (v := 1) dX8_orders_61 (by decide) ?_
    refine hJ.iand dX8_orders_62 ?_
    refine hJ.iconst (v := 1) dX8_orders_63 (by decide) ?_
    refine hJ.icmp_ne (tgt := 73) dX8_orders_64 (by decide) (fun e7 => ?_) (fun e7 => ?_)
    · replace hF := ite_F e7 hF
      refine hJ.forget (ls2 := [some (.inr (8, (some v0))), none, some (.inl v2), some (.inl v3), some (.inl v4), some (.inl v5), none, some (.inl v7), some (.inl v8)]) ⟨rfl, rfl, rfl, rfl, rfl, rfl, rfl, trivial⟩ ?_
      exact hk73 v8 h hF
    · replace hF := ite_T e7 hF
      refine hJ.iinc (i := 8) (v := (v8 + (1 : Int32))) (ls2 := [some (.inr (8, (some v0))), none, some (.inl v2), some (.inl v3), some (.inl v4), some (.inl v5), none, some (.inl v7), some (.inl (v8 + (1 : Int32)))]) dX8_orders_67 rfl (addI (by decide)) (by decide) rfl ?_
      refine hJ.goto (tgt := 56) dX8_orders_70 (by decide) ?_
      refine hJ.forget (ls2 := [some (.inr (8, (some v0))), none, some (.inl v2), some (.inl v3), some (.inl v4), some (.inl v5), none, some (.inl v7), some (.inl (v8 + (1 : Int32)))]) ⟨rfl, rfl, rfl, rfl, rfl, rfl, rfl, trivial⟩ ?_
      exact ih (v8 + (1 : Int32)) h hF

set_option maxHeartbeats 4000000 in
set_option maxRecDepth 100000 in
theorem t_X8_orders_81 {β : Type} {J : JT} (hJ : Rules cX8_orders RX8 9 0 0 0 False J) {a b : Nat} (ha : a ≤ 0) (hb : b ≤ 0) {v0 : Nat} {v2 : Int32} {v3 : Int32} {v4 : Int32} {v5 : Int32} {v7 : Int32} {κ98 : Int32 → Hp → Option β} {out : β}
    (hk98 : ∀ (k8 : Int32) (h : Hp), κ98 k8 h = some out → J 98 [some (.inr (8, (some v0))), none, some (.inl v2), some (.inl v3), some (.inl v4), some (.inl v5), none, some (.inl v7), some (.inl k8)] [] h a b)
    : ∀ (f : Nat) (v8 : Int32) (h : Hp), L_X8_orders_81 v0 v2 v3 v4 v5 v7 κ98 f v8 h = some out → J 81 [some (.inr (8, (some v0))), none, some (.inl v2), some (.inl v3), some (.inl v4), some (.inl v5), none, some (.inl v7), some (.inl v8)] [] h a b := by
  intro f
  induction f with
  | zero => intro v8 h hF; simp [L_X8_orders_81] at hF
  | succ f ih =>
    intro v8 h hF
    rw [L_X8_orders_81] at hF
    refine hJ.iload (i := 4) dX8_orders_81 rfl ?_
    refine hJ.iload (i := 8) dX8_orders_83 rfl ?_
    refine hJ.ishr dX8_orders_85 ?_
    refine hJ.iconst (v := 1) dX8_orders_86 (by decide) ?_
    refine hJ.iand dX8_orders_87 ?_
    refine hJ.iconst (v := 1) dX8_orders_88 (by decide) ?_
    refine hJ.icmp_ne (tgt := 98) dX8_orders_89 (by decide) (fun e11 => ?_) (fun e11 => ?_)
    · replace hF := ite_F e11 hF
      refine hJ.forget (ls2 := [some (.inr (8, (some v0))), none, some (.inl v2), some (.inl v3), some (.inl v4), some (.inl v5), none, some (.inl v7), some (.inl v8)]) ⟨rfl, rfl, rfl, rfl, rfl, rfl, rfl, trivial⟩ ?_
      exact hk98 v8 h hF
    · replace hF := ite_T e11 hF
      refine hJ.iinc (i := 8) (v := (v8 + (1 : Int32))) (ls2 := [some (.inr (8, (some v0))), none, some (.inl v2), some (.inl v3), some (.inl v4), some (.inl v5), none, some (.inl v7), some (.inl (v8 + (1 : Int32)))]) dX8_orders_92 rfl (addI (by decide)) (by decide) rfl ?_
      refine hJ.goto (tgt := 81) dX8_orders_95 (by decide) ?_
      refine hJ.forget (ls2 := [some (.inr (8, (some v0))), none, some (.inl v2), some (.inl v3), some (.inl v4), some (.inl v5), none, some (.inl v7), some (.inl (v8 + (1 : Int32)))]) ⟨rfl, rfl, rfl, rfl, rfl, rfl, rfl, trivial⟩ ?_
      exact ih (v8 + (1 : Int32)) h hF

set_option maxHeartbeats 4000000 in
set_option maxRecDepth 100000 in
theorem t_X8_orders_73 {β : Type} {J : JT} (hJ : Rules cX8_orders RX8 9 0 0 0 False J) {a b : Nat} (ha : a ≤ 0) (hb : b ≤ 0) {v0 : Nat} {v2 : Int32} {v3 : Int32} {v4 : Int32} {v5 : Int32} {κ104 : Int32 → Hp → Option β} {out : β}
    (hk104 : ∀ (k8 : Int32) (h : Hp), κ104 k8 h = some out → J 104 [some (.inr (8, (some v0))), none, some (.inl v2), some (.inl v3), some (.inl v4), some (.inl v5), none, none, some (.inl k8)] [] h a b)
    : ∀ (f : Nat) (v7 : Int32) (v8 : Int32) (h : Hp), L_X8_orders_73 v0 v2 v3 v4 v5 κ104 f v7 v8 h = some out → J 73 [some (.inr (8, (some v0))), none, some (.inl v2), some (.inl v3), some (.inl v4), some (.inl v5), none, some (.inl v7), some (.inl v8)] [] h a b := by
  intro f
  induction f with
  | zero => intro v7 v8 h hF; simp [L_X8_orders_73] at hF
  | succ f ih =>
    intro v7 v8 h hF
    rw [L_X8_orders_73] at hF
    refine hJ.iload (i := 7) dX8_orders_73 rfl ?_
    refine hJ.if_le (tgt := 104) dX8_orders_75 (by decide) (fun e10 => ?_) (fun e10 => ?_)
    · replace hF := ite_T e10 hF
      refine hJ.forget (ls2 := [some (.inr (8, (some v0))), none, some (.inl v2), some (.inl v3), some (.inl v4), some (.inl v5), none, none, some (.inl v8)]) ⟨rfl, rfl, rfl, rfl, rfl, rfl, trivial⟩ ?_
      exact hk104 v8 h hF
    · replace hF := ite_F e10 hF
      refine hJ.iinc (i := 8) (v := (v8 + (1 : Int32))) (ls2 := [some (.inr (8, (some v0))), none, some (.inl v2), some (.inl v3), some (.inl v4), some (.inl v5), none, some (.inl v7), some (.inl (v8 + (1 : Int32)))]) dX8_orders_78 rfl (addI (by decide)) (by decide) rfl ?_
      refine hJ.forget (ls2 := [some (.inr (8, (some v0))), none, some (.inl v2), some (.inl v3), some (.inl v4), some (.inl v5), none, some (.inl v7), some (.inl (v8 + (1 : Int32)))]) ⟨rfl, rfl, rfl, rfl, rfl, rfl, rfl, trivial⟩ ?_
      refine t_X8_orders_81 hJ ha hb (fun k12 h13 hF => ?_) FU _ _ hF
      refine hJ.iinc (i := 7) (v := (v7 + (-1 : Int32))) (ls2 := [some (.inr (8, (some v0))), none, some (.inl v2), some (.inl v3), some (.inl v4), some (.inl v5), none, some (.inl (v7 + (-1 : Int32))), some (.inl k12)]) dX8_orders_98 rfl (addI (by decide)) (by decide) rfl ?_
      refine hJ.goto (tgt := 73) dX8_orders_101 (by decide) ?_
      refine hJ.forget (ls2 := [some (.inr (8, (some v0))), none, some (.inl v2), some (.inl v3), some (.inl v4), some (.inl v5), none, some (.inl (v7 + (-1 : Int32))), some (.inl k12)]) ⟨rfl, rfl, rfl, rfl, rfl, rfl, rfl, trivial⟩ ?_
      exact ih (v7 + (-1 : Int32)) k12 h13 hF

set_option maxHeartbeats 4000000 in
set_option maxRecDepth 100000 in
theorem t_X8_orders_8 {β : Type} {J : JT} (hJ : Rules cX8_orders RX8 9 0 0 0 False J) {a b : Nat} (ha : a ≤ 0) (hb : b ≤ 0) {v0 : Nat} {v2 : Int32} {κ128 : Hp → Option β} {out : β}
    (hk128 : ∀ (h : Hp), κ128 h = some out → J 128 [none, none, none, none, none, none, none, none, none] [] h a b)
    : ∀ (f : Nat) (v3 : Int32) (v4 : Int32) (v5 : Int32) (h : Hp), L_X8_orders_8 v0 v2 κ128 f v3 v4 v5 h = some out → J 8 [some (.inr (8, (some v0))), none, some (.inl v2), some (.inl v3), some (.inl v4), some (.inl v5), none, none, none] [] h a b := by
  intro f
  induction f with
  | zero => intro v3 v4 v5 h hF; simp [L_X8_orders_8] at hF
  | succ f ih =>
    intro v3 v4 v5 h hF
    rw [L_X8_orders_8] at hF
    refine hJ.iload (i := 5) dX8_orders_8 rfl ?_
    refine hJ.iload_n (i := 2) dX8_orders_10 rfl rfl ?_
    refine hJ.icmp_ge (tgt := 128) dX8_orders_11 (by decide) (fun e1 => ?_) (fun e1 => ?_)
    · replace hF := ite_T e1 hF
      refine hJ.forget (ls2 := [none, none, none, none, none, none, none, none, none]) trivial ?_
      exact hk128 h hF
    · replace hF := ite_F e1 hF
      refine hJ.iconst (v := 1) dX8_orders_14 (by decide) ?_
      refine hJ.istore (i := 6) (ls2 := [some (.inr (8, (some v0))), none, some (.inl v2), some (.inl v3), some (.inl v4), some (.inl v5), some (.inl (1 : Int32)), none, none]) dX8_orders_15 (by decide) rfl ?_
      refine hJ.iconst (v := 2) dX8_orders_17 (by decide) ?_
      refine hJ.istore (i := 7) (ls2 := [some (.inr (8, (some v0))), none, some (.inl v2), some (.inl v3), some (.inl v4), some (.inl v5), some (.inl (1 : Int32)), some (.inl (2 : Int32)), none]) dX8_orders_18 (by decide) rfl ?_
      refine hJ.forget (ls2 := [some (.inr (8, (some v0))), none, some (.inl v2), some (.inl v3), some (.inl v4), some (.inl v5), some (.inl (1 : Int32)), some (.inl (2 : Int32)), none]) ⟨rfl, rfl, rfl, rfl, rfl, rfl, rfl, trivial⟩ ?_
      refine t_X8_orders_20 hJ ha hb (fun k3 h4 hF => ?_) FU _ _ _ hF
      refine hJ.iload_n (i := 3) dX8_orders_42 rfl rfl ?_
      refine hJ.iload (i := 6) dX8_orders_43 rfl ?_
      replace hF := ck_S hF
      obtain ⟨c5, hF⟩ := hF
      refine hJ.idiv dX8_orders_45 (nz_S c5) ?_
      refine hJ.istore (i := 7) (ls2 := [some (.inr (8, (some v0))), none, some (.inl v2), some (.inl v3), some (.inl v4), some (.inl v5), some (.inl k3), some (.inl (v3 / k3)), none]) dX8_orders_46 (by decide) rfl ?_
      refine hJ.iload_n (i := 3) dX8_orders_48 rfl rfl ?_
      refine hJ.iload (i := 6) dX8_orders_49 rfl ?_
      replace hF := ck_S hF
      obtain ⟨c6, hF⟩ := hF
      refine hJ.irem dX8_orders_51 (nz_S c6) ?_
      refine hJ.istore_n (i := 3) (ls2 := [some (.inr (8, (some v0))), none, some (.inl v2), some (.inl (v3 - v3 / k3 * k3)), some (.inl v4), some (.inl v5), some (.inl k3), some (.inl (v3 / k3)), none]) dX8_orders_52 rfl (by decide) rfl ?_
      refine hJ.iconst (v := 0) dX8_orders_53 (by decide) ?_
      refine hJ.istore (i := 8) (ls2 := [some (.inr (8, (some v0))), none, some (.inl v2), some (.inl (v3 - v3 / k3 * k3)), some (.inl v4), some (.inl v5), some (.inl k3), some (.inl (v3 / k3)), some (.inl (0 : Int32))]) dX8_orders_54 (by decide) rfl ?_
      refine hJ.forget (ls2 := [some (.inr (8, (some v0))), none, some (.inl v2), some (.inl (v3 - v3 / k3 * k3)), some (.inl v4), some (.inl v5), none, some (.inl (v3 / k3)), some (.inl (0 : Int32))]) ⟨rfl, rfl, rfl, rfl, rfl, rfl, rfl, trivial⟩ ?_
      refine t_X8_orders_56 hJ ha hb (fun k8 h9 hF => ?_) FU _ _ hF
      refine hJ.forget (ls2 := [some (.inr (8, (some v0))), none, some (.inl v2), some (.inl (v3 - v3 / k3 * k3)), some (.inl v4), some (.inl v5), none, some (.inl (v3 / k3)), some (.inl k8)]) ⟨rfl, rfl, rfl, rfl, rfl, rfl, rfl, trivial⟩ ?_
      refine t_X8_orders_73 hJ ha hb (fun k14 h15 hF => ?_) FU _ _ _ hF
      refine hJ.aload_n (i := 0) dX8_orders_104 rfl rfl ?_
      refine hJ.getR dX8_orders_105 f_RX8_128 rfl ?_
      refine hJ.iload (i := 5) dX8_orders_108 rfl ?_
      refine hJ.iload (i := 8) dX8_orders_110 rfl ?_
      replace hF := nn_S hF
      obtain ⟨n16, e17, hF⟩ := hF
      rw [e17]
      replace hF := ck_S hF
      obtain ⟨c18, hF⟩ := hF
      replace hF := lt_S hF
      obtain ⟨h19, eh20, hF⟩ := hF
      refine hJ.iast dX8_orders_112 a_64 rfl c18 ?_
      rw [← eh20]
      refine hJ.iload (i := 4) dX8_orders_113 rfl ?_
      refine hJ.iconst (v := 1) dX8_orders_115 (by decide) ?_
      refine hJ.iload (i := 8) dX8_orders_116 rfl ?_
      refine hJ.ishl dX8_orders_118 ?_
      refine hJ.ior dX8_orders_119 ?_
      refine hJ.istore (i := 4) (ls2 := [some (.inr (8, (some v0))), none, some (.inl v2), some (.inl (v3 - v3 / k3 * k3)), some (.inl (v4 ||| ((1 : Int32) <<< (k14 &&& 31)))), some (.inl v5), none, none, some (.inl k14)]) dX8_orders_120 (by decide) rfl ?_
      refine hJ.iinc (i := 5) (v := (v5 + (1 : Int32))) (ls2 := [some (.inr (8, (some v0))), none, some (.inl v2), some (.inl (v3 - v3 / k3 * k3)), some (.inl (v4 ||| ((1 : Int32) <<< (k14 &&& 31)))), some (.inl (v5 + (1 : Int32))), none, none, some (.inl k14)]) dX8_orders_122 rfl (addI (by decide)) (by decide) rfl ?_
      refine hJ.goto (tgt := 8) dX8_orders_125 (by decide) ?_
      refine hJ.forget (ls2 := [some (.inr (8, (some v0))), none, some (.inl v2), some (.inl (v3 - v3 / k3 * k3)), some (.inl (v4 ||| ((1 : Int32) <<< (k14 &&& 31)))), some (.inl (v5 + (1 : Int32))), none, none, none]) ⟨rfl, rfl, rfl, rfl, rfl, trivial⟩ ?_
      exact ih (v3 - v3 / k3 * k3) (v4 ||| ((1 : Int32) <<< (k14 &&& 31))) (v5 + (1 : Int32)) h19 hF

set_option maxHeartbeats 4000000 in
set_option maxRecDepth 100000 in
theorem c_X8_orders {x0 : Nat} {x1 : Int32} {x2 : Int32} {h hh : Hp} {xr : Unit} (hF : F_X8_orders x0 x1 x2 h = some (xr, hh)) : Ctr yX8_orders cX8_orders 9 none 0 0 0 [.inr (8, (some x0)), .inl x1, .inl x2] h none hh := by
  refine Ctr_v (own := RX8) (ini := False) (ls0 := [some (.inr (8, (some x0))), some (.inl x1), some (.inl x2), none, none, none, none, none, none]) (by decide) rfl (Nat.le_of_ble_eq_true rfl) (fun e => e.elim) rfl ?_
  intro J hJ hR
  unfold F_X8_orders at hF
  refine hJ.iload_n (i := 1) dX8_orders_0 rfl rfl ?_
  refine hJ.istore_n (i := 3) (ls2 := [some (.inr (8, (some x0))), some (.inl x1), some (.inl x2), some (.inl x1), none, none, none, none, none]) dX8_orders_1 rfl (by decide) rfl ?_
  refine hJ.iconst (v := 0) dX8_orders_2 (by decide) ?_
  refine hJ.istore (i := 4) (ls2 := [some (.inr (8, (some x0))), some (.inl x1), some (.inl x2), some (.inl x1), some (.inl (0 : Int32)), none, none, none, none]) dX8_orders_3 (by decide) rfl ?_
  refine hJ.iconst (v := 0) dX8_orders_5 (by decide) ?_
  refine hJ.istore (i := 5) (ls2 := [some (.inr (8, (some x0))), some (.inl x1), some (.inl x2), some (.inl x1), some (.inl (0 : Int32)), some (.inl (0 : Int32)), none, none, none]) dX8_orders_6 (by decide) rfl ?_
  refine hJ.forget (ls2 := [some (.inr (8, (some x0))), none, some (.inl x2), some (.inl x1), some (.inl (0 : Int32)), some (.inl (0 : Int32)), none, none, none]) ⟨rfl, rfl, rfl, rfl, rfl, trivial⟩ ?_
  refine t_X8_orders_8 hJ (by decide) (by decide) (fun h21 hF => ?_) FU _ _ _ _ hF
  obtain ⟨-, rfl⟩ := ret_S hF
  exact hR dX8_orders_128 (by decide) (by decide)

set_option maxHeartbeats 4000000 in
set_option maxRecDepth 100000 in
theorem t_X8_sumOf_46 {β : Type} {J : JT} (hJ : Rules cX8_sumOf RX8 8 0 0 0 False J) {a b : Nat} (ha : a ≤ 0) (hb : b ≤ 0) {v0 : Nat} {v1 : Int32} {v2 : Int32} {v5 : Int32} {v6 : Int32} {v7 : Int32} {κ104 : Int32 → Int32 → Hp → Option β} {κ61 : Hp → Option β} {out : β}
    (hk104 : ∀ (k3 : Int32) (k4 : Int32) (h : Hp), κ104 k3 k4 h = some out → J 104 [some (.inr (8, (some v0))), some (.inl v1), some (.inl v2), some (.inl k3), some (.inl k4), some (.inl v5), some (.inl v6), some (.inl v7)] [] h a b)
    (hk61 : ∀ (h : Hp), κ61 h = some out → J 61 [none, none, none, none, none, none, none, none] [] h a b)
    : ∀ (f : Nat) (v3 : Int32) (v4 : Int32) (h : Hp), L_X8_sumOf_46 v0 v1 v2 v5 v6 v7 κ104 κ61 f v3 v4 h = some out → J 46 [some (.inr (8, (some v0))), some (.inl v1), some (.inl v2), some (.inl v3), some (.inl v4), some (.inl v5), some (.inl v6), some (.inl v7)] [] h a b := by
  intro f
  induction f with
  | zero => intro v3 v4 h hF; simp [L_X8_sumOf_46] at hF
  | succ f ih =>
    intro v3 v4 h hF
    rw [L_X8_sumOf_46] at hF
    refine hJ.iload_n (i := 3) dX8_sumOf_46 rfl rfl ?_
    refine hJ.iload (i := 7) dX8_sumOf_47 rfl ?_
    refine hJ.icmp_ge (tgt := 104) dX8_sumOf_49 (by decide) (fun e14 => ?_) (fun e14 => ?_)
    · replace hF := ite_T e14 hF
      refine hJ.forget (ls2 := [some (.inr (8, (some v0))), some (.inl v1), some (.inl v2), some (.inl v3), some (.inl v4), some (.inl v5), some (.inl v6), some (.inl v7)]) ⟨rfl, rfl, rfl, rfl, rfl, rfl, rfl, rfl, trivial⟩ ?_
      exact hk104 v3 v4 h hF
    · replace hF := ite_F e14 hF
      refine hJ.aload_n (i := 0) dX8_sumOf_52 rfl rfl ?_
      refine hJ.getR dX8_sumOf_53 f_RX8_19 rfl ?_
      refine hJ.iload_n (i := 1) dX8_sumOf_56 rfl rfl ?_
      replace hF := nn_S hF
      obtain ⟨n15, e16, hF⟩ := hF
      rw [e16]
      replace hF := ck_S hF
      obtain ⟨c17, hF⟩ := hF
      refine hJ.iald dX8_sumOf_57 a_28 rfl c17 ?_
      refine hJ.if_ne (tgt := 63) dX8_sumOf_58 (by decide) (fun e18 => ?_) (fun e18 => ?_)
      · replace hF := ite_F e18 hF
        refine hJ.iload_n (i := 3) dX8_sumOf_63 rfl rfl ?_
        refine hJ.aload_n (i := 0) dX8_sumOf_64 rfl rfl ?_
        refine hJ.getR dX8_sumOf_65 f_RX8_19 rfl ?_
        rw [e16]
        refine hJ.iload_n (i := 1) dX8_sumOf_68 rfl rfl ?_
        replace hF := ck_S hF
        obtain ⟨c19, hF⟩ := hF
        refine hJ.iald dX8_sumOf_69 a_28 rfl c19 ?_
        refine hJ.iadd dX8_sumOf_70 ?_
        refine hJ.aload_n (i := 0) dX8_sumOf_71 rfl rfl ?_
        refine hJ.getR dX8_sumOf_72 f_RX8_22 rfl ?_
        refine hJ.iload_n (i := 1) dX8_sumOf_75 rfl rfl ?_
        replace hF := nn_S hF
        obtain ⟨n20, e21, hF⟩ := hF
        rw [e21]
        replace hF := ck_S hF
        obtain ⟨c22, hF⟩ := hF
        refine hJ.iald dX8_sumOf_76 a_29 rfl c22 ?_
        refine hJ.icmp_le (tgt := 89) dX8_sumOf_77 (by decide) (fun e23 => ?_) (fun e23 => ?_)
        · replace hF := ite_T e23 hF
          refine hJ.iload_n (i := 3) dX8_sumOf_89 rfl rfl ?_
          refine hJ.aload_n (i := 0) dX8_sumOf_90 rfl rfl ?_
          refine hJ.getR dX8_sumOf_91 f_RX8_19 rfl ?_
          rw [e16]
          refine hJ.iload_n (i := 1) dX8_sumOf_94 rfl rfl ?_
          replace hF := ck_S hF
          obtain ⟨c24, hF⟩ := hF
          refine hJ.iald dX8_sumOf_95 a_28 rfl c24 ?_
          refine hJ.iadd dX8_sumOf_96 ?_
          refine hJ.istore_n (i := 3) (ls2 := [some (.inr (8, (some v0))), some (.inl v1), some (.inl v2), some (.inl (v3 + (pI h 28 n15 (v1).toNatClampNeg))), some (.inl v4), some (.inl v5), some (.inl v6), some (.inl v7)]) dX8_sumOf_97 rfl (by decide) rfl ?_
          refine hJ.iinc (i := 4) (v := (v4 + (1 : Int32))) (ls2 := [some (.inr (8, (some v0))), some (.inl v1), some (.inl v2), some (.inl (v3 + (pI h 28 n15 (v1).toNatClampNeg))), some (.inl (v4 + (1 : Int32))), some (.inl v5), some (.inl v6), some (.inl v7)]) dX8_sumOf_98 rfl (addI (by decide)) (by decide) rfl ?_
          refine hJ.goto (tgt := 46) dX8_sumOf_101 (by decide) ?_
          refine hJ.forget (ls2 := [some (.inr (8, (some v0))), some (.inl v1), some (.inl v2), some (.inl (v3 + (pI h 28 n15 (v1).toNatClampNeg))), some (.inl (v4 + (1 : Int32))), some (.inl v5), some (.inl v6), some (.inl v7)]) ⟨rfl, rfl, rfl, rfl, rfl, rfl, rfl, rfl, trivial⟩ ?_
          exact ih (v3 + (pI h 28 n15 (v1).toNatClampNeg)) (v4 + (1 : Int32)) h hF
        · replace hF := ite_F e23 hF
          refine hJ.aload_n (i := 0) dX8_sumOf_80 rfl rfl ?_
          refine hJ.getR dX8_sumOf_81 f_RX8_22 rfl ?_
          rw [e21]
          refine hJ.iload_n (i := 1) dX8_sumOf_84 rfl rfl ?_
          replace hF := ck_S hF
          obtain ⟨c25, hF⟩ := hF
          refine hJ.iald dX8_sumOf_85 a_29 rfl c25 ?_
          refine hJ.goto (tgt := 97) dX8_sumOf_86 (by decide) ?_
          refine hJ.istore_n (i := 3) (ls2 := [some (.inr (8, (some v0))), some (.inl v1), some (.inl v2), some (.inl (pI h 29 n20 (v1).toNatClampNeg)), some (.inl v4), some (.inl v5), some (.inl v6), some (.inl v7)]) dX8_sumOf_97 rfl (by decide) rfl ?_
          refine hJ.iinc (i := 4) (v := (v4 + (1 : Int32))) (ls2 := [some (.inr (8, (some v0))), some (.inl v1), some (.inl v2), some (.inl (pI h 29 n20 (v1).toNatClampNeg)), some (.inl (v4 + (1 : Int32))), some (.inl v5), some (.inl v6), some (.inl v7)]) dX8_sumOf_98 rfl (addI (by decide)) (by decide) rfl ?_
          refine hJ.goto (tgt := 46) dX8_sumOf_101 (by decide) ?_
          refine hJ.forget (ls2 := [some (.inr (8, (some v0))), some (.inl v1), some (.inl v2), some (.inl (pI h 29 n20 (v1).toNatClampNeg)), some (.inl (v4 + (1 : Int32))), some (.inl v5), some (.inl v6), some (.inl v7)]) ⟨rfl, rfl, rfl, rfl, rfl, rfl, rfl, rfl, trivial⟩ ?_
          exact ih (pI h 29 n20 (v1).toNatClampNeg) (v4 + (1 : Int32)) h hF
      · replace hF := ite_T e18 hF
        refine hJ.forget (ls2 := [none, none, none, none, none, none, none, none]) trivial ?_
        exact hk61 h hF

set_option maxHeartbeats 4000000 in
set_option maxRecDepth 100000 in
theorem t_X8_sumOf_19 {β : Type} {J : JT} (hJ : Rules cX8_sumOf RX8 8 0 0 0 False J) {a b : Nat} (ha : a ≤ 0) (hb : b ≤ 0) {v0 : Nat} {v1 : Int32} {v2 : Int32} {κ169 : Int32 → Hp → Option β} {κ61 : Hp → Option β} {out : β}
    (hk169 : ∀ (k5 : Int32) (h : Hp), κ169 k5 h = some out → J 169 [none, none, none, none, none, some (.inl k5), none, none] [] h a b)
    (hk61 : ∀ (h : Hp), κ61 h = some out → J 61 [none, none, none, none, none, none, none, none] [] h a b)
    : ∀ (f : Nat) (v3 : Int32) (v4 : Int32) (v5 : Int32) (v6 : Int32) (h : Hp), L_X8_sumOf_19 v0 v1 v2 κ169 κ61 f v3 v4 v5 v6 h = some out → J 19 [some (.inr (8, (some v0))), some (.inl v1), some (.inl v2), some (.inl v3), some (.inl v4), some (.inl v5), some (.inl v6), none] [] h a b := by
  intro f
  induction f with
  | zero => intro v3 v4 v5 v6 h hF; simp [L_X8_sumOf_19] at hF
  | succ f ih =>
    intro v3 v4 v5 v6 h hF
    rw [L_X8_sumOf_19] at hF
    refine hJ.iload (i := 6) dX8_sumOf_19 rfl ?_
    refine hJ.iload_n (i := 2) dX8_sumOf_21 rfl rfl ?_
    refine hJ.icmp_ge (tgt := 169) dX8_sumOf_22 (by decide) (fun e4 => ?_) (fun e4 => ?_)
    · replace hF := ite_T e4 hF
      refine hJ.forget (ls2 := [none, none, none, none, none, some (.inl v5), none, none]) ⟨rfl, trivial⟩ ?_
      exact hk169 v5 h hF
    · replace hF := ite_F e4 hF
      refine hJ.iconst (v := 5) dX8_sumOf_25 (by decide) ?_
      refine hJ.aload_n (i := 0) dX8_sumOf_26 rfl rfl ?_
      refine hJ.getR dX8_sumOf_27 f_RX8_77 rfl ?_
      refine hJ.aload_n (i := 0) dX8_sumOf_30 rfl rfl ?_
      refine hJ.getR dX8_sumOf_31 f_RX8_125 rfl ?_
      refine hJ.aload_n (i := 0) dX8_sumOf_34 rfl rfl ?_
      refine hJ.getR dX8_sumOf_35 f_RX8_128 rfl ?_
      refine hJ.iload (i := 6) dX8_sumOf_38 rfl ?_
      replace hF := nn_S hF
      obtain ⟨n5, e6, hF⟩ := hF
      rw [e6]
      replace hF := ck_S hF
      obtain ⟨c7, hF⟩ := hF
      refine hJ.iald dX8_sumOf_40 a_64 rfl c7 ?_
      replace hF := nn_S hF
      obtain ⟨n8, e9, hF⟩ := hF
      rw [e9]
      replace hF := ck_S hF
      obtain ⟨c10, hF⟩ := hF
      refine hJ.iald dX8_sumOf_41 a_63 rfl c10 ?_
      replace hF := nn_S hF
      obtain ⟨n11, e12, hF⟩ := hF
      rw [e12]
      replace hF := ck_S hF
      obtain ⟨c13, hF⟩ := hF
      refine hJ.iald dX8_sumOf_42 a_47 rfl c13 ?_
      refine hJ.imul dX8_sumOf_43 ?_
      refine hJ.istore (i := 7) (ls2 := [some (.inr (8, (some v0))), some (.inl v1), some (.inl v2), some (.inl v3), some (.inl v4), some (.inl v5), some (.inl v6), some (.inl ((5 : Int32) * (pI h 47 n11 ((pI h 63 n8 ((pI h 64 n5 (v6).toNatClampNeg)).toNatClampNeg)).toNatClampNeg)))]) dX8_sumOf_44 (by decide) rfl ?_
      refine hJ.forget (ls2 := [some (.inr (8, (some v0))), some (.inl v1), some (.inl v2), some (.inl v3), some (.inl v4), some (.inl v5), some (.inl v6), some (.inl ((5 : Int32) * (pI h 47 n11 ((pI h 63 n8 ((pI h 64 n5 (v6).toNatClampNeg)).toNatClampNeg)).toNatClampNeg)))]) ⟨rfl, rfl, rfl, rfl, rfl, rfl, rfl, rfl, trivial⟩ ?_
      refine t_X8_sumOf_46 hJ ha hb (fun k26 k27 h28 hF => ?_) (fun h43 hF => ?_) FU _ _ _ hF
      · refine hJ.aload_n (i := 0) dX8_sumOf_104 rfl rfl ?_
        refine hJ.getR dX8_sumOf_105 f_RX8_131 rfl ?_
        refine hJ.iload (i := 6) dX8_sumOf_108 rfl ?_
        refine hJ.iload (i := 4) dX8_sumOf_110 rfl ?_
        replace hF := nn_S hF
        obtain ⟨n29, e30, hF⟩ := hF
        rw [e30]
        replace hF := ck_S hF
        obtain ⟨c31, hF⟩ := hF
        replace hF := lt_S hF
        obtain ⟨h32, eh33, hF⟩ := hF
        refine hJ.iast dX8_sumOf_112 a_65 rfl c31 ?_
        rw [← eh33]
        refine hJ.iload (i := 5) dX8_sumOf_113 rfl ?_
        refine hJ.iload (i := 4) dX8_sumOf_115 rfl ?_
        refine hJ.iadd dX8_sumOf_117 ?_
        refine hJ.istore (i := 5) (ls2 := [some (.inr (8, (some v0))), some (.inl v1), some (.inl v2), some (.inl k26), some (.inl k27), some (.inl (v5 + k27)), some (.inl v6), some (.inl ((5 : Int32) * (pI h 47 n11 ((pI h 63 n8 ((pI h 64 n5 (v6).toNatClampNeg)).toNatClampNeg)).toNatClampNeg)))]) dX8_sumOf_118 (by decide) rfl ?_
        refine hJ.iload_n (i := 3) dX8_sumOf_120 rfl rfl ?_
        refine hJ.iload (i := 7) dX8_sumOf_121 rfl ?_
        refine hJ.isub dX8_sumOf_123 ?_
        refine hJ.istore_n (i := 3) (ls2 := [some (.inr (8, (some v0))), some (.inl v1), some (.inl v2), some (.inl (k26 - ((5 : Int32) * (pI h 47 n11 ((pI h 63 n8 ((pI h 64 n5 (v6).toNatClampNeg)).toNatClampNeg)).toNatClampNeg)))), some (.inl k27), some (.inl (v5 + k27)), some (.inl v6), some (.inl ((5 : Int32) * (pI h 47 n11 ((pI h 63 n8 ((pI h 64 n5 (v6).toNatClampNeg)).toNatClampNeg)).toNatClampNeg)))]) dX8_sumOf_124 rfl (by decide) rfl ?_
        refine hJ.iload_n (i := 3) dX8_sumOf_125 rfl rfl ?_
        refine hJ.aload_n (i := 0) dX8_sumOf_126 rfl rfl ?_
        refine hJ.getR dX8_sumOf_127 f_RX8_19 rfl ?_
        refine hJ.iload_n (i := 1) dX8_sumOf_130 rfl rfl ?_
        replace hF := nn_S hF
        obtain ⟨n34, e35, hF⟩ := hF
        rw [e35]
        replace hF := ck_S hF
        obtain ⟨c36, hF⟩ := hF
        refine hJ.iald dX8_sumOf_131 a_28 rfl c36 ?_
        refine hJ.iadd dX8_sumOf_132 ?_
        refine hJ.aload_n (i := 0) dX8_sumOf_133 rfl rfl ?_
        refine hJ.getR dX8_sumOf_134 f_RX8_22 rfl ?_
        refine hJ.iload_n (i := 1) dX8_sumOf_137 rfl rfl ?_
        replace hF := nn_S hF
        obtain ⟨n37, e38, hF⟩ := hF
        rw [e38]
        replace hF := ck_S hF
        obtain ⟨c39, hF⟩ := hF
        refine hJ.iald dX8_sumOf_138 a_29 rfl c39 ?_
        refine hJ.icmp_le (tgt := 151) dX8_sumOf_139 (by decide) (fun e40 => ?_) (fun e40 => ?_)
        · replace hF := ite_T e40 hF
          refine hJ.iload_n (i := 3) dX8_sumOf_151 rfl rfl ?_
          refine hJ.aload_n (i := 0) dX8_sumOf_152 rfl rfl ?_
          refine hJ.getR dX8_sumOf_153 f_RX8_19 rfl ?_
          rw [e35]
          refine hJ.iload_n (i := 1) dX8_sumOf_156 rfl rfl ?_
          replace hF := ck_S hF
          obtain ⟨c41, hF⟩ := hF
          refine hJ.iald dX8_sumOf_157 a_28 rfl c41 ?_
          refine hJ.iadd dX8_sumOf_158 ?_
          refine hJ.istore_n (i := 3) (ls2 := [some (.inr (8, (some v0))), some (.inl v1), some (.inl v2), some (.inl ((k26 - ((5 : Int32) * (pI h 47 n11 ((pI h 63 n8 ((pI h 64 n5 (v6).toNatClampNeg)).toNatClampNeg)).toNatClampNeg))) + (pI h32 28 n34 (v1).toNatClampNeg))), some (.inl k27), some (.inl (v5 + k27)), some (.inl v6), some (.inl ((5 : Int32) * (pI h 47 n11 ((pI h 63 n8 ((pI h 64 n5 (v6).toNatClampNeg)).toNatClampNeg)).toNatClampNeg)))]) dX8_sumOf_159 rfl (by decide) rfl ?_
          refine hJ.iinc (i := 4) (v := (k27 + (1 : Int32))) (ls2 := [some (.inr (8, (some v0))), some (.inl v1), some (.inl v2), some (.inl ((k26 - ((5 : Int32) * (pI h 47 n11 ((pI h 63 n8 ((pI h 64 n5 (v6).toNatClampNeg)).toNatClampNeg)).toNatClampNeg))) + (pI h32 28 n34 (v1).toNatClampNeg))), some (.inl (k27 + (1 : Int32))), some (.inl (v5 + k27)), some (.inl v6), some (.inl ((5 : Int32) * (pI h 47 n11 ((pI h 63 n8 ((pI h 64 n5 (v6).toNatClampNeg)).toNatClampNeg)).toNatClampNeg)))]) dX8_sumOf_160 rfl (addI (by decide)) (by decide) rfl ?_
          refine hJ.iinc (i := 6) (v := (v6 + (1 : Int32))) (ls2 := [some (.inr (8, (some v0))), some (.inl v1), some (.inl v2), some (.inl ((k26 - ((5 : Int32) * (pI h 47 n11 ((pI h 63 n8 ((pI h 64 n5 (v6).toNatClampNeg)).toNatClampNeg)).toNatClampNeg))) + (pI h32 28 n34 (v1).toNatClampNeg))), some (.inl (k27 + (1 : Int32))), some (.inl (v5 + k27)), some (.inl (v6 + (1 : Int32))), some (.inl ((5 : Int32) * (pI h 47 n11 ((pI h 63 n8 ((pI h 64 n5 (v6).toNatClampNeg)).toNatClampNeg)).toNatClampNeg)))]) dX8_sumOf_163 rfl (addI (by decide)) (by decide) rfl ?_
          refine hJ.goto (tgt := 19) dX8_sumOf_166 (by decide) ?_
          refine hJ.forget (ls2 := [some (.inr (8, (some v0))), some (.inl v1), some (.inl v2), some (.inl ((k26 - ((5 : Int32) * (pI h 47 n11 ((pI h 63 n8 ((pI h 64 n5 (v6).toNatClampNeg)).toNatClampNeg)).toNatClampNeg))) + (pI h32 28 n34 (v1).toNatClampNeg))), some (.inl (k27 + (1 : Int32))), some (.inl (v5 + k27)), some (.inl (v6 + (1 : Int32))), none]) ⟨rfl, rfl, rfl, rfl, rfl, rfl, rfl, trivial⟩ ?_
          exact ih ((k26 - ((5 : Int32) * (pI h 47 n11 ((pI h 63 n8 ((pI h 64 n5 (v6).toNatClampNeg)).toNatClampNeg)).toNatClampNeg))) + (pI h32 28 n34 (v1).toNatClampNeg)) (k27 + (1 : Int32)) (v5 + k27) (v6 + (1 : Int32)) h32 hF
        · replace hF := ite_F e40 hF
          refine hJ.aload_n (i := 0) dX8_sumOf_142 rfl rfl ?_
          refine hJ.getR dX8_sumOf_143 f_RX8_22 rfl ?_
          rw [e38]
          refine hJ.iload_n (i := 1) dX8_sumOf_146 rfl rfl ?_
          replace hF := ck_S hF
          obtain ⟨c42, hF⟩ := hF
          refine hJ.iald dX8_sumOf_147 a_29 rfl c42 ?_
          refine hJ.goto (tgt := 159) dX8_sumOf_148 (by decide) ?_
          refine hJ.istore_n (i := 3) (ls2 := [some (.inr (8, (some v0))), some (.inl v1), some (.inl v2), some (.inl (pI h32 29 n37 (v1).toNatClampNeg)), some (.inl k27), some (.inl (v5 + k27)), some (.inl v6), some (.inl ((5 : Int32) * (pI h 47 n11 ((pI h 63 n8 ((pI h 64 n5 (v6).toNatClampNeg)).toNatClampNeg)).toNatClampNeg)))]) dX8_sumOf_159 rfl (by decide) rfl ?_
          refine hJ.iinc (i := 4) (v := (k27 + (1 : Int32))) (ls2 := [some (.inr (8, (some v0))), some (.inl v1), some (.inl v2), some (.inl (pI h32 29 n37 (v1).toNatClampNeg)), some (.inl (k27 + (1 : Int32))), some (.inl (v5 + k27)), some (.inl v6), some (.inl ((5 : Int32) * (pI h 47 n11 ((pI h 63 n8 ((pI h 64 n5 (v6).toNatClampNeg)).toNatClampNeg)).toNatClampNeg)))]) dX8_sumOf_160 rfl (addI (by decide)) (by decide) rfl ?_
          refine hJ.iinc (i := 6) (v := (v6 + (1 : Int32))) (ls2 := [some (.inr (8, (some v0))), some (.inl v1), some (.inl v2), some (.inl (pI h32 29 n37 (v1).toNatClampNeg)), some (.inl (k27 + (1 : Int32))), some (.inl (v5 + k27)), some (.inl (v6 + (1 : Int32))), some (.inl ((5 : Int32) * (pI h 47 n11 ((pI h 63 n8 ((pI h 64 n5 (v6).toNatClampNeg)).toNatClampNeg)).toNatClampNeg)))]) dX8_sumOf_163 rfl (addI (by decide)) (by decide) rfl ?_
          refine hJ.goto (tgt := 19) dX8_sumOf_166 (by decide) ?_
          refine hJ.forget (ls2 := [some (.inr (8, (some v0))), some (.inl v1), some (.inl v2), some (.inl (pI h32 29 n37 (v1).toNatClampNeg)), some (.inl (k27 + (1 : Int32))), some (.inl (v5 + k27)), some (.inl (v6 + (1 : Int32))), none]) ⟨rfl, rfl, rfl, rfl, rfl, rfl, rfl, trivial⟩ ?_
          exact ih (pI h32 29 n37 (v1).toNatClampNeg) (k27 + (1 : Int32)) (v5 + k27) (v6 + (1 : Int32)) h32 hF
      · refine hJ.forget (ls2 := [none, none, none, none, none, none, none, none]) trivial ?_
        exact hk61 h43 hF

set_option maxHeartbeats 4000000 in
set_option maxRecDepth 100000 in
theorem c_X8_sumOf {x0 : Nat} {x1 : Int32} {x2 : Int32} {h hh : Hp} {xr : Int32} (hF : F_X8_sumOf x0 x1 x2 h = some (xr, hh)) : Ctr yX8_sumOf cX8_sumOf 8 (some .int) 0 0 0 [.inr (8, (some x0)), .inl x1, .inl x2] h (some (.inl xr)) hh := by
  refine Ctr_i (own := RX8) (ini := False) (ls0 := [some (.inr (8, (some x0))), some (.inl x1), some (.inl x2), none, none, none, none, none]) (by decide) rfl (Nat.le_of_ble_eq_true rfl) (fun e => e.elim) rfl ?_
  intro J hJ hR
  unfold F_X8_sumOf at hF
  refine hJ.aload_n (i := 0) dX8_sumOf_0 rfl rfl ?_
  refine hJ.getR dX8_sumOf_1 f_RX8_25 rfl ?_
  refine hJ.iload_n (i := 1) dX8_sumOf_4 rfl rfl ?_
  replace hF := nn_S hF
  obtain ⟨n1, e2, hF⟩ := hF
  rw [e2]
  replace hF := ck_S hF
  obtain ⟨c3, hF⟩ := hF
  refine hJ.iald dX8_sumOf_5 a_30 rfl c3 ?_
  refine hJ.istore_n (i := 3) (ls2 := [some (.inr (8, (some x0))), some (.inl x1), some (.inl x2), some (.inl (pI h 30 n1 (x1).toNatClampNeg)), none, none, none, none]) dX8_sumOf_6 rfl (by decide) rfl ?_
  refine hJ.aload_n (i := 0) dX8_sumOf_7 rfl rfl ?_
  refine hJ.getI dX8_sumOf_8 f_RX8_194 rfl ?_
  refine hJ.istore (i := 4) (ls2 := [some (.inr (8, (some x0))), some (.inl x1), some (.inl x2), some (.inl (pI h 30 n1 (x1).toNatClampNeg)), some (.inl (pI h 8 x0 0)), none, none, none]) dX8_sumOf_11 (by decide) rfl ?_
  refine hJ.iconst (v := 0) dX8_sumOf_13 (by decide) ?_
  refine hJ.istore (i := 5) (ls2 := [some (.inr (8, (some x0))), some (.inl x1), some (.inl x2), some (.inl (pI h 30 n1 (x1).toNatClampNeg)), some (.inl (pI h 8 x0 0)), some (.inl (0 : Int32)), none, none]) dX8_sumOf_14 (by decide) rfl ?_
  refine hJ.iconst (v := 0) dX8_sumOf_16 (by decide) ?_
  refine hJ.istore (i := 6) (ls2 := [some (.inr (8, (some x0))), some (.inl x1), some (.inl x2), some (.inl (pI h 30 n1 (x1).toNatClampNeg)), some (.inl (pI h 8 x0 0)), some (.inl (0 : Int32)), some (.inl (0 : Int32)), none]) dX8_sumOf_17 (by decide) rfl ?_
  refine hJ.forget (ls2 := [some (.inr (8, (some x0))), some (.inl x1), some (.inl x2), some (.inl (pI h 30 n1 (x1).toNatClampNeg)), some (.inl (pI h 8 x0 0)), some (.inl (0 : Int32)), some (.inl (0 : Int32)), none]) ⟨rfl, rfl, rfl, rfl, rfl, rfl, rfl, trivial⟩ ?_
  refine t_X8_sumOf_19 hJ (by decide) (by decide) (fun k44 h45 hF => ?_) (fun h46 hF => ?_) FU _ _ _ _ _ hF
  · refine hJ.iload (i := 5) dX8_sumOf_169 rfl ?_
    obtain ⟨rfl, rfl⟩ := ret_S hF
    exact hR dX8_sumOf_171 (by decide) (by decide)
  · refine hJ.iconst (v := -1) dX8_sumOf_61 (by decide) ?_
    obtain ⟨rfl, rfl⟩ := ret_S hF
    exact hR dX8_sumOf_62 (by decide) (by decide)

