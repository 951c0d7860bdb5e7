set_option maxHeartbeats 4000000 in
set_option maxRecDepth 100000 in
theorem t_X3_lieAt_2 {β : Type} {J : JT} (hJ : Rules cX3_lieAt RX3 3 0 0 0 False J) {a b : Nat} (ha : a ≤ 0) (hb : b ≤ 0) {v0 : Nat} {v1 : Option Nat} {κ48 : Hp → Option β} {out : β}
    (hk48 : ∀ (h : Hp), κ48 h = some out → J 48 [none, none, none] [] h a b)
    : ∀ (f : Nat) (v2 : Int32) (h : Hp), L_X3_lieAt_2 v0 v1 κ48 f v2 h = some out → J 2 [some (.inr (3, (some v0))), some (.inr (4, v1)), some (.inl v2)] [] h a b := by
  intro f
  induction f with
  | zero => intro v2 h hF; simp [L_X3_lieAt_2] at hF
  | succ f ih =>
    intro v2 h hF
    rw [L_X3_lieAt_2] at hF
    refine hJ.iload_n (i := 2) dX3_lieAt_2 rfl rfl ?_
    refine hJ.aload_n (i := 0) dX3_lieAt_3 rfl rfl ?_
    refine hJ.getI dX3_lieAt_4 f_RX3_15 rfl ?_
    refine hJ.icmp_ge (tgt := 48) dX3_lieAt_7 (by decide) (fun e1 => ?_) (fun e1 => ?_)
    · replace hF := ite_T e1 hF
      refine hJ.forget (ls2 := [none, none, none]) trivial ?_
      exact hk48 h hF
    · replace hF := ite_F e1 hF
      refine hJ.aload_n (i := 0) dX3_lieAt_10 rfl rfl ?_
      refine hJ.getR dX3_lieAt_11 f_RX3_11 rfl ?_
      refine hJ.iload_n (i := 2) dX3_lieAt_14 rfl rfl ?_
      replace hF := nn_S hF
      obtain ⟨n2, e3, hF⟩ := hF
      rw [e3]
      replace hF := ck_S hF
      obtain ⟨c4, hF⟩ := hF
      refine hJ.aald dX3_lieAt_15 a_15 rfl c4 ?_
      replace hF := nn_S hF
      obtain ⟨n5, e6, hF⟩ := hF
      rw [e6]
      refine hJ.getR dX3_lieAt_16 f_RX3_40 rfl ?_
      refine hJ.ifnull (tgt := 42) dX3_lieAt_19 (by decide) (fun e7 => ?_) (fun n8 e7 => ?_)
      · replace hF := onn_N e7 hF
        refine hJ.iinc (i := 2) (v := (v2 + (1 : Int32))) (ls2 := [some (.inr (3, (some v0))), some (.inr (4, v1)), some (.inl (v2 + (1 : Int32)))]) dX3_lieAt_42 rfl (addI (by decide)) (by decide) rfl ?_
        refine hJ.goto (tgt := 2) dX3_lieAt_45 (by decide) ?_
        refine hJ.forget (ls2 := [some (.inr (3, (some v0))), some (.inr (4, v1)), some (.inl (v2 + (1 : Int32)))]) ⟨rfl, rfl, rfl, trivial⟩ ?_
        exact ih (v2 + (1 : Int32)) h hF
      · replace hF := onn_J e7 hF
        refine hJ.aload_n (i := 0) dX3_lieAt_22 rfl rfl ?_
        refine hJ.getR dX3_lieAt_23 f_RX3_11 rfl ?_
        rw [e3]
        refine hJ.iload_n (i := 2) dX3_lieAt_26 rfl rfl ?_
        replace hF := ck_S hF
        obtain ⟨c9, hF⟩ := hF
        refine hJ.aald dX3_lieAt_27 a_15 rfl c9 ?_
        refine hJ.null (kk := 2) dX3_lieAt_28 ?_
        replace hF := nn_S hF
        obtain ⟨n10, e11, hF⟩ := hF
        rw [e11]
        replace hF := lt_S hF
        obtain ⟨h12, eh13, hF⟩ := hF
        refine hJ.putR dX3_lieAt_29 f_RX3_40 rfl (Or.inr rfl) rfl ?_
        rw [← eh13]
        refine hJ.aload_n (i := 0) dX3_lieAt_32 rfl rfl ?_
        refine hJ.getR dX3_lieAt_33 f_RX3_11 rfl ?_
        refine hJ.iload_n (i := 2) dX3_lieAt_36 rfl rfl ?_
        replace hF := nn_S hF
        obtain ⟨n14, e15, hF⟩ := hF
        rw [e15]
        replace hF := ck_S hF
        obtain ⟨c16, hF⟩ := hF
        refine hJ.aald dX3_lieAt_37 a_15 rfl c16 ?_
        refine hJ.aload_n (i := 1) dX3_lieAt_38 rfl rfl ?_
        replace hF := nn_S hF
        obtain ⟨n17, e18, hF⟩ := hF
        rw [e18]
        replace hF := lt_S hF
        obtain ⟨h19, eh20, hF⟩ := hF
        refine hJ.putR dX3_lieAt_39 f_RX3_33 rfl (Or.inr rfl) rfl ?_
        rw [← eh20]
        refine hJ.iinc (i := 2) (v := (v2 + (1 : Int32))) (ls2 := [some (.inr (3, (some v0))), some (.inr (4, v1)), some (.inl (v2 + (1 : Int32)))]) dX3_lieAt_42 rfl (addI (by decide)) (by decide) rfl ?_
        refine hJ.goto (tgt := 2) dX3_lieAt_45 (by decide) ?_
        refine hJ.forget (ls2 := [some (.inr (3, (some v0))), some (.inr (4, v1)), some (.inl (v2 + (1 : Int32)))]) ⟨rfl, rfl, rfl, trivial⟩ ?_
        exact ih (v2 + (1 : Int32)) h19 hF

set_option maxHeartbeats 4000000 in
set_option maxRecDepth 100000 in
theorem c_X3_lieAt {x0 : Nat} {x1 : Option Nat} {h hh : Hp} {xr : Unit} (hF : F_X3_lieAt x0 x1 h = some (xr, hh)) : Ctr yX3_lieAt cX3_lieAt 3 none 0 0 0 [.inr (3, (some x0)), .inr (4, x1)] h none hh := by
  refine Ctr_v (own := RX3) (ini := False) (ls0 := [some (.inr (3, (some x0))), some (.inr (4, x1)), none]) (by decide) rfl (Nat.le_of_ble_eq_true rfl) (fun e => e.elim) rfl ?_
  intro J hJ hR
  unfold F_X3_lieAt at hF
  refine hJ.iconst (v := 0) dX3_lieAt_0 (by decide) ?_
  refine hJ.istore_n (i := 2) (ls2 := [some (.inr (3, (some x0))), some (.inr (4, x1)), some (.inl (0 : Int32))]) dX3_lieAt_1 rfl (by decide) rfl ?_
  refine hJ.forget (ls2 := [some (.inr (3, (some x0))), some (.inr (4, x1)), some (.inl (0 : Int32))]) ⟨rfl, rfl, rfl, trivial⟩ ?_
  refine t_X3_lieAt_2 hJ (by decide) (by decide) (fun h21 hF => ?_) FU _ _ hF
  obtain ⟨-, rfl⟩ := ret_S hF
  exact hR dX3_lieAt_48 (by decide) (by decide)

set_option maxHeartbeats 4000000 in
set_option maxRecDepth 100000 in
theorem t_X2_scatter_2 {β : Type} {J : JT} (hJ : Rules cX2_scatter RX2 2 1 0 0 False J) {a b : Nat} (ha : a ≤ 0) (hb : b ≤ 0) {v0 : Nat} {κ29 : Hp → Option β} {out : β}
    (hk29 : ∀ (h : Hp), κ29 h = some out → J 29 [some (.inr (2, (some v0))), none] [] h a b)
    : ∀ (f : Nat) (v1 : Int32) (h : Hp), L_X2_scatter_2 v0 κ29 f v1 h = some out → J 2 [some (.inr (2, (some v0))), some (.inl v1)] [] h a b := by
  intro f
  induction f with
  | zero => intro v1 h hF; simp [L_X2_scatter_2] at hF
  | succ f ih =>
    intro v1 h hF
    rw [L_X2_scatter_2] at hF
    refine hJ.iload_n (i := 1) dX2_scatter_2 rfl rfl ?_
    refine hJ.aload_n (i := 0) dX2_scatter_3 rfl rfl ?_
    refine hJ.getI dX2_scatter_4 f_RX2_17 rfl ?_
    refine hJ.icmp_ge (tgt := 29) dX2_scatter_7 (by decide) (fun e1 => ?_) (fun e1 => ?_)
    · replace hF := ite_T e1 hF
      refine hJ.forget (ls2 := [some (.inr (2, (some v0))), none]) ⟨rfl, trivial⟩ ?_
      exact hk29 h hF
    · replace hF := ite_F e1 hF
      refine hJ.aload_n (i := 0) dX2_scatter_10 rfl rfl ?_
      refine hJ.getR dX2_scatter_11 f_RX2_13 rfl ?_
      refine hJ.iload_n (i := 1) dX2_scatter_14 rfl rfl ?_
      replace hF := nn_S hF
      obtain ⟨n2, e3, hF⟩ := hF
      rw [e3]
      replace hF := ck_S hF
      obtain ⟨c4, hF⟩ := hF
      refine hJ.aald dX2_scatter_15 a_14 rfl c4 ?_
      refine hJ.aload_n (i := 0) dX2_scatter_16 rfl rfl ?_
      refine hJ.getR dX2_scatter_17 f_RX2_31 rfl ?_
      replace hF := nn_S hF
      obtain ⟨n5, e6, hF⟩ := hF
      rw [e6]
      replace hF := cl_S hF
      obtain ⟨r7, h8, ec9, hF⟩ := hF
      refine hJ.callV0 (as := [.inr (4, (pR h 2 v0 3))]) (st := []) dX2_scatter_20 w_RX2_88 ⟨by decide, rfl⟩ rfl (c_X3_lieAt ec9) (by decide) ha hb rfl (Nat.le_of_ble_eq_true rfl) rfl ?_
      refine hJ.iinc (i := 1) (v := (v1 + (1 : Int32))) (ls2 := [some (.inr (2, (some v0))), some (.inl (v1 + (1 : Int32)))]) dX2_scatter_23 rfl (addI (by decide)) (by decide) rfl ?_
      refine hJ.goto (tgt := 2) dX2_scatter_26 (by decide) ?_
      refine hJ.forget (ls2 := [some (.inr (2, (some v0))), some (.inl (v1 + (1 : Int32)))]) ⟨rfl, rfl, trivial⟩ ?_
      exact ih (v1 + (1 : Int32)) h8 hF

set_option maxHeartbeats 4000000 in
set_option maxRecDepth 100000 in
theorem c_X2_scatter {x0 : Nat} {h hh : Hp} {xr : Unit} (hF : F_X2_scatter x0 h = some (xr, hh)) : Ctr yX2_scatter cX2_scatter 2 none 1 0 0 [.inr (2, (some x0))] h none hh := by
  refine Ctr_v (own := RX2) (ini := False) (ls0 := [some (.inr (2, (some x0))), none]) (by decide) rfl (Nat.le_of_ble_eq_true rfl) (fun e => e.elim) rfl ?_
  intro J hJ hR
  unfold F_X2_scatter at hF
  refine hJ.iconst (v := 0) dX2_scatter_0 (by decide) ?_
  refine hJ.istore_n (i := 1) (ls2 := [some (.inr (2, (some x0))), some (.inl (0 : Int32))]) dX2_scatter_1 rfl (by decide) rfl ?_
  refine hJ.forget (ls2 := [some (.inr (2, (some x0))), some (.inl (0 : Int32))]) ⟨rfl, rfl, trivial⟩ ?_
  refine t_X2_scatter_2 hJ (by decide) (by decide) (fun h10 hF => ?_) FU _ _ hF
  refine hJ.aload_n (i := 0) dX2_scatter_29 rfl rfl ?_
  replace hF := cl_S hF
  obtain ⟨r11, h12, ec13, hF⟩ := hF
  refine hJ.callV0 (as := []) (st := []) dX2_scatter_30 w_RX2_92 ⟨by decide, rfl⟩ rfl (c_X2_end ec13) (by decide) (by decide) (by decide) rfl (Nat.le_of_ble_eq_true rfl) rfl ?_
  obtain ⟨-, rfl⟩ := ret_S hF
  exact hR dX2_scatter_33 (by decide) (by decide)

set_option maxHeartbeats 4000000 in
set_option maxRecDepth 100000 in
theorem c_X3_init {x0 : Nat} {h hh : Hp} {xr : Unit} (hF : F_X3_init x0 h = some (xr, hh)) : Ctr yX3_init cX3_init 1 none 1 1 9 [.inr (3, (some x0))] h none hh := by
  refine Ctr_v (own := RX3) (ini := True) (ls0 := [some (.inr (3, (some x0)))]) (by decide) rfl (Nat.le_of_ble_eq_true rfl) (fun _ => rfl) rfl ?_
  intro J hJ hR
  unfold F_X3_init at hF
  refine hJ.aload_n (i := 0) dX3_init_0 rfl rfl ?_
  refine hJ.objInit dX3_init_1 w_RX3_1 rfl (by decide) (Nat.le_of_ble_eq_true rfl) ?_
  refine hJ.aload_n (i := 0) dX3_init_4 rfl rfl ?_
  refine hJ.bipush (v := 9) dX3_init_5 (by decide) ?_
  replace hF := lt_S hF
  obtain ⟨h1, eh2, hF⟩ := hF
  refine hJ.newq (N := 9) dX3_init_7 a_15 q_RX3_9 (by decide) (by decide) (by decide) (by decide) (by decide) ?_
  rw [← eh2]
  replace hF := lt_S hF
  obtain ⟨h3, eh4, hF⟩ := hF
  refine hJ.putRF dX3_init_10 f_RX3_11 rfl rfl trivial (Or.inr rfl) rfl ?_
  rw [← eh4]
  refine hJ.aload_n (i := 0) dX3_init_13 rfl rfl ?_
  refine hJ.iconst (v := 0) dX3_init_14 (by decide) ?_
  replace hF := lt_S hF
  obtain ⟨h5, eh6, hF⟩ := hF
  refine hJ.putI dX3_init_15 f_RX3_15 rfl nar_i rfl ?_
  rw [← eh6]
  refine hJ.aload_n (i := 0) dX3_init_18 rfl rfl ?_
  refine hJ.iconst (v := 0) dX3_init_19 (by decide) ?_
  replace hF := lt_S hF
  obtain ⟨h7, eh8, hF⟩ := hF
  refine hJ.putI dX3_init_20 f_RX3_19 rfl nar_i rfl ?_
  rw [← eh8]
  obtain ⟨-, rfl⟩ := ret_S hF
  exact hR dX3_init_23 (by decide) (by decide)

set_option maxHeartbeats 4000000 in
set_option maxRecDepth 100000 in
theorem c_X3_first {x0 : Nat} {h hh : Hp} {xr : Option Nat} (hF : F_X3_first x0 h = some (xr, hh)) : Ctr yX3_first cX3_first 1 (some (.object RX6)) 0 0 0 [.inr (3, (some x0))] h (some (.inr (6, xr))) hh := by
  refine Ctr_a (own := RX3) (ini := False) (ls0 := [some (.inr (3, (some x0)))]) (by decide) rfl (Nat.le_of_ble_eq_true rfl) (fun e => e.elim) rfl ?_
  intro J hJ hR
  unfold F_X3_first at hF
  refine hJ.aload_n (i := 0) dX3_first_0 rfl rfl ?_
  refine hJ.getI dX3_first_1 f_RX3_15 rfl ?_
  refine hJ.if_le (tgt := 16) dX3_first_4 (by decide) (fun e1 => ?_) (fun e1 => ?_)
  · replace hF := ite_T e1 hF
    refine hJ.null (kk := 6) dX3_first_16 ?_
    obtain ⟨rfl, rfl⟩ := ret_S hF
    exact hR dX3_first_17 (Or.inr rfl) (by decide) (by decide)
  · replace hF := ite_F e1 hF
    refine hJ.aload_n (i := 0) dX3_first_7 rfl rfl ?_
    refine hJ.getR dX3_first_8 f_RX3_11 rfl ?_
    refine hJ.iconst (v := 0) dX3_first_11 (by decide) ?_
    replace hF := nn_S hF
    obtain ⟨n2, e3, hF⟩ := hF
    rw [e3]
    replace hF := ck_S hF
    obtain ⟨c4, hF⟩ := hF
    refine hJ.aald dX3_first_12 a_15 rfl c4 ?_
    refine hJ.goto (tgt := 17) dX3_first_13 (by decide) ?_
    obtain ⟨rfl, rfl⟩ := ret_S hF
    exact hR dX3_first_17 (Or.inr rfl) (by decide) (by decide)

set_option maxHeartbeats 4000000 in
set_option maxRecDepth 100000 in
theorem t_X3_has_2 {β : Type} {J : JT} (hJ : Rules cX3_has RX3 3 0 0 0 False J) {a b : Nat} (ha : a ≤ 0) (hb : b ≤ 0) {v0 : Nat} {v1 : Option Nat} {κ34 : Hp → Option β} {κ26 : Hp → Option β} {out : β}
    (hk34 : ∀ (h : Hp), κ34 h = some out → J 34 [none, none, none] [] h a b)
    (hk26 : ∀ (h : Hp), κ26 h = some out → J 26 [none, none, none] [] h a b)
    : ∀ (f : Nat) (v2 : Int32) (h : Hp), L_X3_has_2 v0 v1 κ34 κ26 f v2 h = some out → J 2 [some (.inr (3, (some v0))), some (.inr (6, v1)), some (.inl v2)] [] h a b := by
  intro f
  induction f with
  | zero => intro v2 h hF; simp [L_X3_has_2] at hF
  | succ f ih =>
    intro v2 h hF
    rw [L_X3_has_2] at hF
    refine hJ.iload_n (i := 2) dX3_has_2 rfl rfl ?_
    refine hJ.aload_n (i := 0) dX3_has_3 rfl rfl ?_
    refine hJ.getI dX3_has_4 f_RX3_15 rfl ?_
    refine hJ.icmp_ge (tgt := 34) dX3_has_7 (by decide) (fun e1 => ?_) (fun e1 => ?_)
    · replace hF := ite_T e1 hF
      refine hJ.forget (ls2 := [none, none, none]) trivial ?_
      exact hk34 h hF
    · replace hF := ite_F e1 hF
      refine hJ.aload_n (i := 0) dX3_has_10 rfl rfl ?_
      refine hJ.getR dX3_has_11 f_RX3_11 rfl ?_
      refine hJ.iload_n (i := 2) dX3_has_14 rfl rfl ?_
      replace hF := nn_S hF
      obtain ⟨n2, e3, hF⟩ := hF
      rw [e3]
      replace hF := ck_S hF
      obtain ⟨c4, hF⟩ := hF
      refine hJ.aald dX3_has_15 a_15 rfl c4 ?_
      replace hF := nn_S hF
      obtain ⟨n5, e6, hF⟩ := hF
      rw [e6]
      refine hJ.getI dX3_has_16 f_RX3_22 rfl ?_
      refine hJ.aload_n (i := 1) dX3_has_19 rfl rfl ?_
      replace hF := nn_S hF
      obtain ⟨n7, e8, hF⟩ := hF
      subst e8
      refine hJ.getI dX3_has_20 f_RX3_22 rfl ?_
      refine hJ.icmp_ne (tgt := 28) dX3_has_23 (by decide) (fun e9 => ?_) (fun e9 => ?_)
      · replace hF := ite_F e9 hF
        refine hJ.iinc (i := 2) (v := (v2 + (1 : Int32))) (ls2 := [some (.inr (3, (some v0))), some (.inr (6, (some n7))), some (.inl (v2 + (1 : Int32)))]) dX3_has_28 rfl (addI (by decide)) (by decide) rfl ?_
        refine hJ.goto (tgt := 2) dX3_has_31 (by decide) ?_
        refine hJ.forget (ls2 := [some (.inr (3, (some v0))), some (.inr (6, (some n7))), some (.inl (v2 + (1 : Int32)))]) ⟨rfl, rfl, rfl, trivial⟩ ?_
        exact ih (v2 + (1 : Int32)) h hF
      · replace hF := ite_T e9 hF
        refine hJ.forget (ls2 := [none, none, none]) trivial ?_
        exact hk26 h hF

set_option maxHeartbeats 4000000 in
set_option maxRecDepth 100000 in
theorem c_X3_has {x0 : Nat} {x1 : Option Nat} {h hh : Hp} {xr : Int32} (hF : F_X3_has x0 x1 h = some (xr, hh)) : Ctr yX3_has cX3_has 3 (some .boolean) 0 0 0 [.inr (3, (some x0)), .inr (6, x1)] h (some (.inl xr)) hh := by
  refine Ctr_z (own := RX3) (ini := False) (ls0 := [some (.inr (3, (some x0))), some (.inr (6, x1)), none]) (by decide) rfl (Nat.le_of_ble_eq_true rfl) (fun e => e.elim) rfl ?_
  intro J hJ hR
  unfold F_X3_has at hF
  refine hJ.iconst (v := 0) dX3_has_0 (by decide) ?_
  refine hJ.istore_n (i := 2) (ls2 := [some (.inr (3, (some x0))), some (.inr (6, x1)), some (.inl (0 : Int32))]) dX3_has_1 rfl (by decide) rfl ?_
  refine hJ.forget (ls2 := [some (.inr (3, (some x0))), some (.inr (6, x1)), some (.inl (0 : Int32))]) ⟨rfl, rfl, rfl, trivial⟩ ?_
  refine t_X3_has_2 hJ (by decide) (by decide) (fun h10 hF => ?_) (fun h11 hF => ?_) FU _ _ hF
  · refine hJ.iconst (v := 0) dX3_has_34 (by decide) ?_
    obtain ⟨rfl, rfl⟩ := ret_S hF
    exact hR dX3_has_35 (by decide) (by decide) (by decide)
  · refine hJ.iconst (v := 1) dX3_has_26 (by decide) ?_
    obtain ⟨rfl, rfl⟩ := ret_S hF
    exact hR dX3_has_27 (by decide) (by decide) (by decide)

set_option maxHeartbeats 4000000 in
set_option maxRecDepth 100000 in
theorem c_X3_takes {x0 : Nat} {x1 : Option Nat} {h hh : Hp} {xr : Int32} (hF : F_X3_takes x0 x1 h = some (xr, hh)) : Ctr yX3_takes cX3_takes 3 (some .boolean) 1 0 0 [.inr (3, (some x0)), .inr (6, x1)] h (some (.inl xr)) hh := by
  refine Ctr_z (own := RX3) (ini := False) (ls0 := [some (.inr (3, (some x0))), some (.inr (6, x1)), none]) (by decide) rfl (Nat.le_of_ble_eq_true rfl) (fun e => e.elim) rfl ?_
  intro J hJ hR
  unfold F_X3_takes at hF
  refine hJ.aload_n (i := 0) dX3_takes_0 rfl rfl ?_
  replace hF := cl_S hF
  obtain ⟨r1, h2, ec3, hF⟩ := hF
  refine hJ.callV (as := []) (st := []) dX3_takes_1 w_RX3_25 ⟨by decide, rfl⟩ rfl (c_X3_first ec3) (by decide) (by decide) (by decide) rfl (Nat.le_of_ble_eq_true rfl) rfl ?_
  refine hJ.astore_n (i := 2) (ls2 := [some (.inr (3, (some x0))), some (.inr (6, x1)), some (.inr (6, r1))]) dX3_takes_4 rfl (by decide) rfl ?_
  refine hJ.aload_n (i := 0) dX3_takes_5 rfl rfl ?_
  refine hJ.getI dX3_takes_6 f_RX3_15 rfl ?_
  refine hJ.bipush (v := 9) dX3_takes_9 (by decide) ?_
  refine hJ.icmp_ge (tgt := 41) dX3_takes_11 (by decide) (fun e4 => ?_) (fun e4 => ?_)
  · replace hF := ite_T e4 hF
    refine hJ.iconst (v := 0) dX3_takes_41 (by decide) ?_
    obtain ⟨rfl, rfl⟩ := ret_S hF
    exact hR dX3_takes_42 (by decide) (by decide) (by decide)
  · replace hF := ite_F e4 hF
    refine hJ.aload_n (i := 0) dX3_takes_14 rfl rfl ?_
    refine hJ.aload_n (i := 1) dX3_takes_15 rfl rfl ?_
    replace hF := cl_S hF
    obtain ⟨r5, h6, ec7, hF⟩ := hF
    refine hJ.callV (as := [.inr (6, x1)]) (st := []) dX3_takes_16 w_RX3_29 ⟨by decide, rfl⟩ rfl (c_X3_has ec7) (by decide) (by decide) (by decide) rfl (Nat.le_of_ble_eq_true rfl) rfl ?_
    refine hJ.if_ne (tgt := 41) dX3_takes_19 (by decide) (fun e8 => ?_) (fun e8 => ?_)
    · replace hF := ite_F e8 hF
      refine hJ.iconst (v := 0) dX3_takes_41 (by decide) ?_
      obtain ⟨rfl, rfl⟩ := ret_S hF
      exact hR dX3_takes_42 (by decide) (by decide) (by decide)
    · replace hF := ite_T e8 hF
      refine hJ.aload_n (i := 2) dX3_takes_22 rfl rfl ?_
      refine hJ.ifnull (tgt := 37) dX3_takes_23 (by decide) (fun e9 => ?_) (fun n10 e9 => ?_)
      · replace hF := onn_N e9 hF
        subst e9
        refine hJ.iconst (v := 1) dX3_takes_37 (by decide) ?_
        refine hJ.goto (tgt := 42) dX3_takes_38 (by decide) ?_
        obtain ⟨rfl, rfl⟩ := ret_S hF
        exact hR dX3_takes_42 (by decide) (by decide) (by decide)
      · replace hF := onn_J e9 hF
        subst e9
        refine hJ.aload_n (i := 2) dX3_takes_26 rfl rfl ?_
        refine hJ.getR dX3_takes_27 f_RX3_33 rfl ?_
        refine hJ.aload_n (i := 1) dX3_takes_30 rfl rfl ?_
        replace hF := nn_S hF
        obtain ⟨n11, e12, hF⟩ := hF
        subst e12
        refine hJ.getR dX3_takes_31 f_RX3_33 rfl ?_
        refine hJ.acmp_ne (tgt := 41) dX3_takes_34 (by decide) (by decide) (fun e13 => ?_) (fun e13 => ?_)
        · replace hF := ite_F e13 hF
          refine hJ.iconst (v := 0) dX3_takes_41 (by decide) ?_
          obtain ⟨rfl, rfl⟩ := ret_S hF
          exact hR dX3_takes_42 (by decide) (by decide) (by decide)
        · replace hF := ite_T e13 hF
          refine hJ.iconst (v := 1) dX3_takes_37 (by decide) ?_
          refine hJ.goto (tgt := 42) dX3_takes_38 (by decide) ?_
          obtain ⟨rfl, rfl⟩ := ret_S hF
          exact hR dX3_takes_42 (by decide) (by decide) (by decide)

set_option maxHeartbeats 4000000 in
set_option maxRecDepth 100000 in
theorem c_X3_append {x0 : Nat} {x1 : Option Nat} {h hh : Hp} {xr : Unit} (hF : F_X3_append x0 x1 h = some (xr, hh)) : Ctr yX3_append cX3_append 2 none 0 0 0 [.inr (3, (some x0)), .inr (6, x1)] h none hh := by
  refine Ctr_v (own := RX3) (ini := False) (ls0 := [some (.inr (3, (some x0))), some (.inr (6, x1))]) (by decide) rfl (Nat.le_of_ble_eq_true rfl) (fun e => e.elim) rfl ?_
  intro J hJ hR
  unfold F_X3_append at hF
  refine hJ.aload_n (i := 0) dX3_append_0 rfl rfl ?_
  refine hJ.getI dX3_append_1 f_RX3_15 rfl ?_
  refine hJ.bipush (v := 9) dX3_append_4 (by decide) ?_
  refine hJ.icmp_ge (tgt := 42) dX3_append_6 (by decide) (fun e1 => ?_) (fun e1 => ?_)
  · replace hF := ite_T e1 hF
    obtain ⟨-, rfl⟩ := ret_S hF
    exact hR dX3_append_42 (by decide) (by decide)
  · replace hF := ite_F e1 hF
    refine hJ.aload_n (i := 0) dX3_append_9 rfl rfl ?_
    refine hJ.getR dX3_append_10 f_RX3_11 rfl ?_
    refine hJ.aload_n (i := 0) dX3_append_13 rfl rfl ?_
    refine hJ.getI dX3_append_14 f_RX3_15 rfl ?_
    refine hJ.aload_n (i := 1) dX3_append_17 rfl rfl ?_
    replace hF := nn_S hF
    obtain ⟨n2, e3, hF⟩ := hF
    rw [e3]
    replace hF := ck_S hF
    obtain ⟨c4, hF⟩ := hF
    replace hF := lt_S hF
    obtain ⟨h5, eh6, hF⟩ := hF
    refine hJ.aast dX3_append_18 a_15 rfl c4 ?_
    rw [← eh6]
    refine hJ.aload_n (i := 0) dX3_append_19 rfl rfl ?_
    refine hJ.dup dX3_append_20 ?_
    refine hJ.getI dX3_append_21 f_RX3_15 rfl ?_
    refine hJ.iconst (v := 1) dX3_append_24 (by decide) ?_
    refine hJ.iadd dX3_append_25 ?_
    replace hF := lt_S hF
    obtain ⟨h7, eh8, hF⟩ := hF
    refine hJ.putI dX3_append_26 f_RX3_15 rfl nar_i rfl ?_
    rw [← eh8]
    refine hJ.aload_n (i := 0) dX3_append_29 rfl rfl ?_
    refine hJ.dup dX3_append_30 ?_
    refine hJ.getI dX3_append_31 f_RX3_19 rfl ?_
    refine hJ.aload_n (i := 1) dX3_append_34 rfl rfl ?_
    replace hF := nn_S hF
    obtain ⟨n9, e10, hF⟩ := hF
    subst e10
    refine hJ.getI dX3_append_35 f_RX3_37 rfl ?_
    refine hJ.iadd dX3_append_38 ?_
    replace hF := lt_S hF
    obtain ⟨h11, eh12, hF⟩ := hF
    refine hJ.putI dX3_append_39 f_RX3_19 rfl nar_i rfl ?_
    rw [← eh12]
    obtain ⟨-, rfl⟩ := ret_S hF
    exact hR dX3_append_42 (by decide) (by decide)

set_option maxHeartbeats 4000000 in
set_option maxRecDepth 100000 in
theorem c_X4_init {x0 : Nat} {x1 : Int32} {x2 : Option Nat} {x3 : Int32} {x4 : Int32} {x5 : Int32} {h hh : Hp} {xr : Unit} (hF : F_X4_init x0 x1 x2 x3 x4 x5 h = some (xr, hh)) : Ctr yX4_init cX4_init 6 none 1 0 0 [.inr (4, (some x0)), .inl x1, .inr (4, x2), .inl x3, .inl x4, .inl x5] h none hh := by
  refine Ctr_v (own := RX4) (ini := True) (ls0 := [some (.inr (4, (some x0))), some (.inl x1), some (.inr (4, x2)), some (.inl x3), some (.inl x4), some (.inl x5)]) (by decide) rfl (Nat.le_of_ble_eq_true rfl) (fun _ => rfl) rfl ?_
  intro J hJ hR
  unfold F_X4_init at hF
  refine hJ.aload_n (i := 0) dX4_init_0 rfl rfl ?_
  refine hJ.objInit dX4_init_1 w_RX4_3 rfl (by decide) (Nat.le_of_ble_eq_true rfl) ?_
  refine hJ.aload_n (i := 0) dX4_init_4 rfl rfl ?_
  refine hJ.iconst (v := 0) dX4_init_5 (by decide) ?_
  replace hF := lt_S hF
  obtain ⟨h1, eh2, hF⟩ := hF
  refine hJ.putI dX4_init_6 f_RX4_9 rfl nar_i rfl ?_
  rw [← eh2]
  refine hJ.aload_n (i := 0) dX4_init_9 rfl rfl ?_
  refine hJ.iconst (v := 0) dX4_init_10 (by decide) ?_
  replace hF := lt_S hF
  obtain ⟨h3, eh4, hF⟩ := hF
  refine hJ.putI dX4_init_11 f_RX4_15 rfl nar_i rfl ?_
  rw [← eh4]
  refine hJ.aload_n (i := 0) dX4_init_14 rfl rfl ?_
  refine hJ.iload_n (i := 1) dX4_init_15 rfl rfl ?_
  replace hF := lt_S hF
  obtain ⟨h5, eh6, hF⟩ := hF
  refine hJ.putIF dX4_init_16 f_RX4_18 rfl rfl trivial nar_i rfl ?_
  rw [← eh6]
  refine hJ.aload_n (i := 0) dX4_init_19 rfl rfl ?_
  refine hJ.aload_n (i := 2) dX4_init_20 rfl rfl ?_
  replace hF := lt_S hF
  obtain ⟨h7, eh8, hF⟩ := hF
  refine hJ.putRF dX4_init_21 f_RX4_21 rfl rfl trivial (Or.inr rfl) rfl ?_
  rw [← eh8]
  refine hJ.aload_n (i := 0) dX4_init_24 rfl rfl ?_
  refine hJ.iload_n (i := 3) dX4_init_25 rfl rfl ?_
  refine hJ.ldc dX4_init_26 k_RX4_25 ?_
  refine hJ.idiv dX4_init_28 (by decide) ?_
  replace hF := lt_S hF
  obtain ⟨h9, eh10, hF⟩ := hF
  refine hJ.putIF dX4_init_29 f_RX4_26 rfl rfl trivial nar_i rfl ?_
  rw [← eh10]
  refine hJ.aload_n (i := 0) dX4_init_32 rfl rfl ?_
  refine hJ.iload_n (i := 3) dX4_init_33 rfl rfl ?_
  refine hJ.ldc dX4_init_34 k_RX4_25 ?_
  refine hJ.irem dX4_init_36 (by decide) ?_
  refine hJ.sipush (v := 1000) dX4_init_37 (by decide) ?_
  refine hJ.idiv dX4_init_40 (by decide) ?_
  replace hF := lt_S hF
  obtain ⟨h11, eh12, hF⟩ := hF
  refine hJ.putIF dX4_init_41 f_RX4_29 rfl rfl trivial nar_i rfl ?_
  rw [← eh12]
  refine hJ.aload_n (i := 0) dX4_init_44 rfl rfl ?_
  refine hJ.iload_n (i := 3) dX4_init_45 rfl rfl ?_
  refine hJ.sipush (v := 1000) dX4_init_46 (by decide) ?_
  refine hJ.irem dX4_init_49 (by decide) ?_
  replace hF := lt_S hF
  obtain ⟨h13, eh14, hF⟩ := hF
  refine hJ.putIF dX4_init_50 f_RX4_32 rfl rfl trivial nar_i rfl ?_
  rw [← eh14]
  refine hJ.aload_n (i := 0) dX4_init_53 rfl rfl ?_
  refine hJ.iload (i := 4) dX4_init_54 rfl ?_
  replace hF := lt_S hF
  obtain ⟨h15, eh16, hF⟩ := hF
  refine hJ.putIF dX4_init_56 f_RX4_35 rfl rfl trivial nar_i rfl ?_
  rw [← eh16]
  refine hJ.aload_n (i := 0) dX4_init_59 rfl rfl ?_
  refine hJ.iload (i := 5) dX4_init_60 rfl ?_
  replace hF := ck_S hF
  obtain ⟨c19, hF⟩ := hF
  replace hF := lt_S hF
  obtain ⟨h17, eh18, hF⟩ := hF
  refine hJ.putIF dX4_init_62 f_RX4_38 rfl rfl trivial (nar_z (isz_S c19)) rfl ?_
  rw [← eh18]
  refine hJ.aload_n (i := 0) dX4_init_65 rfl rfl ?_
  refine hJ.iload (i := 4) dX4_init_66 rfl ?_
  replace hF := lt_S hF
  obtain ⟨h20, eh21, hF⟩ := hF
  refine hJ.putI dX4_init_68 f_RX4_42 rfl nar_i rfl ?_
  rw [← eh21]
  obtain ⟨-, rfl⟩ := ret_S hF
  exact hR dX4_init_71 (by decide) (by decide)

set_option maxHeartbeats 4000000 in
set_option maxRecDepth 100000 in
theorem c_X4_canBe {x0 : Int32} {x1 : Int32} {h hh : Hp} {xr : Int32} (hF : F_X4_canBe x0 x1 h = some (xr, hh)) : Ctr yX4_canBe cX4_canBe 2 (some .boolean) 1 0 0 [.inl x0, .inl x1] h (some (.inl xr)) hh := by
  refine Ctr_z (own := RX4) (ini := False) (ls0 := [some (.inl x0), some (.inl x1)]) (by decide) rfl (Nat.le_of_ble_eq_true rfl) (fun e => e.elim) rfl ?_
  intro J hJ hR
  unfold F_X4_canBe at hF
  refine hJ.iload_n (i := 0) dX4_canBe_0 rfl rfl ?_
  refine hJ.if_lt (tgt := 63) dX4_canBe_1 (by decide) (fun e1 => ?_) (fun e1 => ?_)
  · replace hF := ite_T e1 hF
    refine hJ.iconst (v := 0) dX4_canBe_63 (by decide) ?_
    obtain ⟨rfl, rfl⟩ := ret_S hF
    exact hR dX4_canBe_64 (by decide) (by decide) (by decide)
  · replace hF := ite_F e1 hF
    refine hJ.iload_n (i := 0) dX4_canBe_4 rfl rfl ?_
    refine hJ.ldc dX4_canBe_5 k_RX4_25 ?_
    refine hJ.idiv dX4_canBe_7 (by decide) ?_
    refine hJ.iconst (v := 1) dX4_canBe_8 (by decide) ?_
    refine hJ.bipush (v := 20) dX4_canBe_9 (by decide) ?_
    replace hF := cl_S hF
    obtain ⟨r2, h3, ec4, hF⟩ := hF
    refine hJ.callSN (as := [.inl (x0 / (100000 : Int32)), .inl (1 : Int32), .inl (20 : Int32)]) (st := []) dX4_canBe_11 w_RX4_45 (c_X7_within ec4) (by decide) (by decide) (by decide) rfl (Nat.le_of_ble_eq_true rfl) rfl ?_
    refine hJ.if_eq (tgt := 63) dX4_canBe_14 (by decide) (fun e5 => ?_) (fun e5 => ?_)
    · replace hF := ite_T e5 hF
      refine hJ.iconst (v := 0) dX4_canBe_63 (by decide) ?_
      obtain ⟨rfl, rfl⟩ := ret_S hF
      exact hR dX4_canBe_64 (by decide) (by decide) (by decide)
    · replace hF := ite_F e5 hF
      refine hJ.iload_n (i := 0) dX4_canBe_17 rfl rfl ?_
      refine hJ.ldc dX4_canBe_18 k_RX4_25 ?_
      refine hJ.irem dX4_canBe_20 (by decide) ?_
      refine hJ.sipush (v := 1000) dX4_canBe_21 (by decide) ?_
      refine hJ.idiv dX4_canBe_24 (by decide) ?_
      refine hJ.iconst (v := 1) dX4_canBe_25 (by decide) ?_
      refine hJ.bipush (v := 60) dX4_canBe_26 (by decide) ?_
      replace hF := cl_S hF
      obtain ⟨r6, h7, ec8, hF⟩ := hF
      refine hJ.callSN (as := [.inl ((x0 - x0 / (100000 : Int32) * (100000 : Int32)) / (1000 : Int32)), .inl (1 : Int32), .inl (60 : Int32)]) (st := []) dX4_canBe_28 w_RX4_45 (c_X7_within ec8) (by decide) (by decide) (by decide) rfl (Nat.le_of_ble_eq_true rfl) rfl ?_
      refine hJ.if_eq (tgt := 63) dX4_canBe_31 (by decide) (fun e9 => ?_) (fun e9 => ?_)
      · replace hF := ite_T e9 hF
        refine hJ.iconst (v := 0) dX4_canBe_63 (by decide) ?_
        obtain ⟨rfl, rfl⟩ := ret_S hF
        exact hR dX4_canBe_64 (by decide) (by decide) (by decide)
      · replace hF := ite_F e9 hF
        refine hJ.iload_n (i := 0) dX4_canBe_34 rfl rfl ?_
        refine hJ.sipush (v := 1000) dX4_canBe_35 (by decide) ?_
        refine hJ.irem dX4_canBe_38 (by decide) ?_
        refine hJ.iconst (v := 0) dX4_canBe_39 (by decide) ?_
        refine hJ.bipush (v := 50) dX4_canBe_40 (by decide) ?_
        replace hF := cl_S hF
        obtain ⟨r10, h11, ec12, hF⟩ := hF
        refine hJ.callSN (as := [.inl (x0 - x0 / (1000 : Int32) * (1000 : Int32)), .inl (0 : Int32), .inl (50 : Int32)]) (st := []) dX4_canBe_42 w_RX4_45 (c_X7_within ec12) (by decide) (by decide) (by decide) rfl (Nat.le_of_ble_eq_true rfl) rfl ?_
        refine hJ.if_eq (tgt := 63) dX4_canBe_45 (by decide) (fun e13 => ?_) (fun e13 => ?_)
        · replace hF := ite_T e13 hF
          refine hJ.iconst (v := 0) dX4_canBe_63 (by decide) ?_
          obtain ⟨rfl, rfl⟩ := ret_S hF
          exact hR dX4_canBe_64 (by decide) (by decide) (by decide)
        · replace hF := ite_F e13 hF
          refine hJ.iload_n (i := 1) dX4_canBe_48 rfl rfl ?_
          refine hJ.iconst (v := 0) dX4_canBe_49 (by decide) ?_
          refine hJ.sipush (v := 1000) dX4_canBe_50 (by decide) ?_
          replace hF := cl_S hF
          obtain ⟨r14, h15, ec16, hF⟩ := hF
          refine hJ.callSN (as := [.inl x1, .inl (0 : Int32), .inl (1000 : Int32)]) (st := []) dX4_canBe_53 w_RX4_45 (c_X7_within ec16) (by decide) (by decide) (by decide) rfl (Nat.le_of_ble_eq_true rfl) rfl ?_
          refine hJ.if_eq (tgt := 63) dX4_canBe_56 (by decide) (fun e17 => ?_) (fun e17 => ?_)
          · replace hF := ite_T e17 hF
            refine hJ.iconst (v := 0) dX4_canBe_63 (by decide) ?_
            obtain ⟨rfl, rfl⟩ := ret_S hF
            exact hR dX4_canBe_64 (by decide) (by decide) (by decide)
          · replace hF := ite_F e17 hF
            refine hJ.iconst (v := 1) dX4_canBe_59 (by decide) ?_
            refine hJ.goto (tgt := 64) dX4_canBe_60 (by decide) ?_
            obtain ⟨rfl, rfl⟩ := ret_S hF
            exact hR dX4_canBe_64 (by decide) (by decide) (by decide)

set_option maxHeartbeats 4000000 in
set_option maxRecDepth 100000 in
theorem c_X4_storms {x0 : Nat} {x1 : Int32} {h hh : Hp} {xr : Int32} (hF : F_X4_storms x0 x1 h = some (xr, hh)) : Ctr yX4_storms cX4_storms 2 (some .boolean) 0 0 0 [.inr (4, (some x0)), .inl x1] h (some (.inl xr)) hh := by
  refine Ctr_z (own := RX4) (ini := False) (ls0 := [some (.inr (4, (some x0))), some (.inl x1)]) (by decide) rfl (Nat.le_of_ble_eq_true rfl) (fun e => e.elim) rfl ?_
  intro J hJ hR
  unfold F_X4_storms at hF
  refine hJ.iload_n (i := 1) dX4_storms_0 rfl rfl ?_
  refine hJ.aload_n (i := 0) dX4_storms_1 rfl rfl ?_
  refine hJ.getI dX4_storms_2 f_RX4_9 rfl ?_
  refine hJ.icmp_lt (tgt := 20) dX4_storms_5 (by decide) (fun e1 => ?_) (fun e1 => ?_)
  · replace hF := ite_T e1 hF
    refine hJ.iconst (v := 0) dX4_storms_20 (by decide) ?_
    obtain ⟨rfl, rfl⟩ := ret_S hF
    exact hR dX4_storms_21 (by decide) (by decide) (by decide)
  · replace hF := ite_F e1 hF
    refine hJ.iload_n (i := 1) dX4_storms_8 rfl rfl ?_
    refine hJ.aload_n (i := 0) dX4_storms_9 rfl rfl ?_
    refine hJ.getI dX4_storms_10 f_RX4_15 rfl ?_
    refine hJ.icmp_ge (tgt := 20) dX4_storms_13 (by decide) (fun e2 => ?_) (fun e2 => ?_)
    · replace hF := ite_T e2 hF
      refine hJ.iconst (v := 0) dX4_storms_20 (by decide) ?_
      obtain ⟨rfl, rfl⟩ := ret_S hF
      exact hR dX4_storms_21 (by decide) (by decide) (by decide)
    · replace hF := ite_F e2 hF
      refine hJ.iconst (v := 1) dX4_storms_16 (by decide) ?_
      refine hJ.goto (tgt := 21) dX4_storms_17 (by decide) ?_
      obtain ⟨rfl, rfl⟩ := ret_S hF
      exact hR dX4_storms_21 (by decide) (by decide) (by decide)

set_option maxHeartbeats 4000000 in
set_option maxRecDepth 100000 in
theorem c_X4_fillPond {x0 : Nat} {h hh : Hp} {xr : Unit} (hF : F_X4_fillPond x0 h = some (xr, hh)) : Ctr yX4_fillPond cX4_fillPond 1 none 1 0 0 [.inr (4, (some x0))] h none hh := by
  refine Ctr_v (own := RX4) (ini := False) (ls0 := [some (.inr (4, (some x0)))]) (by decide) rfl (Nat.le_of_ble_eq_true rfl) (fun e => e.elim) rfl ?_
  intro J hJ hR
  unfold F_X4_fillPond at hF
  refine hJ.aload_n (i := 0) dX4_fillPond_0 rfl rfl ?_
  refine hJ.aload_n (i := 0) dX4_fillPond_1 rfl rfl ?_
  refine hJ.getI dX4_fillPond_2 f_RX4_35 rfl ?_
  refine hJ.aload_n (i := 0) dX4_fillPond_5 rfl rfl ?_
  refine hJ.getI dX4_fillPond_6 f_RX4_42 rfl ?_
  refine hJ.aload_n (i := 0) dX4_fillPond_9 rfl rfl ?_
  refine hJ.getI dX4_fillPond_10 f_RX4_32 rfl ?_
  refine hJ.iadd dX4_fillPond_13 ?_
  refine hJ.mmin dX4_fillPond_14 w_RX4_49 (by decide) (Nat.le_of_ble_eq_true rfl) (by decide) (by decide) ?_
  replace hF := lt_S hF
  obtain ⟨h1, eh2, hF⟩ := hF
  refine hJ.putI dX4_fillPond_17 f_RX4_42 rfl nar_i rfl ?_
  rw [← eh2]
  obtain ⟨-, rfl⟩ := ret_S hF
  exact hR dX4_fillPond_20 (by decide) (by decide)

set_option maxHeartbeats 4000000 in
set_option maxRecDepth 100000 in
theorem t_X4_hoursDownTo_4 {β : Type} {J : JT} (hJ : Rules cX4_hoursDownTo RX4 4 0 0 0 False J) {a b : Nat} (ha : a ≤ 0) (hb : b ≤ 0) {v1 : Option Nat} {κ30 : Hp → Option β} {κ13 : Int32 → Hp → Option β} {out : β}
    (hk30 : ∀ (h : Hp), κ30 h = some out → J 30 [none, none, none, none] [] h a b)
    (hk13 : ∀ (k2 : Int32) (h : Hp), κ13 k2 h = some out → J 13 [none, none, some (.inl k2), none] [] h a b)
    : ∀ (f : Nat) (v2 : Int32) (v3 : Option Nat) (h : Hp), L_X4_hoursDownTo_4 v1 κ30 κ13 f v2 v3 h = some out → J 4 [none, some (.inr (4, v1)), some (.inl v2), some (.inr (4, v3))] [] h a b := by
  intro f
  induction f with
  | zero => intro v2 v3 h hF; simp [L_X4_hoursDownTo_4] at hF
  | succ f ih =>
    intro v2 v3 h hF
    rw [L_X4_hoursDownTo_4] at hF
    refine hJ.aload_n (i := 3) dX4_hoursDownTo_4 rfl rfl ?_
    refine hJ.ifnull (tgt := 30) dX4_hoursDownTo_5 (by decide) (fun e1 => ?_) (fun n2 e1 => ?_)
    · replace hF := onn_N e1 hF
      subst e1
      refine hJ.forget (ls2 := [none, none, none, none]) trivial ?_
      exact hk30 h hF
    · replace hF := onn_J e1 hF
      subst e1
      refine hJ.aload_n (i := 3) dX4_hoursDownTo_8 rfl rfl ?_
      refine hJ.aload_n (i := 1) dX4_hoursDownTo_9 rfl rfl ?_
      refine hJ.acmp_ne (tgt := 15) dX4_hoursDownTo_10 (by decide) (by decide) (fun e3 => ?_) (fun e3 => ?_)
      · replace hF := ite_F e3 hF
        refine hJ.iload_n (i := 2) dX4_hoursDownTo_15 rfl rfl ?_
        refine hJ.aload_n (i := 3) dX4_hoursDownTo_16 rfl rfl ?_
        refine hJ.getI dX4_hoursDownTo_17 f_RX4_26 rfl ?_
        refine hJ.iadd dX4_hoursDownTo_20 ?_
        refine hJ.istore_n (i := 2) (ls2 := [none, some (.inr (4, v1)), some (.inl (v2 + (pI h 4 n2 2))), some (.inr (4, (some n2)))]) dX4_hoursDownTo_21 rfl (by decide) rfl ?_
        refine hJ.aload_n (i := 3) dX4_hoursDownTo_22 rfl rfl ?_
        refine hJ.getR dX4_hoursDownTo_23 f_RX4_21 rfl ?_
        refine hJ.astore_n (i := 3) (ls2 := [none, some (.inr (4, v1)), some (.inl (v2 + (pI h 4 n2 2))), some (.inr (4, (pR h 4 n2 1)))]) dX4_hoursDownTo_26 rfl (by decide) rfl ?_
        refine hJ.goto (tgt := 4) dX4_hoursDownTo_27 (by decide) ?_
        refine hJ.forget (ls2 := [none, some (.inr (4, v1)), some (.inl (v2 + (pI h 4 n2 2))), some (.inr (4, (pR h 4 n2 1)))]) ⟨rfl, rfl, rfl, trivial⟩ ?_
        exact ih (v2 + (pI h 4 n2 2)) (pR h 4 n2 1) h hF
      · replace hF := ite_T e3 hF
        refine hJ.forget (ls2 := [none, none, some (.inl v2), none]) ⟨rfl, trivial⟩ ?_
        exact hk13 v2 h hF

set_option maxHeartbeats 4000000 in
set_option maxRecDepth 100000 in
theorem c_X4_hoursDownTo {x0 : Nat} {x1 : Option Nat} {h hh : Hp} {xr : Int32} (hF : F_X4_hoursDownTo x0 x1 h = some (xr, hh)) : Ctr yX4_hoursDownTo cX4_hoursDownTo 4 (some .int) 0 0 0 [.inr (4, (some x0)), .inr (4, x1)] h (some (.inl xr)) hh := by
  refine Ctr_i (own := RX4) (ini := False) (ls0 := [some (.inr (4, (some x0))), some (.inr (4, x1)), none, none]) (by decide) rfl (Nat.le_of_ble_eq_true rfl) (fun e => e.elim) rfl ?_
  intro J hJ hR
  unfold F_X4_hoursDownTo at hF
  refine hJ.iconst (v := 0) dX4_hoursDownTo_0 (by decide) ?_
  refine hJ.istore_n (i := 2) (ls2 := [some (.inr (4, (some x0))), some (.inr (4, x1)), some (.inl (0 : Int32)), none]) dX4_hoursDownTo_1 rfl (by decide) rfl ?_
  refine hJ.aload_n (i := 0) dX4_hoursDownTo_2 rfl rfl ?_
  refine hJ.astore_n (i := 3) (ls2 := [some (.inr (4, (some x0))), some (.inr (4, x1)), some (.inl (0 : Int32)), some (.inr (4, (some x0)))]) dX4_hoursDownTo_3 rfl (by decide) rfl ?_
  refine hJ.forget (ls2 := [none, some (.inr (4, x1)), some (.inl (0 : Int32)), some (.inr (4, (some x0)))]) ⟨rfl, rfl, rfl, trivial⟩ ?_
  refine t_X4_hoursDownTo_4 hJ (by decide) (by decide) (fun h4 hF => ?_) (fun k5 h6 hF => ?_) FU _ _ _ hF
  · refine hJ.iconst (v := -1) dX4_hoursDownTo_30 (by decide) ?_
    obtain ⟨rfl, rfl⟩ := ret_S hF
    exact hR dX4_hoursDownTo_31 (by decide) (by decide)
  · refine hJ.iload_n (i := 2) dX4_hoursDownTo_13 rfl rfl ?_
    obtain ⟨rfl, rfl⟩ := ret_S hF
    exact hR dX4_hoursDownTo_14 (by decide) (by decide)

set_option maxHeartbeats 4000000 in
set_option maxRecDepth 100000 in
theorem c_X5_init {x0 : Nat} {x1 : Int32} {h hh : Hp} {xr : Unit} (hF : F_X5_init x0 x1 h = some (xr, hh)) : Ctr yX5_init cX5_init 3 none 1 3 300 [.inr (5, (some x0)), .inl x1] h none hh := by
  refine Ctr_v (own := RX5) (ini := True) (ls0 := [some (.inr (5, (some x0))), some (.inl x1), none]) (by decide) rfl (Nat.le_of_ble_eq_true rfl) (fun _ => rfl) rfl ?_
  intro J hJ hR
  unfold F_X5_init at hF
  refine hJ.aload_n (i := 0) dX5_init_0 rfl rfl ?_
  refine hJ.objInit dX5_init_1 w_RX5_3 rfl (by decide) (Nat.le_of_ble_eq_true rfl) ?_
  refine hJ.aload_n (i := 0) dX5_init_4 rfl rfl ?_
  refine hJ.iconst (v := 0) dX5_init_5 (by decide) ?_
  replace hF := lt_S hF
  obtain ⟨h1, eh2, hF⟩ := hF
  refine hJ.putI dX5_init_6 f_RX5_9 rfl nar_i rfl ?_
  rw [← eh2]
  refine hJ.iconst (v := 0) dX5_init_9 (by decide) ?_
  refine hJ.iload_n (i := 1) dX5_init_10 rfl rfl ?_
  refine hJ.mmax dX5_init_11 w_RX5_15 (by decide) (Nat.le_of_ble_eq_true rfl) (by decide) (by decide) ?_
  refine hJ.istore_n (i := 2) (ls2 := [some (.inr (5, (some x0))), some (.inl x1), some (.inl (if (0 : Int32) < x1 then x1 else (0 : Int32)))]) dX5_init_14 rfl (by decide) rfl ?_
  refine hJ.aload_n (i := 0) dX5_init_15 rfl rfl ?_
  refine hJ.iload_n (i := 2) dX5_init_16 rfl rfl ?_
  replace hF := ck_S hF
  obtain ⟨c5, hF⟩ := hF
  replace hF := lt_S hF
  obtain ⟨h3, eh4, hF⟩ := hF
  refine hJ.newa_int (N := 100) dX5_init_17 a_16 (lnok_S c5).1 (lnok_S c5).2 (by decide) (by decide) (by decide) ?_
  rw [← eh4]
  replace hF := lt_S hF
  obtain ⟨h6, eh7, hF⟩ := hF
  refine hJ.putRF dX5_init_19 f_RX5_21 rfl rfl trivial (Or.inr rfl) rfl ?_
  rw [← eh7]
  refine hJ.aload_n (i := 0) dX5_init_22 rfl rfl ?_
  refine hJ.iload_n (i := 2) dX5_init_23 rfl rfl ?_
  replace hF := ck_S hF
  obtain ⟨c10, hF⟩ := hF
  replace hF := lt_S hF
  obtain ⟨h8, eh9, hF⟩ := hF
  refine hJ.newa_int (N := 100) dX5_init_24 a_17 (lnok_S c10).1 (lnok_S c10).2 (by decide) (by decide) (by decide) ?_
  rw [← eh9]
  replace hF := lt_S hF
  obtain ⟨h11, eh12, hF⟩ := hF
  refine hJ.putRF dX5_init_26 f_RX5_25 rfl rfl trivial (Or.inr rfl) rfl ?_
  rw [← eh12]
  refine hJ.aload_n (i := 0) dX5_init_29 rfl rfl ?_
  refine hJ.iload_n (i := 2) dX5_init_30 rfl rfl ?_
  replace hF := ck_S hF
  obtain ⟨c15, hF⟩ := hF
  replace hF := lt_S hF
  obtain ⟨h13, eh14, hF⟩ := hF
  refine hJ.newa_int (N := 100) dX5_init_31 a_18 (lnok_S c15).1 (lnok_S c15).2 (by decide) (by decide) (by decide) ?_
  rw [← eh14]
  replace hF := lt_S hF
  obtain ⟨h16, eh17, hF⟩ := hF
  refine hJ.putRF dX5_init_33 f_RX5_28 rfl rfl trivial (Or.inr rfl) rfl ?_
  rw [← eh17]
  obtain ⟨-, rfl⟩ := ret_S hF
  exact hR dX5_init_36 (by decide) (by decide)

set_option maxHeartbeats 4000000 in
set_option maxRecDepth 100000 in
theorem c_X5_tell {x0 : Nat} {x1 : Int32} {x2 : Int32} {x3 : Int32} {h hh : Hp} {xr : Int32} (hF : F_X5_tell x0 x1 x2 x3 h = some (xr, hh)) : Ctr yX5_tell cX5_tell 4 (some .boolean) 0 0 0 [.inr (5, (some x0)), .inl x1, .inl x2, .inl x3] h (some (.inl xr)) hh := by
  refine Ctr_z (own := RX5) (ini := False) (ls0 := [some (.inr (5, (some x0))), some (.inl x1), some (.inl x2), some (.inl x3)]) (by decide) rfl (Nat.le_of_ble_eq_true rfl) (fun e => e.elim) rfl ?_
  intro J hJ hR
  unfold F_X5_tell at hF
  refine hJ.aload_n (i := 0) dX5_tell_0 rfl rfl ?_
  refine hJ.getI dX5_tell_1 f_RX5_9 rfl ?_
  refine hJ.aload_n (i := 0) dX5_tell_4 rfl rfl ?_
  refine hJ.getR dX5_tell_5 f_RX5_21 rfl ?_
  replace hF := nn_S hF
  obtain ⟨n1, e2, hF⟩ := hF
  rw [e2]
  refine hJ.alen dX5_tell_8 a_16 rfl ?_
  refine hJ.icmp_lt (tgt := 14) dX5_tell_9 (by decide) (fun e3 => ?_) (fun e3 => ?_)
  · replace hF := ite_T e3 hF
    refine hJ.aload_n (i := 0) dX5_tell_14 rfl rfl ?_
    refine hJ.getR dX5_tell_15 f_RX5_21 rfl ?_
    rw [e2]
    refine hJ.aload_n (i := 0) dX5_tell_18 rfl rfl ?_
    refine hJ.getI dX5_tell_19 f_RX5_9 rfl ?_
    refine hJ.iload_n (i := 1) dX5_tell_22 rfl rfl ?_
    replace hF := ck_S hF
    obtain ⟨c4, hF⟩ := hF
    replace hF := lt_S hF
    obtain ⟨h5, eh6, hF⟩ := hF
    refine hJ.iast dX5_tell_23 a_16 rfl c4 ?_
    rw [← eh6]
    refine hJ.aload_n (i := 0) dX5_tell_24 rfl rfl ?_
    refine hJ.getR dX5_tell_25 f_RX5_25 rfl ?_
    refine hJ.aload_n (i := 0) dX5_tell_28 rfl rfl ?_
    refine hJ.getI dX5_tell_29 f_RX5_9 rfl ?_
    refine hJ.iload_n (i := 2) dX5_tell_32 rfl rfl ?_
    replace hF := nn_S hF
    obtain ⟨n7, e8, hF⟩ := hF
    rw [e8]
    replace hF := ck_S hF
    obtain ⟨c9, hF⟩ := hF
    replace hF := lt_S hF
    obtain ⟨h10, eh11, hF⟩ := hF
    refine hJ.iast dX5_tell_33 a_17 rfl c9 ?_
    rw [← eh11]
    refine hJ.aload_n (i := 0) dX5_tell_34 rfl rfl ?_
    refine hJ.getR dX5_tell_35 f_RX5_28 rfl ?_
    refine hJ.aload_n (i := 0) dX5_tell_38 rfl rfl ?_
    refine hJ.getI dX5_tell_39 f_RX5_9 rfl ?_
    refine hJ.iload_n (i := 3) dX5_tell_42 rfl rfl ?_
    replace hF := nn_S hF
    obtain ⟨n12, e13, hF⟩ := hF
    rw [e13]
    replace hF := ck_S hF
    obtain ⟨c14, hF⟩ := hF
    replace hF := lt_S hF
    obtain ⟨h15, eh16, hF⟩ := hF
    refine hJ.iast dX5_tell_43 a_18 rfl c14 ?_
    rw [← eh16]
    refine hJ.aload_n (i := 0) dX5_tell_44 rfl rfl ?_
    refine hJ.dup dX5_tell_45 ?_
    refine hJ.getI dX5_tell_46 f_RX5_9 rfl ?_
    refine hJ.iconst (v := 1) dX5_tell_49 (by decide) ?_
    refine hJ.iadd dX5_tell_50 ?_
    replace hF := lt_S hF
    obtain ⟨h17, eh18, hF⟩ := hF
    refine hJ.putI dX5_tell_51 f_RX5_9 rfl nar_i rfl ?_
    rw [← eh18]
    refine hJ.iconst (v := 1) dX5_tell_54 (by decide) ?_
    obtain ⟨rfl, rfl⟩ := ret_S hF
    exact hR dX5_tell_55 (by decide) (by decide) (by decide)
  · replace hF := ite_F e3 hF
    refine hJ.iconst (v := 0) dX5_tell_12 (by decide) ?_
    obtain ⟨rfl, rfl⟩ := ret_S hF
    exact hR dX5_tell_13 (by decide) (by decide) (by decide)

set_option maxHeartbeats 4000000 in
set_option maxRecDepth 100000 in
theorem t_X5_inForce_8 {β : Type} {J : JT} (hJ : Rules cX5_inForce RX5 6 0 0 0 False J) {a b : Nat} (ha : a ≤ 0) (hb : b ≤ 0) {v0 : Nat} {v1 : Int32} {v2 : Int32} {κ74 : Int32 → Hp → Option β} {out : β}
    (hk74 : ∀ (k3 : Int32) (h : Hp), κ74 k3 h = some out → J 74 [none, none, none, some (.inl k3), none, none] [] h a b)
    : ∀ (f : Nat) (v3 : Int32) (v4 : Int32) (v5 : Int32) (h : Hp), L_X5_inForce_8 v0 v1 v2 κ74 f v3 v4 v5 h = some out → J 8 [some (.inr (5, (some v0))), some (.inl v1), some (.inl v2), some (.inl v3), some (.inl v4), some (.inl v5)] [] h a b := by
  intro f
  induction f with
  | zero => intro v3 v4 v5 h hF; simp [L_X5_inForce_8] at hF
  | succ f ih =>
    intro v3 v4 v5 h hF
    rw [L_X5_inForce_8] at hF
    refine hJ.iload (i := 5) dX5_inForce_8 rfl ?_
    refine hJ.aload_n (i := 0) dX5_inForce_10 rfl rfl ?_
    refine hJ.getI dX5_inForce_11 f_RX5_9 rfl ?_
    refine hJ.icmp_ge (tgt := 74) dX5_inForce_14 (by decide) (fun e1 => ?_) (fun e1 => ?_)
    · replace hF := ite_T e1 hF
      refine hJ.forget (ls2 := [none, none, none, some (.inl v3), none, none]) ⟨rfl, trivial⟩ ?_
      exact hk74 v3 h hF
    · replace hF := ite_F e1 hF
      refine hJ.aload_n (i := 0) dX5_inForce_17 rfl rfl ?_
      refine hJ.getR dX5_inForce_18 f_RX5_21 rfl ?_
      refine hJ.iload (i := 5) dX5_inForce_21 rfl ?_
      replace hF := nn_S hF
      obtain ⟨n2, e3, hF⟩ := hF
      rw [e3]
      replace hF := ck_S hF
      obtain ⟨c4, hF⟩ := hF
      refine hJ.iald dX5_inForce_23 a_16 rfl c4 ?_
      refine hJ.iload_n (i := 1) dX5_inForce_24 rfl rfl ?_
      refine hJ.icmp_ne (tgt := 68) dX5_inForce_25 (by decide) (fun e5 => ?_) (fun e5 => ?_)
      · replace hF := ite_F e5 hF
        refine hJ.iinc (i := 5) (v := (v5 + (1 : Int32))) (ls2 := [some (.inr (5, (some v0))), some (.inl v1), some (.inl v2), some (.inl v3), some (.inl v4), some (.inl (v5 + (1 : Int32)))]) dX5_inForce_68 rfl (addI (by decide)) (by decide) rfl ?_
        refine hJ.goto (tgt := 8) dX5_inForce_71 (by decide) ?_
        refine hJ.forget (ls2 := [some (.inr (5, (some v0))), some (.inl v1), some (.inl v2), some (.inl v3), some (.inl v4), some (.inl (v5 + (1 : Int32)))]) ⟨rfl, rfl, rfl, rfl, rfl, rfl, trivial⟩ ?_
        exact ih v3 v4 (v5 + (1 : Int32)) h hF
      · replace hF := ite_T e5 hF
        refine hJ.aload_n (i := 0) dX5_inForce_28 rfl rfl ?_
        refine hJ.getR dX5_inForce_29 f_RX5_25 rfl ?_
        refine hJ.iload (i := 5) dX5_inForce_32 rfl ?_
        replace hF := nn_S hF
        obtain ⟨n6, e7, hF⟩ := hF
        rw [e7]
        replace hF := ck_S hF
        obtain ⟨c8, hF⟩ := hF
        refine hJ.iald dX5_inForce_34 a_17 rfl c8 ?_
        refine hJ.iload_n (i := 2) dX5_inForce_35 rfl rfl ?_
        refine hJ.icmp_gt (tgt := 68) dX5_inForce_36 (by decide) (fun e9 => ?_) (fun e9 => ?_)
        · replace hF := ite_T e9 hF
          refine hJ.iinc (i := 5) (v := (v5 + (1 : Int32))) (ls2 := [some (.inr (5, (some v0))), some (.inl v1), some (.inl v2), some (.inl v3), some (.inl v4), some (.inl (v5 + (1 : Int32)))]) dX5_inForce_68 rfl (addI (by decide)) (by decide) rfl ?_
          refine hJ.goto (tgt := 8) dX5_inForce_71 (by decide) ?_
          refine hJ.forget (ls2 := [some (.inr (5, (some v0))), some (.inl v1), some (.inl v2), some (.inl v3), some (.inl v4), some (.inl (v5 + (1 : Int32)))]) ⟨rfl, rfl, rfl, rfl, rfl, rfl, trivial⟩ ?_
          exact ih v3 v4 (v5 + (1 : Int32)) h hF
        · replace hF := ite_F e9 hF
          refine hJ.aload_n (i := 0) dX5_inForce_39 rfl rfl ?_
          refine hJ.getR dX5_inForce_40 f_RX5_25 rfl ?_
          rw [e7]
          refine hJ.iload (i := 5) dX5_inForce_43 rfl ?_
          replace hF := ck_S hF
          obtain ⟨c10, hF⟩ := hF
          refine hJ.iald dX5_inForce_45 a_17 rfl c10 ?_
          refine hJ.iload (i := 4) dX5_inForce_46 rfl ?_
          refine hJ.icmp_lt (tgt := 68) dX5_inForce_48 (by decide) (fun e11 => ?_) (fun e11 => ?_)
          · replace hF := ite_T e11 hF
            refine hJ.iinc (i := 5) (v := (v5 + (1 : Int32))) (ls2 := [some (.inr (5, (some v0))), some (.inl v1), some (.inl v2), some (.inl v3), some (.inl v4), some (.inl (v5 + (1 : Int32)))]) dX5_inForce_68 rfl (addI (by decide)) (by decide) rfl ?_
            refine hJ.goto (tgt := 8) dX5_inForce_71 (by decide) ?_
            refine hJ.forget (ls2 := [some (.inr (5, (some v0))), some (.inl v1), some (.inl v2), some (.inl v3), some (.inl v4), some (.inl (v5 + (1 : Int32)))]) ⟨rfl, rfl, rfl, rfl, rfl, rfl, trivial⟩ ?_
            exact ih v3 v4 (v5 + (1 : Int32)) h hF
          · replace hF := ite_F e11 hF
            refine hJ.aload_n (i := 0) dX5_inForce_51 rfl rfl ?_
            refine hJ.getR dX5_inForce_52 f_RX5_25 rfl ?_
            rw [e7]
            refine hJ.iload (i := 5) dX5_inForce_55 rfl ?_
            replace hF := ck_S hF
            obtain ⟨c12, hF⟩ := hF
            refine hJ.iald dX5_inForce_57 a_17 rfl c12 ?_
            refine hJ.istore (i := 4) (ls2 := [some (.inr (5, (some v0))), some (.inl v1), some (.inl v2), some (.inl v3), some (.inl (pI h 17 n6 (v5).toNatClampNeg)), some (.inl v5)]) dX5_inForce_58 (by decide) rfl ?_
            refine hJ.aload_n (i := 0) dX5_inForce_60 rfl rfl ?_
            refine hJ.getR dX5_inForce_61 f_RX5_28 rfl ?_
            refine hJ.iload (i := 5) dX5_inForce_64 rfl ?_
            replace hF := nn_S hF
            obtain ⟨n13, e14, hF⟩ := hF
            rw [e14]
            replace hF := ck_S hF
            obtain ⟨c15, hF⟩ := hF
            refine hJ.iald dX5_inForce_66 a_18 rfl c15 ?_
            refine hJ.istore_n (i := 3) (ls2 := [some (.inr (5, (some v0))), some (.inl v1), some (.inl v2), some (.inl (pI h 18 n13 (v5).toNatClampNeg)), some (.inl (pI h 17 n6 (v5).toNatClampNeg)), some (.inl v5)]) dX5_inForce_67 rfl (by decide) rfl ?_
            refine hJ.iinc (i := 5) (v := (v5 + (1 : Int32))) (ls2 := [some (.inr (5, (some v0))), some (.inl v1), some (.inl v2), some (.inl (pI h 18 n13 (v5).toNatClampNeg)), some (.inl (pI h 17 n6 (v5).toNatClampNeg)), some (.inl (v5 + (1 : Int32)))]) dX5_inForce_68 rfl (addI (by decide)) (by decide) rfl ?_
            refine hJ.goto (tgt := 8) dX5_inForce_71 (by decide) ?_
            refine hJ.forget (ls2 := [some (.inr (5, (some v0))), some (.inl v1), some (.inl v2), some (.inl (pI h 18 n13 (v5).toNatClampNeg)), some (.inl (pI h 17 n6 (v5).toNatClampNeg)), some (.inl (v5 + (1 : Int32)))]) ⟨rfl, rfl, rfl, rfl, rfl, rfl, trivial⟩ ?_
            exact ih (pI h 18 n13 (v5).toNatClampNeg) (pI h 17 n6 (v5).toNatClampNeg) (v5 + (1 : Int32)) h hF

set_option maxHeartbeats 4000000 in
set_option maxRecDepth 100000 in
theorem c_X5_inForce {x0 : Nat} {x1 : Int32} {x2 : Int32} {h hh : Hp} {xr : Int32} (hF : F_X5_inForce x0 x1 x2 h = some (xr, hh)) : Ctr yX5_inForce cX5_inForce 6 (some .int) 0 0 0 [.inr (5, (some x0)), .inl x1, .inl x2] h (some (.inl xr)) hh := by
  refine Ctr_i (own := RX5) (ini := False) (ls0 := [some (.inr (5, (some x0))), some (.inl x1), some (.inl x2), none, none, none]) (by decide) rfl (Nat.le_of_ble_eq_true rfl) (fun e => e.elim) rfl ?_
  intro J hJ hR
  unfold F_X5_inForce at hF
  refine hJ.iconst (v := 0) dX5_inForce_0 (by decide) ?_
  refine hJ.istore_n (i := 3) (ls2 := [some (.inr (5, (some x0))), some (.inl x1), some (.inl x2), some (.inl (0 : Int32)), none, none]) dX5_inForce_1 rfl (by decide) rfl ?_
  refine hJ.iconst (v := -1) dX5_inForce_2 (by decide) ?_
  refine hJ.istore (i := 4) (ls2 := [some (.inr (5, (some x0))), some (.inl x1), some (.inl x2), some (.inl (0 : Int32)), some (.inl (-1 : Int32)), none]) dX5_inForce_3 (by decide) rfl ?_
  refine hJ.iconst (v := 0) dX5_inForce_5 (by decide) ?_
  refine hJ.istore (i := 5) (ls2 := [some (.inr (5, (some x0))), some (.inl x1), some (.inl x2), some (.inl (0 : Int32)), some (.inl (-1 : Int32)), some (.inl (0 : Int32))]) dX5_inForce_6 (by decide) rfl ?_
  refine hJ.forget (ls2 := [some (.inr (5, (some x0))), some (.inl x1), some (.inl x2), some (.inl (0 : Int32)), some (.inl (-1 : Int32)), some (.inl (0 : Int32))]) ⟨rfl, rfl, rfl, rfl, rfl, rfl, trivial⟩ ?_
  refine t_X5_inForce_8 hJ (by decide) (by decide) (fun k16 h17 hF => ?_) FU _ _ _ _ hF
  refine hJ.iload_n (i := 3) dX5_inForce_74 rfl rfl ?_
  obtain ⟨rfl, rfl⟩ := ret_S hF
  exact hR dX5_inForce_75 (by decide) (by decide)

set_option maxHeartbeats 4000000 in
set_option maxRecDepth 100000 in
theorem c_X6_init {x0 : Nat} {x1 : Int32} {x2 : Int32} {x3 : Int32} {x4 : Option Nat} {h hh : Hp} {xr : Unit} (hF : F_X6_init x0 x1 x2 x3 x4 h = some (xr, hh)) : Ctr yX6_init cX6_init 5 none 1 0 0 [.inr (6, (some x0)), .inl x1, .inl x2, .inl x3, .inr (4, x4)] h none hh := by
  refine Ctr_v (own := RX6) (ini := True) (ls0 := [some (.inr (6, (some x0))), some (.inl x1), some (.inl x2), some (.inl x3), some (.inr (4, x4))]) (by decide) rfl (Nat.le_of_ble_eq_true rfl) (fun _ => rfl) rfl ?_
  intro J hJ hR
  unfold F_X6_init at hF
  refine hJ.aload_n (i := 0) dX6_init_0 rfl rfl ?_
  refine hJ.objInit dX6_init_1 w_RX6_3 rfl (by decide) (Nat.le_of_ble_eq_true rfl) ?_
  refine hJ.aload_n (i := 0) dX6_init_4 rfl rfl ?_
  refine hJ.null (kk := 2) dX6_init_5 ?_
  replace hF := lt_S hF
  obtain ⟨h1, eh2, hF⟩ := hF
  refine hJ.putR dX6_init_6 f_RX6_9 rfl (Or.inr rfl) rfl ?_
  rw [← eh2]
  refine hJ.aload_n (i := 0) dX6_init_9 rfl rfl ?_
  refine hJ.iconst (v := -1) dX6_init_10 (by decide) ?_
  replace hF := lt_S hF
  obtain ⟨h3, eh4, hF⟩ := hF
  refine hJ.putI dX6_init_11 f_RX6_15 rfl nar_i rfl ?_
  rw [← eh4]
  refine hJ.aload_n (i := 0) dX6_init_14 rfl rfl ?_
  refine hJ.iload_n (i := 1) dX6_init_15 rfl rfl ?_
  replace hF := lt_S hF
  obtain ⟨h5, eh6, hF⟩ := hF
  refine hJ.putIF dX6_init_16 f_RX6_19 rfl rfl trivial nar_i rfl ?_
  rw [← eh6]
  refine hJ.aload_n (i := 0) dX6_init_19 rfl rfl ?_
  refine hJ.iload_n (i := 2) dX6_init_20 rfl rfl ?_
  replace hF := lt_S hF
  obtain ⟨h7, eh8, hF⟩ := hF
  refine hJ.putIF dX6_init_21 f_RX6_22 rfl rfl trivial nar_i rfl ?_
  rw [← eh8]
  refine hJ.aload_n (i := 0) dX6_init_24 rfl rfl ?_
  refine hJ.iload_n (i := 3) dX6_init_25 rfl rfl ?_
  refine hJ.bipush (v := 100) dX6_init_26 (by decide) ?_
  refine hJ.idiv dX6_init_28 (by decide) ?_
  replace hF := lt_S hF
  obtain ⟨h9, eh10, hF⟩ := hF
  refine hJ.putIF dX6_init_29 f_RX6_25 rfl rfl trivial nar_i rfl ?_
  rw [← eh10]
  refine hJ.aload_n (i := 0) dX6_init_32 rfl rfl ?_
  refine hJ.iload_n (i := 3) dX6_init_33 rfl rfl ?_
  refine hJ.bipush (v := 10) dX6_init_34 (by decide) ?_
  refine hJ.idiv dX6_init_36 (by decide) ?_
  refine hJ.bipush (v := 10) dX6_init_37 (by decide) ?_
  refine hJ.irem dX6_init_39 (by decide) ?_
  replace hF := lt_S hF
  obtain ⟨h11, eh12, hF⟩ := hF
  refine hJ.putIF dX6_init_40 f_RX6_28 rfl rfl trivial nar_i rfl ?_
  rw [← eh12]
  refine hJ.aload_n (i := 0) dX6_init_43 rfl rfl ?_
  refine hJ.iload_n (i := 3) dX6_init_44 rfl rfl ?_
  refine hJ.bipush (v := 10) dX6_init_45 (by decide) ?_
  refine hJ.irem dX6_init_47 (by decide) ?_
  replace hF := lt_S hF
  obtain ⟨h13, eh14, hF⟩ := hF
  refine hJ.putIF dX6_init_48 f_RX6_31 rfl rfl trivial nar_i rfl ?_
  rw [← eh14]
  refine hJ.aload_n (i := 0) dX6_init_51 rfl rfl ?_
  refine hJ.aload (i := 4) dX6_init_52 rfl ?_
  replace hF := lt_S hF
  obtain ⟨h15, eh16, hF⟩ := hF
  refine hJ.putR dX6_init_54 f_RX6_34 rfl (Or.inr rfl) rfl ?_
  rw [← eh16]
  obtain ⟨-, rfl⟩ := ret_S hF
  exact hR dX6_init_57 (by decide) (by decide)

set_option maxHeartbeats 4000000 in
set_option maxRecDepth 100000 in
theorem c_X7_isOwner {x0 : Int32} {h hh : Hp} {xr : Int32} (hF : F_X7_isOwner x0 h = some (xr, hh)) : Ctr yX7_isOwner cX7_isOwner 1 (some .boolean) 1 0 0 [.inl x0] h (some (.inl xr)) hh := by
  refine Ctr_z (own := RX7) (ini := False) (ls0 := [some (.inl x0)]) (by decide) rfl (Nat.le_of_ble_eq_true rfl) (fun e => e.elim) rfl ?_
  intro J hJ hR
  unfold F_X7_isOwner at hF
  refine hJ.iload_n (i := 0) dX7_isOwner_0 rfl rfl ?_
  refine hJ.iconst (v := 0) dX7_isOwner_1 (by decide) ?_
  refine hJ.bipush (v := 7) dX7_isOwner_2 (by decide) ?_
  replace hF := cl_S hF
  obtain ⟨r1, h2, ec3, hF⟩ := hF
  refine hJ.callS (as := [.inl x0, .inl (0 : Int32), .inl (7 : Int32)]) (st := []) dX7_isOwner_4 w_RX7_109 (c_X7_within ec3) (by decide) (by decide) (by decide) rfl (Nat.le_of_ble_eq_true rfl) rfl ?_
  replace hF := ck_S hF
  obtain ⟨c4, hF⟩ := hF
  obtain ⟨rfl, rfl⟩ := ret_S hF
  exact hR dX7_isOwner_7 (isz_S c4) (by decide) (by decide)

set_option maxHeartbeats 4000000 in
set_option maxRecDepth 100000 in
theorem c_X6_canBe {x0 : Int32} {h hh : Hp} {xr : Int32} (hF : F_X6_canBe x0 h = some (xr, hh)) : Ctr yX6_canBe cX6_canBe 1 (some .boolean) 2 0 0 [.inl x0] h (some (.inl xr)) hh := by
  refine Ctr_z (own := RX6) (ini := False) (ls0 := [some (.inl x0)]) (by decide) rfl (Nat.le_of_ble_eq_true rfl) (fun e => e.elim) rfl ?_
  intro J hJ hR
  unfold F_X6_canBe at hF
  refine hJ.iload_n (i := 0) dX6_canBe_0 rfl rfl ?_
  refine hJ.if_lt (tgt := 46) dX6_canBe_1 (by decide) (fun e1 => ?_) (fun e1 => ?_)
  · replace hF := ite_T e1 hF
    refine hJ.iconst (v := 0) dX6_canBe_46 (by decide) ?_
    obtain ⟨rfl, rfl⟩ := ret_S hF
    exact hR dX6_canBe_47 (by decide) (by decide) (by decide)
  · replace hF := ite_F e1 hF
    refine hJ.iload_n (i := 0) dX6_canBe_4 rfl rfl ?_
    refine hJ.bipush (v := 100) dX6_canBe_5 (by decide) ?_
    refine hJ.idiv dX6_canBe_7 (by decide) ?_
    replace hF := cl_S hF
    obtain ⟨r2, h3, ec4, hF⟩ := hF
    refine hJ.callSN (as := [.inl (x0 / (100 : Int32))]) (st := []) dX6_canBe_8 w_RX6_38 (c_X7_isOwner ec4) (by decide) (by decide) (by decide) rfl (Nat.le_of_ble_eq_true rfl) rfl ?_
    refine hJ.if_eq (tgt := 46) dX6_canBe_11 (by decide) (fun e5 => ?_) (fun e5 => ?_)
    · replace hF := ite_T e5 hF
      refine hJ.iconst (v := 0) dX6_canBe_46 (by decide) ?_
      obtain ⟨rfl, rfl⟩ := ret_S hF
      exact hR dX6_canBe_47 (by decide) (by decide) (by decide)
    · replace hF := ite_F e5 hF
      refine hJ.iload_n (i := 0) dX6_canBe_14 rfl rfl ?_
      refine hJ.bipush (v := 10) dX6_canBe_15 (by decide) ?_
      refine hJ.idiv dX6_canBe_17 (by decide) ?_
      refine hJ.bipush (v := 10) dX6_canBe_18 (by decide) ?_
      refine hJ.irem dX6_canBe_20 (by decide) ?_
      refine hJ.iconst (v := 0) dX6_canBe_21 (by decide) ?_
      refine hJ.iconst (v := 3) dX6_canBe_22 (by decide) ?_
      replace hF := cl_S hF
      obtain ⟨r6, h7, ec8, hF⟩ := hF
      refine hJ.callSN (as := [.inl ((x0 / (10 : Int32)) - (x0 / (10 : Int32)) / (10 : Int32) * (10 : Int32)), .inl (0 : Int32), .inl (3 : Int32)]) (st := []) dX6_canBe_23 w_RX6_42 (c_X7_within ec8) (by decide) (by decide) (by decide) rfl (Nat.le_of_ble_eq_true rfl) rfl ?_
      refine hJ.if_eq (tgt := 46) dX6_canBe_26 (by decide) (fun e9 => ?_) (fun e9 => ?_)
      · replace hF := ite_T e9 hF
        refine hJ.iconst (v := 0) dX6_canBe_46 (by decide) ?_
        obtain ⟨rfl, rfl⟩ := ret_S hF
        exact hR dX6_canBe_47 (by decide) (by decide) (by decide)
      · replace hF := ite_F e9 hF
        refine hJ.iload_n (i := 0) dX6_canBe_29 rfl rfl ?_
        refine hJ.bipush (v := 10) dX6_canBe_30 (by decide) ?_
        refine hJ.irem dX6_canBe_32 (by decide) ?_
        refine hJ.iconst (v := 1) dX6_canBe_33 (by decide) ?_
        refine hJ.bipush (v := 9) dX6_canBe_34 (by decide) ?_
        replace hF := cl_S hF
        obtain ⟨r10, h11, ec12, hF⟩ := hF
        refine hJ.callSN (as := [.inl (x0 - x0 / (10 : Int32) * (10 : Int32)), .inl (1 : Int32), .inl (9 : Int32)]) (st := []) dX6_canBe_36 w_RX6_42 (c_X7_within ec12) (by decide) (by decide) (by decide) rfl (Nat.le_of_ble_eq_true rfl) rfl ?_
        refine hJ.if_eq (tgt := 46) dX6_canBe_39 (by decide) (fun e13 => ?_) (fun e13 => ?_)
        · replace hF := ite_T e13 hF
          refine hJ.iconst (v := 0) dX6_canBe_46 (by decide) ?_
          obtain ⟨rfl, rfl⟩ := ret_S hF
          exact hR dX6_canBe_47 (by decide) (by decide) (by decide)
        · replace hF := ite_F e13 hF
          refine hJ.iconst (v := 1) dX6_canBe_42 (by decide) ?_
          refine hJ.goto (tgt := 47) dX6_canBe_43 (by decide) ?_
          obtain ⟨rfl, rfl⟩ := ret_S hF
          exact hR dX6_canBe_47 (by decide) (by decide) (by decide)

set_option maxHeartbeats 4000000 in
set_option maxRecDepth 100000 in
theorem c_X6_state {x0 : Nat} {h hh : Hp} {xr : Int32} (hF : F_X6_state x0 h = some (xr, hh)) : Ctr yX6_state cX6_state 1 (some .int) 0 0 0 [.inr (6, (some x0))] h (some (.inl xr)) hh := by
  refine Ctr_i (own := RX6) (ini := False) (ls0 := [some (.inr (6, (some x0)))]) (by decide) rfl (Nat.le_of_ble_eq_true rfl) (fun e => e.elim) rfl ?_
  intro J hJ hR
  unfold F_X6_state at hF
  refine hJ.aload_n (i := 0) dX6_state_0 rfl rfl ?_
  refine hJ.getR dX6_state_1 f_RX6_34 rfl ?_
  refine hJ.ifnull (tgt := 9) dX6_state_4 (by decide) (fun e1 => ?_) (fun n2 e1 => ?_)
  · replace hF := onn_N e1 hF
    refine hJ.aload_n (i := 0) dX6_state_9 rfl rfl ?_
    refine hJ.getR dX6_state_10 f_RX6_9 rfl ?_
    refine hJ.ifnull (tgt := 18) dX6_state_13 (by decide) (fun e3 => ?_) (fun n4 e3 => ?_)
    · replace hF := onn_N e3 hF
      refine hJ.aload_n (i := 0) dX6_state_18 rfl rfl ?_
      refine hJ.getI dX6_state_19 f_RX6_15 rfl ?_
      refine hJ.iconst (v := -1) dX6_state_22 (by decide) ?_
      refine hJ.icmp_eq (tgt := 30) dX6_state_23 (by decide) (fun e5 => ?_) (fun e5 => ?_)
      · replace hF := ite_T e5 hF
        refine hJ.iconst (v := 3) dX6_state_30 (by decide) ?_
        obtain ⟨rfl, rfl⟩ := ret_S hF
        exact hR dX6_state_31 (by decide) (by decide)
      · replace hF := ite_F e5 hF
        refine hJ.iconst (v := 2) dX6_state_26 (by decide) ?_
        refine hJ.goto (tgt := 31) dX6_state_27 (by decide) ?_
        obtain ⟨rfl, rfl⟩ := ret_S hF
        exact hR dX6_state_31 (by decide) (by decide)
    · replace hF := onn_J e3 hF
      refine hJ.iconst (v := 1) dX6_state_16 (by decide) ?_
      obtain ⟨rfl, rfl⟩ := ret_S hF
      exact hR dX6_state_17 (by decide) (by decide)
  · replace hF := onn_J e1 hF
    refine hJ.iconst (v := 0) dX6_state_7 (by decide) ?_
    obtain ⟨rfl, rfl⟩ := ret_S hF
    exact hR dX6_state_8 (by decide) (by decide)

