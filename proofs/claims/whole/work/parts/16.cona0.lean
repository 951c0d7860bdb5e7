set_option maxHeartbeats 4000000 in
set_option maxRecDepth 100000 in
theorem c_X0_init {x0 : Nat} {x1 : Int32} {x2 : Option Nat} {h hh : Hp} {xr : Unit} (hF : F_X0_init x0 x1 x2 h = some (xr, hh)) : Ctr yX0_init cX0_init 3 none 1 0 0 [.inr (0, (some x0)), .inl x1, .inr (4, x2)] h none hh := by
  refine Ctr_v (own := RX0) (ini := True) (ls0 := [some (.inr (0, (some x0))), some (.inl x1), some (.inr (4, x2))]) (by decide) rfl (Nat.le_of_ble_eq_true rfl) (fun _ => rfl) rfl ?_
  intro J hJ hR
  unfold F_X0_init at hF
  refine hJ.aload_n (i := 0) dX0_init_0 rfl rfl ?_
  refine hJ.objInit dX0_init_1 w_RX0_3 rfl (by decide) (Nat.le_of_ble_eq_true rfl) ?_
  refine hJ.aload_n (i := 0) dX0_init_4 rfl rfl ?_
  refine hJ.null (kk := 2) dX0_init_5 ?_
  replace hF := lt_S hF
  obtain ⟨h1, eh2, hF⟩ := hF
  refine hJ.putR dX0_init_6 f_RX0_9 rfl (Or.inr rfl) rfl ?_
  rw [← eh2]
  refine hJ.aload_n (i := 0) dX0_init_9 rfl rfl ?_
  refine hJ.iconst (v := -1) dX0_init_10 (by decide) ?_
  replace hF := lt_S hF
  obtain ⟨h3, eh4, hF⟩ := hF
  refine hJ.putI dX0_init_11 f_RX0_15 rfl nar_i rfl ?_
  rw [← eh4]
  refine hJ.aload_n (i := 0) dX0_init_14 rfl rfl ?_
  refine hJ.bipush (v := -8) dX0_init_15 (by decide) ?_
  replace hF := lt_S hF
  obtain ⟨h5, eh6, hF⟩ := hF
  refine hJ.putI dX0_init_17 f_RX0_19 rfl nar_i rfl ?_
  rw [← eh6]
  refine hJ.aload_n (i := 0) dX0_init_20 rfl rfl ?_
  refine hJ.iload_n (i := 1) dX0_init_21 rfl rfl ?_
  replace hF := lt_S hF
  obtain ⟨h7, eh8, hF⟩ := hF
  refine hJ.putIF dX0_init_22 f_RX0_22 rfl rfl trivial nar_i rfl ?_
  rw [← eh8]
  refine hJ.aload_n (i := 0) dX0_init_25 rfl rfl ?_
  refine hJ.aload_n (i := 2) dX0_init_26 rfl rfl ?_
  replace hF := lt_S hF
  obtain ⟨h9, eh10, hF⟩ := hF
  refine hJ.putRF dX0_init_27 f_RX0_25 rfl rfl trivial (Or.inr rfl) rfl ?_
  rw [← eh10]
  refine hJ.aload_n (i := 0) dX0_init_30 rfl rfl ?_
  refine hJ.aload_n (i := 2) dX0_init_31 rfl rfl ?_
  replace hF := lt_S hF
  obtain ⟨h11, eh12, hF⟩ := hF
  refine hJ.putR dX0_init_32 f_RX0_29 rfl (Or.inr rfl) rfl ?_
  rw [← eh12]
  obtain ⟨-, rfl⟩ := ret_S hF
  exact hR dX0_init_35 (by decide) (by decide)

set_option maxHeartbeats 4000000 in
set_option maxRecDepth 100000 in
theorem c_X0_state {x0 : Nat} {h hh : Hp} {xr : Int32} (hF : F_X0_state x0 h = some (xr, hh)) : Ctr yX0_state cX0_state 1 (some .int) 0 0 0 [.inr (0, (some x0))] h (some (.inl xr)) hh := by
  refine Ctr_i (own := RX0) (ini := False) (ls0 := [some (.inr (0, (some x0)))]) (by decide) rfl (Nat.le_of_ble_eq_true rfl) (fun e => e.elim) rfl ?_
  intro J hJ hR
  unfold F_X0_state at hF
  refine hJ.aload_n (i := 0) dX0_state_0 rfl rfl ?_
  refine hJ.getR dX0_state_1 f_RX0_29 rfl ?_
  refine hJ.ifnull (tgt := 9) dX0_state_4 (by decide) (fun e1 => ?_) (fun n2 e1 => ?_)
  · replace hF := onn_N e1 hF
    refine hJ.aload_n (i := 0) dX0_state_9 rfl rfl ?_
    refine hJ.getR dX0_state_10 f_RX0_9 rfl ?_
    refine hJ.ifnull (tgt := 20) dX0_state_13 (by decide) (fun e3 => ?_) (fun n4 e3 => ?_)
    · replace hF := onn_N e3 hF
      refine hJ.iconst (v := 2) dX0_state_20 (by decide) ?_
      obtain ⟨rfl, rfl⟩ := ret_S hF
      exact hR dX0_state_21 (by decide) (by decide)
    · replace hF := onn_J e3 hF
      refine hJ.iconst (v := 1) dX0_state_16 (by decide) ?_
      refine hJ.goto (tgt := 21) dX0_state_17 (by decide) ?_
      obtain ⟨rfl, rfl⟩ := ret_S hF
      exact hR dX0_state_21 (by decide) (by decide)
  · replace hF := onn_J e1 hF
    refine hJ.iconst (v := 0) dX0_state_7 (by decide) ?_
    obtain ⟨rfl, rfl⟩ := ret_S hF
    exact hR dX0_state_8 (by decide) (by decide)

set_option maxHeartbeats 4000000 in
set_option maxRecDepth 100000 in
theorem c_X0_rests {x0 : Nat} {x1 : Int32} {h hh : Hp} {xr : Int32} (hF : F_X0_rests x0 x1 h = some (xr, hh)) : Ctr yX0_rests cX0_rests 2 (some .boolean) 0 0 0 [.inr (0, (some x0)), .inl x1] h (some (.inl xr)) hh := by
  refine Ctr_z (own := RX0) (ini := False) (ls0 := [some (.inr (0, (some x0))), some (.inl x1)]) (by decide) rfl (Nat.le_of_ble_eq_true rfl) (fun e => e.elim) rfl ?_
  intro J hJ hR
  unfold F_X0_rests at hF
  refine hJ.aload_n (i := 0) dX0_rests_0 rfl rfl ?_
  refine hJ.getR dX0_rests_1 f_RX0_29 rfl ?_
  refine hJ.ifnull (tgt := 22) dX0_rests_4 (by decide) (fun e1 => ?_) (fun n2 e1 => ?_)
  · replace hF := onn_N e1 hF
    refine hJ.iconst (v := 0) dX0_rests_22 (by decide) ?_
    obtain ⟨rfl, rfl⟩ := ret_S hF
    exact hR dX0_rests_23 (by decide) (by decide) (by decide)
  · replace hF := onn_J e1 hF
    refine hJ.iload_n (i := 1) dX0_rests_7 rfl rfl ?_
    refine hJ.aload_n (i := 0) dX0_rests_8 rfl rfl ?_
    refine hJ.getI dX0_rests_9 f_RX0_19 rfl ?_
    refine hJ.isub dX0_rests_12 ?_
    refine hJ.bipush (v := 8) dX0_rests_13 (by decide) ?_
    refine hJ.icmp_ge (tgt := 22) dX0_rests_15 (by decide) (fun e3 => ?_) (fun e3 => ?_)
    · replace hF := ite_T e3 hF
      refine hJ.iconst (v := 0) dX0_rests_22 (by decide) ?_
      obtain ⟨rfl, rfl⟩ := ret_S hF
      exact hR dX0_rests_23 (by decide) (by decide) (by decide)
    · replace hF := ite_F e3 hF
      refine hJ.iconst (v := 1) dX0_rests_18 (by decide) ?_
      refine hJ.goto (tgt := 23) dX0_rests_19 (by decide) ?_
      obtain ⟨rfl, rfl⟩ := ret_S hF
      exact hR dX0_rests_23 (by decide) (by decide) (by decide)

set_option maxHeartbeats 4000000 in
set_option maxRecDepth 100000 in
theorem c_X0_board {x0 : Nat} {x1 : Option Nat} {h hh : Hp} {xr : Unit} (hF : F_X0_board x0 x1 h = some (xr, hh)) : Ctr yX0_board cX0_board 2 none 0 0 0 [.inr (0, (some x0)), .inr (2, x1)] h none hh := by
  refine Ctr_v (own := RX0) (ini := False) (ls0 := [some (.inr (0, (some x0))), some (.inr (2, x1))]) (by decide) rfl (Nat.le_of_ble_eq_true rfl) (fun e => e.elim) rfl ?_
  intro J hJ hR
  unfold F_X0_board at hF
  refine hJ.aload_n (i := 0) dX0_board_0 rfl rfl ?_
  refine hJ.null (kk := 4) dX0_board_1 ?_
  replace hF := lt_S hF
  obtain ⟨h1, eh2, hF⟩ := hF
  refine hJ.putR dX0_board_2 f_RX0_29 rfl (Or.inr rfl) rfl ?_
  rw [← eh2]
  refine hJ.aload_n (i := 0) dX0_board_5 rfl rfl ?_
  refine hJ.aload_n (i := 1) dX0_board_6 rfl rfl ?_
  replace hF := lt_S hF
  obtain ⟨h3, eh4, hF⟩ := hF
  refine hJ.putR dX0_board_7 f_RX0_9 rfl (Or.inr rfl) rfl ?_
  rw [← eh4]
  refine hJ.aload_n (i := 1) dX0_board_10 rfl rfl ?_
  refine hJ.aload_n (i := 0) dX0_board_11 rfl rfl ?_
  replace hF := nn_S hF
  obtain ⟨n5, e6, hF⟩ := hF
  subst e6
  replace hF := lt_S hF
  obtain ⟨h7, eh8, hF⟩ := hF
  refine hJ.putR dX0_board_12 f_RX0_32 rfl (Or.inr rfl) rfl ?_
  rw [← eh8]
  obtain ⟨-, rfl⟩ := ret_S hF
  exact hR dX0_board_15 (by decide) (by decide)

set_option maxHeartbeats 4000000 in
set_option maxRecDepth 100000 in
theorem c_X2_state {x0 : Nat} {h hh : Hp} {xr : Int32} (hF : F_X2_state x0 h = some (xr, hh)) : Ctr yX2_state cX2_state 1 (some .int) 0 0 0 [.inr (2, (some x0))] h (some (.inl xr)) hh := by
  refine Ctr_i (own := RX2) (ini := False) (ls0 := [some (.inr (2, (some x0)))]) (by decide) rfl (Nat.le_of_ble_eq_true rfl) (fun e => e.elim) rfl ?_
  intro J hJ hR
  unfold F_X2_state at hF
  refine hJ.aload_n (i := 0) dX2_state_0 rfl rfl ?_
  refine hJ.getI dX2_state_1 f_RX2_17 rfl ?_
  refine hJ.if_ne (tgt := 9) dX2_state_4 (by decide) (fun e1 => ?_) (fun e1 => ?_)
  · replace hF := ite_F e1 hF
    refine hJ.aload_n (i := 0) dX2_state_9 rfl rfl ?_
    refine hJ.getR dX2_state_10 f_RX2_21 rfl ?_
    refine hJ.ifnonnull (tgt := 18) dX2_state_13 (by decide) (fun n3 e2 => ?_) (fun e2 => ?_)
    · replace hF := onn_J e2 hF
      refine hJ.aload_n (i := 0) dX2_state_18 rfl rfl ?_
      refine hJ.getI dX2_state_19 f_RX2_25 rfl ?_
      refine hJ.iconst (v := -1) dX2_state_22 (by decide) ?_
      refine hJ.icmp_ne (tgt := 30) dX2_state_23 (by decide) (fun e4 => ?_) (fun e4 => ?_)
      · replace hF := ite_F e4 hF
        refine hJ.iconst (v := 2) dX2_state_30 (by decide) ?_
        obtain ⟨rfl, rfl⟩ := ret_S hF
        exact hR dX2_state_31 (by decide) (by decide)
      · replace hF := ite_T e4 hF
        refine hJ.iconst (v := 1) dX2_state_26 (by decide) ?_
        refine hJ.goto (tgt := 31) dX2_state_27 (by decide) ?_
        obtain ⟨rfl, rfl⟩ := ret_S hF
        exact hR dX2_state_31 (by decide) (by decide)
    · replace hF := onn_N e2 hF
      refine hJ.iconst (v := 0) dX2_state_16 (by decide) ?_
      obtain ⟨rfl, rfl⟩ := ret_S hF
      exact hR dX2_state_17 (by decide) (by decide)
  · replace hF := ite_T e1 hF
    refine hJ.iconst (v := 3) dX2_state_7 (by decide) ?_
    obtain ⟨rfl, rfl⟩ := ret_S hF
    exact hR dX2_state_8 (by decide) (by decide)

set_option maxHeartbeats 4000000 in
set_option maxRecDepth 100000 in
theorem c_X2_landCrew {x0 : Nat} {h hh : Hp} {xr : Option Nat} (hF : F_X2_landCrew x0 h = some (xr, hh)) : Ctr yX2_landCrew cX2_landCrew 2 (some (.object RX0)) 0 0 0 [.inr (2, (some x0))] h (some (.inr (0, xr))) hh := by
  refine Ctr_a (own := RX2) (ini := False) (ls0 := [some (.inr (2, (some x0))), none]) (by decide) rfl (Nat.le_of_ble_eq_true rfl) (fun e => e.elim) rfl ?_
  intro J hJ hR
  unfold F_X2_landCrew at hF
  refine hJ.aload_n (i := 0) dX2_landCrew_0 rfl rfl ?_
  refine hJ.getR dX2_landCrew_1 f_RX2_21 rfl ?_
  refine hJ.astore_n (i := 1) (ls2 := [some (.inr (2, (some x0))), some (.inr (0, (pR h 2 x0 4)))]) dX2_landCrew_4 rfl (by decide) rfl ?_
  refine hJ.aload_n (i := 1) dX2_landCrew_5 rfl rfl ?_
  refine hJ.ifnull (tgt := 22) dX2_landCrew_6 (by decide) (fun e1 => ?_) (fun n2 e1 => ?_)
  · replace hF := onn_N e1 hF
    rw [e1]
    refine hJ.aload_n (i := 0) dX2_landCrew_22 rfl rfl ?_
    refine hJ.null (kk := 0) dX2_landCrew_23 ?_
    replace hF := lt_S hF
    obtain ⟨h3, eh4, hF⟩ := hF
    refine hJ.putR dX2_landCrew_24 f_RX2_21 rfl (Or.inr rfl) rfl ?_
    rw [← eh4]
    refine hJ.aload_n (i := 0) dX2_landCrew_27 rfl rfl ?_
    refine hJ.iconst (v := -1) dX2_landCrew_28 (by decide) ?_
    replace hF := lt_S hF
    obtain ⟨h5, eh6, hF⟩ := hF
    refine hJ.putI dX2_landCrew_29 f_RX2_25 rfl nar_i rfl ?_
    rw [← eh6]
    refine hJ.aload_n (i := 1) dX2_landCrew_32 rfl rfl ?_
    obtain ⟨rfl, rfl⟩ := ret_S hF
    exact hR dX2_landCrew_33 (Or.inr rfl) (by decide) (by decide)
  · replace hF := onn_J e1 hF
    rw [e1]
    refine hJ.aload_n (i := 1) dX2_landCrew_9 rfl rfl ?_
    refine hJ.null (kk := 2) dX2_landCrew_10 ?_
    replace hF := lt_S hF
    obtain ⟨h7, eh8, hF⟩ := hF
    refine hJ.putR dX2_landCrew_11 f_RX2_77 rfl (Or.inr rfl) rfl ?_
    rw [← eh8]
    refine hJ.aload_n (i := 1) dX2_landCrew_14 rfl rfl ?_
    refine hJ.aload_n (i := 0) dX2_landCrew_15 rfl rfl ?_
    refine hJ.getR dX2_landCrew_16 f_RX2_31 rfl ?_
    replace hF := lt_S hF
    obtain ⟨h9, eh10, hF⟩ := hF
    refine hJ.putR dX2_landCrew_19 f_RX2_83 rfl (Or.inr rfl) rfl ?_
    rw [← eh10]
    refine hJ.aload_n (i := 0) dX2_landCrew_22 rfl rfl ?_
    refine hJ.null (kk := 0) dX2_landCrew_23 ?_
    replace hF := lt_S hF
    obtain ⟨h11, eh12, hF⟩ := hF
    refine hJ.putR dX2_landCrew_24 f_RX2_21 rfl (Or.inr rfl) rfl ?_
    rw [← eh12]
    refine hJ.aload_n (i := 0) dX2_landCrew_27 rfl rfl ?_
    refine hJ.iconst (v := -1) dX2_landCrew_28 (by decide) ?_
    replace hF := lt_S hF
    obtain ⟨h13, eh14, hF⟩ := hF
    refine hJ.putI dX2_landCrew_29 f_RX2_25 rfl nar_i rfl ?_
    rw [← eh14]
    refine hJ.aload_n (i := 1) dX2_landCrew_32 rfl rfl ?_
    obtain ⟨rfl, rfl⟩ := ret_S hF
    exact hR dX2_landCrew_33 (Or.inr rfl) (by decide) (by decide)

set_option maxHeartbeats 4000000 in
set_option maxRecDepth 100000 in
theorem c_X0_comeBy {x0 : Nat} {x1 : Int32} {h hh : Hp} {xr : Unit} (hF : F_X0_comeBy x0 x1 h = some (xr, hh)) : Ctr yX0_comeBy cX0_comeBy 2 none 1 0 0 [.inr (0, (some x0)), .inl x1] h none hh := by
  refine Ctr_v (own := RX0) (ini := False) (ls0 := [some (.inr (0, (some x0))), some (.inl x1)]) (by decide) rfl (Nat.le_of_ble_eq_true rfl) (fun e => e.elim) rfl ?_
  intro J hJ hR
  unfold F_X0_comeBy at hF
  refine hJ.aload_n (i := 0) dX0_comeBy_0 rfl rfl ?_
  refine hJ.getI dX0_comeBy_1 f_RX0_15 rfl ?_
  refine hJ.iconst (v := -1) dX0_comeBy_4 (by decide) ?_
  refine hJ.icmp_eq (tgt := 37) dX0_comeBy_5 (by decide) (fun e1 => ?_) (fun e1 => ?_)
  · replace hF := ite_T e1 hF
    refine hJ.aload_n (i := 0) dX0_comeBy_37 rfl rfl ?_
    refine hJ.getR dX0_comeBy_38 f_RX0_9 rfl ?_
    refine hJ.ifnull (tgt := 79) dX0_comeBy_41 (by decide) (fun e2 => ?_) (fun n3 e2 => ?_)
    · replace hF := onn_N e2 hF
      obtain ⟨-, rfl⟩ := ret_S hF
      exact hR dX0_comeBy_79 (by decide) (by decide)
    · replace hF := onn_J e2 hF
      refine hJ.aload_n (i := 0) dX0_comeBy_44 rfl rfl ?_
      refine hJ.getR dX0_comeBy_45 f_RX0_9 rfl ?_
      rw [e2]
      replace hF := cl_S hF
      obtain ⟨r4, h5, ec6, hF⟩ := hF
      refine hJ.callV (as := []) (st := []) dX0_comeBy_48 w_RX0_38 ⟨by decide, rfl⟩ rfl (c_X2_state ec6) (by decide) (by decide) (by decide) rfl (Nat.le_of_ble_eq_true rfl) rfl ?_
      refine hJ.iconst (v := 2) dX0_comeBy_51 (by decide) ?_
      refine hJ.icmp_ne (tgt := 79) dX0_comeBy_52 (by decide) (fun e7 => ?_) (fun e7 => ?_)
      · replace hF := ite_F e7 hF
        obtain ⟨-, rfl⟩ := ret_S hF
        exact hR dX0_comeBy_79 (by decide) (by decide)
      · replace hF := ite_T e7 hF
        refine hJ.aload_n (i := 0) dX0_comeBy_55 rfl rfl ?_
        refine hJ.getR dX0_comeBy_56 f_RX0_9 rfl ?_
        replace hF := nn_S hF
        obtain ⟨n8, e9, hF⟩ := hF
        rw [e9]
        refine hJ.getI dX0_comeBy_59 f_RX0_42 rfl ?_
        refine hJ.iload_n (i := 1) dX0_comeBy_62 rfl rfl ?_
        refine hJ.icmp_gt (tgt := 79) dX0_comeBy_63 (by decide) (fun e10 => ?_) (fun e10 => ?_)
        · replace hF := ite_T e10 hF
          obtain ⟨-, rfl⟩ := ret_S hF
          exact hR dX0_comeBy_79 (by decide) (by decide)
        · replace hF := ite_F e10 hF
          refine hJ.aload_n (i := 0) dX0_comeBy_66 rfl rfl ?_
          refine hJ.getR dX0_comeBy_67 f_RX0_9 rfl ?_
          rw [e9]
          replace hF := cl_S hF
          obtain ⟨r11, h12, ec13, hF⟩ := hF
          refine hJ.callV (as := []) (st := []) dX0_comeBy_70 w_RX0_45 ⟨by decide, rfl⟩ rfl (c_X2_landCrew ec13) (by decide) (by decide) (by decide) rfl (Nat.le_of_ble_eq_true rfl) rfl ?_
          refine hJ.pop dX0_comeBy_73 ?_
          refine hJ.aload_n (i := 0) dX0_comeBy_74 rfl rfl ?_
          refine hJ.iload_n (i := 1) dX0_comeBy_75 rfl rfl ?_
          replace hF := lt_S hF
          obtain ⟨h14, eh15, hF⟩ := hF
          refine hJ.putI dX0_comeBy_76 f_RX0_19 rfl nar_i rfl ?_
          rw [← eh15]
          obtain ⟨-, rfl⟩ := ret_S hF
          exact hR dX0_comeBy_79 (by decide) (by decide)
  · replace hF := ite_F e1 hF
    refine hJ.aload_n (i := 0) dX0_comeBy_8 rfl rfl ?_
    refine hJ.getI dX0_comeBy_9 f_RX0_15 rfl ?_
    refine hJ.iload_n (i := 1) dX0_comeBy_12 rfl rfl ?_
    refine hJ.icmp_gt (tgt := 37) dX0_comeBy_13 (by decide) (fun e16 => ?_) (fun e16 => ?_)
    · replace hF := ite_T e16 hF
      refine hJ.aload_n (i := 0) dX0_comeBy_37 rfl rfl ?_
      refine hJ.getR dX0_comeBy_38 f_RX0_9 rfl ?_
      refine hJ.ifnull (tgt := 79) dX0_comeBy_41 (by decide) (fun e17 => ?_) (fun n18 e17 => ?_)
      · replace hF := onn_N e17 hF
        obtain ⟨-, rfl⟩ := ret_S hF
        exact hR dX0_comeBy_79 (by decide) (by decide)
      · replace hF := onn_J e17 hF
        refine hJ.aload_n (i := 0) dX0_comeBy_44 rfl rfl ?_
        refine hJ.getR dX0_comeBy_45 f_RX0_9 rfl ?_
        rw [e17]
        replace hF := cl_S hF
        obtain ⟨r19, h20, ec21, hF⟩ := hF
        refine hJ.callV (as := []) (st := []) dX0_comeBy_48 w_RX0_38 ⟨by decide, rfl⟩ rfl (c_X2_state ec21) (by decide) (by decide) (by decide) rfl (Nat.le_of_ble_eq_true rfl) rfl ?_
        refine hJ.iconst (v := 2) dX0_comeBy_51 (by decide) ?_
        refine hJ.icmp_ne (tgt := 79) dX0_comeBy_52 (by decide) (fun e22 => ?_) (fun e22 => ?_)
        · replace hF := ite_F e22 hF
          obtain ⟨-, rfl⟩ := ret_S hF
          exact hR dX0_comeBy_79 (by decide) (by decide)
        · replace hF := ite_T e22 hF
          refine hJ.aload_n (i := 0) dX0_comeBy_55 rfl rfl ?_
          refine hJ.getR dX0_comeBy_56 f_RX0_9 rfl ?_
          replace hF := nn_S hF
          obtain ⟨n23, e24, hF⟩ := hF
          rw [e24]
          refine hJ.getI dX0_comeBy_59 f_RX0_42 rfl ?_
          refine hJ.iload_n (i := 1) dX0_comeBy_62 rfl rfl ?_
          refine hJ.icmp_gt (tgt := 79) dX0_comeBy_63 (by decide) (fun e25 => ?_) (fun e25 => ?_)
          · replace hF := ite_T e25 hF
            obtain ⟨-, rfl⟩ := ret_S hF
            exact hR dX0_comeBy_79 (by decide) (by decide)
          · replace hF := ite_F e25 hF
            refine hJ.aload_n (i := 0) dX0_comeBy_66 rfl rfl ?_
            refine hJ.getR dX0_comeBy_67 f_RX0_9 rfl ?_
            rw [e24]
            replace hF := cl_S hF
            obtain ⟨r26, h27, ec28, hF⟩ := hF
            refine hJ.callV (as := []) (st := []) dX0_comeBy_70 w_RX0_45 ⟨by decide, rfl⟩ rfl (c_X2_landCrew ec28) (by decide) (by decide) (by decide) rfl (Nat.le_of_ble_eq_true rfl) rfl ?_
            refine hJ.pop dX0_comeBy_73 ?_
            refine hJ.aload_n (i := 0) dX0_comeBy_74 rfl rfl ?_
            refine hJ.iload_n (i := 1) dX0_comeBy_75 rfl rfl ?_
            replace hF := lt_S hF
            obtain ⟨h29, eh30, hF⟩ := hF
            refine hJ.putI dX0_comeBy_76 f_RX0_19 rfl nar_i rfl ?_
            rw [← eh30]
            obtain ⟨-, rfl⟩ := ret_S hF
            exact hR dX0_comeBy_79 (by decide) (by decide)
    · replace hF := ite_F e16 hF
      refine hJ.aload_n (i := 0) dX0_comeBy_16 rfl rfl ?_
      refine hJ.aload_n (i := 0) dX0_comeBy_17 rfl rfl ?_
      refine hJ.getR dX0_comeBy_18 f_RX0_25 rfl ?_
      replace hF := lt_S hF
      obtain ⟨h31, eh32, hF⟩ := hF
      refine hJ.putR dX0_comeBy_21 f_RX0_29 rfl (Or.inr rfl) rfl ?_
      rw [← eh32]
      refine hJ.aload_n (i := 0) dX0_comeBy_24 rfl rfl ?_
      refine hJ.iconst (v := -1) dX0_comeBy_25 (by decide) ?_
      replace hF := lt_S hF
      obtain ⟨h33, eh34, hF⟩ := hF
      refine hJ.putI dX0_comeBy_26 f_RX0_15 rfl nar_i rfl ?_
      rw [← eh34]
      refine hJ.aload_n (i := 0) dX0_comeBy_29 rfl rfl ?_
      refine hJ.iload_n (i := 1) dX0_comeBy_30 rfl rfl ?_
      replace hF := lt_S hF
      obtain ⟨h35, eh36, hF⟩ := hF
      refine hJ.putI dX0_comeBy_31 f_RX0_19 rfl nar_i rfl ?_
      rw [← eh36]
      refine hJ.goto (tgt := 79) dX0_comeBy_34 (by decide) ?_
      obtain ⟨-, rfl⟩ := ret_S hF
      exact hR dX0_comeBy_79 (by decide) (by decide)

set_option maxHeartbeats 4000000 in
set_option maxRecDepth 100000 in
theorem c_X1_init {x0 : Nat} {h hh : Hp} {xr : Unit} (hF : F_X1_init x0 h = some (xr, hh)) : Ctr yX1_init cX1_init 1 none 1 5 25 [.inr (1, (some x0))] h none hh := by
  refine Ctr_v (own := RX1) (ini := True) (ls0 := [some (.inr (1, (some x0)))]) (by decide) rfl (Nat.le_of_ble_eq_true rfl) (fun _ => rfl) rfl ?_
  intro J hJ hR
  unfold F_X1_init at hF
  refine hJ.aload_n (i := 0) dX1_init_0 rfl rfl ?_
  refine hJ.objInit dX1_init_1 w_RX1_3 rfl (by decide) (Nat.le_of_ble_eq_true rfl) ?_
  refine hJ.aload_n (i := 0) dX1_init_4 rfl rfl ?_
  refine hJ.iconst (v := 5) dX1_init_5 (by decide) ?_
  replace hF := lt_S hF
  obtain ⟨h1, eh2, hF⟩ := hF
  refine hJ.newq (N := 5) dX1_init_6 a_9 q_RX1_11 (by decide) (by decide) (by decide) (by decide) (by decide) ?_
  rw [← eh2]
  replace hF := lt_S hF
  obtain ⟨h3, eh4, hF⟩ := hF
  refine hJ.putRF dX1_init_9 f_RX1_13 rfl rfl trivial (Or.inr rfl) rfl ?_
  rw [← eh4]
  refine hJ.aload_n (i := 0) dX1_init_12 rfl rfl ?_
  refine hJ.iconst (v := 5) dX1_init_13 (by decide) ?_
  replace hF := lt_S hF
  obtain ⟨h5, eh6, hF⟩ := hF
  refine hJ.newa_int (N := 5) dX1_init_14 a_10 (by decide) (by decide) (by decide) (by decide) (by decide) ?_
  rw [← eh6]
  replace hF := lt_S hF
  obtain ⟨h7, eh8, hF⟩ := hF
  refine hJ.putRF dX1_init_16 f_RX1_17 rfl rfl trivial (Or.inr rfl) rfl ?_
  rw [← eh8]
  refine hJ.aload_n (i := 0) dX1_init_19 rfl rfl ?_
  refine hJ.iconst (v := 5) dX1_init_20 (by decide) ?_
  replace hF := lt_S hF
  obtain ⟨h9, eh10, hF⟩ := hF
  refine hJ.newa_int (N := 5) dX1_init_21 a_11 (by decide) (by decide) (by decide) (by decide) (by decide) ?_
  rw [← eh10]
  replace hF := lt_S hF
  obtain ⟨h11, eh12, hF⟩ := hF
  refine hJ.putRF dX1_init_23 f_RX1_21 rfl rfl trivial (Or.inr rfl) rfl ?_
  rw [← eh12]
  refine hJ.aload_n (i := 0) dX1_init_26 rfl rfl ?_
  refine hJ.iconst (v := 5) dX1_init_27 (by decide) ?_
  replace hF := lt_S hF
  obtain ⟨h13, eh14, hF⟩ := hF
  refine hJ.newa_int (N := 5) dX1_init_28 a_12 (by decide) (by decide) (by decide) (by decide) (by decide) ?_
  rw [← eh14]
  replace hF := lt_S hF
  obtain ⟨h15, eh16, hF⟩ := hF
  refine hJ.putRF dX1_init_30 f_RX1_24 rfl rfl trivial (Or.inr rfl) rfl ?_
  rw [← eh16]
  refine hJ.aload_n (i := 0) dX1_init_33 rfl rfl ?_
  refine hJ.iconst (v := 5) dX1_init_34 (by decide) ?_
  replace hF := lt_S hF
  obtain ⟨h17, eh18, hF⟩ := hF
  refine hJ.newa_int (N := 5) dX1_init_35 a_13 (by decide) (by decide) (by decide) (by decide) (by decide) ?_
  rw [← eh18]
  replace hF := lt_S hF
  obtain ⟨h19, eh20, hF⟩ := hF
  refine hJ.putRF dX1_init_37 f_RX1_27 rfl rfl trivial (Or.inr rfl) rfl ?_
  rw [← eh20]
  refine hJ.aload_n (i := 0) dX1_init_40 rfl rfl ?_
  refine hJ.iconst (v := 0) dX1_init_41 (by decide) ?_
  replace hF := lt_S hF
  obtain ⟨h21, eh22, hF⟩ := hF
  refine hJ.putI dX1_init_42 f_RX1_30 rfl nar_i rfl ?_
  rw [← eh22]
  refine hJ.aload_n (i := 0) dX1_init_45 rfl rfl ?_
  refine hJ.iconst (v := 0) dX1_init_46 (by decide) ?_
  replace hF := lt_S hF
  obtain ⟨h23, eh24, hF⟩ := hF
  refine hJ.putI dX1_init_47 f_RX1_34 rfl nar_i rfl ?_
  rw [← eh24]
  refine hJ.aload_n (i := 0) dX1_init_50 rfl rfl ?_
  refine hJ.iconst (v := -1) dX1_init_51 (by decide) ?_
  replace hF := lt_S hF
  obtain ⟨h25, eh26, hF⟩ := hF
  refine hJ.putI dX1_init_52 f_RX1_37 rfl nar_i rfl ?_
  rw [← eh26]
  obtain ⟨-, rfl⟩ := ret_S hF
  exact hR dX1_init_55 (by decide) (by decide)

set_option maxHeartbeats 4000000 in
set_option maxRecDepth 100000 in
theorem c_X1_clear {x0 : Nat} {h hh : Hp} {xr : Unit} (hF : F_X1_clear x0 h = some (xr, hh)) : Ctr yX1_clear cX1_clear 1 none 0 0 0 [.inr (1, (some x0))] h none hh := by
  refine Ctr_v (own := RX1) (ini := False) (ls0 := [some (.inr (1, (some x0)))]) (by decide) rfl (Nat.le_of_ble_eq_true rfl) (fun e => e.elim) rfl ?_
  intro J hJ hR
  unfold F_X1_clear at hF
  refine hJ.aload_n (i := 0) dX1_clear_0 rfl rfl ?_
  refine hJ.iconst (v := 0) dX1_clear_1 (by decide) ?_
  replace hF := lt_S hF
  obtain ⟨h1, eh2, hF⟩ := hF
  refine hJ.putI dX1_clear_2 f_RX1_30 rfl nar_i rfl ?_
  rw [← eh2]
  refine hJ.aload_n (i := 0) dX1_clear_5 rfl rfl ?_
  refine hJ.iconst (v := 0) dX1_clear_6 (by decide) ?_
  replace hF := lt_S hF
  obtain ⟨h3, eh4, hF⟩ := hF
  refine hJ.putI dX1_clear_7 f_RX1_34 rfl nar_i rfl ?_
  rw [← eh4]
  refine hJ.aload_n (i := 0) dX1_clear_10 rfl rfl ?_
  refine hJ.iconst (v := -1) dX1_clear_11 (by decide) ?_
  replace hF := lt_S hF
  obtain ⟨h5, eh6, hF⟩ := hF
  refine hJ.putI dX1_clear_12 f_RX1_37 rfl nar_i rfl ?_
  rw [← eh6]
  obtain ⟨-, rfl⟩ := ret_S hF
  exact hR dX1_clear_15 (by decide) (by decide)

set_option maxHeartbeats 4000000 in
set_option maxRecDepth 100000 in
theorem c_X1_admit {x0 : Nat} {x1 : Option Nat} {h hh : Hp} {xr : Unit} (hF : F_X1_admit x0 x1 h = some (xr, hh)) : Ctr yX1_admit cX1_admit 2 none 0 0 0 [.inr (1, (some x0)), .inr (2, x1)] h none hh := by
  refine Ctr_v (own := RX1) (ini := False) (ls0 := [some (.inr (1, (some x0))), some (.inr (2, x1))]) (by decide) rfl (Nat.le_of_ble_eq_true rfl) (fun e => e.elim) rfl ?_
  intro J hJ hR
  unfold F_X1_admit at hF
  refine hJ.aload_n (i := 0) dX1_admit_0 rfl rfl ?_
  refine hJ.getI dX1_admit_1 f_RX1_30 rfl ?_
  refine hJ.iconst (v := 5) dX1_admit_4 (by decide) ?_
  refine hJ.icmp_ge (tgt := 31) dX1_admit_5 (by decide) (fun e1 => ?_) (fun e1 => ?_)
  · replace hF := ite_T e1 hF
    refine hJ.aload_n (i := 0) dX1_admit_31 rfl rfl ?_
    refine hJ.dup dX1_admit_32 ?_
    refine hJ.getI dX1_admit_33 f_RX1_30 rfl ?_
    refine hJ.iconst (v := 1) dX1_admit_36 (by decide) ?_
    refine hJ.iadd dX1_admit_37 ?_
    replace hF := lt_S hF
    obtain ⟨h2, eh3, hF⟩ := hF
    refine hJ.putI dX1_admit_38 f_RX1_30 rfl nar_i rfl ?_
    rw [← eh3]
    obtain ⟨-, rfl⟩ := ret_S hF
    exact hR dX1_admit_41 (by decide) (by decide)
  · replace hF := ite_F e1 hF
    refine hJ.aload_n (i := 0) dX1_admit_8 rfl rfl ?_
    refine hJ.getR dX1_admit_9 f_RX1_13 rfl ?_
    refine hJ.aload_n (i := 0) dX1_admit_12 rfl rfl ?_
    refine hJ.getI dX1_admit_13 f_RX1_30 rfl ?_
    refine hJ.aload_n (i := 1) dX1_admit_16 rfl rfl ?_
    replace hF := nn_S hF
    obtain ⟨n4, e5, hF⟩ := hF
    rw [e5]
    replace hF := ck_S hF
    obtain ⟨c6, hF⟩ := hF
    replace hF := lt_S hF
    obtain ⟨h7, eh8, hF⟩ := hF
    refine hJ.aast dX1_admit_17 a_9 rfl c6 ?_
    rw [← eh8]
    refine hJ.aload_n (i := 0) dX1_admit_18 rfl rfl ?_
    refine hJ.getR dX1_admit_19 f_RX1_17 rfl ?_
    refine hJ.aload_n (i := 0) dX1_admit_22 rfl rfl ?_
    refine hJ.getI dX1_admit_23 f_RX1_30 rfl ?_
    refine hJ.aload_n (i := 0) dX1_admit_26 rfl rfl ?_
    refine hJ.getI dX1_admit_27 f_RX1_30 rfl ?_
    replace hF := nn_S hF
    obtain ⟨n9, e10, hF⟩ := hF
    rw [e10]
    replace hF := ck_S hF
    obtain ⟨c11, hF⟩ := hF
    replace hF := lt_S hF
    obtain ⟨h12, eh13, hF⟩ := hF
    refine hJ.iast dX1_admit_30 a_10 rfl c11 ?_
    rw [← eh13]
    refine hJ.aload_n (i := 0) dX1_admit_31 rfl rfl ?_
    refine hJ.dup dX1_admit_32 ?_
    refine hJ.getI dX1_admit_33 f_RX1_30 rfl ?_
    refine hJ.iconst (v := 1) dX1_admit_36 (by decide) ?_
    refine hJ.iadd dX1_admit_37 ?_
    replace hF := lt_S hF
    obtain ⟨h14, eh15, hF⟩ := hF
    refine hJ.putI dX1_admit_38 f_RX1_30 rfl nar_i rfl ?_
    rw [← eh15]
    obtain ⟨-, rfl⟩ := ret_S hF
    exact hR dX1_admit_41 (by decide) (by decide)

set_option maxHeartbeats 4000000 in
set_option maxRecDepth 100000 in
theorem c_X7_within {x0 : Int32} {x1 : Int32} {x2 : Int32} {h hh : Hp} {xr : Int32} (hF : F_X7_within x0 x1 x2 h = some (xr, hh)) : Ctr yX7_within cX7_within 3 (some .boolean) 0 0 0 [.inl x0, .inl x1, .inl x2] h (some (.inl xr)) hh := by
  refine Ctr_z (own := RX7) (ini := False) (ls0 := [some (.inl x0), some (.inl x1), some (.inl x2)]) (by decide) rfl (Nat.le_of_ble_eq_true rfl) (fun e => e.elim) rfl ?_
  intro J hJ hR
  unfold F_X7_within at hF
  refine hJ.iload_n (i := 0) dX7_within_0 rfl rfl ?_
  refine hJ.iload_n (i := 1) dX7_within_1 rfl rfl ?_
  refine hJ.icmp_lt (tgt := 14) dX7_within_2 (by decide) (fun e1 => ?_) (fun e1 => ?_)
  · replace hF := ite_T e1 hF
    refine hJ.iconst (v := 0) dX7_within_14 (by decide) ?_
    obtain ⟨rfl, rfl⟩ := ret_S hF
    exact hR dX7_within_15 (by decide) (by decide) (by decide)
  · replace hF := ite_F e1 hF
    refine hJ.iload_n (i := 0) dX7_within_5 rfl rfl ?_
    refine hJ.iload_n (i := 2) dX7_within_6 rfl rfl ?_
    refine hJ.icmp_gt (tgt := 14) dX7_within_7 (by decide) (fun e2 => ?_) (fun e2 => ?_)
    · replace hF := ite_T e2 hF
      refine hJ.iconst (v := 0) dX7_within_14 (by decide) ?_
      obtain ⟨rfl, rfl⟩ := ret_S hF
      exact hR dX7_within_15 (by decide) (by decide) (by decide)
    · replace hF := ite_F e2 hF
      refine hJ.iconst (v := 1) dX7_within_10 (by decide) ?_
      refine hJ.goto (tgt := 15) dX7_within_11 (by decide) ?_
      obtain ⟨rfl, rfl⟩ := ret_S hF
      exact hR dX7_within_15 (by decide) (by decide) (by decide)

set_option maxHeartbeats 4000000 in
set_option maxRecDepth 100000 in
theorem c_X1_raftIn {x0 : Nat} {x1 : Int32} {h hh : Hp} {xr : Int32} (hF : F_X1_raftIn x0 x1 h = some (xr, hh)) : Ctr yX1_raftIn cX1_raftIn 2 (some .int) 1 0 0 [.inr (1, (some x0)), .inl x1] h (some (.inl xr)) hh := by
  refine Ctr_i (own := RX1) (ini := False) (ls0 := [some (.inr (1, (some x0))), some (.inl x1)]) (by decide) rfl (Nat.le_of_ble_eq_true rfl) (fun e => e.elim) rfl ?_
  intro J hJ hR
  unfold F_X1_raftIn at hF
  refine hJ.iload_n (i := 1) dX1_raftIn_0 rfl rfl ?_
  refine hJ.iconst (v := 0) dX1_raftIn_1 (by decide) ?_
  refine hJ.aload_n (i := 0) dX1_raftIn_2 rfl rfl ?_
  refine hJ.getI dX1_raftIn_3 f_RX1_34 rfl ?_
  refine hJ.iconst (v := 1) dX1_raftIn_6 (by decide) ?_
  refine hJ.isub dX1_raftIn_7 ?_
  replace hF := cl_S hF
  obtain ⟨r1, h2, ec3, hF⟩ := hF
  refine hJ.callSN (as := [.inl x1, .inl (0 : Int32), .inl ((pI h 1 x0 6) - (1 : Int32))]) (st := []) dX1_raftIn_8 w_RX1_40 (c_X7_within ec3) (by decide) (by decide) (by decide) rfl (Nat.le_of_ble_eq_true rfl) rfl ?_
  refine hJ.if_eq (tgt := 31) dX1_raftIn_11 (by decide) (fun e4 => ?_) (fun e4 => ?_)
  · replace hF := ite_T e4 hF
    refine hJ.iconst (v := -1) dX1_raftIn_31 (by decide) ?_
    obtain ⟨rfl, rfl⟩ := ret_S hF
    exact hR dX1_raftIn_32 (by decide) (by decide)
  · replace hF := ite_F e4 hF
    refine hJ.aload_n (i := 0) dX1_raftIn_14 rfl rfl ?_
    refine hJ.getR dX1_raftIn_15 f_RX1_13 rfl ?_
    refine hJ.aload_n (i := 0) dX1_raftIn_18 rfl rfl ?_
    refine hJ.getR dX1_raftIn_19 f_RX1_24 rfl ?_
    refine hJ.iload_n (i := 1) dX1_raftIn_22 rfl rfl ?_
    replace hF := nn_S hF
    obtain ⟨n5, e6, hF⟩ := hF
    rw [e6]
    replace hF := ck_S hF
    obtain ⟨c7, hF⟩ := hF
    refine hJ.iald dX1_raftIn_23 a_12 rfl c7 ?_
    replace hF := nn_S hF
    obtain ⟨n8, e9, hF⟩ := hF
    rw [e9]
    replace hF := ck_S hF
    obtain ⟨c10, hF⟩ := hF
    refine hJ.aald dX1_raftIn_24 a_9 rfl c10 ?_
    replace hF := nn_S hF
    obtain ⟨n11, e12, hF⟩ := hF
    rw [e12]
    refine hJ.getI dX1_raftIn_25 f_RX1_44 rfl ?_
    refine hJ.goto (tgt := 32) dX1_raftIn_28 (by decide) ?_
    obtain ⟨rfl, rfl⟩ := ret_S hF
    exact hR dX1_raftIn_32 (by decide) (by decide)

set_option maxHeartbeats 4000000 in
set_option maxRecDepth 100000 in
theorem c_X1_hourOf {x0 : Nat} {x1 : Int32} {h hh : Hp} {xr : Int32} (hF : F_X1_hourOf x0 x1 h = some (xr, hh)) : Ctr yX1_hourOf cX1_hourOf 2 (some .int) 1 0 0 [.inr (1, (some x0)), .inl x1] h (some (.inl xr)) hh := by
  refine Ctr_i (own := RX1) (ini := False) (ls0 := [some (.inr (1, (some x0))), some (.inl x1)]) (by decide) rfl (Nat.le_of_ble_eq_true rfl) (fun e => e.elim) rfl ?_
  intro J hJ hR
  unfold F_X1_hourOf at hF
  refine hJ.iload_n (i := 1) dX1_hourOf_0 rfl rfl ?_
  refine hJ.iconst (v := 0) dX1_hourOf_1 (by decide) ?_
  refine hJ.aload_n (i := 0) dX1_hourOf_2 rfl rfl ?_
  refine hJ.getI dX1_hourOf_3 f_RX1_34 rfl ?_
  refine hJ.iconst (v := 1) dX1_hourOf_6 (by decide) ?_
  refine hJ.isub dX1_hourOf_7 ?_
  replace hF := cl_S hF
  obtain ⟨r1, h2, ec3, hF⟩ := hF
  refine hJ.callSN (as := [.inl x1, .inl (0 : Int32), .inl ((pI h 1 x0 6) - (1 : Int32))]) (st := []) dX1_hourOf_8 w_RX1_40 (c_X7_within ec3) (by decide) (by decide) (by decide) rfl (Nat.le_of_ble_eq_true rfl) rfl ?_
  refine hJ.if_eq (tgt := 23) dX1_hourOf_11 (by decide) (fun e4 => ?_) (fun e4 => ?_)
  · replace hF := ite_T e4 hF
    refine hJ.iconst (v := -1) dX1_hourOf_23 (by decide) ?_
    obtain ⟨rfl, rfl⟩ := ret_S hF
    exact hR dX1_hourOf_24 (by decide) (by decide)
  · replace hF := ite_F e4 hF
    refine hJ.aload_n (i := 0) dX1_hourOf_14 rfl rfl ?_
    refine hJ.getR dX1_hourOf_15 f_RX1_27 rfl ?_
    refine hJ.iload_n (i := 1) dX1_hourOf_18 rfl rfl ?_
    replace hF := nn_S hF
    obtain ⟨n5, e6, hF⟩ := hF
    rw [e6]
    replace hF := ck_S hF
    obtain ⟨c7, hF⟩ := hF
    refine hJ.iald dX1_hourOf_19 a_13 rfl c7 ?_
    refine hJ.goto (tgt := 24) dX1_hourOf_20 (by decide) ?_
    obtain ⟨rfl, rfl⟩ := ret_S hF
    exact hR dX1_hourOf_24 (by decide) (by decide)

set_option maxHeartbeats 4000000 in
set_option maxRecDepth 100000 in
theorem c_X2_need {x0 : Nat} {h hh : Hp} {xr : Int32} (hF : F_X2_need x0 h = some (xr, hh)) : Ctr yX2_need cX2_need 1 (some .int) 0 0 0 [.inr (2, (some x0))] h (some (.inl xr)) hh := by
  refine Ctr_i (own := RX2) (ini := False) (ls0 := [some (.inr (2, (some x0)))]) (by decide) rfl (Nat.le_of_ble_eq_true rfl) (fun e => e.elim) rfl ?_
  intro J hJ hR
  unfold F_X2_need at hF
  refine hJ.iconst (v := 5) dX2_need_0 (by decide) ?_
  refine hJ.aload_n (i := 0) dX2_need_1 rfl rfl ?_
  refine hJ.getI dX2_need_2 f_RX2_17 rfl ?_
  refine hJ.imul dX2_need_5 ?_
  obtain ⟨rfl, rfl⟩ := ret_S hF
  exact hR dX2_need_6 (by decide) (by decide)

set_option maxHeartbeats 4000000 in
set_option maxRecDepth 100000 in
theorem c_X1_hoursToFill {x0 : Int32} {x1 : Int32} {h hh : Hp} {xr : Int32} (hF : F_X1_hoursToFill x0 x1 h = some (xr, hh)) : Ctr yX1_hoursToFill cX1_hoursToFill 2 (some .int) 0 0 0 [.inl x0, .inl x1] h (some (.inl xr)) hh := by
  refine Ctr_i (own := RX1) (ini := False) (ls0 := [some (.inl x0), some (.inl x1)]) (by decide) rfl (Nat.le_of_ble_eq_true rfl) (fun e => e.elim) rfl ?_
  intro J hJ hR
  unfold F_X1_hoursToFill at hF
  refine hJ.iload_n (i := 0) dX1_hoursToFill_0 rfl rfl ?_
  refine hJ.if_gt (tgt := 6) dX1_hoursToFill_1 (by decide) (fun e1 => ?_) (fun e1 => ?_)
  · replace hF := ite_T e1 hF
    refine hJ.iload_n (i := 1) dX1_hoursToFill_6 rfl rfl ?_
    refine hJ.if_gt (tgt := 14) dX1_hoursToFill_7 (by decide) (fun e2 => ?_) (fun e2 => ?_)
    · replace hF := ite_T e2 hF
      refine hJ.iload_n (i := 0) dX1_hoursToFill_14 rfl rfl ?_
      refine hJ.iload_n (i := 1) dX1_hoursToFill_15 rfl rfl ?_
      refine hJ.iadd dX1_hoursToFill_16 ?_
      refine hJ.iconst (v := 1) dX1_hoursToFill_17 (by decide) ?_
      refine hJ.isub dX1_hoursToFill_18 ?_
      refine hJ.iload_n (i := 1) dX1_hoursToFill_19 rfl rfl ?_
      replace hF := ck_S hF
      obtain ⟨c3, hF⟩ := hF
      refine hJ.idiv dX1_hoursToFill_20 (nz_S c3) ?_
      obtain ⟨rfl, rfl⟩ := ret_S hF
      exact hR dX1_hoursToFill_21 (by decide) (by decide)
    · replace hF := ite_F e2 hF
      refine hJ.iconst (v := -1) dX1_hoursToFill_10 (by decide) ?_
      refine hJ.goto (tgt := 21) dX1_hoursToFill_11 (by decide) ?_
      obtain ⟨rfl, rfl⟩ := ret_S hF
      exact hR dX1_hoursToFill_21 (by decide) (by decide)
  · replace hF := ite_F e1 hF
    refine hJ.iconst (v := 0) dX1_hoursToFill_4 (by decide) ?_
    obtain ⟨rfl, rfl⟩ := ret_S hF
    exact hR dX1_hoursToFill_5 (by decide) (by decide)

set_option maxHeartbeats 4000000 in
set_option maxRecDepth 100000 in
theorem t_X1_sumOfHours_14 {β : Type} {J : JT} (hJ : Rules cX1_sumOfHours RX1 10 1 0 0 False J) {a b : Nat} (ha : a ≤ 0) (hb : b ≤ 0) {v0 : Nat} {v1 : Nat} {κ139 : Int32 → Hp → Option β} {κ60 : Hp → Option β} {out : β}
    (hk139 : ∀ (k3 : Int32) (h : Hp), κ139 k3 h = some out → J 139 [none, none, none, some (.inl k3), none, none, none, none, none, none] [] h a b)
    (hk60 : ∀ (h : Hp), κ60 h = some out → J 60 [none, none, none, none, none, none, none, none, none, none] [] h a b)
    : ∀ (f : Nat) (v3 : Int32) (v4 : Int32) (v5 : Int32) (v6 : Int32) (h : Hp), L_X1_sumOfHours_14 v0 v1 κ139 κ60 f v3 v4 v5 v6 h = some out → J 14 [some (.inr (1, (some v0))), some (.inr (4, (some v1))), none, some (.inl v3), some (.inl v4), some (.inl v5), some (.inl v6), none, none, none] [] h a b := by
  intro f
  induction f with
  | zero => intro v3 v4 v5 v6 h hF; simp [L_X1_sumOfHours_14] at hF
  | succ f ih =>
    intro v3 v4 v5 v6 h hF
    rw [L_X1_sumOfHours_14] at hF
    refine hJ.iload (i := 6) dX1_sumOfHours_14 rfl ?_
    refine hJ.aload_n (i := 0) dX1_sumOfHours_16 rfl rfl ?_
    refine hJ.getI dX1_sumOfHours_17 f_RX1_30 rfl ?_
    refine hJ.icmp_ge (tgt := 139) dX1_sumOfHours_20 (by decide) (fun e3 => ?_) (fun e3 => ?_)
    · replace hF := ite_T e3 hF
      refine hJ.forget (ls2 := [none, none, none, some (.inl v3), none, none, none, none, none, none]) ⟨rfl, trivial⟩ ?_
      exact hk139 v3 h hF
    · replace hF := ite_F e3 hF
      refine hJ.aload_n (i := 0) dX1_sumOfHours_23 rfl rfl ?_
      refine hJ.getR dX1_sumOfHours_24 f_RX1_13 rfl ?_
      refine hJ.aload_n (i := 0) dX1_sumOfHours_27 rfl rfl ?_
      refine hJ.getR dX1_sumOfHours_28 f_RX1_17 rfl ?_
      refine hJ.iload (i := 6) dX1_sumOfHours_31 rfl ?_
      replace hF := nn_S hF
      obtain ⟨n4, e5, hF⟩ := hF
      rw [e5]
      replace hF := ck_S hF
      obtain ⟨c6, hF⟩ := hF
      refine hJ.iald dX1_sumOfHours_33 a_10 rfl c6 ?_
      replace hF := nn_S hF
      obtain ⟨n7, e8, hF⟩ := hF
      rw [e8]
      replace hF := ck_S hF
      obtain ⟨c9, hF⟩ := hF
      refine hJ.aald dX1_sumOfHours_34 a_9 rfl c9 ?_
      replace hF := nn_S hF
      obtain ⟨n10, e11, hF⟩ := hF
      rw [e11]
      replace hF := cl_S hF
      obtain ⟨r12, h13, ec14, hF⟩ := hF
      refine hJ.callV (as := []) (st := []) dX1_sumOfHours_35 w_RX1_64 ⟨by decide, rfl⟩ rfl (c_X2_need ec14) (by decide) ha hb rfl (Nat.le_of_ble_eq_true rfl) rfl ?_
      refine hJ.istore (i := 7) (ls2 := [some (.inr (1, (some v0))), some (.inr (4, (some v1))), none, some (.inl v3), some (.inl v4), some (.inl v5), some (.inl v6), some (.inl r12), none, none]) dX1_sumOfHours_38 (by decide) rfl ?_
      refine hJ.iload (i := 7) dX1_sumOfHours_40 rfl ?_
      refine hJ.iload (i := 5) dX1_sumOfHours_42 rfl ?_
      refine hJ.isub dX1_sumOfHours_44 ?_
      refine hJ.aload_n (i := 1) dX1_sumOfHours_45 rfl rfl ?_
      refine hJ.getI dX1_sumOfHours_46 f_RX1_68 rfl ?_
      replace hF := cl_S hF
      obtain ⟨r15, h16, ec17, hF⟩ := hF
      refine hJ.callS (as := [.inl (r12 - v5), .inl (pI h13 4 v1 4)]) (st := []) dX1_sumOfHours_49 w_RX1_71 (c_X1_hoursToFill ec17) (by decide) ha hb rfl (Nat.le_of_ble_eq_true rfl) rfl ?_
      refine hJ.istore (i := 8) (ls2 := [some (.inr (1, (some v0))), some (.inr (4, (some v1))), none, some (.inl v3), some (.inl v4), some (.inl v5), some (.inl v6), some (.inl r12), some (.inl r15), none]) dX1_sumOfHours_52 (by decide) rfl ?_
      refine hJ.iload (i := 8) dX1_sumOfHours_54 rfl ?_
      refine hJ.iconst (v := -1) dX1_sumOfHours_56 (by decide) ?_
      refine hJ.icmp_ne (tgt := 62) dX1_sumOfHours_57 (by decide) (fun e18 => ?_) (fun e18 => ?_)
      · replace hF := ite_F e18 hF
        refine hJ.aload_n (i := 0) dX1_sumOfHours_62 rfl rfl ?_
        refine hJ.getR dX1_sumOfHours_63 f_RX1_21 rfl ?_
        refine hJ.iload (i := 6) dX1_sumOfHours_66 rfl ?_
        refine hJ.iload (i := 4) dX1_sumOfHours_68 rfl ?_
        refine hJ.iload (i := 8) dX1_sumOfHours_70 rfl ?_
        refine hJ.iadd dX1_sumOfHours_72 ?_
        replace hF := nn_S hF
        obtain ⟨n19, e20, hF⟩ := hF
        rw [e20]
        replace hF := ck_S hF
        obtain ⟨c21, hF⟩ := hF
        replace hF := lt_S hF
        obtain ⟨h22, eh23, hF⟩ := hF
        refine hJ.iast dX1_sumOfHours_73 a_11 rfl c21 ?_
        rw [← eh23]
        refine hJ.iload_n (i := 3) dX1_sumOfHours_74 rfl rfl ?_
        refine hJ.aload_n (i := 0) dX1_sumOfHours_75 rfl rfl ?_
        refine hJ.getR dX1_sumOfHours_76 f_RX1_21 rfl ?_
        refine hJ.iload (i := 6) dX1_sumOfHours_79 rfl ?_
        replace hF := nn_S hF
        obtain ⟨n24, e25, hF⟩ := hF
        rw [e25]
        replace hF := ck_S hF
        obtain ⟨c26, hF⟩ := hF
        refine hJ.iald dX1_sumOfHours_81 a_11 rfl c26 ?_
        refine hJ.iadd dX1_sumOfHours_82 ?_
        refine hJ.istore_n (i := 3) (ls2 := [some (.inr (1, (some v0))), some (.inr (4, (some v1))), none, some (.inl (v3 + (pI h22 11 n24 (v6).toNatClampNeg))), some (.inl v4), some (.inl v5), some (.inl v6), some (.inl r12), some (.inl r15), none]) dX1_sumOfHours_83 rfl (by decide) rfl ?_
        refine hJ.aload_n (i := 0) dX1_sumOfHours_84 rfl rfl ?_
        refine hJ.getR dX1_sumOfHours_85 f_RX1_21 rfl ?_
        rw [e25]
        refine hJ.iload (i := 6) dX1_sumOfHours_88 rfl ?_
        replace hF := ck_S hF
        obtain ⟨c27, hF⟩ := hF
        refine hJ.iald dX1_sumOfHours_90 a_11 rfl c27 ?_
        refine hJ.iconst (v := 1) dX1_sumOfHours_91 (by decide) ?_
        refine hJ.iadd dX1_sumOfHours_92 ?_
        refine hJ.istore (i := 4) (ls2 := [some (.inr (1, (some v0))), some (.inr (4, (some v1))), none, some (.inl (v3 + (pI h22 11 n24 (v6).toNatClampNeg))), some (.inl ((pI h22 11 n24 (v6).toNatClampNeg) + (1 : Int32))), some (.inl v5), some (.inl v6), some (.inl r12), some (.inl r15), none]) dX1_sumOfHours_93 (by decide) rfl ?_
        refine hJ.aload_n (i := 1) dX1_sumOfHours_95 rfl rfl ?_
        refine hJ.getI dX1_sumOfHours_96 f_RX1_75 rfl ?_
        refine hJ.iload (i := 5) dX1_sumOfHours_99 rfl ?_
        refine hJ.iload (i := 8) dX1_sumOfHours_101 rfl ?_
        refine hJ.aload_n (i := 1) dX1_sumOfHours_103 rfl rfl ?_
        refine hJ.getI dX1_sumOfHours_104 f_RX1_68 rfl ?_
        refine hJ.imul dX1_sumOfHours_107 ?_
        refine hJ.iadd dX1_sumOfHours_108 ?_
        refine hJ.mmin dX1_sumOfHours_109 w_RX1_78 (by decide) (Nat.le_of_ble_eq_true rfl) ha hb ?_
        refine hJ.iload (i := 7) dX1_sumOfHours_112 rfl ?_
        refine hJ.isub dX1_sumOfHours_114 ?_
        refine hJ.istore (i := 9) (ls2 := [some (.inr (1, (some v0))), some (.inr (4, (some v1))), none, some (.inl (v3 + (pI h22 11 n24 (v6).toNatClampNeg))), some (.inl ((pI h22 11 n24 (v6).toNatClampNeg) + (1 : Int32))), some (.inl v5), some (.inl v6), some (.inl r12), some (.inl r15), some (.inl ((if (v5 + (r15 * (pI h22 4 v1 4))) < (pI h22 4 v1 5) then (v5 + (r15 * (pI h22 4 v1 4))) else (pI h22 4 v1 5)) - r12))]) dX1_sumOfHours_115 (by decide) rfl ?_
        refine hJ.aload_n (i := 1) dX1_sumOfHours_117 rfl rfl ?_
        refine hJ.getI dX1_sumOfHours_118 f_RX1_75 rfl ?_
        refine hJ.iload (i := 9) dX1_sumOfHours_121 rfl ?_
        refine hJ.aload_n (i := 1) dX1_sumOfHours_123 rfl rfl ?_
        refine hJ.getI dX1_sumOfHours_124 f_RX1_68 rfl ?_
        refine hJ.iadd dX1_sumOfHours_127 ?_
        refine hJ.mmin dX1_sumOfHours_128 w_RX1_78 (by decide) (Nat.le_of_ble_eq_true rfl) ha hb ?_
        refine hJ.istore (i := 5) (ls2 := [some (.inr (1, (some v0))), some (.inr (4, (some v1))), none, some (.inl (v3 + (pI h22 11 n24 (v6).toNatClampNeg))), some (.inl ((pI h22 11 n24 (v6).toNatClampNeg) + (1 : Int32))), some (.inl (if (((if (v5 + (r15 * (pI h22 4 v1 4))) < (pI h22 4 v1 5) then (v5 + (r15 * (pI h22 4 v1 4))) else (pI h22 4 v1 5)) - r12) + (pI h22 4 v1 4)) < (pI h22 4 v1 5) then (((if (v5 + (r15 * (pI h22 4 v1 4))) < (pI h22 4 v1 5) then (v5 + (r15 * (pI h22 4 v1 4))) else (pI h22 4 v1 5)) - r12) + (pI h22 4 v1 4)) else (pI h22 4 v1 5))), some (.inl v6), some (.inl r12), some (.inl r15), some (.inl ((if (v5 + (r15 * (pI h22 4 v1 4))) < (pI h22 4 v1 5) then (v5 + (r15 * (pI h22 4 v1 4))) else (pI h22 4 v1 5)) - r12))]) dX1_sumOfHours_131 (by decide) rfl ?_
        refine hJ.iinc (i := 6) (v := (v6 + (1 : Int32))) (ls2 := [some (.inr (1, (some v0))), some (.inr (4, (some v1))), none, some (.inl (v3 + (pI h22 11 n24 (v6).toNatClampNeg))), some (.inl ((pI h22 11 n24 (v6).toNatClampNeg) + (1 : Int32))), some (.inl (if (((if (v5 + (r15 * (pI h22 4 v1 4))) < (pI h22 4 v1 5) then (v5 + (r15 * (pI h22 4 v1 4))) else (pI h22 4 v1 5)) - r12) + (pI h22 4 v1 4)) < (pI h22 4 v1 5) then (((if (v5 + (r15 * (pI h22 4 v1 4))) < (pI h22 4 v1 5) then (v5 + (r15 * (pI h22 4 v1 4))) else (pI h22 4 v1 5)) - r12) + (pI h22 4 v1 4)) else (pI h22 4 v1 5))), some (.inl (v6 + (1 : Int32))), some (.inl r12), some (.inl r15), some (.inl ((if (v5 + (r15 * (pI h22 4 v1 4))) < (pI h22 4 v1 5) then (v5 + (r15 * (pI h22 4 v1 4))) else (pI h22 4 v1 5)) - r12))]) dX1_sumOfHours_133 rfl (addI (by decide)) (by decide) rfl ?_
        refine hJ.goto (tgt := 14) dX1_sumOfHours_136 (by decide) ?_
        refine hJ.forget (ls2 := [some (.inr (1, (some v0))), some (.inr (4, (some v1))), none, some (.inl (v3 + (pI h22 11 n24 (v6).toNatClampNeg))), some (.inl ((pI h22 11 n24 (v6).toNatClampNeg) + (1 : Int32))), some (.inl (if (((if (v5 + (r15 * (pI h22 4 v1 4))) < (pI h22 4 v1 5) then (v5 + (r15 * (pI h22 4 v1 4))) else (pI h22 4 v1 5)) - r12) + (pI h22 4 v1 4)) < (pI h22 4 v1 5) then (((if (v5 + (r15 * (pI h22 4 v1 4))) < (pI h22 4 v1 5) then (v5 + (r15 * (pI h22 4 v1 4))) else (pI h22 4 v1 5)) - r12) + (pI h22 4 v1 4)) else (pI h22 4 v1 5))), some (.inl (v6 + (1 : Int32))), none, none, none]) ⟨rfl, rfl, rfl, rfl, rfl, rfl, trivial⟩ ?_
        exact ih (v3 + (pI h22 11 n24 (v6).toNatClampNeg)) ((pI h22 11 n24 (v6).toNatClampNeg) + (1 : Int32)) (if (((if (v5 + (r15 * (pI h22 4 v1 4))) < (pI h22 4 v1 5) then (v5 + (r15 * (pI h22 4 v1 4))) else (pI h22 4 v1 5)) - r12) + (pI h22 4 v1 4)) < (pI h22 4 v1 5) then (((if (v5 + (r15 * (pI h22 4 v1 4))) < (pI h22 4 v1 5) then (v5 + (r15 * (pI h22 4 v1 4))) else (pI h22 4 v1 5)) - r12) + (pI h22 4 v1 4)) else (pI h22 4 v1 5)) (v6 + (1 : Int32)) h22 hF
      · replace hF := ite_T e18 hF
        refine hJ.forget (ls2 := [none, none, none, none, none, none, none, none, none, none]) trivial ?_
        exact hk60 h16 hF

set_option maxHeartbeats 4000000 in
set_option maxRecDepth 100000 in
theorem c_X1_sumOfHours {x0 : Nat} {x1 : Option Nat} {x2 : Int32} {h hh : Hp} {xr : Int32} (hF : F_X1_sumOfHours x0 x1 x2 h = some (xr, hh)) : Ctr yX1_sumOfHours cX1_sumOfHours 10 (some .int) 1 0 0 [.inr (1, (some x0)), .inr (4, x1), .inl x2] h (some (.inl xr)) hh := by
  refine Ctr_i (own := RX1) (ini := False) (ls0 := [some (.inr (1, (some x0))), some (.inr (4, x1)), some (.inl x2), none, none, none, none, none, none, none]) (by decide) rfl (Nat.le_of_ble_eq_true rfl) (fun e => e.elim) rfl ?_
  intro J hJ hR
  unfold F_X1_sumOfHours at hF
  refine hJ.iconst (v := 0) dX1_sumOfHours_0 (by decide) ?_
  refine hJ.istore_n (i := 3) (ls2 := [some (.inr (1, (some x0))), some (.inr (4, x1)), some (.inl x2), some (.inl (0 : Int32)), none, none, none, none, none, none]) dX1_sumOfHours_1 rfl (by decide) rfl ?_
  refine hJ.iload_n (i := 2) dX1_sumOfHours_2 rfl rfl ?_
  refine hJ.istore (i := 4) (ls2 := [some (.inr (1, (some x0))), some (.inr (4, x1)), some (.inl x2), some (.inl (0 : Int32)), some (.inl x2), none, none, none, none, none]) dX1_sumOfHours_3 (by decide) rfl ?_
  refine hJ.aload_n (i := 1) dX1_sumOfHours_5 rfl rfl ?_
  replace hF := nn_S hF
  obtain ⟨n1, e2, hF⟩ := hF
  subst e2
  refine hJ.getI dX1_sumOfHours_6 f_RX1_59 rfl ?_
  refine hJ.istore (i := 5) (ls2 := [some (.inr (1, (some x0))), some (.inr (4, (some n1))), some (.inl x2), some (.inl (0 : Int32)), some (.inl x2), some (.inl (pI h 4 n1 7)), none, none, none, none]) dX1_sumOfHours_9 (by decide) rfl ?_
  refine hJ.iconst (v := 0) dX1_sumOfHours_11 (by decide) ?_
  refine hJ.istore (i := 6) (ls2 := [some (.inr (1, (some x0))), some (.inr (4, (some n1))), some (.inl x2), some (.inl (0 : Int32)), some (.inl x2), some (.inl (pI h 4 n1 7)), some (.inl (0 : Int32)), none, none, none]) dX1_sumOfHours_12 (by decide) rfl ?_
  refine hJ.forget (ls2 := [some (.inr (1, (some x0))), some (.inr (4, (some n1))), none, some (.inl (0 : Int32)), some (.inl x2), some (.inl (pI h 4 n1 7)), some (.inl (0 : Int32)), none, none, none]) ⟨rfl, rfl, rfl, rfl, rfl, rfl, trivial⟩ ?_
  refine t_X1_sumOfHours_14 hJ (by decide) (by decide) (fun k28 h29 hF => ?_) (fun h30 hF => ?_) FU _ _ _ _ _ hF
  · refine hJ.iload_n (i := 3) dX1_sumOfHours_139 rfl rfl ?_
    obtain ⟨rfl, rfl⟩ := ret_S hF
    exact hR dX1_sumOfHours_140 (by decide) (by decide)
  · refine hJ.iconst (v := -1) dX1_sumOfHours_60 (by decide) ?_
    obtain ⟨rfl, rfl⟩ := ret_S hF
    exact hR dX1_sumOfHours_61 (by decide) (by decide)

set_option maxHeartbeats 4000000 in
set_option maxRecDepth 100000 in
theorem t_X1_keep_15 {β : Type} {J : JT} (hJ : Rules cX1_keep RX1 3 0 0 0 False J) {a b : Nat} (ha : a ≤ 0) (hb : b ≤ 0) {v0 : Nat} {κ53 : Hp → Option β} {out : β}
    (hk53 : ∀ (h : Hp), κ53 h = some out → J 53 [none, none, none] [] h a b)
    : ∀ (f : Nat) (v2 : Int32) (h : Hp), L_X1_keep_15 v0 κ53 f v2 h = some out → J 15 [some (.inr (1, (some v0))), none, some (.inl v2)] [] h a b := by
  intro f
  induction f with
  | zero => intro v2 h hF; simp [L_X1_keep_15] at hF
  | succ f ih =>
    intro v2 h hF
    rw [L_X1_keep_15] at hF
    refine hJ.iload_n (i := 2) dX1_keep_15 rfl rfl ?_
    refine hJ.aload_n (i := 0) dX1_keep_16 rfl rfl ?_
    refine hJ.getI dX1_keep_17 f_RX1_30 rfl ?_
    refine hJ.icmp_ge (tgt := 53) dX1_keep_20 (by decide) (fun e5 => ?_) (fun e5 => ?_)
    · replace hF := ite_T e5 hF
      refine hJ.forget (ls2 := [none, none, none]) trivial ?_
      exact hk53 h hF
    · replace hF := ite_F e5 hF
      refine hJ.aload_n (i := 0) dX1_keep_23 rfl rfl ?_
      refine hJ.getR dX1_keep_24 f_RX1_24 rfl ?_
      refine hJ.iload_n (i := 2) dX1_keep_27 rfl rfl ?_
      refine hJ.aload_n (i := 0) dX1_keep_28 rfl rfl ?_
      refine hJ.getR dX1_keep_29 f_RX1_17 rfl ?_
      refine hJ.iload_n (i := 2) dX1_keep_32 rfl rfl ?_
      replace hF := nn_S hF
      obtain ⟨n6, e7, hF⟩ := hF
      rw [e7]
      replace hF := ck_S hF
      obtain ⟨c8, hF⟩ := hF
      refine hJ.iald dX1_keep_33 a_10 rfl c8 ?_
      replace hF := nn_S hF
      obtain ⟨n9, e10, hF⟩ := hF
      rw [e10]
      replace hF := ck_S hF
      obtain ⟨c11, hF⟩ := hF
      replace hF := lt_S hF
      obtain ⟨h12, eh13, hF⟩ := hF
      refine hJ.iast dX1_keep_34 a_12 rfl c11 ?_
      rw [← eh13]
      refine hJ.aload_n (i := 0) dX1_keep_35 rfl rfl ?_
      refine hJ.getR dX1_keep_36 f_RX1_27 rfl ?_
      refine hJ.iload_n (i := 2) dX1_keep_39 rfl rfl ?_
      refine hJ.aload_n (i := 0) dX1_keep_40 rfl rfl ?_
      refine hJ.getR dX1_keep_41 f_RX1_21 rfl ?_
      refine hJ.iload_n (i := 2) dX1_keep_44 rfl rfl ?_
      replace hF := nn_S hF
      obtain ⟨n14, e15, hF⟩ := hF
      rw [e15]
      replace hF := ck_S hF
      obtain ⟨c16, hF⟩ := hF
      refine hJ.iald dX1_keep_45 a_11 rfl c16 ?_
      replace hF := nn_S hF
      obtain ⟨n17, e18, hF⟩ := hF
      rw [e18]
      replace hF := ck_S hF
      obtain ⟨c19, hF⟩ := hF
      replace hF := lt_S hF
      obtain ⟨h20, eh21, hF⟩ := hF
      refine hJ.iast dX1_keep_46 a_13 rfl c19 ?_
      rw [← eh21]
      refine hJ.iinc (i := 2) (v := (v2 + (1 : Int32))) (ls2 := [some (.inr (1, (some v0))), none, some (.inl (v2 + (1 : Int32)))]) dX1_keep_47 rfl (addI (by decide)) (by decide) rfl ?_
      refine hJ.goto (tgt := 15) dX1_keep_50 (by decide) ?_
      refine hJ.forget (ls2 := [some (.inr (1, (some v0))), none, some (.inl (v2 + (1 : Int32)))]) ⟨rfl, rfl, trivial⟩ ?_
      exact ih (v2 + (1 : Int32)) h20 hF

set_option maxHeartbeats 4000000 in
set_option maxRecDepth 100000 in
theorem c_X1_keep {x0 : Nat} {x1 : Int32} {h hh : Hp} {xr : Unit} (hF : F_X1_keep x0 x1 h = some (xr, hh)) : Ctr yX1_keep cX1_keep 3 none 0 0 0 [.inr (1, (some x0)), .inl x1] h none hh := by
  refine Ctr_v (own := RX1) (ini := False) (ls0 := [some (.inr (1, (some x0))), some (.inl x1), none]) (by decide) rfl (Nat.le_of_ble_eq_true rfl) (fun e => e.elim) rfl ?_
  intro J hJ hR
  unfold F_X1_keep at hF
  refine hJ.aload_n (i := 0) dX1_keep_0 rfl rfl ?_
  refine hJ.iload_n (i := 1) dX1_keep_1 rfl rfl ?_
  replace hF := lt_S hF
  obtain ⟨h1, eh2, hF⟩ := hF
  refine hJ.putI dX1_keep_2 f_RX1_37 rfl nar_i rfl ?_
  rw [← eh2]
  refine hJ.aload_n (i := 0) dX1_keep_5 rfl rfl ?_
  refine hJ.aload_n (i := 0) dX1_keep_6 rfl rfl ?_
  refine hJ.getI dX1_keep_7 f_RX1_30 rfl ?_
  replace hF := lt_S hF
  obtain ⟨h3, eh4, hF⟩ := hF
  refine hJ.putI dX1_keep_10 f_RX1_34 rfl nar_i rfl ?_
  rw [← eh4]
  refine hJ.iconst (v := 0) dX1_keep_13 (by decide) ?_
  refine hJ.istore_n (i := 2) (ls2 := [some (.inr (1, (some x0))), some (.inl x1), some (.inl (0 : Int32))]) dX1_keep_14 rfl (by decide) rfl ?_
  refine hJ.forget (ls2 := [some (.inr (1, (some x0))), none, some (.inl (0 : Int32))]) ⟨rfl, rfl, trivial⟩ ?_
  refine t_X1_keep_15 hJ (by decide) (by decide) (fun h22 hF => ?_) FU _ _ hF
  obtain ⟨-, rfl⟩ := ret_S hF
  exact hR dX1_keep_53 (by decide) (by decide)

set_option maxHeartbeats 4000000 in
set_option maxRecDepth 100000 in
theorem c_X1_swap {x0 : Nat} {x1 : Int32} {x2 : Int32} {h hh : Hp} {xr : Unit} (hF : F_X1_swap x0 x1 x2 h = some (xr, hh)) : Ctr yX1_swap cX1_swap 4 none 0 0 0 [.inr (1, (some x0)), .inl x1, .inl x2] h none hh := by
  refine Ctr_v (own := RX1) (ini := False) (ls0 := [some (.inr (1, (some x0))), some (.inl x1), some (.inl x2), none]) (by decide) rfl (Nat.le_of_ble_eq_true rfl) (fun e => e.elim) rfl ?_
  intro J hJ hR
  unfold F_X1_swap at hF
  refine hJ.aload_n (i := 0) dX1_swap_0 rfl rfl ?_
  refine hJ.getR dX1_swap_1 f_RX1_17 rfl ?_
  refine hJ.iload_n (i := 1) dX1_swap_4 rfl rfl ?_
  replace hF := nn_S hF
  obtain ⟨n1, e2, hF⟩ := hF
  rw [e2]
  replace hF := ck_S hF
  obtain ⟨c3, hF⟩ := hF
  refine hJ.iald dX1_swap_5 a_10 rfl c3 ?_
  refine hJ.istore_n (i := 3) (ls2 := [some (.inr (1, (some x0))), some (.inl x1), some (.inl x2), some (.inl (pI h 10 n1 (x1).toNatClampNeg))]) dX1_swap_6 rfl (by decide) rfl ?_
  refine hJ.aload_n (i := 0) dX1_swap_7 rfl rfl ?_
  refine hJ.getR dX1_swap_8 f_RX1_17 rfl ?_
  rw [e2]
  refine hJ.iload_n (i := 1) dX1_swap_11 rfl rfl ?_
  refine hJ.aload_n (i := 0) dX1_swap_12 rfl rfl ?_
  refine hJ.getR dX1_swap_13 f_RX1_17 rfl ?_
  rw [e2]
  refine hJ.iload_n (i := 2) dX1_swap_16 rfl rfl ?_
  replace hF := ck_S hF
  obtain ⟨c4, hF⟩ := hF
  refine hJ.iald dX1_swap_17 a_10 rfl c4 ?_
  replace hF := ck_S hF
  obtain ⟨c5, hF⟩ := hF
  replace hF := lt_S hF
  obtain ⟨h6, eh7, hF⟩ := hF
  refine hJ.iast dX1_swap_18 a_10 rfl c5 ?_
  rw [← eh7]
  refine hJ.aload_n (i := 0) dX1_swap_19 rfl rfl ?_
  refine hJ.getR dX1_swap_20 f_RX1_17 rfl ?_
  refine hJ.iload_n (i := 2) dX1_swap_23 rfl rfl ?_
  refine hJ.iload_n (i := 3) dX1_swap_24 rfl rfl ?_
  replace hF := nn_S hF
  obtain ⟨n8, e9, hF⟩ := hF
  rw [e9]
  replace hF := ck_S hF
  obtain ⟨c10, hF⟩ := hF
  replace hF := lt_S hF
  obtain ⟨h11, eh12, hF⟩ := hF
  refine hJ.iast dX1_swap_25 a_10 rfl c10 ?_
  rw [← eh12]
  obtain ⟨-, rfl⟩ := ret_S hF
  exact hR dX1_swap_26 (by decide) (by decide)

