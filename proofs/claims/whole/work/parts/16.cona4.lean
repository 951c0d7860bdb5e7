set_option maxHeartbeats 4000000 in
set_option maxRecDepth 100000 in
theorem c_X7_crewAt {x0 : Nat} {x1 : Int32} {h hh : Hp} {xr : Option Nat} (hF : F_X7_crewAt x0 x1 h = some (xr, hh)) : Ctr yX7_crewAt cX7_crewAt 2 (some (.object RX0)) 1 0 0 [.inr (7, (some x0)), .inl x1] h (some (.inr (0, xr))) hh := by
  refine Ctr_a (own := RX7) (ini := False) (ls0 := [some (.inr (7, (some x0))), some (.inl x1)]) (by decide) rfl (Nat.le_of_ble_eq_true rfl) (fun e => e.elim) rfl ?_
  intro J hJ hR
  unfold F_X7_crewAt at hF
  refine hJ.iload_n (i := 1) dX7_crewAt_0 rfl rfl ?_
  refine hJ.iconst (v := 0) dX7_crewAt_1 (by decide) ?_
  refine hJ.aload_n (i := 0) dX7_crewAt_2 rfl rfl ?_
  refine hJ.getI dX7_crewAt_3 f_RX7_43 rfl ?_
  refine hJ.iconst (v := 1) dX7_crewAt_6 (by decide) ?_
  refine hJ.isub dX7_crewAt_7 ?_
  replace hF := cl_S hF
  obtain ⟨r1, h2, ec3, hF⟩ := hF
  refine hJ.callS (as := [.inl x1, .inl (0 : Int32), .inl ((pI h 7 x0 7) - (1 : Int32))]) (st := []) dX7_crewAt_8 w_RX7_109 (c_X7_within ec3) (by decide) (by decide) (by decide) rfl (Nat.le_of_ble_eq_true rfl) rfl ?_
  refine hJ.if_eq (tgt := 23) dX7_crewAt_11 (by decide) (fun e4 => ?_) (fun e4 => ?_)
  · replace hF := ite_T e4 hF
    refine hJ.null (kk := 0) dX7_crewAt_23 ?_
    obtain ⟨rfl, rfl⟩ := ret_S hF
    exact hR dX7_crewAt_24 (Or.inr rfl) (by decide) (by decide)
  · replace hF := ite_F e4 hF
    refine hJ.aload_n (i := 0) dX7_crewAt_14 rfl rfl ?_
    refine hJ.getR dX7_crewAt_15 f_RX7_39 rfl ?_
    refine hJ.iload_n (i := 1) dX7_crewAt_18 rfl rfl ?_
    replace hF := nn_S hF
    obtain ⟨n5, e6, hF⟩ := hF
    rw [e6]
    replace hF := ck_S hF
    obtain ⟨c7, hF⟩ := hF
    refine hJ.aald dX7_crewAt_19 a_22 rfl c7 ?_
    refine hJ.goto (tgt := 24) dX7_crewAt_20 (by decide) ?_
    obtain ⟨rfl, rfl⟩ := ret_S hF
    exact hR dX7_crewAt_24 (Or.inr rfl) (by decide) (by decide)

set_option maxHeartbeats 4000000 in
set_option maxRecDepth 100000 in
theorem c_X7_ready {x0 : Nat} {x1 : Int32} {x2 : Int32} {h hh : Hp} {xr : Int32} (hF : F_X7_ready x0 x1 x2 h = some (xr, hh)) : Ctr yX7_ready cX7_ready 5 (some .boolean) 3 0 0 [.inr (7, (some x0)), .inl x1, .inl x2] h (some (.inl xr)) hh := by
  refine Ctr_z (own := RX7) (ini := False) (ls0 := [some (.inr (7, (some x0))), some (.inl x1), some (.inl x2), none, none]) (by decide) rfl (Nat.le_of_ble_eq_true rfl) (fun e => e.elim) rfl ?_
  intro J hJ hR
  unfold F_X7_ready at hF
  refine hJ.aload_n (i := 0) dX7_ready_0 rfl rfl ?_
  refine hJ.iload_n (i := 1) dX7_ready_1 rfl rfl ?_
  replace hF := cl_S hF
  obtain ⟨r1, h2, ec3, hF⟩ := hF
  refine hJ.callV (as := [.inl x1]) (st := []) dX7_ready_2 w_RX7_155 ⟨by decide, rfl⟩ rfl (c_X7_tiedAt ec3) (by decide) (by decide) (by decide) rfl (Nat.le_of_ble_eq_true rfl) rfl ?_
  refine hJ.astore_n (i := 3) (ls2 := [some (.inr (7, (some x0))), some (.inl x1), some (.inl x2), some (.inr (2, r1)), none]) dX7_ready_5 rfl (by decide) rfl ?_
  refine hJ.aload_n (i := 0) dX7_ready_6 rfl rfl ?_
  refine hJ.iload_n (i := 2) dX7_ready_7 rfl rfl ?_
  replace hF := cl_S hF
  obtain ⟨r4, h5, ec6, hF⟩ := hF
  refine hJ.callV (as := [.inl x2]) (st := []) dX7_ready_8 w_RX7_175 ⟨by decide, rfl⟩ rfl (c_X7_crewAt ec6) (by decide) (by decide) (by decide) rfl (Nat.le_of_ble_eq_true rfl) rfl ?_
  refine hJ.astore (i := 4) (ls2 := [some (.inr (7, (some x0))), some (.inl x1), some (.inl x2), some (.inr (2, r1)), some (.inr (0, r4))]) dX7_ready_11 (by decide) rfl ?_
  refine hJ.aload_n (i := 3) dX7_ready_13 rfl rfl ?_
  refine hJ.ifnull (tgt := 39) dX7_ready_14 (by decide) (fun e7 => ?_) (fun n8 e7 => ?_)
  · replace hF := onn_N e7 hF
    subst e7
    refine hJ.iconst (v := 0) dX7_ready_39 (by decide) ?_
    obtain ⟨rfl, rfl⟩ := ret_S hF
    exact hR dX7_ready_40 (by decide) (by decide) (by decide)
  · replace hF := onn_J e7 hF
    subst e7
    refine hJ.aload (i := 4) dX7_ready_17 rfl ?_
    refine hJ.ifnull (tgt := 39) dX7_ready_19 (by decide) (fun e9 => ?_) (fun n10 e9 => ?_)
    · replace hF := onn_N e9 hF
      subst e9
      refine hJ.iconst (v := 0) dX7_ready_39 (by decide) ?_
      obtain ⟨rfl, rfl⟩ := ret_S hF
      exact hR dX7_ready_40 (by decide) (by decide) (by decide)
    · replace hF := onn_J e9 hF
      subst e9
      refine hJ.aload_n (i := 3) dX7_ready_22 rfl rfl ?_
      refine hJ.getR dX7_ready_23 f_RX7_159 rfl ?_
      refine hJ.ifnull (tgt := 39) dX7_ready_26 (by decide) (fun e11 => ?_) (fun n12 e11 => ?_)
      · replace hF := onn_N e11 hF
        refine hJ.iconst (v := 0) dX7_ready_39 (by decide) ?_
        obtain ⟨rfl, rfl⟩ := ret_S hF
        exact hR dX7_ready_40 (by decide) (by decide) (by decide)
      · replace hF := onn_J e11 hF
        refine hJ.aload_n (i := 3) dX7_ready_29 rfl rfl ?_
        refine hJ.getR dX7_ready_30 f_RX7_159 rfl ?_
        rw [e11]
        refine hJ.getR dX7_ready_33 f_RX7_179 rfl ?_
        refine hJ.ifnonnull (tgt := 41) dX7_ready_36 (by decide) (fun n14 e13 => ?_) (fun e13 => ?_)
        · replace hF := onn_J e13 hF
          refine hJ.aload (i := 4) dX7_ready_41 rfl ?_
          refine hJ.getR dX7_ready_43 f_RX7_182 rfl ?_
          refine hJ.aload_n (i := 3) dX7_ready_46 rfl rfl ?_
          refine hJ.getR dX7_ready_47 f_RX7_159 rfl ?_
          rw [e11]
          refine hJ.acmp_ne (tgt := 65) dX7_ready_50 (by decide) (by decide) (fun e15 => ?_) (fun e15 => ?_)
          · replace hF := ite_F e15 hF
            refine hJ.iconst (v := 0) dX7_ready_65 (by decide) ?_
            obtain ⟨rfl, rfl⟩ := ret_S hF
            exact hR dX7_ready_66 (by decide) (by decide) (by decide)
          · replace hF := ite_T e15 hF
            refine hJ.aload (i := 4) dX7_ready_53 rfl ?_
            refine hJ.aload_n (i := 0) dX7_ready_55 rfl rfl ?_
            refine hJ.getI dX7_ready_56 f_RX7_79 rfl ?_
            replace hF := cl_S hF
            obtain ⟨r16, h17, ec18, hF⟩ := hF
            refine hJ.callV (as := [.inl (pI h5 7 x0 14)]) (st := []) dX7_ready_59 w_RX7_183 ⟨by decide, rfl⟩ rfl (c_X0_rests ec18) (by decide) (by decide) (by decide) rfl (Nat.le_of_ble_eq_true rfl) rfl ?_
            refine hJ.if_eq (tgt := 67) dX7_ready_62 (by decide) (fun e19 => ?_) (fun e19 => ?_)
            · replace hF := ite_T e19 hF
              refine hJ.aload (i := 4) dX7_ready_67 rfl ?_
              refine hJ.aload_n (i := 3) dX7_ready_69 rfl rfl ?_
              replace hF := cl_S hF
              obtain ⟨r20, h21, ec22, hF⟩ := hF
              refine hJ.callV0 (as := [.inr (2, (some n8))]) (st := []) dX7_ready_70 w_RX7_186 ⟨by decide, rfl⟩ rfl (c_X0_board ec22) (by decide) (by decide) (by decide) rfl (Nat.le_of_ble_eq_true rfl) rfl ?_
              refine hJ.iconst (v := 1) dX7_ready_73 (by decide) ?_
              obtain ⟨rfl, rfl⟩ := ret_S hF
              exact hR dX7_ready_74 (by decide) (by decide) (by decide)
            · replace hF := ite_F e19 hF
              refine hJ.iconst (v := 0) dX7_ready_65 (by decide) ?_
              obtain ⟨rfl, rfl⟩ := ret_S hF
              exact hR dX7_ready_66 (by decide) (by decide) (by decide)
        · replace hF := onn_N e13 hF
          refine hJ.iconst (v := 0) dX7_ready_39 (by decide) ?_
          obtain ⟨rfl, rfl⟩ := ret_S hF
          exact hR dX7_ready_40 (by decide) (by decide) (by decide)

set_option maxHeartbeats 4000000 in
set_option maxRecDepth 100000 in
theorem c_X7_tie {x0 : Nat} {x1 : Int32} {h hh : Hp} {xr : Int32} (hF : F_X7_tie x0 x1 h = some (xr, hh)) : Ctr yX7_tie cX7_tie 3 (some .boolean) 2 0 0 [.inr (7, (some x0)), .inl x1] h (some (.inl xr)) hh := by
  refine Ctr_z (own := RX7) (ini := False) (ls0 := [some (.inr (7, (some x0))), some (.inl x1), none]) (by decide) rfl (Nat.le_of_ble_eq_true rfl) (fun e => e.elim) rfl ?_
  intro J hJ hR
  unfold F_X7_tie at hF
  refine hJ.aload_n (i := 0) dX7_tie_0 rfl rfl ?_
  refine hJ.iload_n (i := 1) dX7_tie_1 rfl rfl ?_
  replace hF := cl_S hF
  obtain ⟨r1, h2, ec3, hF⟩ := hF
  refine hJ.callV (as := [.inl x1]) (st := []) dX7_tie_2 w_RX7_190 ⟨by decide, rfl⟩ rfl (c_X7_raftAt ec3) (by decide) (by decide) (by decide) rfl (Nat.le_of_ble_eq_true rfl) rfl ?_
  refine hJ.astore_n (i := 2) (ls2 := [some (.inr (7, (some x0))), some (.inl x1), some (.inr (2, r1))]) dX7_tie_5 rfl (by decide) rfl ?_
  refine hJ.aload_n (i := 2) dX7_tie_6 rfl rfl ?_
  refine hJ.ifnull (tgt := 18) dX7_tie_7 (by decide) (fun e4 => ?_) (fun n5 e4 => ?_)
  · replace hF := onn_N e4 hF
    subst e4
    refine hJ.iconst (v := 0) dX7_tie_18 (by decide) ?_
    obtain ⟨rfl, rfl⟩ := ret_S hF
    exact hR dX7_tie_19 (by decide) (by decide) (by decide)
  · replace hF := onn_J e4 hF
    subst e4
    refine hJ.aload_n (i := 2) dX7_tie_10 rfl rfl ?_
    replace hF := cl_S hF
    obtain ⟨r6, h7, ec8, hF⟩ := hF
    refine hJ.callV (as := []) (st := []) dX7_tie_11 w_RX7_193 ⟨by decide, rfl⟩ rfl (c_X2_state ec8) (by decide) (by decide) (by decide) rfl (Nat.le_of_ble_eq_true rfl) rfl ?_
    refine hJ.iconst (v := 1) dX7_tie_14 (by decide) ?_
    refine hJ.icmp_eq (tgt := 20) dX7_tie_15 (by decide) (fun e9 => ?_) (fun e9 => ?_)
    · replace hF := ite_T e9 hF
      refine hJ.aload_n (i := 2) dX7_tie_20 rfl rfl ?_
      replace hF := cl_S hF
      obtain ⟨r10, h11, ec12, hF⟩ := hF
      refine hJ.callV (as := []) (st := []) dX7_tie_21 w_RX7_197 ⟨by decide, rfl⟩ rfl (c_X2_landCrew ec12) (by decide) (by decide) (by decide) rfl (Nat.le_of_ble_eq_true rfl) rfl ?_
      refine hJ.pop dX7_tie_24 ?_
      refine hJ.iconst (v := 1) dX7_tie_25 (by decide) ?_
      obtain ⟨rfl, rfl⟩ := ret_S hF
      exact hR dX7_tie_26 (by decide) (by decide) (by decide)
    · replace hF := ite_F e9 hF
      refine hJ.iconst (v := 0) dX7_tie_18 (by decide) ?_
      obtain ⟨rfl, rfl⟩ := ret_S hF
      exact hR dX7_tie_19 (by decide) (by decide) (by decide)

set_option maxHeartbeats 4000000 in
set_option maxRecDepth 100000 in
theorem c_X7_walk {x0 : Nat} {x1 : Int32} {h hh : Hp} {xr : Int32} (hF : F_X7_walk x0 x1 h = some (xr, hh)) : Ctr yX7_walk cX7_walk 4 (some .int) 2 0 0 [.inr (7, (some x0)), .inl x1] h (some (.inl xr)) hh := by
  refine Ctr_i (own := RX7) (ini := False) (ls0 := [some (.inr (7, (some x0))), some (.inl x1), none, none]) (by decide) rfl (Nat.le_of_ble_eq_true rfl) (fun e => e.elim) rfl ?_
  intro J hJ hR
  unfold F_X7_walk at hF
  refine hJ.aload_n (i := 0) dX7_walk_0 rfl rfl ?_
  refine hJ.iload_n (i := 1) dX7_walk_1 rfl rfl ?_
  replace hF := cl_S hF
  obtain ⟨r1, h2, ec3, hF⟩ := hF
  refine hJ.callV (as := [.inl x1]) (st := []) dX7_walk_2 w_RX7_175 ⟨by decide, rfl⟩ rfl (c_X7_crewAt ec3) (by decide) (by decide) (by decide) rfl (Nat.le_of_ble_eq_true rfl) rfl ?_
  refine hJ.astore_n (i := 2) (ls2 := [some (.inr (7, (some x0))), some (.inl x1), some (.inr (0, r1)), none]) dX7_walk_5 rfl (by decide) rfl ?_
  refine hJ.aload_n (i := 2) dX7_walk_6 rfl rfl ?_
  refine hJ.ifnull (tgt := 28) dX7_walk_7 (by decide) (fun e4 => ?_) (fun n5 e4 => ?_)
  · replace hF := onn_N e4 hF
    subst e4
    refine hJ.iconst (v := -1) dX7_walk_28 (by decide) ?_
    obtain ⟨rfl, rfl⟩ := ret_S hF
    exact hR dX7_walk_29 (by decide) (by decide)
  · replace hF := onn_J e4 hF
    subst e4
    refine hJ.aload_n (i := 2) dX7_walk_10 rfl rfl ?_
    refine hJ.getR dX7_walk_11 f_RX7_182 rfl ?_
    refine hJ.ifnull (tgt := 28) dX7_walk_14 (by decide) (fun e6 => ?_) (fun n7 e6 => ?_)
    · replace hF := onn_N e6 hF
      refine hJ.iconst (v := -1) dX7_walk_28 (by decide) ?_
      obtain ⟨rfl, rfl⟩ := ret_S hF
      exact hR dX7_walk_29 (by decide) (by decide)
    · replace hF := onn_J e6 hF
      refine hJ.aload_n (i := 2) dX7_walk_17 rfl rfl ?_
      refine hJ.getR dX7_walk_18 f_RX7_182 rfl ?_
      rw [e6]
      refine hJ.aload_n (i := 2) dX7_walk_21 rfl rfl ?_
      refine hJ.getR dX7_walk_22 f_RX7_201 rfl ?_
      refine hJ.acmp_ne (tgt := 30) dX7_walk_25 (by decide) (by decide) (fun e8 => ?_) (fun e8 => ?_)
      · replace hF := ite_F e8 hF
        refine hJ.aload_n (i := 2) dX7_walk_30 rfl rfl ?_
        refine hJ.getR dX7_walk_31 f_RX7_201 rfl ?_
        refine hJ.aload_n (i := 2) dX7_walk_34 rfl rfl ?_
        refine hJ.getR dX7_walk_35 f_RX7_182 rfl ?_
        rw [e6]
        replace hF := nn_S hF
        obtain ⟨n9, e10, hF⟩ := hF
        rw [e10]
        replace hF := cl_S hF
        obtain ⟨r11, h12, ec13, hF⟩ := hF
        refine hJ.callV (as := [.inr (4, (some n7))]) (st := []) dX7_walk_38 w_RX7_204 ⟨by decide, rfl⟩ rfl (c_X4_hoursDownTo ec13) (by decide) (by decide) (by decide) rfl (Nat.le_of_ble_eq_true rfl) rfl ?_
        refine hJ.istore_n (i := 3) (ls2 := [some (.inr (7, (some x0))), some (.inl x1), some (.inr (0, (some n5))), some (.inl r11)]) dX7_walk_41 rfl (by decide) rfl ?_
        refine hJ.iload_n (i := 3) dX7_walk_42 rfl rfl ?_
        refine hJ.iconst (v := -1) dX7_walk_43 (by decide) ?_
        refine hJ.icmp_ne (tgt := 49) dX7_walk_44 (by decide) (fun e14 => ?_) (fun e14 => ?_)
        · replace hF := ite_F e14 hF
          refine hJ.aload_n (i := 2) dX7_walk_49 rfl rfl ?_
          refine hJ.null (kk := 4) dX7_walk_50 ?_
          replace hF := lt_S hF
          obtain ⟨h15, eh16, hF⟩ := hF
          refine hJ.putR dX7_walk_51 f_RX7_182 rfl (Or.inr rfl) rfl ?_
          rw [← eh16]
          refine hJ.aload_n (i := 2) dX7_walk_54 rfl rfl ?_
          refine hJ.aload_n (i := 0) dX7_walk_55 rfl rfl ?_
          refine hJ.getI dX7_walk_56 f_RX7_79 rfl ?_
          refine hJ.iconst (v := 2) dX7_walk_59 (by decide) ?_
          refine hJ.iload_n (i := 3) dX7_walk_60 rfl rfl ?_
          refine hJ.imul dX7_walk_61 ?_
          refine hJ.iadd dX7_walk_62 ?_
          replace hF := lt_S hF
          obtain ⟨h17, eh18, hF⟩ := hF
          refine hJ.putI dX7_walk_63 f_RX7_208 rfl nar_i rfl ?_
          rw [← eh18]
          refine hJ.aload_n (i := 2) dX7_walk_66 rfl rfl ?_
          refine hJ.getI dX7_walk_67 f_RX7_208 rfl ?_
          obtain ⟨rfl, rfl⟩ := ret_S hF
          exact hR dX7_walk_70 (by decide) (by decide)
        · replace hF := ite_T e14 hF
          refine hJ.iconst (v := -1) dX7_walk_47 (by decide) ?_
          obtain ⟨rfl, rfl⟩ := ret_S hF
          exact hR dX7_walk_48 (by decide) (by decide)
      · replace hF := ite_T e8 hF
        refine hJ.iconst (v := -1) dX7_walk_28 (by decide) ?_
        obtain ⟨rfl, rfl⟩ := ret_S hF
        exact hR dX7_walk_29 (by decide) (by decide)

set_option maxHeartbeats 4000000 in
set_option maxRecDepth 100000 in
theorem c_X7_rightOf {x0 : Nat} {x1 : Option Nat} {h hh : Hp} {xr : Int32} (hF : F_X7_rightOf x0 x1 h = some (xr, hh)) : Ctr yX7_rightOf cX7_rightOf 3 (some .int) 1 0 0 [.inr (7, (some x0)), .inr (2, x1)] h (some (.inl xr)) hh := by
  refine Ctr_i (own := RX7) (ini := False) (ls0 := [some (.inr (7, (some x0))), some (.inr (2, x1)), none]) (by decide) rfl (Nat.le_of_ble_eq_true rfl) (fun e => e.elim) rfl ?_
  intro J hJ hR
  unfold F_X7_rightOf at hF
  refine hJ.aload_n (i := 1) dX7_rightOf_0 rfl rfl ?_
  replace hF := nn_S hF
  obtain ⟨n1, e2, hF⟩ := hF
  subst e2
  replace hF := cl_S hF
  obtain ⟨r3, h4, ec5, hF⟩ := hF
  refine hJ.callV (as := []) (st := []) dX7_rightOf_1 w_RX7_261 ⟨by decide, rfl⟩ rfl (c_X2_firstTrunk ec5) (by decide) (by decide) (by decide) rfl (Nat.le_of_ble_eq_true rfl) rfl ?_
  refine hJ.astore_n (i := 2) (ls2 := [some (.inr (7, (some x0))), some (.inr (2, (some n1))), some (.inr (6, r3))]) dX7_rightOf_4 rfl (by decide) rfl ?_
  refine hJ.aload_n (i := 2) dX7_rightOf_5 rfl rfl ?_
  refine hJ.ifnonnull (tgt := 14) dX7_rightOf_6 (by decide) (fun n7 e6 => ?_) (fun e6 => ?_)
  · replace hF := onn_J e6 hF
    subst e6
    refine hJ.aload_n (i := 0) dX7_rightOf_14 rfl rfl ?_
    refine hJ.getR dX7_rightOf_15 f_RX7_65 rfl ?_
    refine hJ.aload_n (i := 2) dX7_rightOf_18 rfl rfl ?_
    refine hJ.getI dX7_rightOf_19 f_RX7_264 rfl ?_
    replace hF := nn_S hF
    obtain ⟨n8, e9, hF⟩ := hF
    rw [e9]
    replace hF := ck_S hF
    obtain ⟨c10, hF⟩ := hF
    refine hJ.iald dX7_rightOf_22 a_23 rfl c10 ?_
    obtain ⟨rfl, rfl⟩ := ret_S hF
    exact hR dX7_rightOf_23 (by decide) (by decide)
  · replace hF := onn_N e6 hF
    subst e6
    refine hJ.bipush (v := 9) dX7_rightOf_9 (by decide) ?_
    refine hJ.goto (tgt := 23) dX7_rightOf_11 (by decide) ?_
    obtain ⟨rfl, rfl⟩ := ret_S hF
    exact hR dX7_rightOf_23 (by decide) (by decide)

set_option maxHeartbeats 4000000 in
set_option maxRecDepth 100000 in
theorem c_X7_goesAhead {x0 : Nat} {x1 : Option Nat} {x2 : Option Nat} {h hh : Hp} {xr : Int32} (hF : F_X7_goesAhead x0 x1 x2 h = some (xr, hh)) : Ctr yX7_goesAhead cX7_goesAhead 5 (some .boolean) 2 0 0 [.inr (7, (some x0)), .inr (2, x1), .inr (2, x2)] h (some (.inl xr)) hh := by
  refine Ctr_z (own := RX7) (ini := False) (ls0 := [some (.inr (7, (some x0))), some (.inr (2, x1)), some (.inr (2, x2)), none, none]) (by decide) rfl (Nat.le_of_ble_eq_true rfl) (fun e => e.elim) rfl ?_
  intro J hJ hR
  unfold F_X7_goesAhead at hF
  refine hJ.aload_n (i := 0) dX7_goesAhead_0 rfl rfl ?_
  refine hJ.aload_n (i := 1) dX7_goesAhead_1 rfl rfl ?_
  replace hF := cl_S hF
  obtain ⟨r1, h2, ec3, hF⟩ := hF
  refine hJ.callV (as := [.inr (2, x1)]) (st := []) dX7_goesAhead_2 w_RX7_255 ⟨by decide, rfl⟩ rfl (c_X7_rightOf ec3) (by decide) (by decide) (by decide) rfl (Nat.le_of_ble_eq_true rfl) rfl ?_
  refine hJ.aload_n (i := 0) dX7_goesAhead_5 rfl rfl ?_
  refine hJ.aload_n (i := 2) dX7_goesAhead_6 rfl rfl ?_
  replace hF := cl_S hF
  obtain ⟨r4, h5, ec6, hF⟩ := hF
  refine hJ.callV (as := [.inr (2, x2)]) (st := [.inl r1]) dX7_goesAhead_7 w_RX7_255 ⟨by decide, rfl⟩ rfl (c_X7_rightOf ec6) (by decide) (by decide) (by decide) rfl (Nat.le_of_ble_eq_true rfl) rfl ?_
  refine hJ.isub dX7_goesAhead_10 ?_
  refine hJ.istore_n (i := 3) (ls2 := [some (.inr (7, (some x0))), some (.inr (2, x1)), some (.inr (2, x2)), some (.inl (r1 - r4)), none]) dX7_goesAhead_11 rfl (by decide) rfl ?_
  refine hJ.iload_n (i := 3) dX7_goesAhead_12 rfl rfl ?_
  refine hJ.if_eq (tgt := 26) dX7_goesAhead_13 (by decide) (fun e7 => ?_) (fun e7 => ?_)
  · replace hF := ite_T e7 hF
    refine hJ.aload_n (i := 1) dX7_goesAhead_26 rfl rfl ?_
    replace hF := nn_S hF
    obtain ⟨n8, e9, hF⟩ := hF
    subst e9
    replace hF := cl_S hF
    obtain ⟨r10, h11, ec12, hF⟩ := hF
    refine hJ.callV (as := []) (st := []) dX7_goesAhead_27 w_RX7_259 ⟨by decide, rfl⟩ rfl (c_X2_trunkCount ec12) (by decide) (by decide) (by decide) rfl (Nat.le_of_ble_eq_true rfl) rfl ?_
    refine hJ.aload_n (i := 2) dX7_goesAhead_30 rfl rfl ?_
    replace hF := nn_S hF
    obtain ⟨n13, e14, hF⟩ := hF
    subst e14
    replace hF := cl_S hF
    obtain ⟨r15, h16, ec17, hF⟩ := hF
    refine hJ.callV (as := []) (st := [.inl r10]) dX7_goesAhead_31 w_RX7_259 ⟨by decide, rfl⟩ rfl (c_X2_trunkCount ec17) (by decide) (by decide) (by decide) rfl (Nat.le_of_ble_eq_true rfl) rfl ?_
    refine hJ.isub dX7_goesAhead_34 ?_
    refine hJ.istore (i := 4) (ls2 := [some (.inr (7, (some x0))), some (.inr (2, (some n8))), some (.inr (2, (some n13))), some (.inl (r1 - r4)), some (.inl (r10 - r15))]) dX7_goesAhead_35 (by decide) rfl ?_
    refine hJ.iload (i := 4) dX7_goesAhead_37 rfl ?_
    refine hJ.if_eq (tgt := 53) dX7_goesAhead_39 (by decide) (fun e18 => ?_) (fun e18 => ?_)
    · replace hF := ite_T e18 hF
      refine hJ.aload_n (i := 1) dX7_goesAhead_53 rfl rfl ?_
      refine hJ.getI dX7_goesAhead_54 f_RX7_154 rfl ?_
      refine hJ.aload_n (i := 2) dX7_goesAhead_57 rfl rfl ?_
      refine hJ.getI dX7_goesAhead_58 f_RX7_154 rfl ?_
      refine hJ.icmp_ge (tgt := 68) dX7_goesAhead_61 (by decide) (fun e19 => ?_) (fun e19 => ?_)
      · replace hF := ite_T e19 hF
        refine hJ.iconst (v := 0) dX7_goesAhead_68 (by decide) ?_
        obtain ⟨rfl, rfl⟩ := ret_S hF
        exact hR dX7_goesAhead_69 (by decide) (by decide) (by decide)
      · replace hF := ite_F e19 hF
        refine hJ.iconst (v := 1) dX7_goesAhead_64 (by decide) ?_
        refine hJ.goto (tgt := 69) dX7_goesAhead_65 (by decide) ?_
        obtain ⟨rfl, rfl⟩ := ret_S hF
        exact hR dX7_goesAhead_69 (by decide) (by decide) (by decide)
    · replace hF := ite_F e18 hF
      refine hJ.iload (i := 4) dX7_goesAhead_42 rfl ?_
      refine hJ.if_le (tgt := 51) dX7_goesAhead_44 (by decide) (fun e20 => ?_) (fun e20 => ?_)
      · replace hF := ite_T e20 hF
        refine hJ.iconst (v := 0) dX7_goesAhead_51 (by decide) ?_
        obtain ⟨rfl, rfl⟩ := ret_S hF
        exact hR dX7_goesAhead_52 (by decide) (by decide) (by decide)
      · replace hF := ite_F e20 hF
        refine hJ.iconst (v := 1) dX7_goesAhead_47 (by decide) ?_
        refine hJ.goto (tgt := 52) dX7_goesAhead_48 (by decide) ?_
        obtain ⟨rfl, rfl⟩ := ret_S hF
        exact hR dX7_goesAhead_52 (by decide) (by decide) (by decide)
  · replace hF := ite_F e7 hF
    refine hJ.iload_n (i := 3) dX7_goesAhead_16 rfl rfl ?_
    refine hJ.if_ge (tgt := 24) dX7_goesAhead_17 (by decide) (fun e21 => ?_) (fun e21 => ?_)
    · replace hF := ite_T e21 hF
      refine hJ.iconst (v := 0) dX7_goesAhead_24 (by decide) ?_
      obtain ⟨rfl, rfl⟩ := ret_S hF
      exact hR dX7_goesAhead_25 (by decide) (by decide) (by decide)
    · replace hF := ite_F e21 hF
      refine hJ.iconst (v := 1) dX7_goesAhead_20 (by decide) ?_
      refine hJ.goto (tgt := 25) dX7_goesAhead_21 (by decide) ?_
      obtain ⟨rfl, rfl⟩ := ret_S hF
      exact hR dX7_goesAhead_25 (by decide) (by decide) (by decide)

set_option maxHeartbeats 4000000 in
set_option maxRecDepth 100000 in
theorem t_X7_nextAt_4 {β : Type} {J : JT} (hJ : Rules cX7_nextAt RX7 5 3 0 0 False J) {a b : Nat} (ha : a ≤ 0) (hb : b ≤ 0) {v0 : Nat} {v1 : Option Nat} {κ72 : Option Nat → Hp → Option β} {out : β}
    (hk72 : ∀ (k2 : Option Nat) (h : Hp), κ72 k2 h = some out → J 72 [none, none, some (.inr (2, k2)), none, none] [] h a b)
    : ∀ (f : Nat) (v2 : Option Nat) (v3 : Int32) (h : Hp), L_X7_nextAt_4 v0 v1 κ72 f v2 v3 h = some out → J 4 [some (.inr (7, (some v0))), some (.inr (4, v1)), some (.inr (2, v2)), some (.inl v3), none] [] h a b := by
  intro f
  induction f with
  | zero => intro v2 v3 h hF; simp [L_X7_nextAt_4] at hF
  | succ f ih =>
    intro v2 v3 h hF
    rw [L_X7_nextAt_4] at hF
    refine hJ.iload_n (i := 3) dX7_nextAt_4 rfl rfl ?_
    refine hJ.aload_n (i := 0) dX7_nextAt_5 rfl rfl ?_
    refine hJ.getI dX7_nextAt_6 f_RX7_43 rfl ?_
    refine hJ.icmp_ge (tgt := 72) dX7_nextAt_9 (by decide) (fun e1 => ?_) (fun e1 => ?_)
    · replace hF := ite_T e1 hF
      refine hJ.forget (ls2 := [none, none, some (.inr (2, v2)), none, none]) ⟨rfl, trivial⟩ ?_
      exact hk72 v2 h hF
    · replace hF := ite_F e1 hF
      refine hJ.aload_n (i := 0) dX7_nextAt_12 rfl rfl ?_
      refine hJ.getR dX7_nextAt_13 f_RX7_39 rfl ?_
      refine hJ.iload_n (i := 3) dX7_nextAt_16 rfl rfl ?_
      replace hF := nn_S hF
      obtain ⟨n2, e3, hF⟩ := hF
      rw [e3]
      replace hF := ck_S hF
      obtain ⟨c4, hF⟩ := hF
      refine hJ.aald dX7_nextAt_17 a_22 rfl c4 ?_
      replace hF := nn_S hF
      obtain ⟨n5, e6, hF⟩ := hF
      rw [e6]
      refine hJ.getR dX7_nextAt_18 f_RX7_243 rfl ?_
      refine hJ.astore (i := 4) (ls2 := [some (.inr (7, (some v0))), some (.inr (4, v1)), some (.inr (2, v2)), some (.inl v3), some (.inr (2, (pR h 0 n5 3)))]) dX7_nextAt_21 (by decide) rfl ?_
      refine hJ.aload (i := 4) dX7_nextAt_23 rfl ?_
      refine hJ.ifnull (tgt := 66) dX7_nextAt_25 (by decide) (fun e7 => ?_) (fun n8 e7 => ?_)
      · replace hF := onn_N e7 hF
        rw [e7]
        refine hJ.iinc (i := 3) (v := (v3 + (1 : Int32))) (ls2 := [some (.inr (7, (some v0))), some (.inr (4, v1)), some (.inr (2, v2)), some (.inl (v3 + (1 : Int32))), some (.inr (2, none))]) dX7_nextAt_66 rfl (addI (by decide)) (by decide) rfl ?_
        refine hJ.goto (tgt := 4) dX7_nextAt_69 (by decide) ?_
        refine hJ.forget (ls2 := [some (.inr (7, (some v0))), some (.inr (4, v1)), some (.inr (2, v2)), some (.inl (v3 + (1 : Int32))), none]) ⟨rfl, rfl, rfl, rfl, trivial⟩ ?_
        exact ih v2 (v3 + (1 : Int32)) h hF
      · replace hF := onn_J e7 hF
        rw [e7]
        refine hJ.aload (i := 4) dX7_nextAt_28 rfl ?_
        refine hJ.aload_n (i := 1) dX7_nextAt_30 rfl rfl ?_
        replace hF := cl_S hF
        obtain ⟨r9, h10, ec11, hF⟩ := hF
        refine hJ.callV (as := [.inr (4, v1)]) (st := []) dX7_nextAt_31 w_RX7_247 ⟨by decide, rfl⟩ rfl (c_X2_fits ec11) (by decide) ha hb rfl (Nat.le_of_ble_eq_true rfl) rfl ?_
        refine hJ.if_eq (tgt := 66) dX7_nextAt_34 (by decide) (fun e12 => ?_) (fun e12 => ?_)
        · replace hF := ite_T e12 hF
          refine hJ.iinc (i := 3) (v := (v3 + (1 : Int32))) (ls2 := [some (.inr (7, (some v0))), some (.inr (4, v1)), some (.inr (2, v2)), some (.inl (v3 + (1 : Int32))), some (.inr (2, (some n8)))]) dX7_nextAt_66 rfl (addI (by decide)) (by decide) rfl ?_
          refine hJ.goto (tgt := 4) dX7_nextAt_69 (by decide) ?_
          refine hJ.forget (ls2 := [some (.inr (7, (some v0))), some (.inr (4, v1)), some (.inr (2, v2)), some (.inl (v3 + (1 : Int32))), none]) ⟨rfl, rfl, rfl, rfl, trivial⟩ ?_
          exact ih v2 (v3 + (1 : Int32)) h10 hF
        · replace hF := ite_F e12 hF
          refine hJ.aload (i := 4) dX7_nextAt_37 rfl ?_
          replace hF := cl_S hF
          obtain ⟨r13, h14, ec15, hF⟩ := hF
          refine hJ.callV (as := []) (st := []) dX7_nextAt_39 w_RX7_236 ⟨by decide, rfl⟩ rfl (c_X2_need ec15) (by decide) ha hb rfl (Nat.le_of_ble_eq_true rfl) rfl ?_
          refine hJ.aload_n (i := 1) dX7_nextAt_42 rfl rfl ?_
          replace hF := nn_S hF
          obtain ⟨n16, e17, hF⟩ := hF
          subst e17
          refine hJ.getI dX7_nextAt_43 f_RX7_233 rfl ?_
          refine hJ.icmp_gt (tgt := 66) dX7_nextAt_46 (by decide) (fun e18 => ?_) (fun e18 => ?_)
          · replace hF := ite_T e18 hF
            refine hJ.iinc (i := 3) (v := (v3 + (1 : Int32))) (ls2 := [some (.inr (7, (some v0))), some (.inr (4, (some n16))), some (.inr (2, v2)), some (.inl (v3 + (1 : Int32))), some (.inr (2, (some n8)))]) dX7_nextAt_66 rfl (addI (by decide)) (by decide) rfl ?_
            refine hJ.goto (tgt := 4) dX7_nextAt_69 (by decide) ?_
            refine hJ.forget (ls2 := [some (.inr (7, (some v0))), some (.inr (4, (some n16))), some (.inr (2, v2)), some (.inl (v3 + (1 : Int32))), none]) ⟨rfl, rfl, rfl, rfl, trivial⟩ ?_
            exact ih v2 (v3 + (1 : Int32)) h14 hF
          · replace hF := ite_F e18 hF
            refine hJ.aload_n (i := 2) dX7_nextAt_49 rfl rfl ?_
            refine hJ.ifnull (tgt := 63) dX7_nextAt_50 (by decide) (fun e19 => ?_) (fun n20 e19 => ?_)
            · replace hF := onn_N e19 hF
              subst e19
              refine hJ.aload (i := 4) dX7_nextAt_63 rfl ?_
              refine hJ.astore_n (i := 2) (ls2 := [some (.inr (7, (some v0))), some (.inr (4, (some n16))), some (.inr (2, (some n8))), some (.inl v3), some (.inr (2, (some n8)))]) dX7_nextAt_65 rfl (by decide) rfl ?_
              refine hJ.iinc (i := 3) (v := (v3 + (1 : Int32))) (ls2 := [some (.inr (7, (some v0))), some (.inr (4, (some n16))), some (.inr (2, (some n8))), some (.inl (v3 + (1 : Int32))), some (.inr (2, (some n8)))]) dX7_nextAt_66 rfl (addI (by decide)) (by decide) rfl ?_
              refine hJ.goto (tgt := 4) dX7_nextAt_69 (by decide) ?_
              refine hJ.forget (ls2 := [some (.inr (7, (some v0))), some (.inr (4, (some n16))), some (.inr (2, (some n8))), some (.inl (v3 + (1 : Int32))), none]) ⟨rfl, rfl, rfl, rfl, trivial⟩ ?_
              exact ih (some n8) (v3 + (1 : Int32)) h14 hF
            · replace hF := onn_J e19 hF
              subst e19
              refine hJ.aload_n (i := 0) dX7_nextAt_53 rfl rfl ?_
              refine hJ.aload (i := 4) dX7_nextAt_54 rfl ?_
              refine hJ.aload_n (i := 2) dX7_nextAt_56 rfl rfl ?_
              replace hF := cl_S hF
              obtain ⟨r21, h22, ec23, hF⟩ := hF
              refine hJ.callV (as := [.inr (2, (some n8)), .inr (2, (some n20))]) (st := []) dX7_nextAt_57 w_RX7_251 ⟨by decide, rfl⟩ rfl (c_X7_goesAhead ec23) (by decide) ha hb rfl (Nat.le_of_ble_eq_true rfl) rfl ?_
              refine hJ.if_eq (tgt := 66) dX7_nextAt_60 (by decide) (fun e24 => ?_) (fun e24 => ?_)
              · replace hF := ite_T e24 hF
                refine hJ.iinc (i := 3) (v := (v3 + (1 : Int32))) (ls2 := [some (.inr (7, (some v0))), some (.inr (4, (some n16))), some (.inr (2, (some n20))), some (.inl (v3 + (1 : Int32))), some (.inr (2, (some n8)))]) dX7_nextAt_66 rfl (addI (by decide)) (by decide) rfl ?_
                refine hJ.goto (tgt := 4) dX7_nextAt_69 (by decide) ?_
                refine hJ.forget (ls2 := [some (.inr (7, (some v0))), some (.inr (4, (some n16))), some (.inr (2, (some n20))), some (.inl (v3 + (1 : Int32))), none]) ⟨rfl, rfl, rfl, rfl, trivial⟩ ?_
                exact ih (some n20) (v3 + (1 : Int32)) h22 hF
              · replace hF := ite_F e24 hF
                refine hJ.aload (i := 4) dX7_nextAt_63 rfl ?_
                refine hJ.astore_n (i := 2) (ls2 := [some (.inr (7, (some v0))), some (.inr (4, (some n16))), some (.inr (2, (some n8))), some (.inl v3), some (.inr (2, (some n8)))]) dX7_nextAt_65 rfl (by decide) rfl ?_
                refine hJ.iinc (i := 3) (v := (v3 + (1 : Int32))) (ls2 := [some (.inr (7, (some v0))), some (.inr (4, (some n16))), some (.inr (2, (some n8))), some (.inl (v3 + (1 : Int32))), some (.inr (2, (some n8)))]) dX7_nextAt_66 rfl (addI (by decide)) (by decide) rfl ?_
                refine hJ.goto (tgt := 4) dX7_nextAt_69 (by decide) ?_
                refine hJ.forget (ls2 := [some (.inr (7, (some v0))), some (.inr (4, (some n16))), some (.inr (2, (some n8))), some (.inl (v3 + (1 : Int32))), none]) ⟨rfl, rfl, rfl, rfl, trivial⟩ ?_
                exact ih (some n8) (v3 + (1 : Int32)) h22 hF

set_option maxHeartbeats 4000000 in
set_option maxRecDepth 100000 in
theorem c_X7_nextAt {x0 : Nat} {x1 : Option Nat} {h hh : Hp} {xr : Option Nat} (hF : F_X7_nextAt x0 x1 h = some (xr, hh)) : Ctr yX7_nextAt cX7_nextAt 5 (some (.object RX2)) 3 0 0 [.inr (7, (some x0)), .inr (4, x1)] h (some (.inr (2, xr))) hh := by
  refine Ctr_a (own := RX7) (ini := False) (ls0 := [some (.inr (7, (some x0))), some (.inr (4, x1)), none, none, none]) (by decide) rfl (Nat.le_of_ble_eq_true rfl) (fun e => e.elim) rfl ?_
  intro J hJ hR
  unfold F_X7_nextAt at hF
  refine hJ.null (kk := 2) dX7_nextAt_0 ?_
  refine hJ.astore_n (i := 2) (ls2 := [some (.inr (7, (some x0))), some (.inr (4, x1)), some (.inr (2, none)), none, none]) dX7_nextAt_1 rfl (by decide) rfl ?_
  refine hJ.iconst (v := 0) dX7_nextAt_2 (by decide) ?_
  refine hJ.istore_n (i := 3) (ls2 := [some (.inr (7, (some x0))), some (.inr (4, x1)), some (.inr (2, none)), some (.inl (0 : Int32)), none]) dX7_nextAt_3 rfl (by decide) rfl ?_
  refine hJ.forget (ls2 := [some (.inr (7, (some x0))), some (.inr (4, x1)), some (.inr (2, none)), some (.inl (0 : Int32)), none]) ⟨rfl, rfl, rfl, rfl, trivial⟩ ?_
  refine t_X7_nextAt_4 hJ (by decide) (by decide) (fun k25 h26 hF => ?_) FU _ _ _ hF
  refine hJ.aload_n (i := 2) dX7_nextAt_72 rfl rfl ?_
  obtain ⟨rfl, rfl⟩ := ret_S hF
  exact hR dX7_nextAt_73 (Or.inr rfl) (by decide) (by decide)

set_option maxHeartbeats 4000000 in
set_option maxRecDepth 100000 in
theorem c_X7_today {x0 : Nat} {h hh : Hp} {xr : Int32} (hF : F_X7_today x0 h = some (xr, hh)) : Ctr yX7_today cX7_today 1 (some .int) 0 0 0 [.inr (7, (some x0))] h (some (.inl xr)) hh := by
  refine Ctr_i (own := RX7) (ini := False) (ls0 := [some (.inr (7, (some x0)))]) (by decide) rfl (Nat.le_of_ble_eq_true rfl) (fun e => e.elim) rfl ?_
  intro J hJ hR
  unfold F_X7_today at hF
  refine hJ.aload_n (i := 0) dX7_today_0 rfl rfl ?_
  refine hJ.getI dX7_today_1 f_RX7_79 rfl ?_
  refine hJ.bipush (v := 24) dX7_today_4 (by decide) ?_
  refine hJ.idiv dX7_today_6 (by decide) ?_
  obtain ⟨rfl, rfl⟩ := ret_S hF
  exact hR dX7_today_7 (by decide) (by decide)

set_option maxHeartbeats 4000000 in
set_option maxRecDepth 100000 in
theorem t_X7_takeTolls_34 {β : Type} {J : JT} (hJ : Rules cX7_takeTolls RX7 6 1 0 0 False J) {a b : Nat} (ha : a ≤ 0) (hb : b ≤ 0) {v0 : Nat} {v1 : Nat} {v2 : Int32} {v3 : Int32} {v4 : Option Nat} {κ80 : Hp → Option β} {out : β}
    (hk80 : ∀ (h : Hp), κ80 h = some out → J 80 [some (.inr (7, (some v0))), some (.inr (2, (some v1))), some (.inl v2), some (.inl v3), none, none] [] h a b)
    : ∀ (f : Nat) (v5 : Int32) (h : Hp), L_X7_takeTolls_34 v0 v1 v2 v3 v4 κ80 f v5 h = some out → J 34 [some (.inr (7, (some v0))), some (.inr (2, (some v1))), some (.inl v2), some (.inl v3), some (.inr (3, v4)), some (.inl v5)] [] h a b := by
  intro f
  induction f with
  | zero => intro v5 h hF; simp [L_X7_takeTolls_34] at hF
  | succ f ih =>
    intro v5 h hF
    rw [L_X7_takeTolls_34] at hF
    refine hJ.iload (i := 5) dX7_takeTolls_34 rfl ?_
    refine hJ.aload (i := 4) dX7_takeTolls_36 rfl ?_
    replace hF := nn_S hF
    obtain ⟨n15, e16, hF⟩ := hF
    subst e16
    refine hJ.getI dX7_takeTolls_38 f_RX7_140 rfl ?_
    refine hJ.icmp_ge (tgt := 80) dX7_takeTolls_41 (by decide) (fun e17 => ?_) (fun e17 => ?_)
    · replace hF := ite_T e17 hF
      refine hJ.forget (ls2 := [some (.inr (7, (some v0))), some (.inr (2, (some v1))), some (.inl v2), some (.inl v3), none, none]) ⟨rfl, rfl, rfl, rfl, trivial⟩ ?_
      exact hk80 h hF
    · replace hF := ite_F e17 hF
      refine hJ.aload_n (i := 0) dX7_takeTolls_44 rfl rfl ?_
      refine hJ.getR dX7_takeTolls_45 f_RX7_69 rfl ?_
      refine hJ.aload (i := 4) dX7_takeTolls_48 rfl ?_
      refine hJ.getR dX7_takeTolls_50 f_RX7_278 rfl ?_
      refine hJ.iload (i := 5) dX7_takeTolls_53 rfl ?_
      replace hF := nn_S hF
      obtain ⟨n18, e19, hF⟩ := hF
      rw [e19]
      replace hF := ck_S hF
      obtain ⟨c20, hF⟩ := hF
      refine hJ.aald dX7_takeTolls_55 a_15 rfl c20 ?_
      replace hF := nn_S hF
      obtain ⟨n21, e22, hF⟩ := hF
      rw [e22]
      refine hJ.getI dX7_takeTolls_56 f_RX7_264 rfl ?_
      refine hJ.dup2 dX7_takeTolls_59 ?_
      replace hF := nn_S hF
      obtain ⟨n23, e24, hF⟩ := hF
      rw [e24]
      replace hF := ck_S hF
      obtain ⟨c25, hF⟩ := hF
      refine hJ.iald dX7_takeTolls_60 a_24 rfl c25 ?_
      refine hJ.iload_n (i := 2) dX7_takeTolls_61 rfl rfl ?_
      refine hJ.isub dX7_takeTolls_62 ?_
      replace hF := ck_S hF
      obtain ⟨c26, hF⟩ := hF
      replace hF := lt_S hF
      obtain ⟨h27, eh28, hF⟩ := hF
      refine hJ.iast dX7_takeTolls_63 a_24 rfl c26 ?_
      rw [← eh28]
      refine hJ.aload_n (i := 0) dX7_takeTolls_64 rfl rfl ?_
      refine hJ.dup dX7_takeTolls_65 ?_
      refine hJ.getI dX7_takeTolls_66 f_RX7_82 rfl ?_
      refine hJ.iload_n (i := 2) dX7_takeTolls_69 rfl rfl ?_
      refine hJ.iadd dX7_takeTolls_70 ?_
      replace hF := lt_S hF
      obtain ⟨h29, eh30, hF⟩ := hF
      refine hJ.putI dX7_takeTolls_71 f_RX7_82 rfl nar_i rfl ?_
      rw [← eh30]
      refine hJ.iinc (i := 5) (v := (v5 + (1 : Int32))) (ls2 := [some (.inr (7, (some v0))), some (.inr (2, (some v1))), some (.inl v2), some (.inl v3), some (.inr (3, (some n15))), some (.inl (v5 + (1 : Int32)))]) dX7_takeTolls_74 rfl (addI (by decide)) (by decide) rfl ?_
      refine hJ.goto (tgt := 34) dX7_takeTolls_77 (by decide) ?_
      refine hJ.forget (ls2 := [some (.inr (7, (some v0))), some (.inr (2, (some v1))), some (.inl v2), some (.inl v3), some (.inr (3, (some n15))), some (.inl (v5 + (1 : Int32)))]) ⟨rfl, rfl, rfl, rfl, rfl, rfl, trivial⟩ ?_
      exact ih (v5 + (1 : Int32)) h29 hF

set_option maxHeartbeats 4000000 in
set_option maxRecDepth 100000 in
theorem t_X7_takeTolls_15 {β : Type} {J : JT} (hJ : Rules cX7_takeTolls RX7 6 1 0 0 False J) {a b : Nat} (ha : a ≤ 0) (hb : b ≤ 0) {v0 : Nat} {v1 : Option Nat} {v2 : Int32} {κ86 : Hp → Option β} {out : β}
    (hk86 : ∀ (h : Hp), κ86 h = some out → J 86 [none, none, none, none, none, none] [] h a b)
    : ∀ (f : Nat) (v3 : Int32) (h : Hp), L_X7_takeTolls_15 v0 v1 v2 κ86 f v3 h = some out → J 15 [some (.inr (7, (some v0))), some (.inr (2, v1)), some (.inl v2), some (.inl v3), none, none] [] h a b := by
  intro f
  induction f with
  | zero => intro v3 h hF; simp [L_X7_takeTolls_15] at hF
  | succ f ih =>
    intro v3 h hF
    rw [L_X7_takeTolls_15] at hF
    refine hJ.iload_n (i := 3) dX7_takeTolls_15 rfl rfl ?_
    refine hJ.aload_n (i := 1) dX7_takeTolls_16 rfl rfl ?_
    replace hF := nn_S hF
    obtain ⟨n9, e10, hF⟩ := hF
    subst e10
    refine hJ.getI dX7_takeTolls_17 f_RX7_160 rfl ?_
    refine hJ.icmp_ge (tgt := 86) dX7_takeTolls_20 (by decide) (fun e11 => ?_) (fun e11 => ?_)
    · replace hF := ite_T e11 hF
      refine hJ.forget (ls2 := [none, none, none, none, none, none]) trivial ?_
      exact hk86 h hF
    · replace hF := ite_F e11 hF
      refine hJ.aload_n (i := 1) dX7_takeTolls_23 rfl rfl ?_
      refine hJ.getR dX7_takeTolls_24 f_RX7_274 rfl ?_
      refine hJ.iload_n (i := 3) dX7_takeTolls_27 rfl rfl ?_
      replace hF := nn_S hF
      obtain ⟨n12, e13, hF⟩ := hF
      rw [e13]
      replace hF := ck_S hF
      obtain ⟨c14, hF⟩ := hF
      refine hJ.aald dX7_takeTolls_28 a_14 rfl c14 ?_
      refine hJ.astore (i := 4) (ls2 := [some (.inr (7, (some v0))), some (.inr (2, (some n9))), some (.inl v2), some (.inl v3), some (.inr (3, (pR h 14 n12 (v3).toNatClampNeg))), none]) dX7_takeTolls_29 (by decide) rfl ?_
      refine hJ.iconst (v := 0) dX7_takeTolls_31 (by decide) ?_
      refine hJ.istore (i := 5) (ls2 := [some (.inr (7, (some v0))), some (.inr (2, (some n9))), some (.inl v2), some (.inl v3), some (.inr (3, (pR h 14 n12 (v3).toNatClampNeg))), some (.inl (0 : Int32))]) dX7_takeTolls_32 (by decide) rfl ?_
      refine hJ.forget (ls2 := [some (.inr (7, (some v0))), some (.inr (2, (some n9))), some (.inl v2), some (.inl v3), some (.inr (3, (pR h 14 n12 (v3).toNatClampNeg))), some (.inl (0 : Int32))]) ⟨rfl, rfl, rfl, rfl, rfl, rfl, trivial⟩ ?_
      refine t_X7_takeTolls_34 hJ ha hb (fun h31 hF => ?_) FU _ _ hF
      refine hJ.iinc (i := 3) (v := (v3 + (1 : Int32))) (ls2 := [some (.inr (7, (some v0))), some (.inr (2, (some n9))), some (.inl v2), some (.inl (v3 + (1 : Int32))), none, none]) dX7_takeTolls_80 rfl (addI (by decide)) (by decide) rfl ?_
      refine hJ.goto (tgt := 15) dX7_takeTolls_83 (by decide) ?_
      refine hJ.forget (ls2 := [some (.inr (7, (some v0))), some (.inr (2, (some n9))), some (.inl v2), some (.inl (v3 + (1 : Int32))), none, none]) ⟨rfl, rfl, rfl, rfl, trivial⟩ ?_
      exact ih (v3 + (1 : Int32)) h31 hF

set_option maxHeartbeats 4000000 in
set_option maxRecDepth 100000 in
theorem c_X7_takeTolls {x0 : Nat} {x1 : Option Nat} {h hh : Hp} {xr : Unit} (hF : F_X7_takeTolls x0 x1 h = some (xr, hh)) : Ctr yX7_takeTolls cX7_takeTolls 6 none 1 0 0 [.inr (7, (some x0)), .inr (2, x1)] h none hh := by
  refine Ctr_v (own := RX7) (ini := False) (ls0 := [some (.inr (7, (some x0))), some (.inr (2, x1)), none, none, none, none]) (by decide) rfl (Nat.le_of_ble_eq_true rfl) (fun e => e.elim) rfl ?_
  intro J hJ hR
  unfold F_X7_takeTolls at hF
  refine hJ.aload_n (i := 0) dX7_takeTolls_0 rfl rfl ?_
  refine hJ.getR dX7_takeTolls_1 f_RX7_58 rfl ?_
  refine hJ.iconst (v := 0) dX7_takeTolls_4 (by decide) ?_
  refine hJ.aload_n (i := 0) dX7_takeTolls_5 rfl rfl ?_
  replace hF := cl_S hF
  obtain ⟨r1, h2, ec3, hF⟩ := hF
  refine hJ.callV (as := []) (st := [.inl (0 : Int32), .inr (5, (pR h 7 x0 9))]) dX7_takeTolls_6 w_RX7_267 ⟨by decide, rfl⟩ rfl (c_X7_today ec3) (by decide) (by decide) (by decide) rfl (Nat.le_of_ble_eq_true rfl) rfl ?_
  replace hF := nn_S hF
  obtain ⟨n4, e5, hF⟩ := hF
  rw [e5]
  replace hF := cl_S hF
  obtain ⟨r6, h7, ec8, hF⟩ := hF
  refine hJ.callV (as := [.inl (0 : Int32), .inl r1]) (st := []) dX7_takeTolls_9 w_RX7_270 ⟨by decide, rfl⟩ rfl (c_X5_inForce ec8) (by decide) (by decide) (by decide) rfl (Nat.le_of_ble_eq_true rfl) rfl ?_
  refine hJ.istore_n (i := 2) (ls2 := [some (.inr (7, (some x0))), some (.inr (2, x1)), some (.inl r6), none, none, none]) dX7_takeTolls_12 rfl (by decide) rfl ?_
  refine hJ.iconst (v := 0) dX7_takeTolls_13 (by decide) ?_
  refine hJ.istore_n (i := 3) (ls2 := [some (.inr (7, (some x0))), some (.inr (2, x1)), some (.inl r6), some (.inl (0 : Int32)), none, none]) dX7_takeTolls_14 rfl (by decide) rfl ?_
  refine hJ.forget (ls2 := [some (.inr (7, (some x0))), some (.inr (2, x1)), some (.inl r6), some (.inl (0 : Int32)), none, none]) ⟨rfl, rfl, rfl, rfl, trivial⟩ ?_
  refine t_X7_takeTolls_15 hJ (by decide) (by decide) (fun h32 hF => ?_) FU _ _ hF
  obtain ⟨-, rfl⟩ := ret_S hF
  exact hR dX7_takeTolls_86 (by decide) (by decide)

set_option maxHeartbeats 4000000 in
set_option maxRecDepth 100000 in
theorem c_X7_openWeir {x0 : Nat} {x1 : Option Nat} {h hh : Hp} {xr : Unit} (hF : F_X7_openWeir x0 x1 h = some (xr, hh)) : Ctr yX7_openWeir cX7_openWeir 3 none 4 0 0 [.inr (7, (some x0)), .inr (4, x1)] h none hh := by
  refine Ctr_v (own := RX7) (ini := False) (ls0 := [some (.inr (7, (some x0))), some (.inr (4, x1)), none]) (by decide) rfl (Nat.le_of_ble_eq_true rfl) (fun e => e.elim) rfl ?_
  intro J hJ hR
  unfold F_X7_openWeir at hF
  refine hJ.aload_n (i := 1) dX7_openWeir_0 rfl rfl ?_
  refine hJ.aload_n (i := 0) dX7_openWeir_1 rfl rfl ?_
  refine hJ.getI dX7_openWeir_2 f_RX7_79 rfl ?_
  replace hF := nn_S hF
  obtain ⟨n1, e2, hF⟩ := hF
  subst e2
  replace hF := cl_S hF
  obtain ⟨r3, h4, ec5, hF⟩ := hF
  refine hJ.callV (as := [.inl (pI h 7 x0 14)]) (st := []) dX7_openWeir_5 w_RX7_224 ⟨by decide, rfl⟩ rfl (c_X4_storms ec5) (by decide) (by decide) (by decide) rfl (Nat.le_of_ble_eq_true rfl) rfl ?_
  refine hJ.if_eq (tgt := 12) dX7_openWeir_8 (by decide) (fun e6 => ?_) (fun e6 => ?_)
  · replace hF := ite_T e6 hF
    refine hJ.aload_n (i := 0) dX7_openWeir_12 rfl rfl ?_
    refine hJ.aload_n (i := 1) dX7_openWeir_13 rfl rfl ?_
    replace hF := cl_S hF
    obtain ⟨r7, h8, ec9, hF⟩ := hF
    refine hJ.callV (as := [.inr (4, (some n1))]) (st := []) dX7_openWeir_14 w_RX7_227 ⟨by decide, rfl⟩ rfl (c_X7_nextAt ec9) (by decide) (by decide) (by decide) rfl (Nat.le_of_ble_eq_true rfl) rfl ?_
    refine hJ.astore_n (i := 2) (ls2 := [some (.inr (7, (some x0))), some (.inr (4, (some n1))), some (.inr (2, r7))]) dX7_openWeir_17 rfl (by decide) rfl ?_
    refine hJ.aload_n (i := 2) dX7_openWeir_18 rfl rfl ?_
    refine hJ.ifnull (tgt := 49) dX7_openWeir_19 (by decide) (fun e10 => ?_) (fun n11 e10 => ?_)
    · replace hF := onn_N e10 hF
      subst e10
      obtain ⟨-, rfl⟩ := ret_S hF
      exact hR dX7_openWeir_49 (by decide) (by decide)
    · replace hF := onn_J e10 hF
      subst e10
      refine hJ.aload_n (i := 0) dX7_openWeir_22 rfl rfl ?_
      refine hJ.aload_n (i := 2) dX7_openWeir_23 rfl rfl ?_
      replace hF := cl_S hF
      obtain ⟨r12, h13, ec14, hF⟩ := hF
      refine hJ.callV0 (as := [.inr (2, (some n11))]) (st := []) dX7_openWeir_24 w_RX7_230 ⟨by decide, rfl⟩ rfl (c_X7_takeTolls ec14) (by decide) (by decide) (by decide) rfl (Nat.le_of_ble_eq_true rfl) rfl ?_
      refine hJ.aload_n (i := 1) dX7_openWeir_27 rfl rfl ?_
      refine hJ.dup dX7_openWeir_28 ?_
      refine hJ.getI dX7_openWeir_29 f_RX7_233 rfl ?_
      refine hJ.aload_n (i := 2) dX7_openWeir_32 rfl rfl ?_
      replace hF := cl_S hF
      obtain ⟨r15, h16, ec17, hF⟩ := hF
      refine hJ.callV (as := []) (st := [.inl (pI h13 4 n1 7), .inr (4, (some n1))]) dX7_openWeir_33 w_RX7_236 ⟨by decide, rfl⟩ rfl (c_X2_need ec17) (by decide) (by decide) (by decide) rfl (Nat.le_of_ble_eq_true rfl) rfl ?_
      refine hJ.isub dX7_openWeir_36 ?_
      replace hF := lt_S hF
      obtain ⟨h18, eh19, hF⟩ := hF
      refine hJ.putI dX7_openWeir_37 f_RX7_233 rfl nar_i rfl ?_
      rw [← eh19]
      refine hJ.aload_n (i := 2) dX7_openWeir_40 rfl rfl ?_
      refine hJ.aload_n (i := 1) dX7_openWeir_41 rfl rfl ?_
      refine hJ.aload_n (i := 0) dX7_openWeir_42 rfl rfl ?_
      refine hJ.getI dX7_openWeir_43 f_RX7_79 rfl ?_
      replace hF := cl_S hF
      obtain ⟨r20, h21, ec22, hF⟩ := hF
      refine hJ.callV0 (as := [.inr (4, (some n1)), .inl (pI h18 7 x0 14)]) (st := []) dX7_openWeir_46 w_RX7_239 ⟨by decide, rfl⟩ rfl (c_X2_goDown ec22) (by decide) (by decide) (by decide) rfl (Nat.le_of_ble_eq_true rfl) rfl ?_
      obtain ⟨-, rfl⟩ := ret_S hF
      exact hR dX7_openWeir_49 (by decide) (by decide)
  · replace hF := ite_F e6 hF
    obtain ⟨-, rfl⟩ := ret_S hF
    exact hR dX7_openWeir_11 (by decide) (by decide)

set_option maxHeartbeats 4000000 in
set_option maxRecDepth 100000 in
theorem t_X7_passHour_2 {β : Type} {J : JT} (hJ : Rules cX7_passHour RX7 2 5 0 0 False J) {a b : Nat} (ha : a ≤ 0) (hb : b ≤ 0) {v0 : Nat} {κ29 : Hp → Option β} {out : β}
    (hk29 : ∀ (h : Hp), κ29 h = some out → J 29 [some (.inr (7, (some v0))), none] [] h a b)
    : ∀ (f : Nat) (v1 : Int32) (h : Hp), L_X7_passHour_2 v0 κ29 f v1 h = some out → J 2 [some (.inr (7, (some v0))), some (.inl v1)] [] h a b := by
  intro f
  induction f with
  | zero => intro v1 h hF; simp [L_X7_passHour_2] at hF
  | succ f ih =>
    intro v1 h hF
    rw [L_X7_passHour_2] at hF
    refine hJ.iload_n (i := 1) dX7_passHour_2 rfl rfl ?_
    refine hJ.aload_n (i := 0) dX7_passHour_3 rfl rfl ?_
    refine hJ.getI dX7_passHour_4 f_RX7_43 rfl ?_
    refine hJ.icmp_ge (tgt := 29) dX7_passHour_7 (by decide) (fun e1 => ?_) (fun e1 => ?_)
    · replace hF := ite_T e1 hF
      refine hJ.forget (ls2 := [some (.inr (7, (some v0))), none]) ⟨rfl, trivial⟩ ?_
      exact hk29 h hF
    · replace hF := ite_F e1 hF
      refine hJ.aload_n (i := 0) dX7_passHour_10 rfl rfl ?_
      refine hJ.getR dX7_passHour_11 f_RX7_39 rfl ?_
      refine hJ.iload_n (i := 1) dX7_passHour_14 rfl rfl ?_
      replace hF := nn_S hF
      obtain ⟨n2, e3, hF⟩ := hF
      rw [e3]
      replace hF := ck_S hF
      obtain ⟨c4, hF⟩ := hF
      refine hJ.aald dX7_passHour_15 a_22 rfl c4 ?_
      refine hJ.aload_n (i := 0) dX7_passHour_16 rfl rfl ?_
      refine hJ.getI dX7_passHour_17 f_RX7_79 rfl ?_
      replace hF := nn_S hF
      obtain ⟨n5, e6, hF⟩ := hF
      rw [e6]
      replace hF := cl_S hF
      obtain ⟨r7, h8, ec9, hF⟩ := hF
      refine hJ.callV0 (as := [.inl (pI h 7 v0 14)]) (st := []) dX7_passHour_20 w_RX7_214 ⟨by decide, rfl⟩ rfl (c_X0_comeBy ec9) (by decide) ha hb rfl (Nat.le_of_ble_eq_true rfl) rfl ?_
      refine hJ.iinc (i := 1) (v := (v1 + (1 : Int32))) (ls2 := [some (.inr (7, (some v0))), some (.inl (v1 + (1 : Int32)))]) dX7_passHour_23 rfl (addI (by decide)) (by decide) rfl ?_
      refine hJ.goto (tgt := 2) dX7_passHour_26 (by decide) ?_
      refine hJ.forget (ls2 := [some (.inr (7, (some v0))), some (.inl (v1 + (1 : Int32)))]) ⟨rfl, rfl, trivial⟩ ?_
      exact ih (v1 + (1 : Int32)) h8 hF

set_option maxHeartbeats 4000000 in
set_option maxRecDepth 100000 in
theorem t_X7_passHour_31 {β : Type} {J : JT} (hJ : Rules cX7_passHour RX7 2 5 0 0 False J) {a b : Nat} (ha : a ≤ 0) (hb : b ≤ 0) {v0 : Nat} {κ55 : Hp → Option β} {out : β}
    (hk55 : ∀ (h : Hp), κ55 h = some out → J 55 [some (.inr (7, (some v0))), none] [] h a b)
    : ∀ (f : Nat) (v1 : Int32) (h : Hp), L_X7_passHour_31 v0 κ55 f v1 h = some out → J 31 [some (.inr (7, (some v0))), some (.inl v1)] [] h a b := by
  intro f
  induction f with
  | zero => intro v1 h hF; simp [L_X7_passHour_31] at hF
  | succ f ih =>
    intro v1 h hF
    rw [L_X7_passHour_31] at hF
    refine hJ.iload_n (i := 1) dX7_passHour_31 rfl rfl ?_
    refine hJ.aload_n (i := 0) dX7_passHour_32 rfl rfl ?_
    refine hJ.getI dX7_passHour_33 f_RX7_15 rfl ?_
    refine hJ.icmp_ge (tgt := 55) dX7_passHour_36 (by decide) (fun e11 => ?_) (fun e11 => ?_)
    · replace hF := ite_T e11 hF
      refine hJ.forget (ls2 := [some (.inr (7, (some v0))), none]) ⟨rfl, trivial⟩ ?_
      exact hk55 h hF
    · replace hF := ite_F e11 hF
      refine hJ.aload_n (i := 0) dX7_passHour_39 rfl rfl ?_
      refine hJ.aload_n (i := 0) dX7_passHour_40 rfl rfl ?_
      refine hJ.getR dX7_passHour_41 f_RX7_11 rfl ?_
      refine hJ.iload_n (i := 1) dX7_passHour_44 rfl rfl ?_
      replace hF := nn_S hF
      obtain ⟨n12, e13, hF⟩ := hF
      rw [e13]
      replace hF := ck_S hF
      obtain ⟨c14, hF⟩ := hF
      refine hJ.aald dX7_passHour_45 a_19 rfl c14 ?_
      replace hF := cl_S hF
      obtain ⟨r15, h16, ec17, hF⟩ := hF
      refine hJ.callV0 (as := [.inr (4, (pR h 19 n12 (v1).toNatClampNeg))]) (st := []) dX7_passHour_46 w_RX7_217 ⟨by decide, rfl⟩ rfl (c_X7_openWeir ec17) (by decide) ha hb rfl (Nat.le_of_ble_eq_true rfl) rfl ?_
      refine hJ.iinc (i := 1) (v := (v1 + (1 : Int32))) (ls2 := [some (.inr (7, (some v0))), some (.inl (v1 + (1 : Int32)))]) dX7_passHour_49 rfl (addI (by decide)) (by decide) rfl ?_
      refine hJ.goto (tgt := 31) dX7_passHour_52 (by decide) ?_
      refine hJ.forget (ls2 := [some (.inr (7, (some v0))), some (.inl (v1 + (1 : Int32)))]) ⟨rfl, rfl, trivial⟩ ?_
      exact ih (v1 + (1 : Int32)) h16 hF

set_option maxHeartbeats 4000000 in
set_option maxRecDepth 100000 in
theorem t_X7_passHour_57 {β : Type} {J : JT} (hJ : Rules cX7_passHour RX7 2 5 0 0 False J) {a b : Nat} (ha : a ≤ 0) (hb : b ≤ 0) {v0 : Nat} {κ80 : Hp → Option β} {out : β}
    (hk80 : ∀ (h : Hp), κ80 h = some out → J 80 [some (.inr (7, (some v0))), none] [] h a b)
    : ∀ (f : Nat) (v1 : Int32) (h : Hp), L_X7_passHour_57 v0 κ80 f v1 h = some out → J 57 [some (.inr (7, (some v0))), some (.inl v1)] [] h a b := by
  intro f
  induction f with
  | zero => intro v1 h hF; simp [L_X7_passHour_57] at hF
  | succ f ih =>
    intro v1 h hF
    rw [L_X7_passHour_57] at hF
    refine hJ.iload_n (i := 1) dX7_passHour_57 rfl rfl ?_
    refine hJ.aload_n (i := 0) dX7_passHour_58 rfl rfl ?_
    refine hJ.getI dX7_passHour_59 f_RX7_15 rfl ?_
    refine hJ.icmp_ge (tgt := 80) dX7_passHour_62 (by decide) (fun e19 => ?_) (fun e19 => ?_)
    · replace hF := ite_T e19 hF
      refine hJ.forget (ls2 := [some (.inr (7, (some v0))), none]) ⟨rfl, trivial⟩ ?_
      exact hk80 h hF
    · replace hF := ite_F e19 hF
      refine hJ.aload_n (i := 0) dX7_passHour_65 rfl rfl ?_
      refine hJ.getR dX7_passHour_66 f_RX7_11 rfl ?_
      refine hJ.iload_n (i := 1) dX7_passHour_69 rfl rfl ?_
      replace hF := nn_S hF
      obtain ⟨n20, e21, hF⟩ := hF
      rw [e21]
      replace hF := ck_S hF
      obtain ⟨c22, hF⟩ := hF
      refine hJ.aald dX7_passHour_70 a_19 rfl c22 ?_
      replace hF := nn_S hF
      obtain ⟨n23, e24, hF⟩ := hF
      rw [e24]
      replace hF := cl_S hF
      obtain ⟨r25, h26, ec27, hF⟩ := hF
      refine hJ.callV0 (as := []) (st := []) dX7_passHour_71 w_RX7_221 ⟨by decide, rfl⟩ rfl (c_X4_fillPond ec27) (by decide) ha hb rfl (Nat.le_of_ble_eq_true rfl) rfl ?_
      refine hJ.iinc (i := 1) (v := (v1 + (1 : Int32))) (ls2 := [some (.inr (7, (some v0))), some (.inl (v1 + (1 : Int32)))]) dX7_passHour_74 rfl (addI (by decide)) (by decide) rfl ?_
      refine hJ.goto (tgt := 57) dX7_passHour_77 (by decide) ?_
      refine hJ.forget (ls2 := [some (.inr (7, (some v0))), some (.inl (v1 + (1 : Int32)))]) ⟨rfl, rfl, trivial⟩ ?_
      exact ih (v1 + (1 : Int32)) h26 hF

set_option maxHeartbeats 4000000 in
set_option maxRecDepth 100000 in
theorem c_X7_passHour {x0 : Nat} {h hh : Hp} {xr : Unit} (hF : F_X7_passHour x0 h = some (xr, hh)) : Ctr yX7_passHour cX7_passHour 2 none 5 0 0 [.inr (7, (some x0))] h none hh := by
  refine Ctr_v (own := RX7) (ini := False) (ls0 := [some (.inr (7, (some x0))), none]) (by decide) rfl (Nat.le_of_ble_eq_true rfl) (fun e => e.elim) rfl ?_
  intro J hJ hR
  unfold F_X7_passHour at hF
  refine hJ.iconst (v := 0) dX7_passHour_0 (by decide) ?_
  refine hJ.istore_n (i := 1) (ls2 := [some (.inr (7, (some x0))), some (.inl (0 : Int32))]) dX7_passHour_1 rfl (by decide) rfl ?_
  refine hJ.forget (ls2 := [some (.inr (7, (some x0))), some (.inl (0 : Int32))]) ⟨rfl, rfl, trivial⟩ ?_
  refine t_X7_passHour_2 hJ (by decide) (by decide) (fun h10 hF => ?_) FU _ _ hF
  refine hJ.iconst (v := 1) dX7_passHour_29 (by decide) ?_
  refine hJ.istore_n (i := 1) (ls2 := [some (.inr (7, (some x0))), some (.inl (1 : Int32))]) dX7_passHour_30 rfl (by decide) rfl ?_
  refine hJ.forget (ls2 := [some (.inr (7, (some x0))), some (.inl (1 : Int32))]) ⟨rfl, rfl, trivial⟩ ?_
  refine t_X7_passHour_31 hJ (by decide) (by decide) (fun h18 hF => ?_) FU _ _ hF
  refine hJ.iconst (v := 1) dX7_passHour_55 (by decide) ?_
  refine hJ.istore_n (i := 1) (ls2 := [some (.inr (7, (some x0))), some (.inl (1 : Int32))]) dX7_passHour_56 rfl (by decide) rfl ?_
  refine hJ.forget (ls2 := [some (.inr (7, (some x0))), some (.inl (1 : Int32))]) ⟨rfl, rfl, trivial⟩ ?_
  refine t_X7_passHour_57 hJ (by decide) (by decide) (fun h28 hF => ?_) FU _ _ hF
  refine hJ.aload_n (i := 0) dX7_passHour_80 rfl rfl ?_
  refine hJ.dup dX7_passHour_81 ?_
  refine hJ.getI dX7_passHour_82 f_RX7_79 rfl ?_
  refine hJ.iconst (v := 1) dX7_passHour_85 (by decide) ?_
  refine hJ.iadd dX7_passHour_86 ?_
  replace hF := lt_S hF
  obtain ⟨h29, eh30, hF⟩ := hF
  refine hJ.putI dX7_passHour_87 f_RX7_79 rfl nar_i rfl ?_
  rw [← eh30]
  obtain ⟨-, rfl⟩ := ret_S hF
  exact hR dX7_passHour_90 (by decide) (by decide)

set_option maxHeartbeats 4000000 in
set_option maxRecDepth 100000 in
theorem t_X7_go_15 {β : Type} {J : JT} (hJ : Rules cX7_go RX7 3 6 0 0 False J) {a b : Nat} (ha : a ≤ 0) (hb : b ≤ 0) {v0 : Nat} {v1 : Int32} {κ40 : Hp → Option β} {out : β}
    (hk40 : ∀ (h : Hp), κ40 h = some out → J 40 [some (.inr (7, (some v0))), none, none] [] h a b)
    : ∀ (f : Nat) (v2 : Int32) (h : Hp), L_X7_go_15 v0 v1 κ40 f v2 h = some out → J 15 [some (.inr (7, (some v0))), some (.inl v1), some (.inl v2)] [] h a b := by
  intro f
  induction f with
  | zero => intro v2 h hF; simp [L_X7_go_15] at hF
  | succ f ih =>
    intro v2 h hF
    rw [L_X7_go_15] at hF
    refine hJ.iload_n (i := 2) dX7_go_15 rfl rfl ?_
    refine hJ.iload_n (i := 1) dX7_go_16 rfl rfl ?_
    refine hJ.icmp_ge (tgt := 40) dX7_go_17 (by decide) (fun e5 => ?_) (fun e5 => ?_)
    · replace hF := ite_T e5 hF
      refine hJ.forget (ls2 := [some (.inr (7, (some v0))), none, none]) ⟨rfl, trivial⟩ ?_
      exact hk40 h hF
    · replace hF := ite_F e5 hF
      refine hJ.aload_n (i := 0) dX7_go_20 rfl rfl ?_
      refine hJ.getI dX7_go_21 f_RX7_79 rfl ?_
      refine hJ.sipush (v := 20000) dX7_go_24 (by decide) ?_
      refine hJ.icmp_ge (tgt := 40) dX7_go_27 (by decide) (fun e6 => ?_) (fun e6 => ?_)
      · replace hF := ite_T e6 hF
        refine hJ.forget (ls2 := [some (.inr (7, (some v0))), none, none]) ⟨rfl, trivial⟩ ?_
        exact hk40 h hF
      · replace hF := ite_F e6 hF
        refine hJ.aload_n (i := 0) dX7_go_30 rfl rfl ?_
        replace hF := cl_S hF
        obtain ⟨r7, h8, ec9, hF⟩ := hF
        refine hJ.callV0 (as := []) (st := []) dX7_go_31 w_RX7_211 ⟨by decide, rfl⟩ rfl (c_X7_passHour ec9) (by decide) ha hb rfl (Nat.le_of_ble_eq_true rfl) rfl ?_
        refine hJ.iinc (i := 2) (v := (v2 + (1 : Int32))) (ls2 := [some (.inr (7, (some v0))), some (.inl v1), some (.inl (v2 + (1 : Int32)))]) dX7_go_34 rfl (addI (by decide)) (by decide) rfl ?_
        refine hJ.goto (tgt := 15) dX7_go_37 (by decide) ?_
        refine hJ.forget (ls2 := [some (.inr (7, (some v0))), some (.inl v1), some (.inl (v2 + (1 : Int32)))]) ⟨rfl, rfl, rfl, trivial⟩ ?_
        exact ih (v2 + (1 : Int32)) h8 hF

set_option maxHeartbeats 4000000 in
set_option maxRecDepth 100000 in
theorem c_X7_go {x0 : Nat} {x1 : Int32} {h hh : Hp} {xr : Int32} (hF : F_X7_go x0 x1 h = some (xr, hh)) : Ctr yX7_go cX7_go 3 (some .int) 6 0 0 [.inr (7, (some x0)), .inl x1] h (some (.inl xr)) hh := by
  refine Ctr_i (own := RX7) (ini := False) (ls0 := [some (.inr (7, (some x0))), some (.inl x1), none]) (by decide) rfl (Nat.le_of_ble_eq_true rfl) (fun e => e.elim) rfl ?_
  intro J hJ hR
  unfold F_X7_go at hF
  refine hJ.iload_n (i := 1) dX7_go_0 rfl rfl ?_
  refine hJ.iconst (v := 0) dX7_go_1 (by decide) ?_
  refine hJ.sipush (v := 500) dX7_go_2 (by decide) ?_
  replace hF := cl_S hF
  obtain ⟨r1, h2, ec3, hF⟩ := hF
  refine hJ.callS (as := [.inl x1, .inl (0 : Int32), .inl (500 : Int32)]) (st := []) dX7_go_5 w_RX7_109 (c_X7_within ec3) (by decide) (by decide) (by decide) rfl (Nat.le_of_ble_eq_true rfl) rfl ?_
  refine hJ.if_ne (tgt := 13) dX7_go_8 (by decide) (fun e4 => ?_) (fun e4 => ?_)
  · replace hF := ite_F e4 hF
    refine hJ.iconst (v := 0) dX7_go_13 (by decide) ?_
    refine hJ.istore_n (i := 2) (ls2 := [some (.inr (7, (some x0))), some (.inl x1), some (.inl (0 : Int32))]) dX7_go_14 rfl (by decide) rfl ?_
    refine hJ.forget (ls2 := [some (.inr (7, (some x0))), some (.inl x1), some (.inl (0 : Int32))]) ⟨rfl, rfl, rfl, trivial⟩ ?_
    refine t_X7_go_15 hJ (by decide) (by decide) (fun h10 hF => ?_) FU _ _ hF
    refine hJ.aload_n (i := 0) dX7_go_40 rfl rfl ?_
    refine hJ.getI dX7_go_41 f_RX7_79 rfl ?_
    obtain ⟨rfl, rfl⟩ := ret_S hF
    exact hR dX7_go_44 (by decide) (by decide)
  · replace hF := ite_T e4 hF
    refine hJ.iconst (v := -1) dX7_go_11 (by decide) ?_
    obtain ⟨rfl, rfl⟩ := ret_S hF
    exact hR dX7_go_12 (by decide) (by decide)

set_option maxHeartbeats 4000000 in
set_option maxRecDepth 100000 in
theorem c_X7_storm {x0 : Nat} {x1 : Int32} {x2 : Int32} {x3 : Int32} {h hh : Hp} {xr : Int32} (hF : F_X7_storm x0 x1 x2 x3 h = some (xr, hh)) : Ctr yX7_storm cX7_storm 5 (some .boolean) 2 0 0 [.inr (7, (some x0)), .inl x1, .inl x2, .inl x3] h (some (.inl xr)) hh := by
  refine Ctr_z (own := RX7) (ini := False) (ls0 := [some (.inr (7, (some x0))), some (.inl x1), some (.inl x2), some (.inl x3), none]) (by decide) rfl (Nat.le_of_ble_eq_true rfl) (fun e => e.elim) rfl ?_
  intro J hJ hR
  unfold F_X7_storm at hF
  refine hJ.aload_n (i := 0) dX7_storm_0 rfl rfl ?_
  refine hJ.iload_n (i := 1) dX7_storm_1 rfl rfl ?_
  replace hF := cl_S hF
  obtain ⟨r1, h2, ec3, hF⟩ := hF
  refine hJ.callV (as := [.inl x1]) (st := []) dX7_storm_2 w_RX7_94 ⟨by decide, rfl⟩ rfl (c_X7_stationAt ec3) (by decide) (by decide) (by decide) rfl (Nat.le_of_ble_eq_true rfl) rfl ?_
  refine hJ.astore (i := 4) (ls2 := [some (.inr (7, (some x0))), some (.inl x1), some (.inl x2), some (.inl x3), some (.inr (4, r1))]) dX7_storm_5 (by decide) rfl ?_
  refine hJ.aload (i := 4) dX7_storm_7 rfl ?_
  refine hJ.ifnull (tgt := 25) dX7_storm_9 (by decide) (fun e4 => ?_) (fun n5 e4 => ?_)
  · replace hF := onn_N e4 hF
    subst e4
    refine hJ.iconst (v := 0) dX7_storm_25 (by decide) ?_
    obtain ⟨rfl, rfl⟩ := ret_S hF
    exact hR dX7_storm_26 (by decide) (by decide) (by decide)
  · replace hF := onn_J e4 hF
    subst e4
    refine hJ.iload_n (i := 2) dX7_storm_12 rfl rfl ?_
    refine hJ.aload_n (i := 0) dX7_storm_13 rfl rfl ?_
    refine hJ.getI dX7_storm_14 f_RX7_79 rfl ?_
    refine hJ.icmp_lt (tgt := 25) dX7_storm_17 (by decide) (fun e6 => ?_) (fun e6 => ?_)
    · replace hF := ite_T e6 hF
      refine hJ.iconst (v := 0) dX7_storm_25 (by decide) ?_
      obtain ⟨rfl, rfl⟩ := ret_S hF
      exact hR dX7_storm_26 (by decide) (by decide) (by decide)
    · replace hF := ite_F e6 hF
      refine hJ.iload_n (i := 3) dX7_storm_20 rfl rfl ?_
      refine hJ.iload_n (i := 2) dX7_storm_21 rfl rfl ?_
      refine hJ.icmp_gt (tgt := 27) dX7_storm_22 (by decide) (fun e7 => ?_) (fun e7 => ?_)
      · replace hF := ite_T e7 hF
        refine hJ.aload (i := 4) dX7_storm_27 rfl ?_
        refine hJ.iload_n (i := 2) dX7_storm_29 rfl rfl ?_
        replace hF := lt_S hF
        obtain ⟨h8, eh9, hF⟩ := hF
        refine hJ.putI dX7_storm_30 f_RX7_279 rfl nar_i rfl ?_
        rw [← eh9]
        refine hJ.aload (i := 4) dX7_storm_33 rfl ?_
        refine hJ.iload_n (i := 3) dX7_storm_35 rfl rfl ?_
        replace hF := lt_S hF
        obtain ⟨h10, eh11, hF⟩ := hF
        refine hJ.putI dX7_storm_36 f_RX7_282 rfl nar_i rfl ?_
        rw [← eh11]
        refine hJ.iconst (v := 1) dX7_storm_39 (by decide) ?_
        obtain ⟨rfl, rfl⟩ := ret_S hF
        exact hR dX7_storm_40 (by decide) (by decide) (by decide)
      · replace hF := ite_F e7 hF
        refine hJ.iconst (v := 0) dX7_storm_25 (by decide) ?_
        obtain ⟨rfl, rfl⟩ := ret_S hF
        exact hR dX7_storm_26 (by decide) (by decide) (by decide)

