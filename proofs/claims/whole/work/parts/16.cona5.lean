set_option maxHeartbeats 4000000 in
set_option maxRecDepth 100000 in
theorem c_X7_breaks {x0 : Nat} {x1 : Int32} {x2 : Int32} {h hh : Hp} {xr : Int32} (hF : F_X7_breaks x0 x1 x2 h = some (xr, hh)) : Ctr yX7_breaks cX7_breaks 6 (some .int) 2 0 0 [.inr (7, (some x0)), .inl x1, .inl x2] h (some (.inl xr)) hh := by
  refine Ctr_i (own := RX7) (ini := False) (ls0 := [some (.inr (7, (some x0))), some (.inl x1), some (.inl x2), none, none, none]) (by decide) rfl (Nat.le_of_ble_eq_true rfl) (fun e => e.elim) rfl ?_
  intro J hJ hR
  unfold F_X7_breaks at hF
  refine hJ.aload_n (i := 0) dX7_breaks_0 rfl rfl ?_
  refine hJ.iload_n (i := 1) dX7_breaks_1 rfl rfl ?_
  replace hF := cl_S hF
  obtain ⟨r1, h2, ec3, hF⟩ := hF
  refine hJ.callV (as := [.inl x1]) (st := []) dX7_breaks_2 w_RX7_190 ⟨by decide, rfl⟩ rfl (c_X7_raftAt ec3) (by decide) (by decide) (by decide) rfl (Nat.le_of_ble_eq_true rfl) rfl ?_
  refine hJ.astore_n (i := 3) (ls2 := [some (.inr (7, (some x0))), some (.inl x1), some (.inl x2), some (.inr (2, r1)), none, none]) dX7_breaks_5 rfl (by decide) rfl ?_
  refine hJ.aload_n (i := 3) dX7_breaks_6 rfl rfl ?_
  refine hJ.ifnull (tgt := 18) dX7_breaks_7 (by decide) (fun e4 => ?_) (fun n5 e4 => ?_)
  · replace hF := onn_N e4 hF
    subst e4
    refine hJ.iconst (v := -1) dX7_breaks_18 (by decide) ?_
    obtain ⟨rfl, rfl⟩ := ret_S hF
    exact hR dX7_breaks_19 (by decide) (by decide)
  · replace hF := onn_J e4 hF
    subst e4
    refine hJ.aload_n (i := 3) dX7_breaks_10 rfl rfl ?_
    replace hF := cl_S hF
    obtain ⟨r6, h7, ec8, hF⟩ := hF
    refine hJ.callV (as := []) (st := []) dX7_breaks_11 w_RX7_193 ⟨by decide, rfl⟩ rfl (c_X2_state ec8) (by decide) (by decide) (by decide) rfl (Nat.le_of_ble_eq_true rfl) rfl ?_
    refine hJ.iconst (v := 2) dX7_breaks_14 (by decide) ?_
    refine hJ.icmp_eq (tgt := 20) dX7_breaks_15 (by decide) (fun e9 => ?_) (fun e9 => ?_)
    · replace hF := ite_T e9 hF
      refine hJ.aload_n (i := 3) dX7_breaks_20 rfl rfl ?_
      refine hJ.iload_n (i := 2) dX7_breaks_21 rfl rfl ?_
      refine hJ.if_eq (tgt := 29) dX7_breaks_22 (by decide) (fun e10 => ?_) (fun e10 => ?_)
      · replace hF := ite_T e10 hF
        refine hJ.iconst (v := 0) dX7_breaks_29 (by decide) ?_
        replace hF := cl_S hF
        obtain ⟨r11, h12, ec13, hF⟩ := hF
        refine hJ.callV (as := [.inl (0 : Int32)]) (st := []) dX7_breaks_30 w_RX7_285 ⟨by decide, rfl⟩ rfl (c_X2_loseTrunks ec13) (by decide) (by decide) (by decide) rfl (Nat.le_of_ble_eq_true rfl) rfl ?_
        refine hJ.istore (i := 4) (ls2 := [some (.inr (7, (some x0))), some (.inl x1), some (.inl x2), some (.inr (2, (some n5))), some (.inl r11), none]) dX7_breaks_33 (by decide) rfl ?_
        refine hJ.aload_n (i := 0) dX7_breaks_35 rfl rfl ?_
        refine hJ.dup dX7_breaks_36 ?_
        refine hJ.getI dX7_breaks_37 f_RX7_88 rfl ?_
        refine hJ.iload (i := 4) dX7_breaks_40 rfl ?_
        refine hJ.iadd dX7_breaks_42 ?_
        replace hF := lt_S hF
        obtain ⟨h14, eh15, hF⟩ := hF
        refine hJ.putI dX7_breaks_43 f_RX7_88 rfl nar_i rfl ?_
        rw [← eh15]
        refine hJ.aload_n (i := 3) dX7_breaks_46 rfl rfl ?_
        replace hF := cl_S hF
        obtain ⟨r16, h17, ec18, hF⟩ := hF
        refine hJ.callV (as := []) (st := []) dX7_breaks_47 w_RX7_197 ⟨by decide, rfl⟩ rfl (c_X2_landCrew ec18) (by decide) (by decide) (by decide) rfl (Nat.le_of_ble_eq_true rfl) rfl ?_
        refine hJ.astore (i := 5) (ls2 := [some (.inr (7, (some x0))), some (.inl x1), some (.inl x2), some (.inr (2, (some n5))), some (.inl r11), some (.inr (0, r16))]) dX7_breaks_50 (by decide) rfl ?_
        refine hJ.aload (i := 5) dX7_breaks_52 rfl ?_
        refine hJ.ifnull (tgt := 66) dX7_breaks_54 (by decide) (fun e19 => ?_) (fun n20 e19 => ?_)
        · replace hF := onn_N e19 hF
          subst e19
          refine hJ.aload_n (i := 3) dX7_breaks_66 rfl rfl ?_
          replace hF := cl_S hF
          obtain ⟨r21, h22, ec23, hF⟩ := hF
          refine hJ.callV0 (as := []) (st := []) dX7_breaks_67 w_RX7_168 ⟨by decide, rfl⟩ rfl (c_X2_scatter ec23) (by decide) (by decide) (by decide) rfl (Nat.le_of_ble_eq_true rfl) rfl ?_
          refine hJ.iload (i := 4) dX7_breaks_70 rfl ?_
          obtain ⟨rfl, rfl⟩ := ret_S hF
          exact hR dX7_breaks_72 (by decide) (by decide)
        · replace hF := onn_J e19 hF
          subst e19
          refine hJ.aload (i := 5) dX7_breaks_57 rfl ?_
          refine hJ.aload_n (i := 0) dX7_breaks_59 rfl rfl ?_
          refine hJ.getI dX7_breaks_60 f_RX7_79 rfl ?_
          replace hF := lt_S hF
          obtain ⟨h24, eh25, hF⟩ := hF
          refine hJ.putI dX7_breaks_63 f_RX7_288 rfl nar_i rfl ?_
          rw [← eh25]
          refine hJ.aload_n (i := 3) dX7_breaks_66 rfl rfl ?_
          replace hF := cl_S hF
          obtain ⟨r26, h27, ec28, hF⟩ := hF
          refine hJ.callV0 (as := []) (st := []) dX7_breaks_67 w_RX7_168 ⟨by decide, rfl⟩ rfl (c_X2_scatter ec28) (by decide) (by decide) (by decide) rfl (Nat.le_of_ble_eq_true rfl) rfl ?_
          refine hJ.iload (i := 4) dX7_breaks_70 rfl ?_
          obtain ⟨rfl, rfl⟩ := ret_S hF
          exact hR dX7_breaks_72 (by decide) (by decide)
      · replace hF := ite_F e10 hF
        refine hJ.iconst (v := 1) dX7_breaks_25 (by decide) ?_
        refine hJ.goto (tgt := 30) dX7_breaks_26 (by decide) ?_
        replace hF := cl_S hF
        obtain ⟨r29, h30, ec31, hF⟩ := hF
        refine hJ.callV (as := [.inl (1 : Int32)]) (st := []) dX7_breaks_30 w_RX7_285 ⟨by decide, rfl⟩ rfl (c_X2_loseTrunks ec31) (by decide) (by decide) (by decide) rfl (Nat.le_of_ble_eq_true rfl) rfl ?_
        refine hJ.istore (i := 4) (ls2 := [some (.inr (7, (some x0))), some (.inl x1), some (.inl x2), some (.inr (2, (some n5))), some (.inl r29), none]) dX7_breaks_33 (by decide) rfl ?_
        refine hJ.aload_n (i := 0) dX7_breaks_35 rfl rfl ?_
        refine hJ.dup dX7_breaks_36 ?_
        refine hJ.getI dX7_breaks_37 f_RX7_88 rfl ?_
        refine hJ.iload (i := 4) dX7_breaks_40 rfl ?_
        refine hJ.iadd dX7_breaks_42 ?_
        replace hF := lt_S hF
        obtain ⟨h32, eh33, hF⟩ := hF
        refine hJ.putI dX7_breaks_43 f_RX7_88 rfl nar_i rfl ?_
        rw [← eh33]
        refine hJ.aload_n (i := 3) dX7_breaks_46 rfl rfl ?_
        replace hF := cl_S hF
        obtain ⟨r34, h35, ec36, hF⟩ := hF
        refine hJ.callV (as := []) (st := []) dX7_breaks_47 w_RX7_197 ⟨by decide, rfl⟩ rfl (c_X2_landCrew ec36) (by decide) (by decide) (by decide) rfl (Nat.le_of_ble_eq_true rfl) rfl ?_
        refine hJ.astore (i := 5) (ls2 := [some (.inr (7, (some x0))), some (.inl x1), some (.inl x2), some (.inr (2, (some n5))), some (.inl r29), some (.inr (0, r34))]) dX7_breaks_50 (by decide) rfl ?_
        refine hJ.aload (i := 5) dX7_breaks_52 rfl ?_
        refine hJ.ifnull (tgt := 66) dX7_breaks_54 (by decide) (fun e37 => ?_) (fun n38 e37 => ?_)
        · replace hF := onn_N e37 hF
          subst e37
          refine hJ.aload_n (i := 3) dX7_breaks_66 rfl rfl ?_
          replace hF := cl_S hF
          obtain ⟨r39, h40, ec41, hF⟩ := hF
          refine hJ.callV0 (as := []) (st := []) dX7_breaks_67 w_RX7_168 ⟨by decide, rfl⟩ rfl (c_X2_scatter ec41) (by decide) (by decide) (by decide) rfl (Nat.le_of_ble_eq_true rfl) rfl ?_
          refine hJ.iload (i := 4) dX7_breaks_70 rfl ?_
          obtain ⟨rfl, rfl⟩ := ret_S hF
          exact hR dX7_breaks_72 (by decide) (by decide)
        · replace hF := onn_J e37 hF
          subst e37
          refine hJ.aload (i := 5) dX7_breaks_57 rfl ?_
          refine hJ.aload_n (i := 0) dX7_breaks_59 rfl rfl ?_
          refine hJ.getI dX7_breaks_60 f_RX7_79 rfl ?_
          replace hF := lt_S hF
          obtain ⟨h42, eh43, hF⟩ := hF
          refine hJ.putI dX7_breaks_63 f_RX7_288 rfl nar_i rfl ?_
          rw [← eh43]
          refine hJ.aload_n (i := 3) dX7_breaks_66 rfl rfl ?_
          replace hF := cl_S hF
          obtain ⟨r44, h45, ec46, hF⟩ := hF
          refine hJ.callV0 (as := []) (st := []) dX7_breaks_67 w_RX7_168 ⟨by decide, rfl⟩ rfl (c_X2_scatter ec46) (by decide) (by decide) (by decide) rfl (Nat.le_of_ble_eq_true rfl) rfl ?_
          refine hJ.iload (i := 4) dX7_breaks_70 rfl ?_
          obtain ⟨rfl, rfl⟩ := ret_S hF
          exact hR dX7_breaks_72 (by decide) (by decide)
    · replace hF := ite_F e9 hF
      refine hJ.iconst (v := -1) dX7_breaks_18 (by decide) ?_
      obtain ⟨rfl, rfl⟩ := ret_S hF
      exact hR dX7_breaks_19 (by decide) (by decide)

set_option maxHeartbeats 4000000 in
set_option maxRecDepth 100000 in
theorem c_X7_right {x0 : Nat} {x1 : Int32} {x2 : Int32} {h hh : Hp} {xr : Int32} (hF : F_X7_right x0 x1 x2 h = some (xr, hh)) : Ctr yX7_right cX7_right 3 (some .boolean) 2 0 0 [.inr (7, (some x0)), .inl x1, .inl x2] h (some (.inl xr)) hh := by
  refine Ctr_z (own := RX7) (ini := False) (ls0 := [some (.inr (7, (some x0))), some (.inl x1), some (.inl x2)]) (by decide) rfl (Nat.le_of_ble_eq_true rfl) (fun e => e.elim) rfl ?_
  intro J hJ hR
  unfold F_X7_right at hF
  refine hJ.iload_n (i := 1) dX7_right_0 rfl rfl ?_
  replace hF := cl_S hF
  obtain ⟨r1, h2, ec3, hF⟩ := hF
  refine hJ.callS (as := [.inl x1]) (st := []) dX7_right_1 w_RX7_291 (c_X7_isOwner ec3) (by decide) (by decide) (by decide) rfl (Nat.le_of_ble_eq_true rfl) rfl ?_
  refine hJ.if_eq (tgt := 17) dX7_right_4 (by decide) (fun e4 => ?_) (fun e4 => ?_)
  · replace hF := ite_T e4 hF
    refine hJ.iconst (v := 0) dX7_right_17 (by decide) ?_
    obtain ⟨rfl, rfl⟩ := ret_S hF
    exact hR dX7_right_18 (by decide) (by decide) (by decide)
  · replace hF := ite_F e4 hF
    refine hJ.iload_n (i := 2) dX7_right_7 rfl rfl ?_
    refine hJ.iconst (v := 0) dX7_right_8 (by decide) ?_
    refine hJ.bipush (v := 9) dX7_right_9 (by decide) ?_
    replace hF := cl_S hF
    obtain ⟨r5, h6, ec7, hF⟩ := hF
    refine hJ.callS (as := [.inl x2, .inl (0 : Int32), .inl (9 : Int32)]) (st := []) dX7_right_11 w_RX7_109 (c_X7_within ec7) (by decide) (by decide) (by decide) rfl (Nat.le_of_ble_eq_true rfl) rfl ?_
    refine hJ.if_ne (tgt := 19) dX7_right_14 (by decide) (fun e8 => ?_) (fun e8 => ?_)
    · replace hF := ite_F e8 hF
      refine hJ.aload_n (i := 0) dX7_right_19 rfl rfl ?_
      refine hJ.getR dX7_right_20 f_RX7_65 rfl ?_
      refine hJ.iload_n (i := 1) dX7_right_23 rfl rfl ?_
      refine hJ.iload_n (i := 2) dX7_right_24 rfl rfl ?_
      replace hF := nn_S hF
      obtain ⟨n9, e10, hF⟩ := hF
      rw [e10]
      replace hF := ck_S hF
      obtain ⟨c11, hF⟩ := hF
      replace hF := lt_S hF
      obtain ⟨h12, eh13, hF⟩ := hF
      refine hJ.iast dX7_right_25 a_23 rfl c11 ?_
      rw [← eh13]
      refine hJ.iconst (v := 1) dX7_right_26 (by decide) ?_
      obtain ⟨rfl, rfl⟩ := ret_S hF
      exact hR dX7_right_27 (by decide) (by decide) (by decide)
    · replace hF := ite_T e8 hF
      refine hJ.iconst (v := 0) dX7_right_17 (by decide) ?_
      obtain ⟨rfl, rfl⟩ := ret_S hF
      exact hR dX7_right_18 (by decide) (by decide) (by decide)

set_option maxHeartbeats 4000000 in
set_option maxRecDepth 100000 in
theorem c_X7_toll {x0 : Nat} {x1 : Int32} {x2 : Int32} {h hh : Hp} {xr : Int32} (hF : F_X7_toll x0 x1 x2 h = some (xr, hh)) : Ctr yX7_toll cX7_toll 3 (some .boolean) 1 0 0 [.inr (7, (some x0)), .inl x1, .inl x2] h (some (.inl xr)) hh := by
  refine Ctr_z (own := RX7) (ini := False) (ls0 := [some (.inr (7, (some x0))), some (.inl x1), some (.inl x2)]) (by decide) rfl (Nat.le_of_ble_eq_true rfl) (fun e => e.elim) rfl ?_
  intro J hJ hR
  unfold F_X7_toll at hF
  refine hJ.iload_n (i := 1) dX7_toll_0 rfl rfl ?_
  refine hJ.iconst (v := 0) dX7_toll_1 (by decide) ?_
  refine hJ.sipush (v := 1000) dX7_toll_2 (by decide) ?_
  replace hF := cl_S hF
  obtain ⟨r1, h2, ec3, hF⟩ := hF
  refine hJ.callS (as := [.inl x1, .inl (0 : Int32), .inl (1000 : Int32)]) (st := []) dX7_toll_5 w_RX7_109 (c_X7_within ec3) (by decide) (by decide) (by decide) rfl (Nat.le_of_ble_eq_true rfl) rfl ?_
  refine hJ.if_eq (tgt := 38) dX7_toll_8 (by decide) (fun e4 => ?_) (fun e4 => ?_)
  · replace hF := ite_T e4 hF
    refine hJ.iconst (v := 0) dX7_toll_38 (by decide) ?_
    obtain ⟨rfl, rfl⟩ := ret_S hF
    exact hR dX7_toll_39 (by decide) (by decide) (by decide)
  · replace hF := ite_F e4 hF
    refine hJ.iload_n (i := 2) dX7_toll_11 rfl rfl ?_
    refine hJ.iconst (v := 0) dX7_toll_12 (by decide) ?_
    refine hJ.bipush (v := 100) dX7_toll_13 (by decide) ?_
    replace hF := cl_S hF
    obtain ⟨r5, h6, ec7, hF⟩ := hF
    refine hJ.callS (as := [.inl x2, .inl (0 : Int32), .inl (100 : Int32)]) (st := []) dX7_toll_15 w_RX7_109 (c_X7_within ec7) (by decide) (by decide) (by decide) rfl (Nat.le_of_ble_eq_true rfl) rfl ?_
    refine hJ.if_eq (tgt := 38) dX7_toll_18 (by decide) (fun e8 => ?_) (fun e8 => ?_)
    · replace hF := ite_T e8 hF
      refine hJ.iconst (v := 0) dX7_toll_38 (by decide) ?_
      obtain ⟨rfl, rfl⟩ := ret_S hF
      exact hR dX7_toll_39 (by decide) (by decide) (by decide)
    · replace hF := ite_F e8 hF
      refine hJ.aload_n (i := 0) dX7_toll_21 rfl rfl ?_
      refine hJ.getR dX7_toll_22 f_RX7_58 rfl ?_
      refine hJ.iconst (v := 0) dX7_toll_25 (by decide) ?_
      refine hJ.iload_n (i := 1) dX7_toll_26 rfl rfl ?_
      refine hJ.iload_n (i := 2) dX7_toll_27 rfl rfl ?_
      replace hF := nn_S hF
      obtain ⟨n9, e10, hF⟩ := hF
      rw [e10]
      replace hF := cl_S hF
      obtain ⟨r11, h12, ec13, hF⟩ := hF
      refine hJ.callV (as := [.inl (0 : Int32), .inl x1, .inl x2]) (st := []) dX7_toll_28 w_RX7_294 ⟨by decide, rfl⟩ rfl (c_X5_tell ec13) (by decide) (by decide) (by decide) rfl (Nat.le_of_ble_eq_true rfl) rfl ?_
      refine hJ.if_eq (tgt := 38) dX7_toll_31 (by decide) (fun e14 => ?_) (fun e14 => ?_)
      · replace hF := ite_T e14 hF
        refine hJ.iconst (v := 0) dX7_toll_38 (by decide) ?_
        obtain ⟨rfl, rfl⟩ := ret_S hF
        exact hR dX7_toll_39 (by decide) (by decide) (by decide)
      · replace hF := ite_F e14 hF
        refine hJ.iconst (v := 1) dX7_toll_34 (by decide) ?_
        refine hJ.goto (tgt := 39) dX7_toll_35 (by decide) ?_
        obtain ⟨rfl, rfl⟩ := ret_S hF
        exact hR dX7_toll_39 (by decide) (by decide) (by decide)

set_option maxHeartbeats 4000000 in
set_option maxRecDepth 100000 in
theorem c_X7_marketOf {x0 : Option Nat} {x1 : Int32} {h hh : Hp} {xr : Int32} (hF : F_X7_marketOf x0 x1 h = some (xr, hh)) : Ctr yX7_marketOf cX7_marketOf 2 (some .int) 0 0 0 [.inr (4, x0), .inl x1] h (some (.inl xr)) hh := by
  refine Ctr_i (own := RX7) (ini := False) (ls0 := [some (.inr (4, x0)), some (.inl x1)]) (by decide) rfl (Nat.le_of_ble_eq_true rfl) (fun e => e.elim) rfl ?_
  intro J hJ hR
  unfold F_X7_marketOf at hF
  refine hJ.aload_n (i := 0) dX7_marketOf_0 rfl rfl ?_
  replace hF := nn_S hF
  obtain ⟨n1, e2, hF⟩ := hF
  subst e2
  refine hJ.getI dX7_marketOf_1 f_RX7_102 rfl ?_
  refine hJ.iconst (v := 4) dX7_marketOf_4 (by decide) ?_
  refine hJ.imul dX7_marketOf_5 ?_
  refine hJ.iload_n (i := 1) dX7_marketOf_6 rfl rfl ?_
  refine hJ.iadd dX7_marketOf_7 ?_
  obtain ⟨rfl, rfl⟩ := ret_S hF
  exact hR dX7_marketOf_8 (by decide) (by decide)

set_option maxHeartbeats 4000000 in
set_option maxRecDepth 100000 in
theorem c_X7_price {x0 : Nat} {x1 : Int32} {x2 : Int32} {x3 : Int32} {x4 : Int32} {h hh : Hp} {xr : Int32} (hF : F_X7_price x0 x1 x2 x3 x4 h = some (xr, hh)) : Ctr yX7_price cX7_price 6 (some .boolean) 2 0 0 [.inr (7, (some x0)), .inl x1, .inl x2, .inl x3, .inl x4] h (some (.inl xr)) hh := by
  refine Ctr_z (own := RX7) (ini := False) (ls0 := [some (.inr (7, (some x0))), some (.inl x1), some (.inl x2), some (.inl x3), some (.inl x4), none]) (by decide) rfl (Nat.le_of_ble_eq_true rfl) (fun e => e.elim) rfl ?_
  intro J hJ hR
  unfold F_X7_price at hF
  refine hJ.aload_n (i := 0) dX7_price_0 rfl rfl ?_
  refine hJ.iload_n (i := 1) dX7_price_1 rfl rfl ?_
  replace hF := cl_S hF
  obtain ⟨r1, h2, ec3, hF⟩ := hF
  refine hJ.callV (as := [.inl x1]) (st := []) dX7_price_2 w_RX7_94 ⟨by decide, rfl⟩ rfl (c_X7_stationAt ec3) (by decide) (by decide) (by decide) rfl (Nat.le_of_ble_eq_true rfl) rfl ?_
  refine hJ.astore (i := 5) (ls2 := [some (.inr (7, (some x0))), some (.inl x1), some (.inl x2), some (.inl x3), some (.inl x4), some (.inr (4, r1))]) dX7_price_5 (by decide) rfl ?_
  refine hJ.aload (i := 5) dX7_price_7 rfl ?_
  refine hJ.ifnull (tgt := 29) dX7_price_9 (by decide) (fun e4 => ?_) (fun n5 e4 => ?_)
  · replace hF := onn_N e4 hF
    subst e4
    refine hJ.iconst (v := 0) dX7_price_29 (by decide) ?_
    obtain ⟨rfl, rfl⟩ := ret_S hF
    exact hR dX7_price_30 (by decide) (by decide) (by decide)
  · replace hF := onn_J e4 hF
    subst e4
    refine hJ.aload (i := 5) dX7_price_12 rfl ?_
    refine hJ.getI dX7_price_14 f_RX7_297 rfl ?_
    refine hJ.if_eq (tgt := 29) dX7_price_17 (by decide) (fun e6 => ?_) (fun e6 => ?_)
    · replace hF := ite_T e6 hF
      refine hJ.iconst (v := 0) dX7_price_29 (by decide) ?_
      obtain ⟨rfl, rfl⟩ := ret_S hF
      exact hR dX7_price_30 (by decide) (by decide) (by decide)
    · replace hF := ite_F e6 hF
      refine hJ.iload_n (i := 2) dX7_price_20 rfl rfl ?_
      refine hJ.iconst (v := 0) dX7_price_21 (by decide) ?_
      refine hJ.iconst (v := 3) dX7_price_22 (by decide) ?_
      replace hF := cl_S hF
      obtain ⟨r7, h8, ec9, hF⟩ := hF
      refine hJ.callS (as := [.inl x2, .inl (0 : Int32), .inl (3 : Int32)]) (st := []) dX7_price_23 w_RX7_109 (c_X7_within ec9) (by decide) (by decide) (by decide) rfl (Nat.le_of_ble_eq_true rfl) rfl ?_
      refine hJ.if_ne (tgt := 31) dX7_price_26 (by decide) (fun e10 => ?_) (fun e10 => ?_)
      · replace hF := ite_F e10 hF
        refine hJ.iload_n (i := 3) dX7_price_31 rfl rfl ?_
        refine hJ.iconst (v := 0) dX7_price_32 (by decide) ?_
        refine hJ.sipush (v := 1000) dX7_price_33 (by decide) ?_
        replace hF := cl_S hF
        obtain ⟨r11, h12, ec13, hF⟩ := hF
        refine hJ.callS (as := [.inl x3, .inl (0 : Int32), .inl (1000 : Int32)]) (st := []) dX7_price_36 w_RX7_109 (c_X7_within ec13) (by decide) (by decide) (by decide) rfl (Nat.le_of_ble_eq_true rfl) rfl ?_
        refine hJ.if_eq (tgt := 77) dX7_price_39 (by decide) (fun e14 => ?_) (fun e14 => ?_)
        · replace hF := ite_T e14 hF
          refine hJ.iconst (v := 0) dX7_price_77 (by decide) ?_
          obtain ⟨rfl, rfl⟩ := ret_S hF
          exact hR dX7_price_78 (by decide) (by decide) (by decide)
        · replace hF := ite_F e14 hF
          refine hJ.iload (i := 4) dX7_price_42 rfl ?_
          refine hJ.iconst (v := 0) dX7_price_44 (by decide) ?_
          refine hJ.sipush (v := 1000) dX7_price_45 (by decide) ?_
          replace hF := cl_S hF
          obtain ⟨r15, h16, ec17, hF⟩ := hF
          refine hJ.callS (as := [.inl x4, .inl (0 : Int32), .inl (1000 : Int32)]) (st := []) dX7_price_48 w_RX7_109 (c_X7_within ec17) (by decide) (by decide) (by decide) rfl (Nat.le_of_ble_eq_true rfl) rfl ?_
          refine hJ.if_eq (tgt := 77) dX7_price_51 (by decide) (fun e18 => ?_) (fun e18 => ?_)
          · replace hF := ite_T e18 hF
            refine hJ.iconst (v := 0) dX7_price_77 (by decide) ?_
            obtain ⟨rfl, rfl⟩ := ret_S hF
            exact hR dX7_price_78 (by decide) (by decide) (by decide)
          · replace hF := ite_F e18 hF
            refine hJ.aload_n (i := 0) dX7_price_54 rfl rfl ?_
            refine hJ.getR dX7_price_55 f_RX7_62 rfl ?_
            refine hJ.aload (i := 5) dX7_price_58 rfl ?_
            refine hJ.iload_n (i := 2) dX7_price_60 rfl rfl ?_
            replace hF := cl_S hF
            obtain ⟨r19, h20, ec21, hF⟩ := hF
            refine hJ.callS (as := [.inr (4, (some n5)), .inl x2]) (st := [.inr (5, (pR h16 7 x0 10))]) dX7_price_61 w_RX7_301 (c_X7_marketOf ec21) (by decide) (by decide) (by decide) rfl (Nat.le_of_ble_eq_true rfl) rfl ?_
            refine hJ.iload_n (i := 3) dX7_price_64 rfl rfl ?_
            refine hJ.iload (i := 4) dX7_price_65 rfl ?_
            replace hF := nn_S hF
            obtain ⟨n22, e23, hF⟩ := hF
            rw [e23]
            replace hF := cl_S hF
            obtain ⟨r24, h25, ec26, hF⟩ := hF
            refine hJ.callV (as := [.inl r19, .inl x3, .inl x4]) (st := []) dX7_price_67 w_RX7_294 ⟨by decide, rfl⟩ rfl (c_X5_tell ec26) (by decide) (by decide) (by decide) rfl (Nat.le_of_ble_eq_true rfl) rfl ?_
            refine hJ.if_eq (tgt := 77) dX7_price_70 (by decide) (fun e27 => ?_) (fun e27 => ?_)
            · replace hF := ite_T e27 hF
              refine hJ.iconst (v := 0) dX7_price_77 (by decide) ?_
              obtain ⟨rfl, rfl⟩ := ret_S hF
              exact hR dX7_price_78 (by decide) (by decide) (by decide)
            · replace hF := ite_F e27 hF
              refine hJ.iconst (v := 1) dX7_price_73 (by decide) ?_
              refine hJ.goto (tgt := 78) dX7_price_74 (by decide) ?_
              obtain ⟨rfl, rfl⟩ := ret_S hF
              exact hR dX7_price_78 (by decide) (by decide) (by decide)
      · replace hF := ite_T e10 hF
        refine hJ.iconst (v := 0) dX7_price_29 (by decide) ?_
        obtain ⟨rfl, rfl⟩ := ret_S hF
        exact hR dX7_price_30 (by decide) (by decide) (by decide)

set_option maxHeartbeats 4000000 in
set_option maxRecDepth 100000 in
theorem c_X7_sell {x0 : Nat} {x1 : Int32} {h hh : Hp} {xr : Int32} (hF : F_X7_sell x0 x1 h = some (xr, hh)) : Ctr yX7_sell cX7_sell 4 (some .int) 2 0 0 [.inr (7, (some x0)), .inl x1] h (some (.inl xr)) hh := by
  refine Ctr_i (own := RX7) (ini := False) (ls0 := [some (.inr (7, (some x0))), some (.inl x1), none, none]) (by decide) rfl (Nat.le_of_ble_eq_true rfl) (fun e => e.elim) rfl ?_
  intro J hJ hR
  unfold F_X7_sell at hF
  refine hJ.aload_n (i := 0) dX7_sell_0 rfl rfl ?_
  refine hJ.iload_n (i := 1) dX7_sell_1 rfl rfl ?_
  replace hF := cl_S hF
  obtain ⟨r1, h2, ec3, hF⟩ := hF
  refine hJ.callV (as := [.inl x1]) (st := []) dX7_sell_2 w_RX7_124 ⟨by decide, rfl⟩ rfl (c_X7_trunkAt ec3) (by decide) (by decide) (by decide) rfl (Nat.le_of_ble_eq_true rfl) rfl ?_
  refine hJ.astore_n (i := 2) (ls2 := [some (.inr (7, (some x0))), some (.inl x1), some (.inr (6, r1)), none]) dX7_sell_5 rfl (by decide) rfl ?_
  refine hJ.aload_n (i := 2) dX7_sell_6 rfl rfl ?_
  refine hJ.ifnull (tgt := 38) dX7_sell_7 (by decide) (fun e4 => ?_) (fun n5 e4 => ?_)
  · replace hF := onn_N e4 hF
    subst e4
    refine hJ.iconst (v := -1) dX7_sell_38 (by decide) ?_
    obtain ⟨rfl, rfl⟩ := ret_S hF
    exact hR dX7_sell_39 (by decide) (by decide)
  · replace hF := onn_J e4 hF
    subst e4
    refine hJ.aload_n (i := 2) dX7_sell_10 rfl rfl ?_
    refine hJ.getR dX7_sell_11 f_RX7_128 rfl ?_
    refine hJ.ifnull (tgt := 38) dX7_sell_14 (by decide) (fun e6 => ?_) (fun n7 e6 => ?_)
    · replace hF := onn_N e6 hF
      refine hJ.iconst (v := -1) dX7_sell_38 (by decide) ?_
      obtain ⟨rfl, rfl⟩ := ret_S hF
      exact hR dX7_sell_39 (by decide) (by decide)
    · replace hF := onn_J e6 hF
      refine hJ.aload_n (i := 2) dX7_sell_17 rfl rfl ?_
      refine hJ.getR dX7_sell_18 f_RX7_128 rfl ?_
      rw [e6]
      refine hJ.getI dX7_sell_21 f_RX7_297 rfl ?_
      refine hJ.if_eq (tgt := 38) dX7_sell_24 (by decide) (fun e8 => ?_) (fun e8 => ?_)
      · replace hF := ite_T e8 hF
        refine hJ.iconst (v := -1) dX7_sell_38 (by decide) ?_
        obtain ⟨rfl, rfl⟩ := ret_S hF
        exact hR dX7_sell_39 (by decide) (by decide)
      · replace hF := ite_F e8 hF
        refine hJ.aload_n (i := 0) dX7_sell_27 rfl rfl ?_
        refine hJ.getR dX7_sell_28 f_RX7_49 rfl ?_
        refine hJ.aload_n (i := 2) dX7_sell_31 rfl rfl ?_
        replace hF := nn_S hF
        obtain ⟨n9, e10, hF⟩ := hF
        rw [e10]
        replace hF := cl_S hF
        obtain ⟨r11, h12, ec13, hF⟩ := hF
        refine hJ.callV (as := [.inr (6, (some n5))]) (st := []) dX7_sell_32 w_RX7_305 ⟨by decide, rfl⟩ rfl (c_X3_has ec13) (by decide) (by decide) (by decide) rfl (Nat.le_of_ble_eq_true rfl) rfl ?_
        refine hJ.if_eq (tgt := 40) dX7_sell_35 (by decide) (fun e14 => ?_) (fun e14 => ?_)
        · replace hF := ite_T e14 hF
          refine hJ.aload_n (i := 0) dX7_sell_40 rfl rfl ?_
          refine hJ.getR dX7_sell_41 f_RX7_62 rfl ?_
          refine hJ.aload_n (i := 2) dX7_sell_44 rfl rfl ?_
          refine hJ.getR dX7_sell_45 f_RX7_128 rfl ?_
          refine hJ.aload_n (i := 2) dX7_sell_48 rfl rfl ?_
          refine hJ.getI dX7_sell_49 f_RX7_308 rfl ?_
          replace hF := cl_S hF
          obtain ⟨r15, h16, ec17, hF⟩ := hF
          refine hJ.callS (as := [.inr (4, (pR h12 6 n5 5)), .inl (pI h12 6 n5 3)]) (st := [.inr (5, (pR h12 7 x0 10))]) dX7_sell_52 w_RX7_301 (c_X7_marketOf ec17) (by decide) (by decide) (by decide) rfl (Nat.le_of_ble_eq_true rfl) rfl ?_
          refine hJ.aload_n (i := 0) dX7_sell_55 rfl rfl ?_
          replace hF := cl_S hF
          obtain ⟨r18, h19, ec20, hF⟩ := hF
          refine hJ.callV (as := []) (st := [.inl r15, .inr (5, (pR h12 7 x0 10))]) dX7_sell_56 w_RX7_267 ⟨by decide, rfl⟩ rfl (c_X7_today ec20) (by decide) (by decide) (by decide) rfl (Nat.le_of_ble_eq_true rfl) rfl ?_
          replace hF := nn_S hF
          obtain ⟨n21, e22, hF⟩ := hF
          rw [e22]
          replace hF := cl_S hF
          obtain ⟨r23, h24, ec25, hF⟩ := hF
          refine hJ.callV (as := [.inl r15, .inl r18]) (st := []) dX7_sell_59 w_RX7_270 ⟨by decide, rfl⟩ rfl (c_X5_inForce ec25) (by decide) (by decide) (by decide) rfl (Nat.le_of_ble_eq_true rfl) rfl ?_
          refine hJ.aload_n (i := 2) dX7_sell_62 rfl rfl ?_
          refine hJ.getI dX7_sell_63 f_RX7_311 rfl ?_
          refine hJ.imul dX7_sell_66 ?_
          refine hJ.istore_n (i := 3) (ls2 := [some (.inr (7, (some x0))), some (.inl x1), some (.inr (6, (some n5))), some (.inl (r23 * (pI h24 6 n5 4)))]) dX7_sell_67 rfl (by decide) rfl ?_
          refine hJ.aload_n (i := 2) dX7_sell_68 rfl rfl ?_
          refine hJ.null (kk := 4) dX7_sell_69 ?_
          replace hF := lt_S hF
          obtain ⟨h26, eh27, hF⟩ := hF
          refine hJ.putR dX7_sell_70 f_RX7_128 rfl (Or.inr rfl) rfl ?_
          rw [← eh27]
          refine hJ.aload_n (i := 2) dX7_sell_73 rfl rfl ?_
          refine hJ.iload_n (i := 3) dX7_sell_74 rfl rfl ?_
          replace hF := lt_S hF
          obtain ⟨h28, eh29, hF⟩ := hF
          refine hJ.putI dX7_sell_75 f_RX7_314 rfl nar_i rfl ?_
          rw [← eh29]
          refine hJ.aload_n (i := 0) dX7_sell_78 rfl rfl ?_
          refine hJ.getR dX7_sell_79 f_RX7_69 rfl ?_
          refine hJ.aload_n (i := 2) dX7_sell_82 rfl rfl ?_
          refine hJ.getI dX7_sell_83 f_RX7_264 rfl ?_
          refine hJ.dup2 dX7_sell_86 ?_
          replace hF := nn_S hF
          obtain ⟨n30, e31, hF⟩ := hF
          rw [e31]
          replace hF := ck_S hF
          obtain ⟨c32, hF⟩ := hF
          refine hJ.iald dX7_sell_87 a_24 rfl c32 ?_
          refine hJ.iload_n (i := 3) dX7_sell_88 rfl rfl ?_
          refine hJ.iadd dX7_sell_89 ?_
          replace hF := ck_S hF
          obtain ⟨c33, hF⟩ := hF
          replace hF := lt_S hF
          obtain ⟨h34, eh35, hF⟩ := hF
          refine hJ.iast dX7_sell_90 a_24 rfl c33 ?_
          rw [← eh35]
          refine hJ.aload_n (i := 0) dX7_sell_91 rfl rfl ?_
          refine hJ.dup dX7_sell_92 ?_
          refine hJ.getI dX7_sell_93 f_RX7_85 rfl ?_
          refine hJ.iconst (v := 1) dX7_sell_96 (by decide) ?_
          refine hJ.iadd dX7_sell_97 ?_
          replace hF := lt_S hF
          obtain ⟨h36, eh37, hF⟩ := hF
          refine hJ.putI dX7_sell_98 f_RX7_85 rfl nar_i rfl ?_
          rw [← eh37]
          refine hJ.iload_n (i := 3) dX7_sell_101 rfl rfl ?_
          obtain ⟨rfl, rfl⟩ := ret_S hF
          exact hR dX7_sell_102 (by decide) (by decide)
        · replace hF := ite_F e14 hF
          refine hJ.iconst (v := -1) dX7_sell_38 (by decide) ?_
          obtain ⟨rfl, rfl⟩ := ret_S hF
          exact hR dX7_sell_39 (by decide) (by decide)

set_option maxHeartbeats 4000000 in
set_option maxRecDepth 100000 in
theorem c_X7_advance {x0 : Nat} {x1 : Int32} {x2 : Int32} {h hh : Hp} {xr : Int32} (hF : F_X7_advance x0 x1 x2 h = some (xr, hh)) : Ctr yX7_advance cX7_advance 3 (some .int) 2 0 0 [.inr (7, (some x0)), .inl x1, .inl x2] h (some (.inl xr)) hh := by
  refine Ctr_i (own := RX7) (ini := False) (ls0 := [some (.inr (7, (some x0))), some (.inl x1), some (.inl x2)]) (by decide) rfl (Nat.le_of_ble_eq_true rfl) (fun e => e.elim) rfl ?_
  intro J hJ hR
  unfold F_X7_advance at hF
  refine hJ.iload_n (i := 1) dX7_advance_0 rfl rfl ?_
  replace hF := cl_S hF
  obtain ⟨r1, h2, ec3, hF⟩ := hF
  refine hJ.callS (as := [.inl x1]) (st := []) dX7_advance_1 w_RX7_291 (c_X7_isOwner ec3) (by decide) (by decide) (by decide) rfl (Nat.le_of_ble_eq_true rfl) rfl ?_
  refine hJ.if_eq (tgt := 18) dX7_advance_4 (by decide) (fun e4 => ?_) (fun e4 => ?_)
  · replace hF := ite_T e4 hF
    refine hJ.ldc_w dX7_advance_18 k_RX7_318 ?_
    obtain ⟨rfl, rfl⟩ := ret_S hF
    exact hR dX7_advance_21 (by decide) (by decide)
  · replace hF := ite_F e4 hF
    refine hJ.iload_n (i := 2) dX7_advance_7 rfl rfl ?_
    refine hJ.iconst (v := 1) dX7_advance_8 (by decide) ?_
    refine hJ.ldc_w dX7_advance_9 k_RX7_317 ?_
    replace hF := cl_S hF
    obtain ⟨r5, h6, ec7, hF⟩ := hF
    refine hJ.callS (as := [.inl x2, .inl (1 : Int32), .inl (100000 : Int32)]) (st := []) dX7_advance_12 w_RX7_109 (c_X7_within ec7) (by decide) (by decide) (by decide) rfl (Nat.le_of_ble_eq_true rfl) rfl ?_
    refine hJ.if_ne (tgt := 22) dX7_advance_15 (by decide) (fun e8 => ?_) (fun e8 => ?_)
    · replace hF := ite_F e8 hF
      refine hJ.aload_n (i := 0) dX7_advance_22 rfl rfl ?_
      refine hJ.getR dX7_advance_23 f_RX7_69 rfl ?_
      refine hJ.iload_n (i := 1) dX7_advance_26 rfl rfl ?_
      refine hJ.dup2 dX7_advance_27 ?_
      replace hF := nn_S hF
      obtain ⟨n9, e10, hF⟩ := hF
      rw [e10]
      replace hF := ck_S hF
      obtain ⟨c11, hF⟩ := hF
      refine hJ.iald dX7_advance_28 a_24 rfl c11 ?_
      refine hJ.iload_n (i := 2) dX7_advance_29 rfl rfl ?_
      refine hJ.isub dX7_advance_30 ?_
      replace hF := ck_S hF
      obtain ⟨c12, hF⟩ := hF
      replace hF := lt_S hF
      obtain ⟨h13, eh14, hF⟩ := hF
      refine hJ.iast dX7_advance_31 a_24 rfl c12 ?_
      rw [← eh14]
      refine hJ.aload_n (i := 0) dX7_advance_32 rfl rfl ?_
      refine hJ.getR dX7_advance_33 f_RX7_69 rfl ?_
      refine hJ.iload_n (i := 1) dX7_advance_36 rfl rfl ?_
      replace hF := nn_S hF
      obtain ⟨n15, e16, hF⟩ := hF
      rw [e16]
      replace hF := ck_S hF
      obtain ⟨c17, hF⟩ := hF
      refine hJ.iald dX7_advance_37 a_24 rfl c17 ?_
      obtain ⟨rfl, rfl⟩ := ret_S hF
      exact hR dX7_advance_38 (by decide) (by decide)
    · replace hF := ite_T e8 hF
      refine hJ.ldc_w dX7_advance_18 k_RX7_318 ?_
      obtain ⟨rfl, rfl⟩ := ret_S hF
      exact hR dX7_advance_21 (by decide) (by decide)

set_option maxHeartbeats 4000000 in
set_option maxRecDepth 100000 in
theorem c_X7_balance {x0 : Nat} {x1 : Int32} {h hh : Hp} {xr : Int32} (hF : F_X7_balance x0 x1 h = some (xr, hh)) : Ctr yX7_balance cX7_balance 2 (some .int) 2 0 0 [.inr (7, (some x0)), .inl x1] h (some (.inl xr)) hh := by
  refine Ctr_i (own := RX7) (ini := False) (ls0 := [some (.inr (7, (some x0))), some (.inl x1)]) (by decide) rfl (Nat.le_of_ble_eq_true rfl) (fun e => e.elim) rfl ?_
  intro J hJ hR
  unfold F_X7_balance at hF
  refine hJ.iload_n (i := 1) dX7_balance_0 rfl rfl ?_
  replace hF := cl_S hF
  obtain ⟨r1, h2, ec3, hF⟩ := hF
  refine hJ.callS (as := [.inl x1]) (st := []) dX7_balance_1 w_RX7_291 (c_X7_isOwner ec3) (by decide) (by decide) (by decide) rfl (Nat.le_of_ble_eq_true rfl) rfl ?_
  refine hJ.if_eq (tgt := 16) dX7_balance_4 (by decide) (fun e4 => ?_) (fun e4 => ?_)
  · replace hF := ite_T e4 hF
    refine hJ.iconst (v := 0) dX7_balance_16 (by decide) ?_
    obtain ⟨rfl, rfl⟩ := ret_S hF
    exact hR dX7_balance_17 (by decide) (by decide)
  · replace hF := ite_F e4 hF
    refine hJ.aload_n (i := 0) dX7_balance_7 rfl rfl ?_
    refine hJ.getR dX7_balance_8 f_RX7_69 rfl ?_
    refine hJ.iload_n (i := 1) dX7_balance_11 rfl rfl ?_
    replace hF := nn_S hF
    obtain ⟨n5, e6, hF⟩ := hF
    rw [e6]
    replace hF := ck_S hF
    obtain ⟨c7, hF⟩ := hF
    refine hJ.iald dX7_balance_12 a_24 rfl c7 ?_
    refine hJ.goto (tgt := 17) dX7_balance_13 (by decide) ?_
    obtain ⟨rfl, rfl⟩ := ret_S hF
    exact hR dX7_balance_17 (by decide) (by decide)

set_option maxHeartbeats 4000000 in
set_option maxRecDepth 100000 in
theorem t_X7_makePlan_27 {β : Type} {J : JT} (hJ : Rules cX7_makePlan RX7 4 3 0 0 False J) {a b : Nat} (ha : a ≤ 0) (hb : b ≤ 0) {v0 : Nat} {v2 : Nat} {κ83 : Hp → Option β} {out : β}
    (hk83 : ∀ (h : Hp), κ83 h = some out → J 83 [some (.inr (7, (some v0))), none, some (.inr (4, (some v2))), none] [] h a b)
    : ∀ (f : Nat) (v3 : Int32) (h : Hp), L_X7_makePlan_27 v0 v2 κ83 f v3 h = some out → J 27 [some (.inr (7, (some v0))), none, some (.inr (4, (some v2))), some (.inl v3)] [] h a b := by
  intro f
  induction f with
  | zero => intro v3 h hF; simp [L_X7_makePlan_27] at hF
  | succ f ih =>
    intro v3 h hF
    rw [L_X7_makePlan_27] at hF
    refine hJ.iload_n (i := 3) dX7_makePlan_27 rfl rfl ?_
    refine hJ.aload_n (i := 0) dX7_makePlan_28 rfl rfl ?_
    refine hJ.getI dX7_makePlan_29 f_RX7_34 rfl ?_
    refine hJ.icmp_ge (tgt := 83) dX7_makePlan_32 (by decide) (fun e13 => ?_) (fun e13 => ?_)
    · replace hF := ite_T e13 hF
      refine hJ.forget (ls2 := [some (.inr (7, (some v0))), none, some (.inr (4, (some v2))), none]) ⟨rfl, rfl, trivial⟩ ?_
      exact hk83 h hF
    · replace hF := ite_F e13 hF
      refine hJ.aload_n (i := 0) dX7_makePlan_35 rfl rfl ?_
      refine hJ.getR dX7_makePlan_36 f_RX7_30 rfl ?_
      refine hJ.iload_n (i := 3) dX7_makePlan_39 rfl rfl ?_
      replace hF := nn_S hF
      obtain ⟨n14, e15, hF⟩ := hF
      rw [e15]
      replace hF := ck_S hF
      obtain ⟨c16, hF⟩ := hF
      refine hJ.aald dX7_makePlan_40 a_21 rfl c16 ?_
      refine hJ.aload_n (i := 2) dX7_makePlan_41 rfl rfl ?_
      replace hF := nn_S hF
      obtain ⟨n17, e18, hF⟩ := hF
      rw [e18]
      replace hF := cl_S hF
      obtain ⟨r19, h20, ec21, hF⟩ := hF
      refine hJ.callV (as := [.inr (4, (some v2))]) (st := []) dX7_makePlan_42 w_RX7_247 ⟨by decide, rfl⟩ rfl (c_X2_fits ec21) (by decide) ha hb rfl (Nat.le_of_ble_eq_true rfl) rfl ?_
      refine hJ.if_eq (tgt := 77) dX7_makePlan_45 (by decide) (fun e22 => ?_) (fun e22 => ?_)
      · replace hF := ite_T e22 hF
        refine hJ.iinc (i := 3) (v := (v3 + (1 : Int32))) (ls2 := [some (.inr (7, (some v0))), none, some (.inr (4, (some v2))), some (.inl (v3 + (1 : Int32)))]) dX7_makePlan_77 rfl (addI (by decide)) (by decide) rfl ?_
        refine hJ.goto (tgt := 27) dX7_makePlan_80 (by decide) ?_
        refine hJ.forget (ls2 := [some (.inr (7, (some v0))), none, some (.inr (4, (some v2))), some (.inl (v3 + (1 : Int32)))]) ⟨rfl, rfl, rfl, trivial⟩ ?_
        exact ih (v3 + (1 : Int32)) h20 hF
      · replace hF := ite_F e22 hF
        refine hJ.aload_n (i := 0) dX7_makePlan_48 rfl rfl ?_
        refine hJ.getR dX7_makePlan_49 f_RX7_30 rfl ?_
        refine hJ.iload_n (i := 3) dX7_makePlan_52 rfl rfl ?_
        replace hF := nn_S hF
        obtain ⟨n23, e24, hF⟩ := hF
        rw [e24]
        replace hF := ck_S hF
        obtain ⟨c25, hF⟩ := hF
        refine hJ.aald dX7_makePlan_53 a_21 rfl c25 ?_
        replace hF := nn_S hF
        obtain ⟨n26, e27, hF⟩ := hF
        rw [e27]
        replace hF := cl_S hF
        obtain ⟨r28, h29, ec30, hF⟩ := hF
        refine hJ.callV (as := []) (st := []) dX7_makePlan_54 w_RX7_236 ⟨by decide, rfl⟩ rfl (c_X2_need ec30) (by decide) ha hb rfl (Nat.le_of_ble_eq_true rfl) rfl ?_
        refine hJ.aload_n (i := 2) dX7_makePlan_57 rfl rfl ?_
        refine hJ.getI dX7_makePlan_58 f_RX7_331 rfl ?_
        refine hJ.icmp_gt (tgt := 77) dX7_makePlan_61 (by decide) (fun e31 => ?_) (fun e31 => ?_)
        · replace hF := ite_T e31 hF
          refine hJ.iinc (i := 3) (v := (v3 + (1 : Int32))) (ls2 := [some (.inr (7, (some v0))), none, some (.inr (4, (some v2))), some (.inl (v3 + (1 : Int32)))]) dX7_makePlan_77 rfl (addI (by decide)) (by decide) rfl ?_
          refine hJ.goto (tgt := 27) dX7_makePlan_80 (by decide) ?_
          refine hJ.forget (ls2 := [some (.inr (7, (some v0))), none, some (.inr (4, (some v2))), some (.inl (v3 + (1 : Int32)))]) ⟨rfl, rfl, rfl, trivial⟩ ?_
          exact ih (v3 + (1 : Int32)) h29 hF
        · replace hF := ite_F e31 hF
          refine hJ.aload_n (i := 0) dX7_makePlan_64 rfl rfl ?_
          refine hJ.getR dX7_makePlan_65 f_RX7_75 rfl ?_
          refine hJ.aload_n (i := 0) dX7_makePlan_68 rfl rfl ?_
          refine hJ.getR dX7_makePlan_69 f_RX7_30 rfl ?_
          refine hJ.iload_n (i := 3) dX7_makePlan_72 rfl rfl ?_
          replace hF := nn_S hF
          obtain ⟨n32, e33, hF⟩ := hF
          rw [e33]
          replace hF := ck_S hF
          obtain ⟨c34, hF⟩ := hF
          refine hJ.aald dX7_makePlan_73 a_21 rfl c34 ?_
          replace hF := nn_S hF
          obtain ⟨n35, e36, hF⟩ := hF
          rw [e36]
          replace hF := cl_S hF
          obtain ⟨r37, h38, ec39, hF⟩ := hF
          refine hJ.callV0 (as := [.inr (2, (pR h29 21 n32 (v3).toNatClampNeg))]) (st := []) dX7_makePlan_74 w_RX7_334 ⟨by decide, rfl⟩ rfl (c_X1_admit ec39) (by decide) ha hb rfl (Nat.le_of_ble_eq_true rfl) rfl ?_
          refine hJ.iinc (i := 3) (v := (v3 + (1 : Int32))) (ls2 := [some (.inr (7, (some v0))), none, some (.inr (4, (some v2))), some (.inl (v3 + (1 : Int32)))]) dX7_makePlan_77 rfl (addI (by decide)) (by decide) rfl ?_
          refine hJ.goto (tgt := 27) dX7_makePlan_80 (by decide) ?_
          refine hJ.forget (ls2 := [some (.inr (7, (some v0))), none, some (.inr (4, (some v2))), some (.inl (v3 + (1 : Int32)))]) ⟨rfl, rfl, rfl, trivial⟩ ?_
          exact ih (v3 + (1 : Int32)) h38 hF

set_option maxHeartbeats 4000000 in
set_option maxRecDepth 100000 in
theorem c_X7_makePlan {x0 : Nat} {x1 : Int32} {h hh : Hp} {xr : Unit} (hF : F_X7_makePlan x0 x1 h = some (xr, hh)) : Ctr yX7_makePlan cX7_makePlan 4 none 3 0 0 [.inr (7, (some x0)), .inl x1] h none hh := by
  refine Ctr_v (own := RX7) (ini := False) (ls0 := [some (.inr (7, (some x0))), some (.inl x1), none, none]) (by decide) rfl (Nat.le_of_ble_eq_true rfl) (fun e => e.elim) rfl ?_
  intro J hJ hR
  unfold F_X7_makePlan at hF
  refine hJ.aload_n (i := 0) dX7_makePlan_0 rfl rfl ?_
  refine hJ.getR dX7_makePlan_1 f_RX7_75 rfl ?_
  replace hF := nn_S hF
  obtain ⟨n1, e2, hF⟩ := hF
  rw [e2]
  replace hF := cl_S hF
  obtain ⟨r3, h4, ec5, hF⟩ := hF
  refine hJ.callV0 (as := []) (st := []) dX7_makePlan_4 w_RX7_328 ⟨by decide, rfl⟩ rfl (c_X1_clear ec5) (by decide) (by decide) (by decide) rfl (Nat.le_of_ble_eq_true rfl) rfl ?_
  refine hJ.aload_n (i := 0) dX7_makePlan_7 rfl rfl ?_
  refine hJ.iload_n (i := 1) dX7_makePlan_8 rfl rfl ?_
  replace hF := cl_S hF
  obtain ⟨r6, h7, ec8, hF⟩ := hF
  refine hJ.callV (as := [.inl x1]) (st := []) dX7_makePlan_9 w_RX7_94 ⟨by decide, rfl⟩ rfl (c_X7_stationAt ec8) (by decide) (by decide) (by decide) rfl (Nat.le_of_ble_eq_true rfl) rfl ?_
  refine hJ.astore_n (i := 2) (ls2 := [some (.inr (7, (some x0))), some (.inl x1), some (.inr (4, r6)), none]) dX7_makePlan_12 rfl (by decide) rfl ?_
  refine hJ.aload_n (i := 2) dX7_makePlan_13 rfl rfl ?_
  refine hJ.ifnull (tgt := 24) dX7_makePlan_14 (by decide) (fun e9 => ?_) (fun n10 e9 => ?_)
  · replace hF := onn_N e9 hF
    subst e9
    obtain ⟨-, rfl⟩ := ret_S hF
    exact hR dX7_makePlan_24 (by decide) (by decide)
  · replace hF := onn_J e9 hF
    subst e9
    refine hJ.aload_n (i := 2) dX7_makePlan_17 rfl rfl ?_
    refine hJ.getR dX7_makePlan_18 f_RX7_179 rfl ?_
    refine hJ.ifnonnull (tgt := 25) dX7_makePlan_21 (by decide) (fun n12 e11 => ?_) (fun e11 => ?_)
    · replace hF := onn_J e11 hF
      refine hJ.iconst (v := 0) dX7_makePlan_25 (by decide) ?_
      refine hJ.istore_n (i := 3) (ls2 := [some (.inr (7, (some x0))), some (.inl x1), some (.inr (4, (some n10))), some (.inl (0 : Int32))]) dX7_makePlan_26 rfl (by decide) rfl ?_
      refine hJ.forget (ls2 := [some (.inr (7, (some x0))), none, some (.inr (4, (some n10))), some (.inl (0 : Int32))]) ⟨rfl, rfl, rfl, trivial⟩ ?_
      refine t_X7_makePlan_27 hJ (by decide) (by decide) (fun h40 hF => ?_) FU _ _ hF
      refine hJ.aload_n (i := 0) dX7_makePlan_83 rfl rfl ?_
      refine hJ.getR dX7_makePlan_84 f_RX7_75 rfl ?_
      refine hJ.aload_n (i := 2) dX7_makePlan_87 rfl rfl ?_
      refine hJ.aload_n (i := 0) dX7_makePlan_88 rfl rfl ?_
      refine hJ.getI dX7_makePlan_89 f_RX7_79 rfl ?_
      replace hF := nn_S hF
      obtain ⟨n41, e42, hF⟩ := hF
      rw [e42]
      replace hF := cl_S hF
      obtain ⟨r43, h44, ec45, hF⟩ := hF
      refine hJ.callV0 (as := [.inr (4, (some n10)), .inl (pI h40 7 x0 14)]) (st := []) dX7_makePlan_92 w_RX7_337 ⟨by decide, rfl⟩ rfl (c_X1_work ec45) (by decide) (by decide) (by decide) rfl (Nat.le_of_ble_eq_true rfl) rfl ?_
      obtain ⟨-, rfl⟩ := ret_S hF
      exact hR dX7_makePlan_95 (by decide) (by decide)
    · replace hF := onn_N e11 hF
      obtain ⟨-, rfl⟩ := ret_S hF
      exact hR dX7_makePlan_24 (by decide) (by decide)

set_option maxHeartbeats 4000000 in
set_option maxRecDepth 100000 in
theorem c_X7_best {x0 : Nat} {x1 : Int32} {x2 : Int32} {h hh : Hp} {xr : Int32} (hF : F_X7_best x0 x1 x2 h = some (xr, hh)) : Ctr yX7_best cX7_best 3 (some .int) 4 0 0 [.inr (7, (some x0)), .inl x1, .inl x2] h (some (.inl xr)) hh := by
  refine Ctr_i (own := RX7) (ini := False) (ls0 := [some (.inr (7, (some x0))), some (.inl x1), some (.inl x2)]) (by decide) rfl (Nat.le_of_ble_eq_true rfl) (fun e => e.elim) rfl ?_
  intro J hJ hR
  unfold F_X7_best at hF
  refine hJ.aload_n (i := 0) dX7_best_0 rfl rfl ?_
  refine hJ.iload_n (i := 1) dX7_best_1 rfl rfl ?_
  replace hF := cl_S hF
  obtain ⟨r1, h2, ec3, hF⟩ := hF
  refine hJ.callV0 (as := [.inl x1]) (st := []) dX7_best_2 w_RX7_319 ⟨by decide, rfl⟩ rfl (c_X7_makePlan ec3) (by decide) (by decide) (by decide) rfl (Nat.le_of_ble_eq_true rfl) rfl ?_
  refine hJ.aload_n (i := 0) dX7_best_5 rfl rfl ?_
  refine hJ.getR dX7_best_6 f_RX7_75 rfl ?_
  refine hJ.iload_n (i := 2) dX7_best_9 rfl rfl ?_
  replace hF := nn_S hF
  obtain ⟨n4, e5, hF⟩ := hF
  rw [e5]
  replace hF := cl_S hF
  obtain ⟨r6, h7, ec8, hF⟩ := hF
  refine hJ.callV (as := [.inl x2]) (st := []) dX7_best_10 w_RX7_322 ⟨by decide, rfl⟩ rfl (c_X1_raftIn ec8) (by decide) (by decide) (by decide) rfl (Nat.le_of_ble_eq_true rfl) rfl ?_
  obtain ⟨rfl, rfl⟩ := ret_S hF
  exact hR dX7_best_13 (by decide) (by decide)

set_option maxHeartbeats 4000000 in
set_option maxRecDepth 100000 in
theorem c_X7_passes {x0 : Nat} {x1 : Int32} {x2 : Int32} {h hh : Hp} {xr : Int32} (hF : F_X7_passes x0 x1 x2 h = some (xr, hh)) : Ctr yX7_passes cX7_passes 3 (some .int) 4 0 0 [.inr (7, (some x0)), .inl x1, .inl x2] h (some (.inl xr)) hh := by
  refine Ctr_i (own := RX7) (ini := False) (ls0 := [some (.inr (7, (some x0))), some (.inl x1), some (.inl x2)]) (by decide) rfl (Nat.le_of_ble_eq_true rfl) (fun e => e.elim) rfl ?_
  intro J hJ hR
  unfold F_X7_passes at hF
  refine hJ.aload_n (i := 0) dX7_passes_0 rfl rfl ?_
  refine hJ.iload_n (i := 1) dX7_passes_1 rfl rfl ?_
  replace hF := cl_S hF
  obtain ⟨r1, h2, ec3, hF⟩ := hF
  refine hJ.callV0 (as := [.inl x1]) (st := []) dX7_passes_2 w_RX7_319 ⟨by decide, rfl⟩ rfl (c_X7_makePlan ec3) (by decide) (by decide) (by decide) rfl (Nat.le_of_ble_eq_true rfl) rfl ?_
  refine hJ.aload_n (i := 0) dX7_passes_5 rfl rfl ?_
  refine hJ.getR dX7_passes_6 f_RX7_75 rfl ?_
  refine hJ.iload_n (i := 2) dX7_passes_9 rfl rfl ?_
  replace hF := nn_S hF
  obtain ⟨n4, e5, hF⟩ := hF
  rw [e5]
  replace hF := cl_S hF
  obtain ⟨r6, h7, ec8, hF⟩ := hF
  refine hJ.callV (as := [.inl x2]) (st := []) dX7_passes_10 w_RX7_325 ⟨by decide, rfl⟩ rfl (c_X1_hourOf ec8) (by decide) (by decide) (by decide) rfl (Nat.le_of_ble_eq_true rfl) rfl ?_
  obtain ⟨rfl, rfl⟩ := ret_S hF
  exact hR dX7_passes_13 (by decide) (by decide)

set_option maxHeartbeats 4000000 in
set_option maxRecDepth 100000 in
theorem c_X7_numberOf {x0 : Option Nat} {h hh : Hp} {xr : Int32} (hF : F_X7_numberOf x0 h = some (xr, hh)) : Ctr yX7_numberOf cX7_numberOf 1 (some .int) 0 0 0 [.inr (4, x0)] h (some (.inl xr)) hh := by
  refine Ctr_i (own := RX7) (ini := False) (ls0 := [some (.inr (4, x0))]) (by decide) rfl (Nat.le_of_ble_eq_true rfl) (fun e => e.elim) rfl ?_
  intro J hJ hR
  unfold F_X7_numberOf at hF
  refine hJ.aload_n (i := 0) dX7_numberOf_0 rfl rfl ?_
  refine hJ.ifnonnull (tgt := 8) dX7_numberOf_1 (by decide) (fun n2 e1 => ?_) (fun e1 => ?_)
  · replace hF := onn_J e1 hF
    subst e1
    refine hJ.aload_n (i := 0) dX7_numberOf_8 rfl rfl ?_
    refine hJ.getI dX7_numberOf_9 f_RX7_102 rfl ?_
    obtain ⟨rfl, rfl⟩ := ret_S hF
    exact hR dX7_numberOf_12 (by decide) (by decide)
  · replace hF := onn_N e1 hF
    subst e1
    refine hJ.iconst (v := -1) dX7_numberOf_4 (by decide) ?_
    refine hJ.goto (tgt := 12) dX7_numberOf_5 (by decide) ?_
    obtain ⟨rfl, rfl⟩ := ret_S hF
    exact hR dX7_numberOf_12 (by decide) (by decide)

set_option maxHeartbeats 4000000 in
set_option maxRecDepth 100000 in
theorem c_X7_told {x0 : Nat} {x1 : Int32} {x2 : Int32} {h hh : Hp} {xr : Int32} (hF : F_X7_told x0 x1 x2 h = some (xr, hh)) : Ctr yX7_told cX7_told 4 (some .int) 2 0 0 [.inr (7, (some x0)), .inl x1, .inl x2] h (some (.inl xr)) hh := by
  refine Ctr_i (own := RX7) (ini := False) (ls0 := [some (.inr (7, (some x0))), some (.inl x1), some (.inl x2), none]) (by decide) rfl (Nat.le_of_ble_eq_true rfl) (fun e => e.elim) rfl ?_
  intro J hJ hR
  unfold F_X7_told at hF
  refine hJ.aload_n (i := 0) dX7_told_0 rfl rfl ?_
  refine hJ.iload_n (i := 1) dX7_told_1 rfl rfl ?_
  replace hF := cl_S hF
  obtain ⟨r1, h2, ec3, hF⟩ := hF
  refine hJ.callV (as := [.inl x1]) (st := []) dX7_told_2 w_RX7_124 ⟨by decide, rfl⟩ rfl (c_X7_trunkAt ec3) (by decide) (by decide) (by decide) rfl (Nat.le_of_ble_eq_true rfl) rfl ?_
  refine hJ.astore_n (i := 3) (ls2 := [some (.inr (7, (some x0))), some (.inl x1), some (.inl x2), some (.inr (6, r1))]) dX7_told_5 rfl (by decide) rfl ?_
  refine hJ.aload_n (i := 3) dX7_told_6 rfl rfl ?_
  refine hJ.ifnonnull (tgt := 12) dX7_told_7 (by decide) (fun n5 e4 => ?_) (fun e4 => ?_)
  · replace hF := onn_J e4 hF
    subst e4
    refine hJ.iload_n (i := 2) dX7_told_12 rfl rfl ?_
    by_cases e6 : x2 = (0 : Int32)
    · replace hF := ite_T e6 hF
      refine hJ.tabIn (off := 47) (tgt := 60) dX7_told_13 (by rw [e6]; decide) (by rw [e6]; decide) (by rw [e6]; decide) (by decide) ?_
      refine hJ.aload_n (i := 3) dX7_told_60 rfl rfl ?_
      refine hJ.getI dX7_told_61 f_RX7_121 rfl ?_
      obtain ⟨rfl, rfl⟩ := ret_S hF
      exact hR dX7_told_64 (by decide) (by decide)
    · replace hF := ite_F e6 hF
      by_cases e7 : x2 = (1 : Int32)
      · replace hF := ite_T e7 hF
        refine hJ.tabIn (off := 52) (tgt := 65) dX7_told_13 (by rw [e7]; decide) (by rw [e7]; decide) (by rw [e7]; decide) (by decide) ?_
        refine hJ.aload_n (i := 3) dX7_told_65 rfl rfl ?_
        refine hJ.getI dX7_told_66 f_RX7_264 rfl ?_
        obtain ⟨rfl, rfl⟩ := ret_S hF
        exact hR dX7_told_69 (by decide) (by decide)
      · replace hF := ite_F e7 hF
        by_cases e8 : x2 = (2 : Int32)
        · replace hF := ite_T e8 hF
          refine hJ.tabIn (off := 57) (tgt := 70) dX7_told_13 (by rw [e8]; decide) (by rw [e8]; decide) (by rw [e8]; decide) (by decide) ?_
          refine hJ.aload_n (i := 3) dX7_told_70 rfl rfl ?_
          refine hJ.getI dX7_told_71 f_RX7_308 rfl ?_
          obtain ⟨rfl, rfl⟩ := ret_S hF
          exact hR dX7_told_74 (by decide) (by decide)
        · replace hF := ite_F e8 hF
          by_cases e9 : x2 = (3 : Int32)
          · replace hF := ite_T e9 hF
            refine hJ.tabIn (off := 62) (tgt := 75) dX7_told_13 (by rw [e9]; decide) (by rw [e9]; decide) (by rw [e9]; decide) (by decide) ?_
            refine hJ.aload_n (i := 3) dX7_told_75 rfl rfl ?_
            refine hJ.getI dX7_told_76 f_RX7_311 rfl ?_
            obtain ⟨rfl, rfl⟩ := ret_S hF
            exact hR dX7_told_79 (by decide) (by decide)
          · replace hF := ite_F e9 hF
            by_cases e10 : x2 = (4 : Int32)
            · replace hF := ite_T e10 hF
              refine hJ.tabIn (off := 67) (tgt := 80) dX7_told_13 (by rw [e10]; decide) (by rw [e10]; decide) (by rw [e10]; decide) (by decide) ?_
              refine hJ.aload_n (i := 3) dX7_told_80 rfl rfl ?_
              replace hF := cl_S hF
              obtain ⟨r19, h20, ec21, hF⟩ := hF
              refine hJ.callV (as := []) (st := []) dX7_told_81 w_RX7_340 ⟨by decide, rfl⟩ rfl (c_X6_state ec21) (by decide) (by decide) (by decide) rfl (Nat.le_of_ble_eq_true rfl) rfl ?_
              obtain ⟨rfl, rfl⟩ := ret_S hF
              exact hR dX7_told_84 (by decide) (by decide)
            · replace hF := ite_F e10 hF
              by_cases e11 : x2 = (5 : Int32)
              · replace hF := ite_T e11 hF
                refine hJ.tabIn (off := 72) (tgt := 85) dX7_told_13 (by rw [e11]; decide) (by rw [e11]; decide) (by rw [e11]; decide) (by decide) ?_
                refine hJ.aload_n (i := 3) dX7_told_85 rfl rfl ?_
                refine hJ.getR dX7_told_86 f_RX7_128 rfl ?_
                replace hF := cl_S hF
                obtain ⟨r16, h17, ec18, hF⟩ := hF
                refine hJ.callS (as := [.inr (4, (pR h2 6 n5 5))]) (st := []) dX7_told_89 w_RX7_341 (c_X7_numberOf ec18) (by decide) (by decide) (by decide) rfl (Nat.le_of_ble_eq_true rfl) rfl ?_
                obtain ⟨rfl, rfl⟩ := ret_S hF
                exact hR dX7_told_92 (by decide) (by decide)
              · replace hF := ite_F e11 hF
                by_cases e12 : x2 = (6 : Int32)
                · replace hF := ite_T e12 hF
                  refine hJ.tabIn (off := 80) (tgt := 93) dX7_told_13 (by rw [e12]; decide) (by rw [e12]; decide) (by rw [e12]; decide) (by decide) ?_
                  refine hJ.aload_n (i := 3) dX7_told_93 rfl rfl ?_
                  refine hJ.getR dX7_told_94 f_RX7_344 rfl ?_
                  refine hJ.ifnonnull (tgt := 104) dX7_told_97 (by decide) (fun n15 e14 => ?_) (fun e14 => ?_)
                  · replace hF := onn_J e14 hF
                    refine hJ.aload_n (i := 3) dX7_told_104 rfl rfl ?_
                    refine hJ.getR dX7_told_105 f_RX7_344 rfl ?_
                    rw [e14]
                    refine hJ.getI dX7_told_108 f_RX7_154 rfl ?_
                    obtain ⟨rfl, rfl⟩ := ret_S hF
                    exact hR dX7_told_111 (by decide) (by decide)
                  · replace hF := onn_N e14 hF
                    refine hJ.iconst (v := -1) dX7_told_100 (by decide) ?_
                    refine hJ.goto (tgt := 111) dX7_told_101 (by decide) ?_
                    obtain ⟨rfl, rfl⟩ := ret_S hF
                    exact hR dX7_told_111 (by decide) (by decide)
                · replace hF := ite_F e12 hF
                  by_cases e13 : x2 = (7 : Int32)
                  · replace hF := ite_T e13 hF
                    refine hJ.tabIn (off := 99) (tgt := 112) dX7_told_13 (by rw [e13]; decide) (by rw [e13]; decide) (by rw [e13]; decide) (by decide) ?_
                    refine hJ.aload_n (i := 3) dX7_told_112 rfl rfl ?_
                    refine hJ.getI dX7_told_113 f_RX7_314 rfl ?_
                    obtain ⟨rfl, rfl⟩ := ret_S hF
                    exact hR dX7_told_116 (by decide) (by decide)
                  · replace hF := ite_F e13 hF
                    have z0 : (x2).toInt ≠ 0 := i32_ne e6
                    have z1 : (x2).toInt ≠ 1 := i32_ne e7
                    have z2 : (x2).toInt ≠ 2 := i32_ne e8
                    have z3 : (x2).toInt ≠ 3 := i32_ne e9
                    have z4 : (x2).toInt ≠ 4 := i32_ne e10
                    have z5 : (x2).toInt ≠ 5 := i32_ne e11
                    have z6 : (x2).toInt ≠ 6 := i32_ne e12
                    have z7 : (x2).toInt ≠ 7 := i32_ne e13
                    refine hJ.tabOut (tgt := 117) dX7_told_13 (by omega) (by decide) ?_
                    refine hJ.iconst (v := -1) dX7_told_117 (by decide) ?_
                    obtain ⟨rfl, rfl⟩ := ret_S hF
                    exact hR dX7_told_118 (by decide) (by decide)
  · replace hF := onn_N e4 hF
    subst e4
    refine hJ.iconst (v := -1) dX7_told_10 (by decide) ?_
    obtain ⟨rfl, rfl⟩ := ret_S hF
    exact hR dX7_told_11 (by decide) (by decide)

set_option maxHeartbeats 4000000 in
set_option maxRecDepth 100000 in
theorem c_X7_raft {x0 : Nat} {x1 : Int32} {x2 : Int32} {h hh : Hp} {xr : Int32} (hF : F_X7_raft x0 x1 x2 h = some (xr, hh)) : Ctr yX7_raft cX7_raft 4 (some .int) 2 0 0 [.inr (7, (some x0)), .inl x1, .inl x2] h (some (.inl xr)) hh := by
  refine Ctr_i (own := RX7) (ini := False) (ls0 := [some (.inr (7, (some x0))), some (.inl x1), some (.inl x2), none]) (by decide) rfl (Nat.le_of_ble_eq_true rfl) (fun e => e.elim) rfl ?_
  intro J hJ hR
  unfold F_X7_raft at hF
  refine hJ.aload_n (i := 0) dX7_raft_0 rfl rfl ?_
  refine hJ.iload_n (i := 1) dX7_raft_1 rfl rfl ?_
  replace hF := cl_S hF
  obtain ⟨r1, h2, ec3, hF⟩ := hF
  refine hJ.callV (as := [.inl x1]) (st := []) dX7_raft_2 w_RX7_190 ⟨by decide, rfl⟩ rfl (c_X7_raftAt ec3) (by decide) (by decide) (by decide) rfl (Nat.le_of_ble_eq_true rfl) rfl ?_
  refine hJ.astore_n (i := 3) (ls2 := [some (.inr (7, (some x0))), some (.inl x1), some (.inl x2), some (.inr (2, r1))]) dX7_raft_5 rfl (by decide) rfl ?_
  refine hJ.aload_n (i := 3) dX7_raft_6 rfl rfl ?_
  refine hJ.ifnonnull (tgt := 12) dX7_raft_7 (by decide) (fun n5 e4 => ?_) (fun e4 => ?_)
  · replace hF := onn_J e4 hF
    subst e4
    refine hJ.iload_n (i := 2) dX7_raft_12 rfl rfl ?_
    by_cases e6 : x2 = (0 : Int32)
    · replace hF := ite_T e6 hF
      refine hJ.tabIn (off := 43) (tgt := 56) dX7_raft_13 (by rw [e6]; decide) (by rw [e6]; decide) (by rw [e6]; decide) (by decide) ?_
      refine hJ.aload_n (i := 3) dX7_raft_56 rfl rfl ?_
      replace hF := cl_S hF
      obtain ⟨r24, h25, ec26, hF⟩ := hF
      refine hJ.callV (as := []) (st := []) dX7_raft_57 w_RX7_193 ⟨by decide, rfl⟩ rfl (c_X2_state ec26) (by decide) (by decide) (by decide) rfl (Nat.le_of_ble_eq_true rfl) rfl ?_
      obtain ⟨rfl, rfl⟩ := ret_S hF
      exact hR dX7_raft_60 (by decide) (by decide)
    · replace hF := ite_F e6 hF
      by_cases e7 : x2 = (1 : Int32)
      · replace hF := ite_T e7 hF
        refine hJ.tabIn (off := 48) (tgt := 61) dX7_raft_13 (by rw [e7]; decide) (by rw [e7]; decide) (by rw [e7]; decide) (by decide) ?_
        refine hJ.aload_n (i := 3) dX7_raft_61 rfl rfl ?_
        refine hJ.getR dX7_raft_62 f_RX7_159 rfl ?_
        replace hF := cl_S hF
        obtain ⟨r21, h22, ec23, hF⟩ := hF
        refine hJ.callS (as := [.inr (4, (pR h2 2 n5 3))]) (st := []) dX7_raft_65 w_RX7_341 (c_X7_numberOf ec23) (by decide) (by decide) (by decide) rfl (Nat.le_of_ble_eq_true rfl) rfl ?_
        obtain ⟨rfl, rfl⟩ := ret_S hF
        exact hR dX7_raft_68 (by decide) (by decide)
      · replace hF := ite_F e7 hF
        by_cases e8 : x2 = (2 : Int32)
        · replace hF := ite_T e8 hF
          refine hJ.tabIn (off := 56) (tgt := 69) dX7_raft_13 (by rw [e8]; decide) (by rw [e8]; decide) (by rw [e8]; decide) (by decide) ?_
          refine hJ.aload_n (i := 3) dX7_raft_69 rfl rfl ?_
          refine hJ.getI dX7_raft_70 f_RX7_160 rfl ?_
          obtain ⟨rfl, rfl⟩ := ret_S hF
          exact hR dX7_raft_73 (by decide) (by decide)
        · replace hF := ite_F e8 hF
          by_cases e9 : x2 = (3 : Int32)
          · replace hF := ite_T e9 hF
            refine hJ.tabIn (off := 61) (tgt := 74) dX7_raft_13 (by rw [e9]; decide) (by rw [e9]; decide) (by rw [e9]; decide) (by decide) ?_
            refine hJ.aload_n (i := 3) dX7_raft_74 rfl rfl ?_
            replace hF := cl_S hF
            obtain ⟨r18, h19, ec20, hF⟩ := hF
            refine hJ.callV (as := []) (st := []) dX7_raft_75 w_RX7_259 ⟨by decide, rfl⟩ rfl (c_X2_trunkCount ec20) (by decide) (by decide) (by decide) rfl (Nat.le_of_ble_eq_true rfl) rfl ?_
            obtain ⟨rfl, rfl⟩ := ret_S hF
            exact hR dX7_raft_78 (by decide) (by decide)
          · replace hF := ite_F e9 hF
            by_cases e10 : x2 = (4 : Int32)
            · replace hF := ite_T e10 hF
              refine hJ.tabIn (off := 66) (tgt := 79) dX7_raft_13 (by rw [e10]; decide) (by rw [e10]; decide) (by rw [e10]; decide) (by decide) ?_
              refine hJ.aload_n (i := 3) dX7_raft_79 rfl rfl ?_
              replace hF := cl_S hF
              obtain ⟨r15, h16, ec17, hF⟩ := hF
              refine hJ.callV (as := []) (st := []) dX7_raft_80 w_RX7_345 ⟨by decide, rfl⟩ rfl (c_X2_width ec17) (by decide) (by decide) (by decide) rfl (Nat.le_of_ble_eq_true rfl) rfl ?_
              obtain ⟨rfl, rfl⟩ := ret_S hF
              exact hR dX7_raft_83 (by decide) (by decide)
            · replace hF := ite_F e10 hF
              by_cases e11 : x2 = (5 : Int32)
              · replace hF := ite_T e11 hF
                refine hJ.tabIn (off := 71) (tgt := 84) dX7_raft_13 (by rw [e11]; decide) (by rw [e11]; decide) (by rw [e11]; decide) (by decide) ?_
                refine hJ.aload_n (i := 3) dX7_raft_84 rfl rfl ?_
                refine hJ.getR dX7_raft_85 f_RX7_348 rfl ?_
                refine hJ.ifnonnull (tgt := 95) dX7_raft_88 (by decide) (fun n14 e13 => ?_) (fun e13 => ?_)
                · replace hF := onn_J e13 hF
                  refine hJ.aload_n (i := 3) dX7_raft_95 rfl rfl ?_
                  refine hJ.getR dX7_raft_96 f_RX7_348 rfl ?_
                  rw [e13]
                  refine hJ.getI dX7_raft_99 f_RX7_174 rfl ?_
                  obtain ⟨rfl, rfl⟩ := ret_S hF
                  exact hR dX7_raft_102 (by decide) (by decide)
                · replace hF := onn_N e13 hF
                  refine hJ.iconst (v := -1) dX7_raft_91 (by decide) ?_
                  refine hJ.goto (tgt := 102) dX7_raft_92 (by decide) ?_
                  obtain ⟨rfl, rfl⟩ := ret_S hF
                  exact hR dX7_raft_102 (by decide) (by decide)
              · replace hF := ite_F e11 hF
                by_cases e12 : x2 = (6 : Int32)
                · replace hF := ite_T e12 hF
                  refine hJ.tabIn (off := 90) (tgt := 103) dX7_raft_13 (by rw [e12]; decide) (by rw [e12]; decide) (by rw [e12]; decide) (by decide) ?_
                  refine hJ.aload_n (i := 3) dX7_raft_103 rfl rfl ?_
                  refine hJ.getI dX7_raft_104 f_RX7_352 rfl ?_
                  obtain ⟨rfl, rfl⟩ := ret_S hF
                  exact hR dX7_raft_107 (by decide) (by decide)
                · replace hF := ite_F e12 hF
                  have z0 : (x2).toInt ≠ 0 := i32_ne e6
                  have z1 : (x2).toInt ≠ 1 := i32_ne e7
                  have z2 : (x2).toInt ≠ 2 := i32_ne e8
                  have z3 : (x2).toInt ≠ 3 := i32_ne e9
                  have z4 : (x2).toInt ≠ 4 := i32_ne e10
                  have z5 : (x2).toInt ≠ 5 := i32_ne e11
                  have z6 : (x2).toInt ≠ 6 := i32_ne e12
                  refine hJ.tabOut (tgt := 108) dX7_raft_13 (by omega) (by decide) ?_
                  refine hJ.iconst (v := -1) dX7_raft_108 (by decide) ?_
                  obtain ⟨rfl, rfl⟩ := ret_S hF
                  exact hR dX7_raft_109 (by decide) (by decide)
  · replace hF := onn_N e4 hF
    subst e4
    refine hJ.iconst (v := -1) dX7_raft_10 (by decide) ?_
    obtain ⟨rfl, rfl⟩ := ret_S hF
    exact hR dX7_raft_11 (by decide) (by decide)

