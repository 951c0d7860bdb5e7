set_option maxHeartbeats 4000000 in
set_option maxRecDepth 100000 in
theorem c_X7_crewed {x0 : Nat} {x1 : Int32} {x2 : Int32} {h hh : Hp} {xr : Int32} (hF : F_X7_crewed x0 x1 x2 h = some (xr, hh)) : Ctr yX7_crewed cX7_crewed 4 (some .int) 2 0 0 [.inr (7, (some x0)), .inl x1, .inl x2] h (some (.inl xr)) hh := by
  refine Ctr_i (own := RX7) (ini := False) (ls0 := [some (.inr (7, (some x0))), some (.inl x1), some (.inl x2), none]) (by decide) rfl (Nat.le_of_ble_eq_true rfl) (fun e => e.elim) rfl ?_
  intro J hJ hR
  unfold F_X7_crewed at hF
  refine hJ.aload_n (i := 0) dX7_crewed_0 rfl rfl ?_
  refine hJ.iload_n (i := 1) dX7_crewed_1 rfl rfl ?_
  replace hF := cl_S hF
  obtain ⟨r1, h2, ec3, hF⟩ := hF
  refine hJ.callV (as := [.inl x1]) (st := []) dX7_crewed_2 w_RX7_175 ⟨by decide, rfl⟩ rfl (c_X7_crewAt ec3) (by decide) (by decide) (by decide) rfl (Nat.le_of_ble_eq_true rfl) rfl ?_
  refine hJ.astore_n (i := 3) (ls2 := [some (.inr (7, (some x0))), some (.inl x1), some (.inl x2), some (.inr (0, r1))]) dX7_crewed_5 rfl (by decide) rfl ?_
  refine hJ.aload_n (i := 3) dX7_crewed_6 rfl rfl ?_
  refine hJ.ifnonnull (tgt := 12) dX7_crewed_7 (by decide) (fun n5 e4 => ?_) (fun e4 => ?_)
  · replace hF := onn_J e4 hF
    subst e4
    refine hJ.iload_n (i := 2) dX7_crewed_12 rfl rfl ?_
    by_cases e6 : x2 = (0 : Int32)
    · replace hF := ite_T e6 hF
      refine hJ.tabIn (off := 31) (tgt := 44) dX7_crewed_13 (by rw [e6]; decide) (by rw [e6]; decide) (by rw [e6]; decide) (by decide) ?_
      refine hJ.aload_n (i := 3) dX7_crewed_44 rfl rfl ?_
      replace hF := cl_S hF
      obtain ⟨r17, h18, ec19, hF⟩ := hF
      refine hJ.callV (as := []) (st := []) dX7_crewed_45 w_RX7_355 ⟨by decide, rfl⟩ rfl (c_X0_state ec19) (by decide) (by decide) (by decide) rfl (Nat.le_of_ble_eq_true rfl) rfl ?_
      obtain ⟨rfl, rfl⟩ := ret_S hF
      exact hR dX7_crewed_48 (by decide) (by decide)
    · replace hF := ite_F e6 hF
      by_cases e7 : x2 = (1 : Int32)
      · replace hF := ite_T e7 hF
        refine hJ.tabIn (off := 36) (tgt := 49) dX7_crewed_13 (by rw [e7]; decide) (by rw [e7]; decide) (by rw [e7]; decide) (by decide) ?_
        refine hJ.aload_n (i := 3) dX7_crewed_49 rfl rfl ?_
        refine hJ.getR dX7_crewed_50 f_RX7_182 rfl ?_
        replace hF := cl_S hF
        obtain ⟨r14, h15, ec16, hF⟩ := hF
        refine hJ.callS (as := [.inr (4, (pR h2 0 n5 2))]) (st := []) dX7_crewed_53 w_RX7_341 (c_X7_numberOf ec16) (by decide) (by decide) (by decide) rfl (Nat.le_of_ble_eq_true rfl) rfl ?_
        obtain ⟨rfl, rfl⟩ := ret_S hF
        exact hR dX7_crewed_56 (by decide) (by decide)
      · replace hF := ite_F e7 hF
        by_cases e8 : x2 = (2 : Int32)
        · replace hF := ite_T e8 hF
          refine hJ.tabIn (off := 44) (tgt := 57) dX7_crewed_13 (by rw [e8]; decide) (by rw [e8]; decide) (by rw [e8]; decide) (by decide) ?_
          refine hJ.aload_n (i := 3) dX7_crewed_57 rfl rfl ?_
          refine hJ.getI dX7_crewed_58 f_RX7_208 rfl ?_
          obtain ⟨rfl, rfl⟩ := ret_S hF
          exact hR dX7_crewed_61 (by decide) (by decide)
        · replace hF := ite_F e8 hF
          by_cases e9 : x2 = (3 : Int32)
          · replace hF := ite_T e9 hF
            refine hJ.tabIn (off := 49) (tgt := 62) dX7_crewed_13 (by rw [e9]; decide) (by rw [e9]; decide) (by rw [e9]; decide) (by decide) ?_
            refine hJ.aload_n (i := 3) dX7_crewed_62 rfl rfl ?_
            refine hJ.aload_n (i := 0) dX7_crewed_63 rfl rfl ?_
            refine hJ.getI dX7_crewed_64 f_RX7_79 rfl ?_
            replace hF := cl_S hF
            obtain ⟨r10, h11, ec12, hF⟩ := hF
            refine hJ.callV (as := [.inl (pI h2 7 x0 14)]) (st := []) dX7_crewed_67 w_RX7_183 ⟨by decide, rfl⟩ rfl (c_X0_rests ec12) (by decide) (by decide) (by decide) rfl (Nat.le_of_ble_eq_true rfl) rfl ?_
            refine hJ.if_eq (tgt := 77) dX7_crewed_70 (by decide) (fun e13 => ?_) (fun e13 => ?_)
            · replace hF := ite_T e13 hF
              refine hJ.iconst (v := 0) dX7_crewed_77 (by decide) ?_
              obtain ⟨rfl, rfl⟩ := ret_S hF
              exact hR dX7_crewed_78 (by decide) (by decide)
            · replace hF := ite_F e13 hF
              refine hJ.iconst (v := 1) dX7_crewed_73 (by decide) ?_
              refine hJ.goto (tgt := 78) dX7_crewed_74 (by decide) ?_
              obtain ⟨rfl, rfl⟩ := ret_S hF
              exact hR dX7_crewed_78 (by decide) (by decide)
          · replace hF := ite_F e9 hF
            have z0 : (x2).toInt ≠ 0 := i32_ne e6
            have z1 : (x2).toInt ≠ 1 := i32_ne e7
            have z2 : (x2).toInt ≠ 2 := i32_ne e8
            have z3 : (x2).toInt ≠ 3 := i32_ne e9
            refine hJ.tabOut (tgt := 79) dX7_crewed_13 (by omega) (by decide) ?_
            refine hJ.iconst (v := -1) dX7_crewed_79 (by decide) ?_
            obtain ⟨rfl, rfl⟩ := ret_S hF
            exact hR dX7_crewed_80 (by decide) (by decide)
  · replace hF := onn_N e4 hF
    subst e4
    refine hJ.iconst (v := -1) dX7_crewed_10 (by decide) ?_
    obtain ⟨rfl, rfl⟩ := ret_S hF
    exact hR dX7_crewed_11 (by decide) (by decide)

set_option maxHeartbeats 4000000 in
set_option maxRecDepth 100000 in
theorem c_X7_pondOf {x0 : Nat} {x1 : Int32} {h hh : Hp} {xr : Int32} (hF : F_X7_pondOf x0 x1 h = some (xr, hh)) : Ctr yX7_pondOf cX7_pondOf 3 (some .int) 2 0 0 [.inr (7, (some x0)), .inl x1] h (some (.inl xr)) hh := by
  refine Ctr_i (own := RX7) (ini := False) (ls0 := [some (.inr (7, (some x0))), some (.inl x1), none]) (by decide) rfl (Nat.le_of_ble_eq_true rfl) (fun e => e.elim) rfl ?_
  intro J hJ hR
  unfold F_X7_pondOf at hF
  refine hJ.aload_n (i := 0) dX7_pondOf_0 rfl rfl ?_
  refine hJ.iload_n (i := 1) dX7_pondOf_1 rfl rfl ?_
  replace hF := cl_S hF
  obtain ⟨r1, h2, ec3, hF⟩ := hF
  refine hJ.callV (as := [.inl x1]) (st := []) dX7_pondOf_2 w_RX7_94 ⟨by decide, rfl⟩ rfl (c_X7_stationAt ec3) (by decide) (by decide) (by decide) rfl (Nat.le_of_ble_eq_true rfl) rfl ?_
  refine hJ.astore_n (i := 2) (ls2 := [some (.inr (7, (some x0))), some (.inl x1), some (.inr (4, r1))]) dX7_pondOf_5 rfl (by decide) rfl ?_
  refine hJ.aload_n (i := 2) dX7_pondOf_6 rfl rfl ?_
  refine hJ.ifnonnull (tgt := 14) dX7_pondOf_7 (by decide) (fun n5 e4 => ?_) (fun e4 => ?_)
  · replace hF := onn_J e4 hF
    subst e4
    refine hJ.aload_n (i := 2) dX7_pondOf_14 rfl rfl ?_
    refine hJ.getI dX7_pondOf_15 f_RX7_233 rfl ?_
    obtain ⟨rfl, rfl⟩ := ret_S hF
    exact hR dX7_pondOf_18 (by decide) (by decide)
  · replace hF := onn_N e4 hF
    subst e4
    refine hJ.iconst (v := -1) dX7_pondOf_10 (by decide) ?_
    refine hJ.goto (tgt := 18) dX7_pondOf_11 (by decide) ?_
    obtain ⟨rfl, rfl⟩ := ret_S hF
    exact hR dX7_pondOf_18 (by decide) (by decide)

set_option maxHeartbeats 4000000 in
set_option maxRecDepth 100000 in
theorem c_X7_count {x0 : Nat} {x1 : Int32} {h hh : Hp} {xr : Int32} (hF : F_X7_count x0 x1 h = some (xr, hh)) : Ctr yX7_count cX7_count 2 (some .int) 3 0 0 [.inr (7, (some x0)), .inl x1] h (some (.inl xr)) hh := by
  refine Ctr_i (own := RX7) (ini := False) (ls0 := [some (.inr (7, (some x0))), some (.inl x1)]) (by decide) rfl (Nat.le_of_ble_eq_true rfl) (fun e => e.elim) rfl ?_
  intro J hJ hR
  unfold F_X7_count at hF
  refine hJ.iload_n (i := 1) dX7_count_0 rfl rfl ?_
  by_cases e1 : x1 = (0 : Int32)
  · replace hF := ite_T e1 hF
    refine hJ.tabIn (off := 47) (tgt := 48) dX7_count_1 (by rw [e1]; decide) (by rw [e1]; decide) (by rw [e1]; decide) (by decide) ?_
    refine hJ.aload_n (i := 0) dX7_count_48 rfl rfl ?_
    refine hJ.getI dX7_count_49 f_RX7_79 rfl ?_
    obtain ⟨rfl, rfl⟩ := ret_S hF
    exact hR dX7_count_52 (by decide) (by decide)
  · replace hF := ite_F e1 hF
    by_cases e2 : x1 = (1 : Int32)
    · replace hF := ite_T e2 hF
      refine hJ.tabIn (off := 52) (tgt := 53) dX7_count_1 (by rw [e2]; decide) (by rw [e2]; decide) (by rw [e2]; decide) (by decide) ?_
      refine hJ.aload_n (i := 0) dX7_count_53 rfl rfl ?_
      refine hJ.getI dX7_count_54 f_RX7_15 rfl ?_
      obtain ⟨rfl, rfl⟩ := ret_S hF
      exact hR dX7_count_57 (by decide) (by decide)
    · replace hF := ite_F e2 hF
      by_cases e3 : x1 = (2 : Int32)
      · replace hF := ite_T e3 hF
        refine hJ.tabIn (off := 57) (tgt := 58) dX7_count_1 (by rw [e3]; decide) (by rw [e3]; decide) (by rw [e3]; decide) (by decide) ?_
        refine hJ.aload_n (i := 0) dX7_count_58 rfl rfl ?_
        refine hJ.getI dX7_count_59 f_RX7_25 rfl ?_
        obtain ⟨rfl, rfl⟩ := ret_S hF
        exact hR dX7_count_62 (by decide) (by decide)
      · replace hF := ite_F e3 hF
        by_cases e4 : x1 = (3 : Int32)
        · replace hF := ite_T e4 hF
          refine hJ.tabIn (off := 62) (tgt := 63) dX7_count_1 (by rw [e4]; decide) (by rw [e4]; decide) (by rw [e4]; decide) (by decide) ?_
          refine hJ.aload_n (i := 0) dX7_count_63 rfl rfl ?_
          refine hJ.getI dX7_count_64 f_RX7_34 rfl ?_
          obtain ⟨rfl, rfl⟩ := ret_S hF
          exact hR dX7_count_67 (by decide) (by decide)
        · replace hF := ite_F e4 hF
          by_cases e5 : x1 = (4 : Int32)
          · replace hF := ite_T e5 hF
            refine hJ.tabIn (off := 67) (tgt := 68) dX7_count_1 (by rw [e5]; decide) (by rw [e5]; decide) (by rw [e5]; decide) (by decide) ?_
            refine hJ.aload_n (i := 0) dX7_count_68 rfl rfl ?_
            refine hJ.getI dX7_count_69 f_RX7_43 rfl ?_
            obtain ⟨rfl, rfl⟩ := ret_S hF
            exact hR dX7_count_72 (by decide) (by decide)
          · replace hF := ite_F e5 hF
            by_cases e6 : x1 = (5 : Int32)
            · replace hF := ite_T e6 hF
              refine hJ.tabIn (off := 72) (tgt := 73) dX7_count_1 (by rw [e6]; decide) (by rw [e6]; decide) (by rw [e6]; decide) (by decide) ?_
              refine hJ.aload_n (i := 0) dX7_count_73 rfl rfl ?_
              refine hJ.getI dX7_count_74 f_RX7_82 rfl ?_
              obtain ⟨rfl, rfl⟩ := ret_S hF
              exact hR dX7_count_77 (by decide) (by decide)
            · replace hF := ite_F e6 hF
              by_cases e7 : x1 = (6 : Int32)
              · replace hF := ite_T e7 hF
                refine hJ.tabIn (off := 77) (tgt := 78) dX7_count_1 (by rw [e7]; decide) (by rw [e7]; decide) (by rw [e7]; decide) (by decide) ?_
                refine hJ.aload_n (i := 0) dX7_count_78 rfl rfl ?_
                refine hJ.getI dX7_count_79 f_RX7_85 rfl ?_
                obtain ⟨rfl, rfl⟩ := ret_S hF
                exact hR dX7_count_82 (by decide) (by decide)
              · replace hF := ite_F e7 hF
                by_cases e8 : x1 = (7 : Int32)
                · replace hF := ite_T e8 hF
                  refine hJ.tabIn (off := 82) (tgt := 83) dX7_count_1 (by rw [e8]; decide) (by rw [e8]; decide) (by rw [e8]; decide) (by decide) ?_
                  refine hJ.aload_n (i := 0) dX7_count_83 rfl rfl ?_
                  refine hJ.getI dX7_count_84 f_RX7_88 rfl ?_
                  obtain ⟨rfl, rfl⟩ := ret_S hF
                  exact hR dX7_count_87 (by decide) (by decide)
                · replace hF := ite_F e8 hF
                  have z0 : (x1).toInt ≠ 0 := i32_ne e1
                  have z1 : (x1).toInt ≠ 1 := i32_ne e2
                  have z2 : (x1).toInt ≠ 2 := i32_ne e3
                  have z3 : (x1).toInt ≠ 3 := i32_ne e4
                  have z4 : (x1).toInt ≠ 4 := i32_ne e5
                  have z5 : (x1).toInt ≠ 5 := i32_ne e6
                  have z6 : (x1).toInt ≠ 6 := i32_ne e7
                  have z7 : (x1).toInt ≠ 7 := i32_ne e8
                  refine hJ.tabOut (tgt := 88) dX7_count_1 (by omega) (by decide) ?_
                  refine hJ.iload_n (i := 1) dX7_count_88 rfl rfl ?_
                  refine hJ.bipush (v := 100) dX7_count_89 (by decide) ?_
                  refine hJ.icmp_ge (tgt := 98) dX7_count_91 (by decide) (fun e9 => ?_) (fun e9 => ?_)
                  · replace hF := ite_T e9 hF
                    refine hJ.aload_n (i := 0) dX7_count_98 rfl rfl ?_
                    refine hJ.iload_n (i := 1) dX7_count_99 rfl rfl ?_
                    refine hJ.bipush (v := 100) dX7_count_100 (by decide) ?_
                    refine hJ.isub dX7_count_102 ?_
                    replace hF := cl_S hF
                    obtain ⟨r10, h11, ec12, hF⟩ := hF
                    refine hJ.callV (as := [.inl (x1 - (100 : Int32))]) (st := []) dX7_count_103 w_RX7_356 ⟨by decide, rfl⟩ rfl (c_X7_pondOf ec12) (by decide) (by decide) (by decide) rfl (Nat.le_of_ble_eq_true rfl) rfl ?_
                    obtain ⟨rfl, rfl⟩ := ret_S hF
                    exact hR dX7_count_106 (by decide) (by decide)
                  · replace hF := ite_F e9 hF
                    refine hJ.iconst (v := -1) dX7_count_94 (by decide) ?_
                    refine hJ.goto (tgt := 106) dX7_count_95 (by decide) ?_
                    obtain ⟨rfl, rfl⟩ := ret_S hF
                    exact hR dX7_count_106 (by decide) (by decide)

