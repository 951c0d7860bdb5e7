set_option maxHeartbeats 4000000 in
set_option maxRecDepth 100000 in
theorem t_X7_init_146 {β : Type} {J : JT} (hJ : Rules cX7_init RX7 2 2 22 871 True J) {a b : Nat} (ha : a ≤ 22) (hb : b ≤ 871) {v0 : Nat} {κ165 : Hp → Option β} {out : β}
    (hk165 : ∀ (h : Hp), κ165 h = some out → J 165 [none, none] [] h a b)
    : ∀ (f : Nat) (v1 : Int32) (h : Hp), L_X7_init_146 v0 κ165 f v1 h = some out → J 146 [some (.inr (7, (some v0))), some (.inl v1)] [] h a b := by
  intro f
  induction f with
  | zero => intro v1 h hF; simp [L_X7_init_146] at hF
  | succ f ih =>
    intro v1 h hF
    rw [L_X7_init_146] at hF
    refine hJ.iload_n (i := 1) dX7_init_146 rfl rfl ?_
    refine hJ.bipush (v := 8) dX7_init_147 (by decide) ?_
    refine hJ.icmp_ge (tgt := 165) dX7_init_149 (by decide) (fun e69 => ?_) (fun e69 => ?_)
    · replace hF := ite_T e69 hF
      refine hJ.forget (ls2 := [none, none]) trivial ?_
      exact hk165 h hF
    · replace hF := ite_F e69 hF
      refine hJ.aload_n (i := 0) dX7_init_152 rfl rfl ?_
      refine hJ.getR dX7_init_153 f_RX7_65 rfl ?_
      refine hJ.iload_n (i := 1) dX7_init_156 rfl rfl ?_
      refine hJ.iconst (v := 5) dX7_init_157 (by decide) ?_
      replace hF := nn_S hF
      obtain ⟨n70, e71, hF⟩ := hF
      rw [e71]
      replace hF := ck_S hF
      obtain ⟨c72, hF⟩ := hF
      replace hF := lt_S hF
      obtain ⟨h73, eh74, hF⟩ := hF
      refine hJ.iast dX7_init_158 a_23 rfl c72 ?_
      rw [← eh74]
      refine hJ.iinc (i := 1) (v := (v1 + (1 : Int32))) (ls2 := [some (.inr (7, (some v0))), some (.inl (v1 + (1 : Int32)))]) dX7_init_159 rfl (addI (by decide)) (by decide) rfl ?_
      refine hJ.goto (tgt := 146) dX7_init_162 (by decide) ?_
      refine hJ.forget (ls2 := [some (.inr (7, (some v0))), some (.inl (v1 + (1 : Int32)))]) ⟨rfl, rfl, trivial⟩ ?_
      exact ih (v1 + (1 : Int32)) h73 hF

set_option maxHeartbeats 4000000 in
set_option maxRecDepth 100000 in
theorem c_X7_init {x0 : Nat} {h hh : Hp} {xr : Unit} (hF : F_X7_init x0 h = some (xr, hh)) : Ctr yX7_init cX7_init 2 none 2 22 871 [.inr (7, (some x0))] h none hh := by
  refine Ctr_v (own := RX7) (ini := True) (ls0 := [some (.inr (7, (some x0))), none]) (by decide) rfl (Nat.le_of_ble_eq_true rfl) (fun _ => rfl) rfl ?_
  intro J hJ hR
  unfold F_X7_init at hF
  refine hJ.aload_n (i := 0) dX7_init_0 rfl rfl ?_
  refine hJ.objInit dX7_init_1 w_RX7_1 rfl (by decide) (Nat.le_of_ble_eq_true rfl) ?_
  refine hJ.aload_n (i := 0) dX7_init_4 rfl rfl ?_
  refine hJ.bipush (v := 12) dX7_init_5 (by decide) ?_
  replace hF := lt_S hF
  obtain ⟨h1, eh2, hF⟩ := hF
  refine hJ.newq (N := 12) dX7_init_7 a_19 q_RX7_9 (by decide) (by decide) (by decide) (by decide) (by decide) ?_
  rw [← eh2]
  replace hF := lt_S hF
  obtain ⟨h3, eh4, hF⟩ := hF
  refine hJ.putRF dX7_init_10 f_RX7_11 rfl rfl trivial (Or.inr rfl) rfl ?_
  rw [← eh4]
  refine hJ.aload_n (i := 0) dX7_init_13 rfl rfl ?_
  refine hJ.iconst (v := 0) dX7_init_14 (by decide) ?_
  replace hF := lt_S hF
  obtain ⟨h5, eh6, hF⟩ := hF
  refine hJ.putI dX7_init_15 f_RX7_15 rfl nar_i rfl ?_
  rw [← eh6]
  refine hJ.aload_n (i := 0) dX7_init_18 rfl rfl ?_
  refine hJ.bipush (v := 120) dX7_init_19 (by decide) ?_
  replace hF := lt_S hF
  obtain ⟨h7, eh8, hF⟩ := hF
  refine hJ.newq (N := 120) dX7_init_21 a_20 q_RX7_19 (by decide) (by decide) (by decide) (by decide) (by decide) ?_
  rw [← eh8]
  replace hF := lt_S hF
  obtain ⟨h9, eh10, hF⟩ := hF
  refine hJ.putRF dX7_init_24 f_RX7_21 rfl rfl trivial (Or.inr rfl) rfl ?_
  rw [← eh10]
  refine hJ.aload_n (i := 0) dX7_init_27 rfl rfl ?_
  refine hJ.iconst (v := 0) dX7_init_28 (by decide) ?_
  replace hF := lt_S hF
  obtain ⟨h11, eh12, hF⟩ := hF
  refine hJ.putI dX7_init_29 f_RX7_25 rfl nar_i rfl ?_
  rw [← eh12]
  refine hJ.aload_n (i := 0) dX7_init_32 rfl rfl ?_
  refine hJ.bipush (v := 60) dX7_init_33 (by decide) ?_
  replace hF := lt_S hF
  obtain ⟨h13, eh14, hF⟩ := hF
  refine hJ.newq (N := 60) dX7_init_35 a_21 q_RX7_28 (by decide) (by decide) (by decide) (by decide) (by decide) ?_
  rw [← eh14]
  replace hF := lt_S hF
  obtain ⟨h15, eh16, hF⟩ := hF
  refine hJ.putRF dX7_init_38 f_RX7_30 rfl rfl trivial (Or.inr rfl) rfl ?_
  rw [← eh16]
  refine hJ.aload_n (i := 0) dX7_init_41 rfl rfl ?_
  refine hJ.iconst (v := 0) dX7_init_42 (by decide) ?_
  replace hF := lt_S hF
  obtain ⟨h17, eh18, hF⟩ := hF
  refine hJ.putI dX7_init_43 f_RX7_34 rfl nar_i rfl ?_
  rw [← eh18]
  refine hJ.aload_n (i := 0) dX7_init_46 rfl rfl ?_
  refine hJ.bipush (v := 10) dX7_init_47 (by decide) ?_
  replace hF := lt_S hF
  obtain ⟨h19, eh20, hF⟩ := hF
  refine hJ.newq (N := 10) dX7_init_49 a_22 q_RX7_37 (by decide) (by decide) (by decide) (by decide) (by decide) ?_
  rw [← eh20]
  replace hF := lt_S hF
  obtain ⟨h21, eh22, hF⟩ := hF
  refine hJ.putRF dX7_init_52 f_RX7_39 rfl rfl trivial (Or.inr rfl) rfl ?_
  rw [← eh22]
  refine hJ.aload_n (i := 0) dX7_init_55 rfl rfl ?_
  refine hJ.iconst (v := 0) dX7_init_56 (by decide) ?_
  replace hF := lt_S hF
  obtain ⟨h23, eh24, hF⟩ := hF
  refine hJ.putI dX7_init_57 f_RX7_43 rfl nar_i rfl ?_
  rw [← eh24]
  refine hJ.aload_n (i := 0) dX7_init_60 rfl rfl ?_
  replace hF := lt_S hF
  obtain ⟨h25, eh26, hF⟩ := hF
  refine hJ.new dX7_init_61 o_RX7_46 (by decide) (by decide) ?_
  rw [← eh26]
  refine hJ.dup dX7_init_64 ?_
  replace hF := cl_S hF
  obtain ⟨r27, h28, ec29, hF⟩ := hF
  refine hJ.callIN (as := []) (st := [.inr (3, (some (pC h23 3))), .inr (7, (some x0))]) dX7_init_65 w_RX7_48 rfl (c_X3_init ec29) (by decide) (by decide) (by decide) rfl (Nat.le_of_ble_eq_true rfl) rfl ?_
  replace hF := lt_S hF
  obtain ⟨h30, eh31, hF⟩ := hF
  refine hJ.putR dX7_init_68 f_RX7_49 rfl (Or.inr rfl) rfl ?_
  rw [← eh31]
  refine hJ.aload_n (i := 0) dX7_init_71 rfl rfl ?_
  replace hF := lt_S hF
  obtain ⟨h32, eh33, hF⟩ := hF
  refine hJ.new dX7_init_72 o_RX7_53 (by decide) (by decide) ?_
  rw [← eh33]
  refine hJ.dup dX7_init_75 ?_
  refine hJ.bipush (v := 30) dX7_init_76 (by decide) ?_
  replace hF := cl_S hF
  obtain ⟨r34, h35, ec36, hF⟩ := hF
  refine hJ.callI (as := [.inl (30 : Int32)]) (st := [.inr (5, (some (pC h30 5))), .inr (7, (some x0))]) dX7_init_78 w_RX7_55 rfl (c_X5_init ec36) (by decide) (by decide) (by decide) rfl (Nat.le_of_ble_eq_true rfl) rfl ?_
  replace hF := lt_S hF
  obtain ⟨h37, eh38, hF⟩ := hF
  refine hJ.putRF dX7_init_81 f_RX7_58 rfl rfl trivial (Or.inr rfl) rfl ?_
  rw [← eh38]
  refine hJ.aload_n (i := 0) dX7_init_84 rfl rfl ?_
  replace hF := lt_S hF
  obtain ⟨h39, eh40, hF⟩ := hF
  refine hJ.new dX7_init_85 o_RX7_53 (by decide) (by decide) ?_
  rw [← eh40]
  refine hJ.dup dX7_init_88 ?_
  refine hJ.bipush (v := 100) dX7_init_89 (by decide) ?_
  replace hF := cl_S hF
  obtain ⟨r41, h42, ec43, hF⟩ := hF
  refine hJ.callI (as := [.inl (100 : Int32)]) (st := [.inr (5, (some (pC h37 5))), .inr (7, (some x0))]) dX7_init_91 w_RX7_55 rfl (c_X5_init ec43) (by decide) (by decide) (by decide) rfl (Nat.le_of_ble_eq_true rfl) rfl ?_
  replace hF := lt_S hF
  obtain ⟨h44, eh45, hF⟩ := hF
  refine hJ.putRF dX7_init_94 f_RX7_62 rfl rfl trivial (Or.inr rfl) rfl ?_
  rw [← eh45]
  refine hJ.aload_n (i := 0) dX7_init_97 rfl rfl ?_
  refine hJ.bipush (v := 8) dX7_init_98 (by decide) ?_
  replace hF := lt_S hF
  obtain ⟨h46, eh47, hF⟩ := hF
  refine hJ.newa_int (N := 8) dX7_init_100 a_23 (by decide) (by decide) (by decide) (by decide) (by decide) ?_
  rw [← eh47]
  replace hF := lt_S hF
  obtain ⟨h48, eh49, hF⟩ := hF
  refine hJ.putRF dX7_init_102 f_RX7_65 rfl rfl trivial (Or.inr rfl) rfl ?_
  rw [← eh49]
  refine hJ.aload_n (i := 0) dX7_init_105 rfl rfl ?_
  refine hJ.bipush (v := 8) dX7_init_106 (by decide) ?_
  replace hF := lt_S hF
  obtain ⟨h50, eh51, hF⟩ := hF
  refine hJ.newa_int (N := 8) dX7_init_108 a_24 (by decide) (by decide) (by decide) (by decide) (by decide) ?_
  rw [← eh51]
  replace hF := lt_S hF
  obtain ⟨h52, eh53, hF⟩ := hF
  refine hJ.putRF dX7_init_110 f_RX7_69 rfl rfl trivial (Or.inr rfl) rfl ?_
  rw [← eh53]
  refine hJ.aload_n (i := 0) dX7_init_113 rfl rfl ?_
  replace hF := lt_S hF
  obtain ⟨h54, eh55, hF⟩ := hF
  refine hJ.new dX7_init_114 o_RX7_72 (by decide) (by decide) ?_
  rw [← eh55]
  refine hJ.dup dX7_init_117 ?_
  replace hF := cl_S hF
  obtain ⟨r56, h57, ec58, hF⟩ := hF
  refine hJ.callIN (as := []) (st := [.inr (1, (some (pC h52 1))), .inr (7, (some x0))]) dX7_init_118 w_RX7_74 rfl (c_X1_init ec58) (by decide) (by decide) (by decide) rfl (Nat.le_of_ble_eq_true rfl) rfl ?_
  replace hF := lt_S hF
  obtain ⟨h59, eh60, hF⟩ := hF
  refine hJ.putRF dX7_init_121 f_RX7_75 rfl rfl trivial (Or.inr rfl) rfl ?_
  rw [← eh60]
  refine hJ.aload_n (i := 0) dX7_init_124 rfl rfl ?_
  refine hJ.iconst (v := 0) dX7_init_125 (by decide) ?_
  replace hF := lt_S hF
  obtain ⟨h61, eh62, hF⟩ := hF
  refine hJ.putI dX7_init_126 f_RX7_79 rfl nar_i rfl ?_
  rw [← eh62]
  refine hJ.aload_n (i := 0) dX7_init_129 rfl rfl ?_
  refine hJ.iconst (v := 0) dX7_init_130 (by decide) ?_
  replace hF := lt_S hF
  obtain ⟨h63, eh64, hF⟩ := hF
  refine hJ.putI dX7_init_131 f_RX7_82 rfl nar_i rfl ?_
  rw [← eh64]
  refine hJ.aload_n (i := 0) dX7_init_134 rfl rfl ?_
  refine hJ.iconst (v := 0) dX7_init_135 (by decide) ?_
  replace hF := lt_S hF
  obtain ⟨h65, eh66, hF⟩ := hF
  refine hJ.putI dX7_init_136 f_RX7_85 rfl nar_i rfl ?_
  rw [← eh66]
  refine hJ.aload_n (i := 0) dX7_init_139 rfl rfl ?_
  refine hJ.iconst (v := 0) dX7_init_140 (by decide) ?_
  replace hF := lt_S hF
  obtain ⟨h67, eh68, hF⟩ := hF
  refine hJ.putI dX7_init_141 f_RX7_88 rfl nar_i rfl ?_
  rw [← eh68]
  refine hJ.iconst (v := 0) dX7_init_144 (by decide) ?_
  refine hJ.istore_n (i := 1) (ls2 := [some (.inr (7, (some x0))), some (.inl (0 : Int32))]) dX7_init_145 rfl (by decide) rfl ?_
  refine hJ.forget (ls2 := [some (.inr (7, (some x0))), some (.inl (0 : Int32))]) ⟨rfl, rfl, trivial⟩ ?_
  refine t_X7_init_146 hJ (by decide) (by decide) (fun h75 hF => ?_) FU _ _ hF
  obtain ⟨-, rfl⟩ := ret_S hF
  exact hR dX7_init_165 (by decide) (by decide)

set_option maxHeartbeats 4000000 in
set_option maxRecDepth 100000 in
theorem c_X7_stationAt {x0 : Nat} {x1 : Int32} {h hh : Hp} {xr : Option Nat} (hF : F_X7_stationAt x0 x1 h = some (xr, hh)) : Ctr yX7_stationAt cX7_stationAt 2 (some (.object RX4)) 1 0 0 [.inr (7, (some x0)), .inl x1] h (some (.inr (4, xr))) hh := by
  refine Ctr_a (own := RX7) (ini := False) (ls0 := [some (.inr (7, (some x0))), some (.inl x1)]) (by decide) rfl (Nat.le_of_ble_eq_true rfl) (fun e => e.elim) rfl ?_
  intro J hJ hR
  unfold F_X7_stationAt at hF
  refine hJ.iload_n (i := 1) dX7_stationAt_0 rfl rfl ?_
  refine hJ.iconst (v := 0) dX7_stationAt_1 (by decide) ?_
  refine hJ.aload_n (i := 0) dX7_stationAt_2 rfl rfl ?_
  refine hJ.getI dX7_stationAt_3 f_RX7_15 rfl ?_
  refine hJ.iconst (v := 1) dX7_stationAt_6 (by decide) ?_
  refine hJ.isub dX7_stationAt_7 ?_
  replace hF := cl_S hF
  obtain ⟨r1, h2, ec3, hF⟩ := hF
  refine hJ.callS (as := [.inl x1, .inl (0 : Int32), .inl ((pI h 7 x0 1) - (1 : Int32))]) (st := []) dX7_stationAt_8 w_RX7_109 (c_X7_within ec3) (by decide) (by decide) (by decide) rfl (Nat.le_of_ble_eq_true rfl) rfl ?_
  refine hJ.if_eq (tgt := 23) dX7_stationAt_11 (by decide) (fun e4 => ?_) (fun e4 => ?_)
  · replace hF := ite_T e4 hF
    refine hJ.null (kk := 4) dX7_stationAt_23 ?_
    obtain ⟨rfl, rfl⟩ := ret_S hF
    exact hR dX7_stationAt_24 (Or.inr rfl) (by decide) (by decide)
  · replace hF := ite_F e4 hF
    refine hJ.aload_n (i := 0) dX7_stationAt_14 rfl rfl ?_
    refine hJ.getR dX7_stationAt_15 f_RX7_11 rfl ?_
    refine hJ.iload_n (i := 1) dX7_stationAt_18 rfl rfl ?_
    replace hF := nn_S hF
    obtain ⟨n5, e6, hF⟩ := hF
    rw [e6]
    replace hF := ck_S hF
    obtain ⟨c7, hF⟩ := hF
    refine hJ.aald dX7_stationAt_19 a_19 rfl c7 ?_
    refine hJ.goto (tgt := 24) dX7_stationAt_20 (by decide) ?_
    obtain ⟨rfl, rfl⟩ := ret_S hF
    exact hR dX7_stationAt_24 (Or.inr rfl) (by decide) (by decide)

set_option maxHeartbeats 4000000 in
set_option maxRecDepth 100000 in
theorem c_X7_station {x0 : Nat} {x1 : Int32} {x2 : Int32} {x3 : Int32} {x4 : Int32} {h hh : Hp} {xr : Int32} (hF : F_X7_station x0 x1 x2 x3 x4 h = some (xr, hh)) : Ctr yX7_station cX7_station 7 (some .int) 2 1 10 [.inr (7, (some x0)), .inl x1, .inl x2, .inl x3, .inl x4] h (some (.inl xr)) hh := by
  refine Ctr_i (own := RX7) (ini := False) (ls0 := [some (.inr (7, (some x0))), some (.inl x1), some (.inl x2), some (.inl x3), some (.inl x4), none, none]) (by decide) rfl (Nat.le_of_ble_eq_true rfl) (fun e => e.elim) rfl ?_
  intro J hJ hR
  unfold F_X7_station at hF
  refine hJ.aload_n (i := 0) dX7_station_0 rfl rfl ?_
  refine hJ.getI dX7_station_1 f_RX7_15 rfl ?_
  refine hJ.bipush (v := 12) dX7_station_4 (by decide) ?_
  refine hJ.icmp_lt (tgt := 11) dX7_station_6 (by decide) (fun e1 => ?_) (fun e1 => ?_)
  · replace hF := ite_T e1 hF
    refine hJ.aload_n (i := 0) dX7_station_11 rfl rfl ?_
    refine hJ.getI dX7_station_12 f_RX7_15 rfl ?_
    refine hJ.if_ne (tgt := 35) dX7_station_15 (by decide) (fun e2 => ?_) (fun e2 => ?_)
    · replace hF := ite_F e2 hF
      refine hJ.aload_n (i := 0) dX7_station_35 rfl rfl ?_
      refine hJ.iload_n (i := 1) dX7_station_36 rfl rfl ?_
      replace hF := cl_S hF
      obtain ⟨r3, h4, ec5, hF⟩ := hF
      refine hJ.callV (as := [.inl x1]) (st := []) dX7_station_37 w_RX7_94 ⟨by decide, rfl⟩ rfl (c_X7_stationAt ec5) (by decide) (by decide) (by decide) rfl (Nat.le_of_ble_eq_true rfl) rfl ?_
      refine hJ.astore (i := 6) (ls2 := [some (.inr (7, (some x0))), some (.inl x1), some (.inl x2), some (.inl x3), some (.inl x4), none, some (.inr (4, r3))]) dX7_station_40 (by decide) rfl ?_
      refine hJ.aload (i := 6) dX7_station_42 rfl ?_
      refine hJ.ifnull (tgt := 55) dX7_station_44 (by decide) (fun e6 => ?_) (fun n7 e6 => ?_)
      · replace hF := onn_N e6 hF
        subst e6
        refine hJ.iconst (v := -1) dX7_station_55 (by decide) ?_
        obtain ⟨rfl, rfl⟩ := ret_S hF
        exact hR dX7_station_56 (by decide) (by decide)
      · replace hF := onn_J e6 hF
        subst e6
        refine hJ.iload_n (i := 2) dX7_station_47 rfl rfl ?_
        refine hJ.iload_n (i := 3) dX7_station_48 rfl rfl ?_
        replace hF := cl_S hF
        obtain ⟨r8, h9, ec10, hF⟩ := hF
        refine hJ.callS (as := [.inl x2, .inl x3]) (st := []) dX7_station_49 w_RX7_98 (c_X4_canBe ec10) (by decide) (by decide) (by decide) rfl (Nat.le_of_ble_eq_true rfl) rfl ?_
        refine hJ.if_ne (tgt := 57) dX7_station_52 (by decide) (fun e11 => ?_) (fun e11 => ?_)
        · replace hF := ite_F e11 hF
          replace hF := lt_S hF
          obtain ⟨h12, eh13, hF⟩ := hF
          refine hJ.new dX7_station_57 o_RX7_9 (by decide) (by decide) ?_
          rw [← eh13]
          refine hJ.dup dX7_station_60 ?_
          refine hJ.aload_n (i := 0) dX7_station_61 rfl rfl ?_
          refine hJ.getI dX7_station_62 f_RX7_15 rfl ?_
          refine hJ.aload (i := 6) dX7_station_65 rfl ?_
          refine hJ.iload_n (i := 2) dX7_station_67 rfl rfl ?_
          refine hJ.iload_n (i := 3) dX7_station_68 rfl rfl ?_
          refine hJ.iload (i := 4) dX7_station_69 rfl ?_
          replace hF := cl_S hF
          obtain ⟨r14, h15, ec16, hF⟩ := hF
          refine hJ.callI (as := [.inl (pI h12 7 x0 1), .inr (4, (some n7)), .inl x2, .inl x3, .inl x4]) (st := [.inr (4, (some (pC h9 4)))]) dX7_station_71 w_RX7_91 rfl (c_X4_init ec16) (by decide) (by decide) (by decide) rfl (Nat.le_of_ble_eq_true rfl) rfl ?_
          refine hJ.astore (i := 5) (ls2 := [some (.inr (7, (some x0))), some (.inl x1), some (.inl x2), some (.inl x3), some (.inl x4), some (.inr (4, (some (pC h9 4)))), some (.inr (4, (some n7)))]) dX7_station_74 (by decide) rfl ?_
          refine hJ.aload_n (i := 0) dX7_station_76 rfl rfl ?_
          refine hJ.getR dX7_station_77 f_RX7_11 rfl ?_
          refine hJ.aload_n (i := 0) dX7_station_80 rfl rfl ?_
          refine hJ.getI dX7_station_81 f_RX7_15 rfl ?_
          refine hJ.aload (i := 5) dX7_station_84 rfl ?_
          replace hF := nn_S hF
          obtain ⟨n17, e18, hF⟩ := hF
          rw [e18]
          replace hF := ck_S hF
          obtain ⟨c19, hF⟩ := hF
          replace hF := lt_S hF
          obtain ⟨h20, eh21, hF⟩ := hF
          refine hJ.aast dX7_station_86 a_19 rfl c19 ?_
          rw [← eh21]
          refine hJ.aload_n (i := 0) dX7_station_87 rfl rfl ?_
          refine hJ.dup dX7_station_88 ?_
          refine hJ.getI dX7_station_89 f_RX7_15 rfl ?_
          refine hJ.iconst (v := 1) dX7_station_92 (by decide) ?_
          refine hJ.iadd dX7_station_93 ?_
          replace hF := lt_S hF
          obtain ⟨h22, eh23, hF⟩ := hF
          refine hJ.putI dX7_station_94 f_RX7_15 rfl nar_i rfl ?_
          rw [← eh23]
          refine hJ.aload (i := 5) dX7_station_97 rfl ?_
          refine hJ.getI dX7_station_99 f_RX7_102 rfl ?_
          obtain ⟨rfl, rfl⟩ := ret_S hF
          exact hR dX7_station_102 (by decide) (by decide)
        · replace hF := ite_T e11 hF
          refine hJ.iconst (v := -1) dX7_station_55 (by decide) ?_
          obtain ⟨rfl, rfl⟩ := ret_S hF
          exact hR dX7_station_56 (by decide) (by decide)
    · replace hF := ite_T e2 hF
      replace hF := lt_S hF
      obtain ⟨h24, eh25, hF⟩ := hF
      refine hJ.new dX7_station_18 o_RX7_9 (by decide) (by decide) ?_
      rw [← eh25]
      refine hJ.dup dX7_station_21 ?_
      refine hJ.iconst (v := 0) dX7_station_22 (by decide) ?_
      refine hJ.null (kk := 4) dX7_station_23 ?_
      refine hJ.iconst (v := 0) dX7_station_24 (by decide) ?_
      refine hJ.iconst (v := 0) dX7_station_25 (by decide) ?_
      refine hJ.iconst (v := 1) dX7_station_26 (by decide) ?_
      replace hF := cl_S hF
      obtain ⟨r26, h27, ec28, hF⟩ := hF
      refine hJ.callI (as := [.inl (0 : Int32), .inr (4, none), .inl (0 : Int32), .inl (0 : Int32), .inl (1 : Int32)]) (st := [.inr (4, (some (pC h 4)))]) dX7_station_27 w_RX7_91 rfl (c_X4_init ec28) (by decide) (by decide) (by decide) rfl (Nat.le_of_ble_eq_true rfl) rfl ?_
      refine hJ.astore (i := 5) (ls2 := [some (.inr (7, (some x0))), some (.inl x1), some (.inl x2), some (.inl x3), some (.inl x4), some (.inr (4, (some (pC h 4)))), none]) dX7_station_30 (by decide) rfl ?_
      refine hJ.goto (tgt := 76) dX7_station_32 (by decide) ?_
      refine hJ.aload_n (i := 0) dX7_station_76 rfl rfl ?_
      refine hJ.getR dX7_station_77 f_RX7_11 rfl ?_
      refine hJ.aload_n (i := 0) dX7_station_80 rfl rfl ?_
      refine hJ.getI dX7_station_81 f_RX7_15 rfl ?_
      refine hJ.aload (i := 5) dX7_station_84 rfl ?_
      replace hF := nn_S hF
      obtain ⟨n29, e30, hF⟩ := hF
      rw [e30]
      replace hF := ck_S hF
      obtain ⟨c31, hF⟩ := hF
      replace hF := lt_S hF
      obtain ⟨h32, eh33, hF⟩ := hF
      refine hJ.aast dX7_station_86 a_19 rfl c31 ?_
      rw [← eh33]
      refine hJ.aload_n (i := 0) dX7_station_87 rfl rfl ?_
      refine hJ.dup dX7_station_88 ?_
      refine hJ.getI dX7_station_89 f_RX7_15 rfl ?_
      refine hJ.iconst (v := 1) dX7_station_92 (by decide) ?_
      refine hJ.iadd dX7_station_93 ?_
      replace hF := lt_S hF
      obtain ⟨h34, eh35, hF⟩ := hF
      refine hJ.putI dX7_station_94 f_RX7_15 rfl nar_i rfl ?_
      rw [← eh35]
      refine hJ.aload (i := 5) dX7_station_97 rfl ?_
      refine hJ.getI dX7_station_99 f_RX7_102 rfl ?_
      obtain ⟨rfl, rfl⟩ := ret_S hF
      exact hR dX7_station_102 (by decide) (by decide)
  · replace hF := ite_F e1 hF
    refine hJ.iconst (v := -1) dX7_station_9 (by decide) ?_
    obtain ⟨rfl, rfl⟩ := ret_S hF
    exact hR dX7_station_10 (by decide) (by decide)

set_option maxHeartbeats 4000000 in
set_option maxRecDepth 100000 in
theorem t_X7_find_2 {β : Type} {J : JT} (hJ : Rules cX7_find RX7 3 0 0 0 False J) {a b : Nat} (ha : a ≤ 0) (hb : b ≤ 0) {v0 : Nat} {v1 : Int32} {κ31 : Hp → Option β} {κ23 : Int32 → Hp → Option β} {out : β}
    (hk31 : ∀ (h : Hp), κ31 h = some out → J 31 [none, none, none] [] h a b)
    (hk23 : ∀ (k2 : Int32) (h : Hp), κ23 k2 h = some out → J 23 [none, none, some (.inl k2)] [] h a b)
    : ∀ (f : Nat) (v2 : Int32) (h : Hp), L_X7_find_2 v0 v1 κ31 κ23 f v2 h = some out → J 2 [some (.inr (7, (some v0))), some (.inl v1), some (.inl v2)] [] h a b := by
  intro f
  induction f with
  | zero => intro v2 h hF; simp [L_X7_find_2] at hF
  | succ f ih =>
    intro v2 h hF
    rw [L_X7_find_2] at hF
    refine hJ.iload_n (i := 2) dX7_find_2 rfl rfl ?_
    refine hJ.aload_n (i := 0) dX7_find_3 rfl rfl ?_
    refine hJ.getI dX7_find_4 f_RX7_25 rfl ?_
    refine hJ.icmp_ge (tgt := 31) dX7_find_7 (by decide) (fun e1 => ?_) (fun e1 => ?_)
    · replace hF := ite_T e1 hF
      refine hJ.forget (ls2 := [none, none, none]) trivial ?_
      exact hk31 h hF
    · replace hF := ite_F e1 hF
      refine hJ.aload_n (i := 0) dX7_find_10 rfl rfl ?_
      refine hJ.getR dX7_find_11 f_RX7_21 rfl ?_
      refine hJ.iload_n (i := 2) dX7_find_14 rfl rfl ?_
      replace hF := nn_S hF
      obtain ⟨n2, e3, hF⟩ := hF
      rw [e3]
      replace hF := ck_S hF
      obtain ⟨c4, hF⟩ := hF
      refine hJ.aald dX7_find_15 a_20 rfl c4 ?_
      replace hF := nn_S hF
      obtain ⟨n5, e6, hF⟩ := hF
      rw [e6]
      refine hJ.getI dX7_find_16 f_RX7_121 rfl ?_
      refine hJ.iload_n (i := 1) dX7_find_19 rfl rfl ?_
      refine hJ.icmp_ne (tgt := 25) dX7_find_20 (by decide) (fun e7 => ?_) (fun e7 => ?_)
      · replace hF := ite_F e7 hF
        refine hJ.iinc (i := 2) (v := (v2 + (1 : Int32))) (ls2 := [some (.inr (7, (some v0))), some (.inl v1), some (.inl (v2 + (1 : Int32)))]) dX7_find_25 rfl (addI (by decide)) (by decide) rfl ?_
        refine hJ.goto (tgt := 2) dX7_find_28 (by decide) ?_
        refine hJ.forget (ls2 := [some (.inr (7, (some v0))), some (.inl v1), some (.inl (v2 + (1 : Int32)))]) ⟨rfl, rfl, rfl, trivial⟩ ?_
        exact ih (v2 + (1 : Int32)) h hF
      · replace hF := ite_T e7 hF
        refine hJ.forget (ls2 := [none, none, some (.inl v2)]) ⟨rfl, trivial⟩ ?_
        exact hk23 v2 h hF

set_option maxHeartbeats 4000000 in
set_option maxRecDepth 100000 in
theorem c_X7_find {x0 : Nat} {x1 : Int32} {h hh : Hp} {xr : Int32} (hF : F_X7_find x0 x1 h = some (xr, hh)) : Ctr yX7_find cX7_find 3 (some .int) 0 0 0 [.inr (7, (some x0)), .inl x1] h (some (.inl xr)) hh := by
  refine Ctr_i (own := RX7) (ini := False) (ls0 := [some (.inr (7, (some x0))), some (.inl x1), none]) (by decide) rfl (Nat.le_of_ble_eq_true rfl) (fun e => e.elim) rfl ?_
  intro J hJ hR
  unfold F_X7_find at hF
  refine hJ.iconst (v := 0) dX7_find_0 (by decide) ?_
  refine hJ.istore_n (i := 2) (ls2 := [some (.inr (7, (some x0))), some (.inl x1), some (.inl (0 : Int32))]) dX7_find_1 rfl (by decide) rfl ?_
  refine hJ.forget (ls2 := [some (.inr (7, (some x0))), some (.inl x1), some (.inl (0 : Int32))]) ⟨rfl, rfl, rfl, trivial⟩ ?_
  refine t_X7_find_2 hJ (by decide) (by decide) (fun h8 hF => ?_) (fun k9 h10 hF => ?_) FU _ _ hF
  · refine hJ.iconst (v := -1) dX7_find_31 (by decide) ?_
    obtain ⟨rfl, rfl⟩ := ret_S hF
    exact hR dX7_find_32 (by decide) (by decide)
  · refine hJ.iload_n (i := 2) dX7_find_23 rfl rfl ?_
    obtain ⟨rfl, rfl⟩ := ret_S hF
    exact hR dX7_find_24 (by decide) (by decide)

set_option maxHeartbeats 4000000 in
set_option maxRecDepth 100000 in
theorem c_X7_trunk {x0 : Nat} {x1 : Int32} {x2 : Int32} {x3 : Int32} {h hh : Hp} {xr : Int32} (hF : F_X7_trunk x0 x1 x2 x3 h = some (xr, hh)) : Ctr yX7_trunk cX7_trunk 6 (some .int) 3 1 8 [.inr (7, (some x0)), .inl x1, .inl x2, .inl x3] h (some (.inl xr)) hh := by
  refine Ctr_i (own := RX7) (ini := False) (ls0 := [some (.inr (7, (some x0))), some (.inl x1), some (.inl x2), some (.inl x3), none, none]) (by decide) rfl (Nat.le_of_ble_eq_true rfl) (fun e => e.elim) rfl ?_
  intro J hJ hR
  unfold F_X7_trunk at hF
  refine hJ.aload_n (i := 0) dX7_trunk_0 rfl rfl ?_
  refine hJ.iload_n (i := 3) dX7_trunk_1 rfl rfl ?_
  replace hF := cl_S hF
  obtain ⟨r1, h2, ec3, hF⟩ := hF
  refine hJ.callV (as := [.inl x3]) (st := []) dX7_trunk_2 w_RX7_94 ⟨by decide, rfl⟩ rfl (c_X7_stationAt ec3) (by decide) (by decide) (by decide) rfl (Nat.le_of_ble_eq_true rfl) rfl ?_
  refine hJ.astore (i := 4) (ls2 := [some (.inr (7, (some x0))), some (.inl x1), some (.inl x2), some (.inl x3), some (.inr (4, r1)), none]) dX7_trunk_5 (by decide) rfl ?_
  refine hJ.aload (i := 4) dX7_trunk_7 rfl ?_
  refine hJ.ifnull (tgt := 28) dX7_trunk_9 (by decide) (fun e4 => ?_) (fun n5 e4 => ?_)
  · replace hF := onn_N e4 hF
    subst e4
    refine hJ.iconst (v := -1) dX7_trunk_28 (by decide) ?_
    obtain ⟨rfl, rfl⟩ := ret_S hF
    exact hR dX7_trunk_29 (by decide) (by decide)
  · replace hF := onn_J e4 hF
    subst e4
    refine hJ.aload_n (i := 0) dX7_trunk_12 rfl rfl ?_
    refine hJ.getI dX7_trunk_13 f_RX7_25 rfl ?_
    refine hJ.bipush (v := 120) dX7_trunk_16 (by decide) ?_
    refine hJ.icmp_ge (tgt := 28) dX7_trunk_18 (by decide) (fun e6 => ?_) (fun e6 => ?_)
    · replace hF := ite_T e6 hF
      refine hJ.iconst (v := -1) dX7_trunk_28 (by decide) ?_
      obtain ⟨rfl, rfl⟩ := ret_S hF
      exact hR dX7_trunk_29 (by decide) (by decide)
    · replace hF := ite_F e6 hF
      refine hJ.iload_n (i := 2) dX7_trunk_21 rfl rfl ?_
      replace hF := cl_S hF
      obtain ⟨r7, h8, ec9, hF⟩ := hF
      refine hJ.callS (as := [.inl x2]) (st := []) dX7_trunk_22 w_RX7_105 (c_X6_canBe ec9) (by decide) (by decide) (by decide) rfl (Nat.le_of_ble_eq_true rfl) rfl ?_
      refine hJ.if_ne (tgt := 30) dX7_trunk_25 (by decide) (fun e10 => ?_) (fun e10 => ?_)
      · replace hF := ite_F e10 hF
        refine hJ.iload_n (i := 1) dX7_trunk_30 rfl rfl ?_
        refine hJ.iconst (v := 1) dX7_trunk_31 (by decide) ?_
        refine hJ.ldc dX7_trunk_32 k_RX7_108 ?_
        replace hF := cl_S hF
        obtain ⟨r11, h12, ec13, hF⟩ := hF
        refine hJ.callS (as := [.inl x1, .inl (1 : Int32), .inl (99999 : Int32)]) (st := []) dX7_trunk_34 w_RX7_109 (c_X7_within ec13) (by decide) (by decide) (by decide) rfl (Nat.le_of_ble_eq_true rfl) rfl ?_
        refine hJ.if_eq (tgt := 49) dX7_trunk_37 (by decide) (fun e14 => ?_) (fun e14 => ?_)
        · replace hF := ite_T e14 hF
          refine hJ.iconst (v := -1) dX7_trunk_49 (by decide) ?_
          obtain ⟨rfl, rfl⟩ := ret_S hF
          exact hR dX7_trunk_50 (by decide) (by decide)
        · replace hF := ite_F e14 hF
          refine hJ.aload_n (i := 0) dX7_trunk_40 rfl rfl ?_
          refine hJ.iload_n (i := 1) dX7_trunk_41 rfl rfl ?_
          replace hF := cl_S hF
          obtain ⟨r15, h16, ec17, hF⟩ := hF
          refine hJ.callV (as := [.inl x1]) (st := []) dX7_trunk_42 w_RX7_113 ⟨by decide, rfl⟩ rfl (c_X7_find ec17) (by decide) (by decide) (by decide) rfl (Nat.le_of_ble_eq_true rfl) rfl ?_
          refine hJ.iconst (v := -1) dX7_trunk_45 (by decide) ?_
          refine hJ.icmp_eq (tgt := 51) dX7_trunk_46 (by decide) (fun e18 => ?_) (fun e18 => ?_)
          · replace hF := ite_T e18 hF
            replace hF := lt_S hF
            obtain ⟨h19, eh20, hF⟩ := hF
            refine hJ.new dX7_trunk_51 o_RX7_19 (by decide) (by decide) ?_
            rw [← eh20]
            refine hJ.dup dX7_trunk_54 ?_
            refine hJ.aload_n (i := 0) dX7_trunk_55 rfl rfl ?_
            refine hJ.getI dX7_trunk_56 f_RX7_25 rfl ?_
            refine hJ.iload_n (i := 1) dX7_trunk_59 rfl rfl ?_
            refine hJ.iload_n (i := 2) dX7_trunk_60 rfl rfl ?_
            refine hJ.aload (i := 4) dX7_trunk_61 rfl ?_
            replace hF := cl_S hF
            obtain ⟨r21, h22, ec23, hF⟩ := hF
            refine hJ.callI (as := [.inl (pI h19 7 x0 3), .inl x1, .inl x2, .inr (4, (some n5))]) (st := [.inr (6, (some (pC h16 6)))]) dX7_trunk_63 w_RX7_117 rfl (c_X6_init ec23) (by decide) (by decide) (by decide) rfl (Nat.le_of_ble_eq_true rfl) rfl ?_
            refine hJ.astore (i := 5) (ls2 := [some (.inr (7, (some x0))), some (.inl x1), some (.inl x2), some (.inl x3), some (.inr (4, (some n5))), some (.inr (6, (some (pC h16 6))))]) dX7_trunk_66 (by decide) rfl ?_
            refine hJ.aload_n (i := 0) dX7_trunk_68 rfl rfl ?_
            refine hJ.getR dX7_trunk_69 f_RX7_21 rfl ?_
            refine hJ.aload_n (i := 0) dX7_trunk_72 rfl rfl ?_
            refine hJ.getI dX7_trunk_73 f_RX7_25 rfl ?_
            refine hJ.aload (i := 5) dX7_trunk_76 rfl ?_
            replace hF := nn_S hF
            obtain ⟨n24, e25, hF⟩ := hF
            rw [e25]
            replace hF := ck_S hF
            obtain ⟨c26, hF⟩ := hF
            replace hF := lt_S hF
            obtain ⟨h27, eh28, hF⟩ := hF
            refine hJ.aast dX7_trunk_78 a_20 rfl c26 ?_
            rw [← eh28]
            refine hJ.aload_n (i := 0) dX7_trunk_79 rfl rfl ?_
            refine hJ.dup dX7_trunk_80 ?_
            refine hJ.getI dX7_trunk_81 f_RX7_25 rfl ?_
            refine hJ.iconst (v := 1) dX7_trunk_84 (by decide) ?_
            refine hJ.iadd dX7_trunk_85 ?_
            replace hF := lt_S hF
            obtain ⟨h29, eh30, hF⟩ := hF
            refine hJ.putI dX7_trunk_86 f_RX7_25 rfl nar_i rfl ?_
            rw [← eh30]
            refine hJ.aload (i := 5) dX7_trunk_89 rfl ?_
            refine hJ.getI dX7_trunk_91 f_RX7_120 rfl ?_
            obtain ⟨rfl, rfl⟩ := ret_S hF
            exact hR dX7_trunk_94 (by decide) (by decide)
          · replace hF := ite_F e18 hF
            refine hJ.iconst (v := -1) dX7_trunk_49 (by decide) ?_
            obtain ⟨rfl, rfl⟩ := ret_S hF
            exact hR dX7_trunk_50 (by decide) (by decide)
      · replace hF := ite_T e10 hF
        refine hJ.iconst (v := -1) dX7_trunk_28 (by decide) ?_
        obtain ⟨rfl, rfl⟩ := ret_S hF
        exact hR dX7_trunk_29 (by decide) (by decide)

set_option maxHeartbeats 4000000 in
set_option maxRecDepth 100000 in
theorem c_X7_trunkAt {x0 : Nat} {x1 : Int32} {h hh : Hp} {xr : Option Nat} (hF : F_X7_trunkAt x0 x1 h = some (xr, hh)) : Ctr yX7_trunkAt cX7_trunkAt 2 (some (.object RX6)) 1 0 0 [.inr (7, (some x0)), .inl x1] h (some (.inr (6, xr))) hh := by
  refine Ctr_a (own := RX7) (ini := False) (ls0 := [some (.inr (7, (some x0))), some (.inl x1)]) (by decide) rfl (Nat.le_of_ble_eq_true rfl) (fun e => e.elim) rfl ?_
  intro J hJ hR
  unfold F_X7_trunkAt at hF
  refine hJ.iload_n (i := 1) dX7_trunkAt_0 rfl rfl ?_
  refine hJ.iconst (v := 0) dX7_trunkAt_1 (by decide) ?_
  refine hJ.aload_n (i := 0) dX7_trunkAt_2 rfl rfl ?_
  refine hJ.getI dX7_trunkAt_3 f_RX7_25 rfl ?_
  refine hJ.iconst (v := 1) dX7_trunkAt_6 (by decide) ?_
  refine hJ.isub dX7_trunkAt_7 ?_
  replace hF := cl_S hF
  obtain ⟨r1, h2, ec3, hF⟩ := hF
  refine hJ.callS (as := [.inl x1, .inl (0 : Int32), .inl ((pI h 7 x0 3) - (1 : Int32))]) (st := []) dX7_trunkAt_8 w_RX7_109 (c_X7_within ec3) (by decide) (by decide) (by decide) rfl (Nat.le_of_ble_eq_true rfl) rfl ?_
  refine hJ.if_eq (tgt := 23) dX7_trunkAt_11 (by decide) (fun e4 => ?_) (fun e4 => ?_)
  · replace hF := ite_T e4 hF
    refine hJ.null (kk := 6) dX7_trunkAt_23 ?_
    obtain ⟨rfl, rfl⟩ := ret_S hF
    exact hR dX7_trunkAt_24 (Or.inr rfl) (by decide) (by decide)
  · replace hF := ite_F e4 hF
    refine hJ.aload_n (i := 0) dX7_trunkAt_14 rfl rfl ?_
    refine hJ.getR dX7_trunkAt_15 f_RX7_21 rfl ?_
    refine hJ.iload_n (i := 1) dX7_trunkAt_18 rfl rfl ?_
    replace hF := nn_S hF
    obtain ⟨n5, e6, hF⟩ := hF
    rw [e6]
    replace hF := ck_S hF
    obtain ⟨c7, hF⟩ := hF
    refine hJ.aald dX7_trunkAt_19 a_20 rfl c7 ?_
    refine hJ.goto (tgt := 24) dX7_trunkAt_20 (by decide) ?_
    obtain ⟨rfl, rfl⟩ := ret_S hF
    exact hR dX7_trunkAt_24 (Or.inr rfl) (by decide) (by decide)

set_option maxHeartbeats 4000000 in
set_option maxRecDepth 100000 in
theorem c_X7_put {x0 : Nat} {x1 : Int32} {h hh : Hp} {xr : Int32} (hF : F_X7_put x0 x1 h = some (xr, hh)) : Ctr yX7_put cX7_put 3 (some .int) 2 0 0 [.inr (7, (some x0)), .inl x1] h (some (.inl xr)) hh := by
  refine Ctr_i (own := RX7) (ini := False) (ls0 := [some (.inr (7, (some x0))), some (.inl x1), none]) (by decide) rfl (Nat.le_of_ble_eq_true rfl) (fun e => e.elim) rfl ?_
  intro J hJ hR
  unfold F_X7_put at hF
  refine hJ.aload_n (i := 0) dX7_put_0 rfl rfl ?_
  refine hJ.iload_n (i := 1) dX7_put_1 rfl rfl ?_
  replace hF := cl_S hF
  obtain ⟨r1, h2, ec3, hF⟩ := hF
  refine hJ.callV (as := [.inl x1]) (st := []) dX7_put_2 w_RX7_124 ⟨by decide, rfl⟩ rfl (c_X7_trunkAt ec3) (by decide) (by decide) (by decide) rfl (Nat.le_of_ble_eq_true rfl) rfl ?_
  refine hJ.astore_n (i := 2) (ls2 := [some (.inr (7, (some x0))), some (.inl x1), some (.inr (6, r1))]) dX7_put_5 rfl (by decide) rfl ?_
  refine hJ.aload_n (i := 2) dX7_put_6 rfl rfl ?_
  refine hJ.ifnull (tgt := 28) dX7_put_7 (by decide) (fun e4 => ?_) (fun n5 e4 => ?_)
  · replace hF := onn_N e4 hF
    subst e4
    refine hJ.iconst (v := -1) dX7_put_28 (by decide) ?_
    obtain ⟨rfl, rfl⟩ := ret_S hF
    exact hR dX7_put_29 (by decide) (by decide)
  · replace hF := onn_J e4 hF
    subst e4
    refine hJ.aload_n (i := 2) dX7_put_10 rfl rfl ?_
    refine hJ.getR dX7_put_11 f_RX7_128 rfl ?_
    refine hJ.ifnull (tgt := 28) dX7_put_14 (by decide) (fun e6 => ?_) (fun n7 e6 => ?_)
    · replace hF := onn_N e6 hF
      refine hJ.iconst (v := -1) dX7_put_28 (by decide) ?_
      obtain ⟨rfl, rfl⟩ := ret_S hF
      exact hR dX7_put_29 (by decide) (by decide)
    · replace hF := onn_J e6 hF
      refine hJ.aload_n (i := 0) dX7_put_17 rfl rfl ?_
      refine hJ.getR dX7_put_18 f_RX7_49 rfl ?_
      refine hJ.aload_n (i := 2) dX7_put_21 rfl rfl ?_
      replace hF := nn_S hF
      obtain ⟨n8, e9, hF⟩ := hF
      rw [e9]
      replace hF := cl_S hF
      obtain ⟨r10, h11, ec12, hF⟩ := hF
      refine hJ.callV (as := [.inr (6, (some n5))]) (st := []) dX7_put_22 w_RX7_132 ⟨by decide, rfl⟩ rfl (c_X3_takes ec12) (by decide) (by decide) (by decide) rfl (Nat.le_of_ble_eq_true rfl) rfl ?_
      refine hJ.if_ne (tgt := 30) dX7_put_25 (by decide) (fun e13 => ?_) (fun e13 => ?_)
      · replace hF := ite_F e13 hF
        refine hJ.aload_n (i := 0) dX7_put_30 rfl rfl ?_
        refine hJ.getR dX7_put_31 f_RX7_49 rfl ?_
        refine hJ.aload_n (i := 2) dX7_put_34 rfl rfl ?_
        replace hF := nn_S hF
        obtain ⟨n14, e15, hF⟩ := hF
        rw [e15]
        replace hF := cl_S hF
        obtain ⟨r16, h17, ec18, hF⟩ := hF
        refine hJ.callV0 (as := [.inr (6, (some n5))]) (st := []) dX7_put_35 w_RX7_136 ⟨by decide, rfl⟩ rfl (c_X3_append ec18) (by decide) (by decide) (by decide) rfl (Nat.le_of_ble_eq_true rfl) rfl ?_
        refine hJ.aload_n (i := 0) dX7_put_38 rfl rfl ?_
        refine hJ.getR dX7_put_39 f_RX7_49 rfl ?_
        replace hF := nn_S hF
        obtain ⟨n19, e20, hF⟩ := hF
        rw [e20]
        refine hJ.getI dX7_put_42 f_RX7_140 rfl ?_
        obtain ⟨rfl, rfl⟩ := ret_S hF
        exact hR dX7_put_45 (by decide) (by decide)
      · replace hF := ite_T e13 hF
        refine hJ.iconst (v := -1) dX7_put_28 (by decide) ?_
        obtain ⟨rfl, rfl⟩ := ret_S hF
        exact hR dX7_put_29 (by decide) (by decide)

set_option maxHeartbeats 4000000 in
set_option maxRecDepth 100000 in
theorem c_X7_newRaft {x0 : Nat} {x1 : Option Nat} {h hh : Hp} {xr : Option Nat} (hF : F_X7_newRaft x0 x1 h = some (xr, hh)) : Ctr yX7_newRaft cX7_newRaft 3 (some (.object RX2)) 2 2 14 [.inr (7, (some x0)), .inr (4, x1)] h (some (.inr (2, xr))) hh := by
  refine Ctr_a (own := RX7) (ini := False) (ls0 := [some (.inr (7, (some x0))), some (.inr (4, x1)), none]) (by decide) rfl (Nat.le_of_ble_eq_true rfl) (fun e => e.elim) rfl ?_
  intro J hJ hR
  unfold F_X7_newRaft at hF
  replace hF := lt_S hF
  obtain ⟨h1, eh2, hF⟩ := hF
  refine hJ.new dX7_newRaft_0 o_RX7_28 (by decide) (by decide) ?_
  rw [← eh2]
  refine hJ.dup dX7_newRaft_3 ?_
  refine hJ.aload_n (i := 0) dX7_newRaft_4 rfl rfl ?_
  refine hJ.getI dX7_newRaft_5 f_RX7_34 rfl ?_
  refine hJ.aload_n (i := 1) dX7_newRaft_8 rfl rfl ?_
  replace hF := cl_S hF
  obtain ⟨r3, h4, ec5, hF⟩ := hF
  refine hJ.callI (as := [.inl (pI h1 7 x0 5), .inr (4, x1)]) (st := [.inr (2, (some (pC h 2)))]) dX7_newRaft_9 w_RX7_359 rfl (c_X2_init ec5) (by decide) (by decide) (by decide) rfl (Nat.le_of_ble_eq_true rfl) rfl ?_
  refine hJ.astore_n (i := 2) (ls2 := [some (.inr (7, (some x0))), some (.inr (4, x1)), some (.inr (2, (some (pC h 2))))]) dX7_newRaft_12 rfl (by decide) rfl ?_
  refine hJ.aload_n (i := 0) dX7_newRaft_13 rfl rfl ?_
  refine hJ.getR dX7_newRaft_14 f_RX7_30 rfl ?_
  refine hJ.aload_n (i := 0) dX7_newRaft_17 rfl rfl ?_
  refine hJ.getI dX7_newRaft_18 f_RX7_34 rfl ?_
  refine hJ.aload_n (i := 2) dX7_newRaft_21 rfl rfl ?_
  replace hF := nn_S hF
  obtain ⟨n6, e7, hF⟩ := hF
  rw [e7]
  replace hF := ck_S hF
  obtain ⟨c8, hF⟩ := hF
  replace hF := lt_S hF
  obtain ⟨h9, eh10, hF⟩ := hF
  refine hJ.aast dX7_newRaft_22 a_21 rfl c8 ?_
  rw [← eh10]
  refine hJ.aload_n (i := 0) dX7_newRaft_23 rfl rfl ?_
  refine hJ.dup dX7_newRaft_24 ?_
  refine hJ.getI dX7_newRaft_25 f_RX7_34 rfl ?_
  refine hJ.iconst (v := 1) dX7_newRaft_28 (by decide) ?_
  refine hJ.iadd dX7_newRaft_29 ?_
  replace hF := lt_S hF
  obtain ⟨h11, eh12, hF⟩ := hF
  refine hJ.putI dX7_newRaft_30 f_RX7_34 rfl nar_i rfl ?_
  rw [← eh12]
  refine hJ.aload_n (i := 2) dX7_newRaft_33 rfl rfl ?_
  obtain ⟨rfl, rfl⟩ := ret_S hF
  exact hR dX7_newRaft_34 (Or.inr rfl) (by decide) (by decide)

set_option maxHeartbeats 4000000 in
set_option maxRecDepth 100000 in
theorem c_X7_bind {x0 : Nat} {h hh : Hp} {xr : Int32} (hF : F_X7_bind x0 h = some (xr, hh)) : Ctr yX7_bind cX7_bind 3 (some .int) 3 4 26 [.inr (7, (some x0))] h (some (.inl xr)) hh := by
  refine Ctr_i (own := RX7) (ini := False) (ls0 := [some (.inr (7, (some x0))), none, none]) (by decide) rfl (Nat.le_of_ble_eq_true rfl) (fun e => e.elim) rfl ?_
  intro J hJ hR
  unfold F_X7_bind at hF
  refine hJ.aload_n (i := 0) dX7_bind_0 rfl rfl ?_
  refine hJ.getR dX7_bind_1 f_RX7_49 rfl ?_
  replace hF := nn_S hF
  obtain ⟨n1, e2, hF⟩ := hF
  rw [e2]
  replace hF := cl_S hF
  obtain ⟨r3, h4, ec5, hF⟩ := hF
  refine hJ.callV (as := []) (st := []) dX7_bind_4 w_RX7_143 ⟨by decide, rfl⟩ rfl (c_X3_first ec5) (by decide) (by decide) (by decide) rfl (Nat.le_of_ble_eq_true rfl) rfl ?_
  refine hJ.astore_n (i := 1) (ls2 := [some (.inr (7, (some x0))), some (.inr (6, r3)), none]) dX7_bind_7 rfl (by decide) rfl ?_
  refine hJ.aload_n (i := 1) dX7_bind_8 rfl rfl ?_
  refine hJ.ifnull (tgt := 21) dX7_bind_9 (by decide) (fun e6 => ?_) (fun n7 e6 => ?_)
  · replace hF := onn_N e6 hF
    subst e6
    refine hJ.iconst (v := -1) dX7_bind_21 (by decide) ?_
    obtain ⟨rfl, rfl⟩ := ret_S hF
    exact hR dX7_bind_22 (by decide) (by decide)
  · replace hF := onn_J e6 hF
    subst e6
    refine hJ.aload_n (i := 0) dX7_bind_12 rfl rfl ?_
    refine hJ.getI dX7_bind_13 f_RX7_34 rfl ?_
    refine hJ.bipush (v := 60) dX7_bind_16 (by decide) ?_
    refine hJ.icmp_lt (tgt := 23) dX7_bind_18 (by decide) (fun e8 => ?_) (fun e8 => ?_)
    · replace hF := ite_T e8 hF
      refine hJ.aload_n (i := 0) dX7_bind_23 rfl rfl ?_
      refine hJ.aload_n (i := 1) dX7_bind_24 rfl rfl ?_
      refine hJ.getR dX7_bind_25 f_RX7_128 rfl ?_
      replace hF := cl_S hF
      obtain ⟨r9, h10, ec11, hF⟩ := hF
      refine hJ.callV (as := [.inr (4, (pR h4 6 n7 5))]) (st := []) dX7_bind_28 w_RX7_147 ⟨by decide, rfl⟩ rfl (c_X7_newRaft ec11) (by decide) (by decide) (by decide) rfl (Nat.le_of_ble_eq_true rfl) rfl ?_
      refine hJ.astore_n (i := 2) (ls2 := [some (.inr (7, (some x0))), some (.inr (6, (some n7))), some (.inr (2, r9))]) dX7_bind_31 rfl (by decide) rfl ?_
      refine hJ.aload_n (i := 2) dX7_bind_32 rfl rfl ?_
      refine hJ.aload_n (i := 0) dX7_bind_33 rfl rfl ?_
      refine hJ.getR dX7_bind_34 f_RX7_49 rfl ?_
      replace hF := nn_S hF
      obtain ⟨n12, e13, hF⟩ := hF
      subst e13
      replace hF := cl_S hF
      obtain ⟨r14, h15, ec16, hF⟩ := hF
      refine hJ.callV0 (as := [.inr (3, (pR h10 7 x0 8))]) (st := []) dX7_bind_37 w_RX7_151 ⟨by decide, rfl⟩ rfl (c_X2_append ec16) (by decide) (by decide) (by decide) rfl (Nat.le_of_ble_eq_true rfl) rfl ?_
      refine hJ.aload_n (i := 0) dX7_bind_40 rfl rfl ?_
      replace hF := lt_S hF
      obtain ⟨h17, eh18, hF⟩ := hF
      refine hJ.new dX7_bind_41 o_RX7_46 (by decide) (by decide) ?_
      rw [← eh18]
      refine hJ.dup dX7_bind_44 ?_
      replace hF := cl_S hF
      obtain ⟨r19, h20, ec21, hF⟩ := hF
      refine hJ.callIN (as := []) (st := [.inr (3, (some (pC h15 3))), .inr (7, (some x0))]) dX7_bind_45 w_RX7_48 rfl (c_X3_init ec21) (by decide) (by decide) (by decide) rfl (Nat.le_of_ble_eq_true rfl) rfl ?_
      replace hF := lt_S hF
      obtain ⟨h22, eh23, hF⟩ := hF
      refine hJ.putR dX7_bind_48 f_RX7_49 rfl (Or.inr rfl) rfl ?_
      rw [← eh23]
      refine hJ.aload_n (i := 2) dX7_bind_51 rfl rfl ?_
      refine hJ.getI dX7_bind_52 f_RX7_154 rfl ?_
      obtain ⟨rfl, rfl⟩ := ret_S hF
      exact hR dX7_bind_55 (by decide) (by decide)
    · replace hF := ite_F e8 hF
      refine hJ.iconst (v := -1) dX7_bind_21 (by decide) ?_
      obtain ⟨rfl, rfl⟩ := ret_S hF
      exact hR dX7_bind_22 (by decide) (by decide)

set_option maxHeartbeats 4000000 in
set_option maxRecDepth 100000 in
theorem c_X7_raftAt {x0 : Nat} {x1 : Int32} {h hh : Hp} {xr : Option Nat} (hF : F_X7_raftAt x0 x1 h = some (xr, hh)) : Ctr yX7_raftAt cX7_raftAt 2 (some (.object RX2)) 1 0 0 [.inr (7, (some x0)), .inl x1] h (some (.inr (2, xr))) hh := by
  refine Ctr_a (own := RX7) (ini := False) (ls0 := [some (.inr (7, (some x0))), some (.inl x1)]) (by decide) rfl (Nat.le_of_ble_eq_true rfl) (fun e => e.elim) rfl ?_
  intro J hJ hR
  unfold F_X7_raftAt at hF
  refine hJ.iload_n (i := 1) dX7_raftAt_0 rfl rfl ?_
  refine hJ.iconst (v := 0) dX7_raftAt_1 (by decide) ?_
  refine hJ.aload_n (i := 0) dX7_raftAt_2 rfl rfl ?_
  refine hJ.getI dX7_raftAt_3 f_RX7_34 rfl ?_
  refine hJ.iconst (v := 1) dX7_raftAt_6 (by decide) ?_
  refine hJ.isub dX7_raftAt_7 ?_
  replace hF := cl_S hF
  obtain ⟨r1, h2, ec3, hF⟩ := hF
  refine hJ.callS (as := [.inl x1, .inl (0 : Int32), .inl ((pI h 7 x0 5) - (1 : Int32))]) (st := []) dX7_raftAt_8 w_RX7_109 (c_X7_within ec3) (by decide) (by decide) (by decide) rfl (Nat.le_of_ble_eq_true rfl) rfl ?_
  refine hJ.if_eq (tgt := 23) dX7_raftAt_11 (by decide) (fun e4 => ?_) (fun e4 => ?_)
  · replace hF := ite_T e4 hF
    refine hJ.null (kk := 2) dX7_raftAt_23 ?_
    obtain ⟨rfl, rfl⟩ := ret_S hF
    exact hR dX7_raftAt_24 (Or.inr rfl) (by decide) (by decide)
  · replace hF := ite_F e4 hF
    refine hJ.aload_n (i := 0) dX7_raftAt_14 rfl rfl ?_
    refine hJ.getR dX7_raftAt_15 f_RX7_30 rfl ?_
    refine hJ.iload_n (i := 1) dX7_raftAt_18 rfl rfl ?_
    replace hF := nn_S hF
    obtain ⟨n5, e6, hF⟩ := hF
    rw [e6]
    replace hF := ck_S hF
    obtain ⟨c7, hF⟩ := hF
    refine hJ.aald dX7_raftAt_19 a_21 rfl c7 ?_
    refine hJ.goto (tgt := 24) dX7_raftAt_20 (by decide) ?_
    obtain ⟨rfl, rfl⟩ := ret_S hF
    exact hR dX7_raftAt_24 (Or.inr rfl) (by decide) (by decide)

set_option maxHeartbeats 4000000 in
set_option maxRecDepth 100000 in
theorem c_X7_tiedAt {x0 : Nat} {x1 : Int32} {h hh : Hp} {xr : Option Nat} (hF : F_X7_tiedAt x0 x1 h = some (xr, hh)) : Ctr yX7_tiedAt cX7_tiedAt 3 (some (.object RX2)) 2 0 0 [.inr (7, (some x0)), .inl x1] h (some (.inr (2, xr))) hh := by
  refine Ctr_a (own := RX7) (ini := False) (ls0 := [some (.inr (7, (some x0))), some (.inl x1), none]) (by decide) rfl (Nat.le_of_ble_eq_true rfl) (fun e => e.elim) rfl ?_
  intro J hJ hR
  unfold F_X7_tiedAt at hF
  refine hJ.aload_n (i := 0) dX7_tiedAt_0 rfl rfl ?_
  refine hJ.iload_n (i := 1) dX7_tiedAt_1 rfl rfl ?_
  replace hF := cl_S hF
  obtain ⟨r1, h2, ec3, hF⟩ := hF
  refine hJ.callV (as := [.inl x1]) (st := []) dX7_tiedAt_2 w_RX7_190 ⟨by decide, rfl⟩ rfl (c_X7_raftAt ec3) (by decide) (by decide) (by decide) rfl (Nat.le_of_ble_eq_true rfl) rfl ?_
  refine hJ.astore_n (i := 2) (ls2 := [some (.inr (7, (some x0))), some (.inl x1), some (.inr (2, r1))]) dX7_tiedAt_5 rfl (by decide) rfl ?_
  refine hJ.aload_n (i := 2) dX7_tiedAt_6 rfl rfl ?_
  refine hJ.ifnull (tgt := 21) dX7_tiedAt_7 (by decide) (fun e4 => ?_) (fun n5 e4 => ?_)
  · replace hF := onn_N e4 hF
    subst e4
    refine hJ.null (kk := 2) dX7_tiedAt_21 ?_
    obtain ⟨rfl, rfl⟩ := ret_S hF
    exact hR dX7_tiedAt_22 (Or.inr rfl) (by decide) (by decide)
  · replace hF := onn_J e4 hF
    subst e4
    refine hJ.aload_n (i := 2) dX7_tiedAt_10 rfl rfl ?_
    replace hF := cl_S hF
    obtain ⟨r6, h7, ec8, hF⟩ := hF
    refine hJ.callV (as := []) (st := []) dX7_tiedAt_11 w_RX7_193 ⟨by decide, rfl⟩ rfl (c_X2_state ec8) (by decide) (by decide) (by decide) rfl (Nat.le_of_ble_eq_true rfl) rfl ?_
    refine hJ.if_ne (tgt := 21) dX7_tiedAt_14 (by decide) (fun e9 => ?_) (fun e9 => ?_)
    · replace hF := ite_F e9 hF
      refine hJ.null (kk := 2) dX7_tiedAt_21 ?_
      obtain ⟨rfl, rfl⟩ := ret_S hF
      exact hR dX7_tiedAt_22 (Or.inr rfl) (by decide) (by decide)
    · replace hF := ite_T e9 hF
      refine hJ.aload_n (i := 2) dX7_tiedAt_17 rfl rfl ?_
      refine hJ.goto (tgt := 22) dX7_tiedAt_18 (by decide) ?_
      obtain ⟨rfl, rfl⟩ := ret_S hF
      exact hR dX7_tiedAt_22 (Or.inr rfl) (by decide) (by decide)

set_option maxHeartbeats 4000000 in
set_option maxRecDepth 100000 in
theorem c_X7_join {x0 : Nat} {x1 : Int32} {x2 : Int32} {h hh : Hp} {xr : Int32} (hF : F_X7_join x0 x1 x2 h = some (xr, hh)) : Ctr yX7_join cX7_join 5 (some .boolean) 3 0 0 [.inr (7, (some x0)), .inl x1, .inl x2] h (some (.inl xr)) hh := by
  refine Ctr_z (own := RX7) (ini := False) (ls0 := [some (.inr (7, (some x0))), some (.inl x1), some (.inl x2), none, none]) (by decide) rfl (Nat.le_of_ble_eq_true rfl) (fun e => e.elim) rfl ?_
  intro J hJ hR
  unfold F_X7_join at hF
  refine hJ.aload_n (i := 0) dX7_join_0 rfl rfl ?_
  refine hJ.iload_n (i := 1) dX7_join_1 rfl rfl ?_
  replace hF := cl_S hF
  obtain ⟨r1, h2, ec3, hF⟩ := hF
  refine hJ.callV (as := [.inl x1]) (st := []) dX7_join_2 w_RX7_155 ⟨by decide, rfl⟩ rfl (c_X7_tiedAt ec3) (by decide) (by decide) (by decide) rfl (Nat.le_of_ble_eq_true rfl) rfl ?_
  refine hJ.astore_n (i := 3) (ls2 := [some (.inr (7, (some x0))), some (.inl x1), some (.inl x2), some (.inr (2, r1)), none]) dX7_join_5 rfl (by decide) rfl ?_
  refine hJ.aload_n (i := 0) dX7_join_6 rfl rfl ?_
  refine hJ.iload_n (i := 2) dX7_join_7 rfl rfl ?_
  replace hF := cl_S hF
  obtain ⟨r4, h5, ec6, hF⟩ := hF
  refine hJ.callV (as := [.inl x2]) (st := []) dX7_join_8 w_RX7_155 ⟨by decide, rfl⟩ rfl (c_X7_tiedAt ec6) (by decide) (by decide) (by decide) rfl (Nat.le_of_ble_eq_true rfl) rfl ?_
  refine hJ.astore (i := 4) (ls2 := [some (.inr (7, (some x0))), some (.inl x1), some (.inl x2), some (.inr (2, r1)), some (.inr (2, r4))]) dX7_join_11 (by decide) rfl ?_
  refine hJ.aload_n (i := 3) dX7_join_13 rfl rfl ?_
  refine hJ.ifnull (tgt := 28) dX7_join_14 (by decide) (fun e7 => ?_) (fun n8 e7 => ?_)
  · replace hF := onn_N e7 hF
    subst e7
    refine hJ.iconst (v := 0) dX7_join_28 (by decide) ?_
    obtain ⟨rfl, rfl⟩ := ret_S hF
    exact hR dX7_join_29 (by decide) (by decide) (by decide)
  · replace hF := onn_J e7 hF
    subst e7
    refine hJ.aload (i := 4) dX7_join_17 rfl ?_
    refine hJ.ifnull (tgt := 28) dX7_join_19 (by decide) (fun e9 => ?_) (fun n10 e9 => ?_)
    · replace hF := onn_N e9 hF
      subst e9
      refine hJ.iconst (v := 0) dX7_join_28 (by decide) ?_
      obtain ⟨rfl, rfl⟩ := ret_S hF
      exact hR dX7_join_29 (by decide) (by decide) (by decide)
    · replace hF := onn_J e9 hF
      subst e9
      refine hJ.aload_n (i := 3) dX7_join_22 rfl rfl ?_
      refine hJ.aload (i := 4) dX7_join_23 rfl ?_
      refine hJ.acmp_ne (tgt := 30) dX7_join_25 (by decide) (by decide) (fun e11 => ?_) (fun e11 => ?_)
      · replace hF := ite_F e11 hF
        refine hJ.aload_n (i := 3) dX7_join_30 rfl rfl ?_
        refine hJ.getR dX7_join_31 f_RX7_159 rfl ?_
        refine hJ.aload (i := 4) dX7_join_34 rfl ?_
        refine hJ.getR dX7_join_36 f_RX7_159 rfl ?_
        refine hJ.acmp_ne (tgt := 57) dX7_join_39 (by decide) (by decide) (fun e12 => ?_) (fun e12 => ?_)
        · replace hF := ite_F e12 hF
          refine hJ.iconst (v := 0) dX7_join_57 (by decide) ?_
          obtain ⟨rfl, rfl⟩ := ret_S hF
          exact hR dX7_join_58 (by decide) (by decide) (by decide)
        · replace hF := ite_T e12 hF
          refine hJ.aload_n (i := 3) dX7_join_42 rfl rfl ?_
          refine hJ.getI dX7_join_43 f_RX7_160 rfl ?_
          refine hJ.aload (i := 4) dX7_join_46 rfl ?_
          refine hJ.getI dX7_join_48 f_RX7_160 rfl ?_
          refine hJ.iadd dX7_join_51 ?_
          refine hJ.bipush (v := 8) dX7_join_52 (by decide) ?_
          refine hJ.icmp_le (tgt := 59) dX7_join_54 (by decide) (fun e13 => ?_) (fun e13 => ?_)
          · replace hF := ite_T e13 hF
            refine hJ.aload (i := 4) dX7_join_59 rfl ?_
            refine hJ.iconst (v := 0) dX7_join_61 (by decide) ?_
            refine hJ.aload_n (i := 3) dX7_join_62 rfl rfl ?_
            replace hF := cl_S hF
            obtain ⟨r14, h15, ec16, hF⟩ := hF
            refine hJ.callV0 (as := [.inl (0 : Int32), .inr (2, (some n8))]) (st := []) dX7_join_63 w_RX7_161 ⟨by decide, rfl⟩ rfl (c_X2_moveRows ec16) (by decide) (by decide) (by decide) rfl (Nat.le_of_ble_eq_true rfl) rfl ?_
            refine hJ.aload (i := 4) dX7_join_66 rfl ?_
            replace hF := cl_S hF
            obtain ⟨r17, h18, ec19, hF⟩ := hF
            refine hJ.callV0 (as := []) (st := []) dX7_join_68 w_RX7_165 ⟨by decide, rfl⟩ rfl (c_X2_end ec19) (by decide) (by decide) (by decide) rfl (Nat.le_of_ble_eq_true rfl) rfl ?_
            refine hJ.iconst (v := 1) dX7_join_71 (by decide) ?_
            obtain ⟨rfl, rfl⟩ := ret_S hF
            exact hR dX7_join_72 (by decide) (by decide) (by decide)
          · replace hF := ite_F e13 hF
            refine hJ.iconst (v := 0) dX7_join_57 (by decide) ?_
            obtain ⟨rfl, rfl⟩ := ret_S hF
            exact hR dX7_join_58 (by decide) (by decide) (by decide)
      · replace hF := ite_T e11 hF
        refine hJ.iconst (v := 0) dX7_join_28 (by decide) ?_
        obtain ⟨rfl, rfl⟩ := ret_S hF
        exact hR dX7_join_29 (by decide) (by decide) (by decide)

set_option maxHeartbeats 4000000 in
set_option maxRecDepth 100000 in
theorem c_X7_part {x0 : Nat} {x1 : Int32} {x2 : Int32} {h hh : Hp} {xr : Int32} (hF : F_X7_part x0 x1 x2 h = some (xr, hh)) : Ctr yX7_part cX7_part 5 (some .int) 3 2 14 [.inr (7, (some x0)), .inl x1, .inl x2] h (some (.inl xr)) hh := by
  refine Ctr_i (own := RX7) (ini := False) (ls0 := [some (.inr (7, (some x0))), some (.inl x1), some (.inl x2), none, none]) (by decide) rfl (Nat.le_of_ble_eq_true rfl) (fun e => e.elim) rfl ?_
  intro J hJ hR
  unfold F_X7_part at hF
  refine hJ.aload_n (i := 0) dX7_part_0 rfl rfl ?_
  refine hJ.iload_n (i := 1) dX7_part_1 rfl rfl ?_
  replace hF := cl_S hF
  obtain ⟨r1, h2, ec3, hF⟩ := hF
  refine hJ.callV (as := [.inl x1]) (st := []) dX7_part_2 w_RX7_155 ⟨by decide, rfl⟩ rfl (c_X7_tiedAt ec3) (by decide) (by decide) (by decide) rfl (Nat.le_of_ble_eq_true rfl) rfl ?_
  refine hJ.astore_n (i := 3) (ls2 := [some (.inr (7, (some x0))), some (.inl x1), some (.inl x2), some (.inr (2, r1)), none]) dX7_part_5 rfl (by decide) rfl ?_
  refine hJ.aload_n (i := 3) dX7_part_6 rfl rfl ?_
  refine hJ.ifnull (tgt := 32) dX7_part_7 (by decide) (fun e4 => ?_) (fun n5 e4 => ?_)
  · replace hF := onn_N e4 hF
    subst e4
    refine hJ.iconst (v := -1) dX7_part_32 (by decide) ?_
    obtain ⟨rfl, rfl⟩ := ret_S hF
    exact hR dX7_part_33 (by decide) (by decide)
  · replace hF := onn_J e4 hF
    subst e4
    refine hJ.iload_n (i := 2) dX7_part_10 rfl rfl ?_
    refine hJ.iconst (v := 1) dX7_part_11 (by decide) ?_
    refine hJ.icmp_lt (tgt := 32) dX7_part_12 (by decide) (fun e6 => ?_) (fun e6 => ?_)
    · replace hF := ite_T e6 hF
      refine hJ.iconst (v := -1) dX7_part_32 (by decide) ?_
      obtain ⟨rfl, rfl⟩ := ret_S hF
      exact hR dX7_part_33 (by decide) (by decide)
    · replace hF := ite_F e6 hF
      refine hJ.aload_n (i := 3) dX7_part_15 rfl rfl ?_
      refine hJ.getI dX7_part_16 f_RX7_160 rfl ?_
      refine hJ.iload_n (i := 2) dX7_part_19 rfl rfl ?_
      refine hJ.icmp_le (tgt := 32) dX7_part_20 (by decide) (fun e7 => ?_) (fun e7 => ?_)
      · replace hF := ite_T e7 hF
        refine hJ.iconst (v := -1) dX7_part_32 (by decide) ?_
        obtain ⟨rfl, rfl⟩ := ret_S hF
        exact hR dX7_part_33 (by decide) (by decide)
      · replace hF := ite_F e7 hF
        refine hJ.aload_n (i := 0) dX7_part_23 rfl rfl ?_
        refine hJ.getI dX7_part_24 f_RX7_34 rfl ?_
        refine hJ.bipush (v := 60) dX7_part_27 (by decide) ?_
        refine hJ.icmp_lt (tgt := 34) dX7_part_29 (by decide) (fun e8 => ?_) (fun e8 => ?_)
        · replace hF := ite_T e8 hF
          refine hJ.aload_n (i := 0) dX7_part_34 rfl rfl ?_
          refine hJ.aload_n (i := 3) dX7_part_35 rfl rfl ?_
          refine hJ.getR dX7_part_36 f_RX7_159 rfl ?_
          replace hF := cl_S hF
          obtain ⟨r9, h10, ec11, hF⟩ := hF
          refine hJ.callV (as := [.inr (4, (pR h2 2 n5 3))]) (st := []) dX7_part_39 w_RX7_147 ⟨by decide, rfl⟩ rfl (c_X7_newRaft ec11) (by decide) (by decide) (by decide) rfl (Nat.le_of_ble_eq_true rfl) rfl ?_
          refine hJ.astore (i := 4) (ls2 := [some (.inr (7, (some x0))), some (.inl x1), some (.inl x2), some (.inr (2, (some n5))), some (.inr (2, r9))]) dX7_part_42 (by decide) rfl ?_
          refine hJ.aload_n (i := 3) dX7_part_44 rfl rfl ?_
          refine hJ.aload_n (i := 3) dX7_part_45 rfl rfl ?_
          refine hJ.getI dX7_part_46 f_RX7_160 rfl ?_
          refine hJ.iload_n (i := 2) dX7_part_49 rfl rfl ?_
          refine hJ.isub dX7_part_50 ?_
          refine hJ.aload (i := 4) dX7_part_51 rfl ?_
          replace hF := cl_S hF
          obtain ⟨r12, h13, ec14, hF⟩ := hF
          refine hJ.callV0 (as := [.inl ((pI h10 2 n5 2) - x2), .inr (2, r9)]) (st := []) dX7_part_53 w_RX7_161 ⟨by decide, rfl⟩ rfl (c_X2_moveRows ec14) (by decide) (by decide) (by decide) rfl (Nat.le_of_ble_eq_true rfl) rfl ?_
          refine hJ.aload (i := 4) dX7_part_56 rfl ?_
          replace hF := nn_S hF
          obtain ⟨n15, e16, hF⟩ := hF
          subst e16
          refine hJ.getI dX7_part_58 f_RX7_154 rfl ?_
          obtain ⟨rfl, rfl⟩ := ret_S hF
          exact hR dX7_part_61 (by decide) (by decide)
        · replace hF := ite_F e8 hF
          refine hJ.iconst (v := -1) dX7_part_32 (by decide) ?_
          obtain ⟨rfl, rfl⟩ := ret_S hF
          exact hR dX7_part_33 (by decide) (by decide)

set_option maxHeartbeats 4000000 in
set_option maxRecDepth 100000 in
theorem c_X7_unbind {x0 : Nat} {x1 : Int32} {h hh : Hp} {xr : Int32} (hF : F_X7_unbind x0 x1 h = some (xr, hh)) : Ctr yX7_unbind cX7_unbind 3 (some .boolean) 3 0 0 [.inr (7, (some x0)), .inl x1] h (some (.inl xr)) hh := by
  refine Ctr_z (own := RX7) (ini := False) (ls0 := [some (.inr (7, (some x0))), some (.inl x1), none]) (by decide) rfl (Nat.le_of_ble_eq_true rfl) (fun e => e.elim) rfl ?_
  intro J hJ hR
  unfold F_X7_unbind at hF
  refine hJ.aload_n (i := 0) dX7_unbind_0 rfl rfl ?_
  refine hJ.iload_n (i := 1) dX7_unbind_1 rfl rfl ?_
  replace hF := cl_S hF
  obtain ⟨r1, h2, ec3, hF⟩ := hF
  refine hJ.callV (as := [.inl x1]) (st := []) dX7_unbind_2 w_RX7_155 ⟨by decide, rfl⟩ rfl (c_X7_tiedAt ec3) (by decide) (by decide) (by decide) rfl (Nat.le_of_ble_eq_true rfl) rfl ?_
  refine hJ.astore_n (i := 2) (ls2 := [some (.inr (7, (some x0))), some (.inl x1), some (.inr (2, r1))]) dX7_unbind_5 rfl (by decide) rfl ?_
  refine hJ.aload_n (i := 2) dX7_unbind_6 rfl rfl ?_
  refine hJ.ifnonnull (tgt := 12) dX7_unbind_7 (by decide) (fun n5 e4 => ?_) (fun e4 => ?_)
  · replace hF := onn_J e4 hF
    subst e4
    refine hJ.aload_n (i := 2) dX7_unbind_12 rfl rfl ?_
    replace hF := cl_S hF
    obtain ⟨r6, h7, ec8, hF⟩ := hF
    refine hJ.callV0 (as := []) (st := []) dX7_unbind_13 w_RX7_168 ⟨by decide, rfl⟩ rfl (c_X2_scatter ec8) (by decide) (by decide) (by decide) rfl (Nat.le_of_ble_eq_true rfl) rfl ?_
    refine hJ.iconst (v := 1) dX7_unbind_16 (by decide) ?_
    obtain ⟨rfl, rfl⟩ := ret_S hF
    exact hR dX7_unbind_17 (by decide) (by decide) (by decide)
  · replace hF := onn_N e4 hF
    subst e4
    refine hJ.iconst (v := 0) dX7_unbind_10 (by decide) ?_
    obtain ⟨rfl, rfl⟩ := ret_S hF
    exact hR dX7_unbind_11 (by decide) (by decide) (by decide)

set_option maxHeartbeats 4000000 in
set_option maxRecDepth 100000 in
theorem c_X7_crew {x0 : Nat} {x1 : Int32} {h hh : Hp} {xr : Int32} (hF : F_X7_crew x0 x1 h = some (xr, hh)) : Ctr yX7_crew cX7_crew 4 (some .int) 2 1 6 [.inr (7, (some x0)), .inl x1] h (some (.inl xr)) hh := by
  refine Ctr_i (own := RX7) (ini := False) (ls0 := [some (.inr (7, (some x0))), some (.inl x1), none, none]) (by decide) rfl (Nat.le_of_ble_eq_true rfl) (fun e => e.elim) rfl ?_
  intro J hJ hR
  unfold F_X7_crew at hF
  refine hJ.aload_n (i := 0) dX7_crew_0 rfl rfl ?_
  refine hJ.iload_n (i := 1) dX7_crew_1 rfl rfl ?_
  replace hF := cl_S hF
  obtain ⟨r1, h2, ec3, hF⟩ := hF
  refine hJ.callV (as := [.inl x1]) (st := []) dX7_crew_2 w_RX7_94 ⟨by decide, rfl⟩ rfl (c_X7_stationAt ec3) (by decide) (by decide) (by decide) rfl (Nat.le_of_ble_eq_true rfl) rfl ?_
  refine hJ.astore_n (i := 2) (ls2 := [some (.inr (7, (some x0))), some (.inl x1), some (.inr (4, r1)), none]) dX7_crew_5 rfl (by decide) rfl ?_
  refine hJ.aload_n (i := 2) dX7_crew_6 rfl rfl ?_
  refine hJ.ifnull (tgt := 19) dX7_crew_7 (by decide) (fun e4 => ?_) (fun n5 e4 => ?_)
  · replace hF := onn_N e4 hF
    subst e4
    refine hJ.iconst (v := -1) dX7_crew_19 (by decide) ?_
    obtain ⟨rfl, rfl⟩ := ret_S hF
    exact hR dX7_crew_20 (by decide) (by decide)
  · replace hF := onn_J e4 hF
    subst e4
    refine hJ.aload_n (i := 0) dX7_crew_10 rfl rfl ?_
    refine hJ.getI dX7_crew_11 f_RX7_43 rfl ?_
    refine hJ.bipush (v := 10) dX7_crew_14 (by decide) ?_
    refine hJ.icmp_lt (tgt := 21) dX7_crew_16 (by decide) (fun e6 => ?_) (fun e6 => ?_)
    · replace hF := ite_T e6 hF
      replace hF := lt_S hF
      obtain ⟨h7, eh8, hF⟩ := hF
      refine hJ.new dX7_crew_21 o_RX7_37 (by decide) (by decide) ?_
      rw [← eh8]
      refine hJ.dup dX7_crew_24 ?_
      refine hJ.aload_n (i := 0) dX7_crew_25 rfl rfl ?_
      refine hJ.getI dX7_crew_26 f_RX7_43 rfl ?_
      refine hJ.aload_n (i := 2) dX7_crew_29 rfl rfl ?_
      replace hF := cl_S hF
      obtain ⟨r9, h10, ec11, hF⟩ := hF
      refine hJ.callI (as := [.inl (pI h7 7 x0 7), .inr (4, (some n5))]) (st := [.inr (0, (some (pC h2 0)))]) dX7_crew_30 w_RX7_171 rfl (c_X0_init ec11) (by decide) (by decide) (by decide) rfl (Nat.le_of_ble_eq_true rfl) rfl ?_
      refine hJ.astore_n (i := 3) (ls2 := [some (.inr (7, (some x0))), some (.inl x1), some (.inr (4, (some n5))), some (.inr (0, (some (pC h2 0))))]) dX7_crew_33 rfl (by decide) rfl ?_
      refine hJ.aload_n (i := 0) dX7_crew_34 rfl rfl ?_
      refine hJ.getR dX7_crew_35 f_RX7_39 rfl ?_
      refine hJ.aload_n (i := 0) dX7_crew_38 rfl rfl ?_
      refine hJ.getI dX7_crew_39 f_RX7_43 rfl ?_
      refine hJ.aload_n (i := 3) dX7_crew_42 rfl rfl ?_
      replace hF := nn_S hF
      obtain ⟨n12, e13, hF⟩ := hF
      rw [e13]
      replace hF := ck_S hF
      obtain ⟨c14, hF⟩ := hF
      replace hF := lt_S hF
      obtain ⟨h15, eh16, hF⟩ := hF
      refine hJ.aast dX7_crew_43 a_22 rfl c14 ?_
      rw [← eh16]
      refine hJ.aload_n (i := 0) dX7_crew_44 rfl rfl ?_
      refine hJ.dup dX7_crew_45 ?_
      refine hJ.getI dX7_crew_46 f_RX7_43 rfl ?_
      refine hJ.iconst (v := 1) dX7_crew_49 (by decide) ?_
      refine hJ.iadd dX7_crew_50 ?_
      replace hF := lt_S hF
      obtain ⟨h17, eh18, hF⟩ := hF
      refine hJ.putI dX7_crew_51 f_RX7_43 rfl nar_i rfl ?_
      rw [← eh18]
      refine hJ.aload_n (i := 3) dX7_crew_54 rfl rfl ?_
      refine hJ.getI dX7_crew_55 f_RX7_174 rfl ?_
      obtain ⟨rfl, rfl⟩ := ret_S hF
      exact hR dX7_crew_58 (by decide) (by decide)
    · replace hF := ite_F e6 hF
      refine hJ.iconst (v := -1) dX7_crew_19 (by decide) ?_
      obtain ⟨rfl, rfl⟩ := ret_S hF
      exact hR dX7_crew_20 (by decide) (by decide)

