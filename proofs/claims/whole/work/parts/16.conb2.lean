set_option maxHeartbeats 4000000 in
set_option maxRecDepth 100000 in
theorem t_X8_part_66 {β : Type} {J : JT} (hJ : Rules cX8_part RX8 5 2 0 0 False J) {a b : Nat} (ha : a ≤ 0) (hb : b ≤ 0) {v0 : Nat} {v1 : Int32} {v3 : Int32} {κ134 : Hp → Option β} {out : β}
    (hk134 : ∀ (h : Hp), κ134 h = some out → J 134 [none, none, none, some (.inl v3), none] [] h a b)
    : ∀ (f : Nat) (v4 : Int32) (h : Hp), L_X8_part_66 v0 v1 v3 κ134 f v4 h = some out → J 66 [some (.inr (8, (some v0))), some (.inl v1), none, some (.inl v3), some (.inl v4)] [] h a b := by
  intro f
  induction f with
  | zero => intro v4 h hF; simp [L_X8_part_66] at hF
  | succ f ih =>
    intro v4 h hF
    rw [L_X8_part_66] at hF
    refine hJ.iload (i := 4) dX8_part_66 rfl ?_
    refine hJ.aload_n (i := 0) dX8_part_68 rfl rfl ?_
    refine hJ.getI dX8_part_69 f_RX8_148 rfl ?_
    refine hJ.icmp_ge (tgt := 134) dX8_part_72 (by decide) (fun e28 => ?_) (fun e28 => ?_)
    · replace hF := ite_T e28 hF
      refine hJ.forget (ls2 := [none, none, none, some (.inl v3), none]) ⟨rfl, trivial⟩ ?_
      exact hk134 h hF
    · replace hF := ite_F e28 hF
      refine hJ.aload_n (i := 0) dX8_part_75 rfl rfl ?_
      refine hJ.iload (i := 4) dX8_part_76 rfl ?_
      refine hJ.iload_n (i := 1) dX8_part_78 rfl rfl ?_
      replace hF := cl_S hF
      obtain ⟨r29, h30, ec31, hF⟩ := hF
      refine hJ.callV (as := [.inl v4, .inl v1]) (st := []) dX8_part_79 w_RX8_180 ⟨by decide, rfl⟩ rfl (c_X8_isOf ec31) (by decide) ha hb rfl (Nat.le_of_ble_eq_true rfl) rfl ?_
      refine hJ.if_eq (tgt := 128) dX8_part_82 (by decide) (fun e32 => ?_) (fun e32 => ?_)
      · replace hF := ite_T e32 hF
        refine hJ.iinc (i := 4) (v := (v4 + (1 : Int32))) (ls2 := [some (.inr (8, (some v0))), some (.inl v1), none, some (.inl v3), some (.inl (v4 + (1 : Int32)))]) dX8_part_128 rfl (addI (by decide)) (by decide) rfl ?_
        refine hJ.goto (tgt := 66) dX8_part_131 (by decide) ?_
        refine hJ.forget (ls2 := [some (.inr (8, (some v0))), some (.inl v1), none, some (.inl v3), some (.inl (v4 + (1 : Int32)))]) ⟨rfl, rfl, rfl, rfl, trivial⟩ ?_
        exact ih (v4 + (1 : Int32)) h30 hF
      · replace hF := ite_F e32 hF
        refine hJ.aload_n (i := 0) dX8_part_85 rfl rfl ?_
        refine hJ.getR dX8_part_86 f_RX8_59 rfl ?_
        refine hJ.iload (i := 4) dX8_part_89 rfl ?_
        replace hF := nn_S hF
        obtain ⟨n33, e34, hF⟩ := hF
        rw [e34]
        replace hF := ck_S hF
        obtain ⟨c35, hF⟩ := hF
        refine hJ.iald dX8_part_91 a_41 rfl c35 ?_
        refine hJ.aload_n (i := 0) dX8_part_92 rfl rfl ?_
        refine hJ.getR dX8_part_93 f_RX8_77 rfl ?_
        refine hJ.iload_n (i := 1) dX8_part_96 rfl rfl ?_
        replace hF := nn_S hF
        obtain ⟨n36, e37, hF⟩ := hF
        rw [e37]
        replace hF := ck_S hF
        obtain ⟨c38, hF⟩ := hF
        refine hJ.iald dX8_part_97 a_47 rfl c38 ?_
        refine hJ.icmp_ge (tgt := 104) dX8_part_98 (by decide) (fun e39 => ?_) (fun e39 => ?_)
        · replace hF := ite_T e39 hF
          refine hJ.aload_n (i := 0) dX8_part_104 rfl rfl ?_
          refine hJ.getR dX8_part_105 f_RX8_56 rfl ?_
          refine hJ.iload (i := 4) dX8_part_108 rfl ?_
          refine hJ.iload_n (i := 3) dX8_part_110 rfl rfl ?_
          replace hF := nn_S hF
          obtain ⟨n40, e41, hF⟩ := hF
          rw [e41]
          replace hF := ck_S hF
          obtain ⟨c42, hF⟩ := hF
          replace hF := lt_S hF
          obtain ⟨h43, eh44, hF⟩ := hF
          refine hJ.iast dX8_part_111 a_40 rfl c42 ?_
          rw [← eh44]
          refine hJ.aload_n (i := 0) dX8_part_112 rfl rfl ?_
          refine hJ.getR dX8_part_113 f_RX8_59 rfl ?_
          refine hJ.iload (i := 4) dX8_part_116 rfl ?_
          refine hJ.dup2 dX8_part_118 ?_
          replace hF := nn_S hF
          obtain ⟨n45, e46, hF⟩ := hF
          rw [e46]
          replace hF := ck_S hF
          obtain ⟨c47, hF⟩ := hF
          refine hJ.iald dX8_part_119 a_41 rfl c47 ?_
          refine hJ.aload_n (i := 0) dX8_part_120 rfl rfl ?_
          refine hJ.getR dX8_part_121 f_RX8_77 rfl ?_
          refine hJ.iload_n (i := 1) dX8_part_124 rfl rfl ?_
          replace hF := nn_S hF
          obtain ⟨n48, e49, hF⟩ := hF
          rw [e49]
          replace hF := ck_S hF
          obtain ⟨c50, hF⟩ := hF
          refine hJ.iald dX8_part_125 a_47 rfl c50 ?_
          refine hJ.isub dX8_part_126 ?_
          replace hF := ck_S hF
          obtain ⟨c51, hF⟩ := hF
          replace hF := lt_S hF
          obtain ⟨h52, eh53, hF⟩ := hF
          refine hJ.iast dX8_part_127 a_41 rfl c51 ?_
          rw [← eh53]
          refine hJ.iinc (i := 4) (v := (v4 + (1 : Int32))) (ls2 := [some (.inr (8, (some v0))), some (.inl v1), none, some (.inl v3), some (.inl (v4 + (1 : Int32)))]) dX8_part_128 rfl (addI (by decide)) (by decide) rfl ?_
          refine hJ.goto (tgt := 66) dX8_part_131 (by decide) ?_
          refine hJ.forget (ls2 := [some (.inr (8, (some v0))), some (.inl v1), none, some (.inl v3), some (.inl (v4 + (1 : Int32)))]) ⟨rfl, rfl, rfl, rfl, trivial⟩ ?_
          exact ih (v4 + (1 : Int32)) h52 hF
        · replace hF := ite_F e39 hF
          refine hJ.goto (tgt := 128) dX8_part_101 (by decide) ?_
          refine hJ.iinc (i := 4) (v := (v4 + (1 : Int32))) (ls2 := [some (.inr (8, (some v0))), some (.inl v1), none, some (.inl v3), some (.inl (v4 + (1 : Int32)))]) dX8_part_128 rfl (addI (by decide)) (by decide) rfl ?_
          refine hJ.goto (tgt := 66) dX8_part_131 (by decide) ?_
          refine hJ.forget (ls2 := [some (.inr (8, (some v0))), some (.inl v1), none, some (.inl v3), some (.inl (v4 + (1 : Int32)))]) ⟨rfl, rfl, rfl, rfl, trivial⟩ ?_
          exact ih (v4 + (1 : Int32)) h30 hF

set_option maxHeartbeats 4000000 in
set_option maxRecDepth 100000 in
theorem c_X8_part {x0 : Nat} {x1 : Int32} {x2 : Int32} {h hh : Hp} {xr : Int32} (hF : F_X8_part x0 x1 x2 h = some (xr, hh)) : Ctr yX8_part cX8_part 5 (some .int) 2 0 0 [.inr (8, (some x0)), .inl x1, .inl x2] h (some (.inl xr)) hh := by
  refine Ctr_i (own := RX8) (ini := False) (ls0 := [some (.inr (8, (some x0))), some (.inl x1), some (.inl x2), none, none]) (by decide) rfl (Nat.le_of_ble_eq_true rfl) (fun e => e.elim) rfl ?_
  intro J hJ hR
  unfold F_X8_part at hF
  refine hJ.aload_n (i := 0) dX8_part_0 rfl rfl ?_
  refine hJ.iload_n (i := 1) dX8_part_1 rfl rfl ?_
  refine hJ.iconst (v := 0) dX8_part_2 (by decide) ?_
  replace hF := cl_S hF
  obtain ⟨r1, h2, ec3, hF⟩ := hF
  refine hJ.callV (as := [.inl x1, .inl (0 : Int32)]) (st := []) dX8_part_3 w_RX8_176 ⟨by decide, rfl⟩ rfl (c_X8_isRaft ec3) (by decide) (by decide) (by decide) rfl (Nat.le_of_ble_eq_true rfl) rfl ?_
  refine hJ.if_eq (tgt := 33) dX8_part_6 (by decide) (fun e4 => ?_) (fun e4 => ?_)
  · replace hF := ite_T e4 hF
    refine hJ.iconst (v := -1) dX8_part_33 (by decide) ?_
    obtain ⟨rfl, rfl⟩ := ret_S hF
    exact hR dX8_part_34 (by decide) (by decide)
  · replace hF := ite_F e4 hF
    refine hJ.iload_n (i := 2) dX8_part_9 rfl rfl ?_
    refine hJ.iconst (v := 1) dX8_part_10 (by decide) ?_
    refine hJ.icmp_lt (tgt := 33) dX8_part_11 (by decide) (fun e5 => ?_) (fun e5 => ?_)
    · replace hF := ite_T e5 hF
      refine hJ.iconst (v := -1) dX8_part_33 (by decide) ?_
      obtain ⟨rfl, rfl⟩ := ret_S hF
      exact hR dX8_part_34 (by decide) (by decide)
    · replace hF := ite_F e5 hF
      refine hJ.aload_n (i := 0) dX8_part_14 rfl rfl ?_
      refine hJ.getR dX8_part_15 f_RX8_77 rfl ?_
      refine hJ.iload_n (i := 1) dX8_part_18 rfl rfl ?_
      replace hF := nn_S hF
      obtain ⟨n6, e7, hF⟩ := hF
      rw [e7]
      replace hF := ck_S hF
      obtain ⟨c8, hF⟩ := hF
      refine hJ.iald dX8_part_19 a_47 rfl c8 ?_
      refine hJ.iload_n (i := 2) dX8_part_20 rfl rfl ?_
      refine hJ.icmp_le (tgt := 33) dX8_part_21 (by decide) (fun e9 => ?_) (fun e9 => ?_)
      · replace hF := ite_T e9 hF
        refine hJ.iconst (v := -1) dX8_part_33 (by decide) ?_
        obtain ⟨rfl, rfl⟩ := ret_S hF
        exact hR dX8_part_34 (by decide) (by decide)
      · replace hF := ite_F e9 hF
        refine hJ.aload_n (i := 0) dX8_part_24 rfl rfl ?_
        refine hJ.getI dX8_part_25 f_RX8_151 rfl ?_
        refine hJ.bipush (v := 60) dX8_part_28 (by decide) ?_
        refine hJ.icmp_ne (tgt := 35) dX8_part_30 (by decide) (fun e10 => ?_) (fun e10 => ?_)
        · replace hF := ite_F e10 hF
          refine hJ.aload_n (i := 0) dX8_part_35 rfl rfl ?_
          refine hJ.aload_n (i := 0) dX8_part_36 rfl rfl ?_
          refine hJ.getR dX8_part_37 f_RX8_74 rfl ?_
          refine hJ.iload_n (i := 1) dX8_part_40 rfl rfl ?_
          replace hF := nn_S hF
          obtain ⟨n11, e12, hF⟩ := hF
          rw [e12]
          replace hF := ck_S hF
          obtain ⟨c13, hF⟩ := hF
          refine hJ.iald dX8_part_41 a_46 rfl c13 ?_
          replace hF := cl_S hF
          obtain ⟨r14, h15, ec16, hF⟩ := hF
          refine hJ.callV (as := [.inl (pI h2 46 n11 (x1).toNatClampNeg)]) (st := []) dX8_part_42 w_RX8_173 ⟨by decide, rfl⟩ rfl (c_X8_newRaft ec16) (by decide) (by decide) (by decide) rfl (Nat.le_of_ble_eq_true rfl) rfl ?_
          refine hJ.istore_n (i := 3) (ls2 := [some (.inr (8, (some x0))), some (.inl x1), some (.inl x2), some (.inl r14), none]) dX8_part_45 rfl (by decide) rfl ?_
          refine hJ.aload_n (i := 0) dX8_part_46 rfl rfl ?_
          refine hJ.getR dX8_part_47 f_RX8_77 rfl ?_
          refine hJ.iload_n (i := 3) dX8_part_50 rfl rfl ?_
          refine hJ.iload_n (i := 2) dX8_part_51 rfl rfl ?_
          replace hF := nn_S hF
          obtain ⟨n17, e18, hF⟩ := hF
          rw [e18]
          replace hF := ck_S hF
          obtain ⟨c19, hF⟩ := hF
          replace hF := lt_S hF
          obtain ⟨h20, eh21, hF⟩ := hF
          refine hJ.iast dX8_part_52 a_47 rfl c19 ?_
          rw [← eh21]
          refine hJ.aload_n (i := 0) dX8_part_53 rfl rfl ?_
          refine hJ.getR dX8_part_54 f_RX8_77 rfl ?_
          refine hJ.iload_n (i := 1) dX8_part_57 rfl rfl ?_
          refine hJ.dup2 dX8_part_58 ?_
          replace hF := nn_S hF
          obtain ⟨n22, e23, hF⟩ := hF
          rw [e23]
          replace hF := ck_S hF
          obtain ⟨c24, hF⟩ := hF
          refine hJ.iald dX8_part_59 a_47 rfl c24 ?_
          refine hJ.iload_n (i := 2) dX8_part_60 rfl rfl ?_
          refine hJ.isub dX8_part_61 ?_
          replace hF := ck_S hF
          obtain ⟨c25, hF⟩ := hF
          replace hF := lt_S hF
          obtain ⟨h26, eh27, hF⟩ := hF
          refine hJ.iast dX8_part_62 a_47 rfl c25 ?_
          rw [← eh27]
          refine hJ.iconst (v := 0) dX8_part_63 (by decide) ?_
          refine hJ.istore (i := 4) (ls2 := [some (.inr (8, (some x0))), some (.inl x1), some (.inl x2), some (.inl r14), some (.inl (0 : Int32))]) dX8_part_64 (by decide) rfl ?_
          refine hJ.forget (ls2 := [some (.inr (8, (some x0))), some (.inl x1), none, some (.inl r14), some (.inl (0 : Int32))]) ⟨rfl, rfl, rfl, rfl, trivial⟩ ?_
          refine t_X8_part_66 hJ (by decide) (by decide) (fun h54 hF => ?_) FU _ _ hF
          refine hJ.iload_n (i := 3) dX8_part_134 rfl rfl ?_
          obtain ⟨rfl, rfl⟩ := ret_S hF
          exact hR dX8_part_135 (by decide) (by decide)
        · replace hF := ite_T e10 hF
          refine hJ.iconst (v := -1) dX8_part_33 (by decide) ?_
          obtain ⟨rfl, rfl⟩ := ret_S hF
          exact hR dX8_part_34 (by decide) (by decide)

set_option maxHeartbeats 4000000 in
set_option maxRecDepth 100000 in
theorem c_X8_lays {x0 : Nat} {x1 : Int32} {x2 : Int32} {h hh : Hp} {xr : Unit} (hF : F_X8_lays x0 x1 x2 h = some (xr, hh)) : Ctr yX8_lays cX8_lays 3 none 0 0 0 [.inr (8, (some x0)), .inl x1, .inl x2] h none hh := by
  refine Ctr_v (own := RX8) (ini := False) (ls0 := [some (.inr (8, (some x0))), some (.inl x1), some (.inl x2)]) (by decide) rfl (Nat.le_of_ble_eq_true rfl) (fun e => e.elim) rfl ?_
  intro J hJ hR
  unfold F_X8_lays at hF
  refine hJ.aload_n (i := 0) dX8_lays_0 rfl rfl ?_
  refine hJ.getR dX8_lays_1 f_RX8_50 rfl ?_
  refine hJ.iload_n (i := 1) dX8_lays_4 rfl rfl ?_
  refine hJ.iconst (v := 0) dX8_lays_5 (by decide) ?_
  replace hF := nn_S hF
  obtain ⟨n1, e2, hF⟩ := hF
  rw [e2]
  replace hF := ck_S hF
  obtain ⟨c3, hF⟩ := hF
  replace hF := lt_S hF
  obtain ⟨h4, eh5, hF⟩ := hF
  refine hJ.iast dX8_lays_6 a_38 rfl c3 ?_
  rw [← eh5]
  refine hJ.aload_n (i := 0) dX8_lays_7 rfl rfl ?_
  refine hJ.getR dX8_lays_8 f_RX8_53 rfl ?_
  refine hJ.iload_n (i := 1) dX8_lays_11 rfl rfl ?_
  refine hJ.iload_n (i := 2) dX8_lays_12 rfl rfl ?_
  replace hF := nn_S hF
  obtain ⟨n6, e7, hF⟩ := hF
  rw [e7]
  replace hF := ck_S hF
  obtain ⟨c8, hF⟩ := hF
  replace hF := lt_S hF
  obtain ⟨h9, eh10, hF⟩ := hF
  refine hJ.iast dX8_lays_13 a_39 rfl c8 ?_
  rw [← eh10]
  refine hJ.aload_n (i := 0) dX8_lays_14 rfl rfl ?_
  refine hJ.getR dX8_lays_15 f_RX8_56 rfl ?_
  refine hJ.iload_n (i := 1) dX8_lays_18 rfl rfl ?_
  refine hJ.iconst (v := -1) dX8_lays_19 (by decide) ?_
  replace hF := nn_S hF
  obtain ⟨n11, e12, hF⟩ := hF
  rw [e12]
  replace hF := ck_S hF
  obtain ⟨c13, hF⟩ := hF
  replace hF := lt_S hF
  obtain ⟨h14, eh15, hF⟩ := hF
  refine hJ.iast dX8_lays_20 a_40 rfl c13 ?_
  rw [← eh15]
  obtain ⟨-, rfl⟩ := ret_S hF
  exact hR dX8_lays_21 (by decide) (by decide)

set_option maxHeartbeats 4000000 in
set_option maxRecDepth 100000 in
theorem t_X8_unbind_13 {β : Type} {J : JT} (hJ : Rules cX8_unbind RX8 3 2 0 0 False J) {a b : Nat} (ha : a ≤ 0) (hb : b ≤ 0) {v0 : Nat} {v1 : Int32} {κ47 : Hp → Option β} {out : β}
    (hk47 : ∀ (h : Hp), κ47 h = some out → J 47 [some (.inr (8, (some v0))), some (.inl v1), none] [] h a b)
    : ∀ (f : Nat) (v2 : Int32) (h : Hp), L_X8_unbind_13 v0 v1 κ47 f v2 h = some out → J 13 [some (.inr (8, (some v0))), some (.inl v1), some (.inl v2)] [] h a b := by
  intro f
  induction f with
  | zero => intro v2 h hF; simp [L_X8_unbind_13] at hF
  | succ f ih =>
    intro v2 h hF
    rw [L_X8_unbind_13] at hF
    refine hJ.iload_n (i := 2) dX8_unbind_13 rfl rfl ?_
    refine hJ.aload_n (i := 0) dX8_unbind_14 rfl rfl ?_
    refine hJ.getI dX8_unbind_15 f_RX8_148 rfl ?_
    refine hJ.icmp_ge (tgt := 47) dX8_unbind_18 (by decide) (fun e5 => ?_) (fun e5 => ?_)
    · replace hF := ite_T e5 hF
      refine hJ.forget (ls2 := [some (.inr (8, (some v0))), some (.inl v1), none]) ⟨rfl, rfl, trivial⟩ ?_
      exact hk47 h hF
    · replace hF := ite_F e5 hF
      refine hJ.aload_n (i := 0) dX8_unbind_21 rfl rfl ?_
      refine hJ.iload_n (i := 2) dX8_unbind_22 rfl rfl ?_
      refine hJ.iload_n (i := 1) dX8_unbind_23 rfl rfl ?_
      replace hF := cl_S hF
      obtain ⟨r6, h7, ec8, hF⟩ := hF
      refine hJ.callV (as := [.inl v2, .inl v1]) (st := []) dX8_unbind_24 w_RX8_180 ⟨by decide, rfl⟩ rfl (c_X8_isOf ec8) (by decide) ha hb rfl (Nat.le_of_ble_eq_true rfl) rfl ?_
      refine hJ.if_eq (tgt := 41) dX8_unbind_27 (by decide) (fun e9 => ?_) (fun e9 => ?_)
      · replace hF := ite_T e9 hF
        refine hJ.iinc (i := 2) (v := (v2 + (1 : Int32))) (ls2 := [some (.inr (8, (some v0))), some (.inl v1), some (.inl (v2 + (1 : Int32)))]) dX8_unbind_41 rfl (addI (by decide)) (by decide) rfl ?_
        refine hJ.goto (tgt := 13) dX8_unbind_44 (by decide) ?_
        refine hJ.forget (ls2 := [some (.inr (8, (some v0))), some (.inl v1), some (.inl (v2 + (1 : Int32)))]) ⟨rfl, rfl, rfl, trivial⟩ ?_
        exact ih (v2 + (1 : Int32)) h7 hF
      · replace hF := ite_F e9 hF
        refine hJ.aload_n (i := 0) dX8_unbind_30 rfl rfl ?_
        refine hJ.iload_n (i := 2) dX8_unbind_31 rfl rfl ?_
        refine hJ.aload_n (i := 0) dX8_unbind_32 rfl rfl ?_
        refine hJ.getR dX8_unbind_33 f_RX8_74 rfl ?_
        refine hJ.iload_n (i := 1) dX8_unbind_36 rfl rfl ?_
        replace hF := nn_S hF
        obtain ⟨n10, e11, hF⟩ := hF
        rw [e11]
        replace hF := ck_S hF
        obtain ⟨c12, hF⟩ := hF
        refine hJ.iald dX8_unbind_37 a_46 rfl c12 ?_
        replace hF := cl_S hF
        obtain ⟨r13, h14, ec15, hF⟩ := hF
        refine hJ.callV0 (as := [.inl v2, .inl (pI h7 46 n10 (v1).toNatClampNeg)]) (st := []) dX8_unbind_38 w_RX8_187 ⟨by decide, rfl⟩ rfl (c_X8_lays ec15) (by decide) ha hb rfl (Nat.le_of_ble_eq_true rfl) rfl ?_
        refine hJ.iinc (i := 2) (v := (v2 + (1 : Int32))) (ls2 := [some (.inr (8, (some v0))), some (.inl v1), some (.inl (v2 + (1 : Int32)))]) dX8_unbind_41 rfl (addI (by decide)) (by decide) rfl ?_
        refine hJ.goto (tgt := 13) dX8_unbind_44 (by decide) ?_
        refine hJ.forget (ls2 := [some (.inr (8, (some v0))), some (.inl v1), some (.inl (v2 + (1 : Int32)))]) ⟨rfl, rfl, rfl, trivial⟩ ?_
        exact ih (v2 + (1 : Int32)) h14 hF

set_option maxHeartbeats 4000000 in
set_option maxRecDepth 100000 in
theorem c_X8_unbind {x0 : Nat} {x1 : Int32} {h hh : Hp} {xr : Int32} (hF : F_X8_unbind x0 x1 h = some (xr, hh)) : Ctr yX8_unbind cX8_unbind 3 (some .boolean) 2 0 0 [.inr (8, (some x0)), .inl x1] h (some (.inl xr)) hh := by
  refine Ctr_z (own := RX8) (ini := False) (ls0 := [some (.inr (8, (some x0))), some (.inl x1), none]) (by decide) rfl (Nat.le_of_ble_eq_true rfl) (fun e => e.elim) rfl ?_
  intro J hJ hR
  unfold F_X8_unbind at hF
  refine hJ.aload_n (i := 0) dX8_unbind_0 rfl rfl ?_
  refine hJ.iload_n (i := 1) dX8_unbind_1 rfl rfl ?_
  refine hJ.iconst (v := 0) dX8_unbind_2 (by decide) ?_
  replace hF := cl_S hF
  obtain ⟨r1, h2, ec3, hF⟩ := hF
  refine hJ.callV (as := [.inl x1, .inl (0 : Int32)]) (st := []) dX8_unbind_3 w_RX8_176 ⟨by decide, rfl⟩ rfl (c_X8_isRaft ec3) (by decide) (by decide) (by decide) rfl (Nat.le_of_ble_eq_true rfl) rfl ?_
  refine hJ.if_ne (tgt := 11) dX8_unbind_6 (by decide) (fun e4 => ?_) (fun e4 => ?_)
  · replace hF := ite_F e4 hF
    refine hJ.iconst (v := 0) dX8_unbind_11 (by decide) ?_
    refine hJ.istore_n (i := 2) (ls2 := [some (.inr (8, (some x0))), some (.inl x1), some (.inl (0 : Int32))]) dX8_unbind_12 rfl (by decide) rfl ?_
    refine hJ.forget (ls2 := [some (.inr (8, (some x0))), some (.inl x1), some (.inl (0 : Int32))]) ⟨rfl, rfl, rfl, trivial⟩ ?_
    refine t_X8_unbind_13 hJ (by decide) (by decide) (fun h16 hF => ?_) FU _ _ hF
    refine hJ.aload_n (i := 0) dX8_unbind_47 rfl rfl ?_
    refine hJ.iload_n (i := 1) dX8_unbind_48 rfl rfl ?_
    replace hF := cl_S hF
    obtain ⟨r17, h18, ec19, hF⟩ := hF
    refine hJ.callV0 (as := [.inl x1]) (st := []) dX8_unbind_49 w_RX8_183 ⟨by decide, rfl⟩ rfl (c_X8_ends ec19) (by decide) (by decide) (by decide) rfl (Nat.le_of_ble_eq_true rfl) rfl ?_
    refine hJ.iconst (v := 1) dX8_unbind_52 (by decide) ?_
    obtain ⟨rfl, rfl⟩ := ret_S hF
    exact hR dX8_unbind_53 (by decide) (by decide) (by decide)
  · replace hF := ite_T e4 hF
    refine hJ.iconst (v := 0) dX8_unbind_9 (by decide) ?_
    obtain ⟨rfl, rfl⟩ := ret_S hF
    exact hR dX8_unbind_10 (by decide) (by decide) (by decide)

set_option maxHeartbeats 4000000 in
set_option maxRecDepth 100000 in
theorem t_X8_many_4 {β : Type} {J : JT} (hJ : Rules cX8_many RX8 4 1 0 0 False J) {a b : Nat} (ha : a ≤ 0) (hb : b ≤ 0) {v0 : Nat} {v1 : Int32} {κ35 : Int32 → Hp → Option β} {out : β}
    (hk35 : ∀ (k2 : Int32) (h : Hp), κ35 k2 h = some out → J 35 [none, none, some (.inl k2), none] [] h a b)
    : ∀ (f : Nat) (v2 : Int32) (v3 : Int32) (h : Hp), L_X8_many_4 v0 v1 κ35 f v2 v3 h = some out → J 4 [some (.inr (8, (some v0))), some (.inl v1), some (.inl v2), some (.inl v3)] [] h a b := by
  intro f
  induction f with
  | zero => intro v2 v3 h hF; simp [L_X8_many_4] at hF
  | succ f ih =>
    intro v2 v3 h hF
    rw [L_X8_many_4] at hF
    refine hJ.iload_n (i := 3) dX8_many_4 rfl rfl ?_
    refine hJ.aload_n (i := 0) dX8_many_5 rfl rfl ?_
    refine hJ.getI dX8_many_6 f_RX8_148 rfl ?_
    refine hJ.icmp_ge (tgt := 35) dX8_many_9 (by decide) (fun e1 => ?_) (fun e1 => ?_)
    · replace hF := ite_T e1 hF
      refine hJ.forget (ls2 := [none, none, some (.inl v2), none]) ⟨rfl, trivial⟩ ?_
      exact hk35 v2 h hF
    · replace hF := ite_F e1 hF
      refine hJ.iload_n (i := 2) dX8_many_12 rfl rfl ?_
      refine hJ.aload_n (i := 0) dX8_many_13 rfl rfl ?_
      refine hJ.iload_n (i := 3) dX8_many_14 rfl rfl ?_
      refine hJ.iload_n (i := 1) dX8_many_15 rfl rfl ?_
      replace hF := cl_S hF
      obtain ⟨r2, h3, ec4, hF⟩ := hF
      refine hJ.callV (as := [.inl v3, .inl v1]) (st := [.inl v2]) dX8_many_16 w_RX8_180 ⟨by decide, rfl⟩ rfl (c_X8_isOf ec4) (by decide) ha hb rfl (Nat.le_of_ble_eq_true rfl) rfl ?_
      refine hJ.if_eq (tgt := 26) dX8_many_19 (by decide) (fun e5 => ?_) (fun e5 => ?_)
      · replace hF := ite_T e5 hF
        refine hJ.iconst (v := 0) dX8_many_26 (by decide) ?_
        refine hJ.iadd dX8_many_27 ?_
        refine hJ.istore_n (i := 2) (ls2 := [some (.inr (8, (some v0))), some (.inl v1), some (.inl (v2 + (0 : Int32))), some (.inl v3)]) dX8_many_28 rfl (by decide) rfl ?_
        refine hJ.iinc (i := 3) (v := (v3 + (1 : Int32))) (ls2 := [some (.inr (8, (some v0))), some (.inl v1), some (.inl (v2 + (0 : Int32))), some (.inl (v3 + (1 : Int32)))]) dX8_many_29 rfl (addI (by decide)) (by decide) rfl ?_
        refine hJ.goto (tgt := 4) dX8_many_32 (by decide) ?_
        refine hJ.forget (ls2 := [some (.inr (8, (some v0))), some (.inl v1), some (.inl (v2 + (0 : Int32))), some (.inl (v3 + (1 : Int32)))]) ⟨rfl, rfl, rfl, rfl, trivial⟩ ?_
        exact ih (v2 + (0 : Int32)) (v3 + (1 : Int32)) h3 hF
      · replace hF := ite_F e5 hF
        refine hJ.iconst (v := 1) dX8_many_22 (by decide) ?_
        refine hJ.goto (tgt := 27) dX8_many_23 (by decide) ?_
        refine hJ.iadd dX8_many_27 ?_
        refine hJ.istore_n (i := 2) (ls2 := [some (.inr (8, (some v0))), some (.inl v1), some (.inl (v2 + (1 : Int32))), some (.inl v3)]) dX8_many_28 rfl (by decide) rfl ?_
        refine hJ.iinc (i := 3) (v := (v3 + (1 : Int32))) (ls2 := [some (.inr (8, (some v0))), some (.inl v1), some (.inl (v2 + (1 : Int32))), some (.inl (v3 + (1 : Int32)))]) dX8_many_29 rfl (addI (by decide)) (by decide) rfl ?_
        refine hJ.goto (tgt := 4) dX8_many_32 (by decide) ?_
        refine hJ.forget (ls2 := [some (.inr (8, (some v0))), some (.inl v1), some (.inl (v2 + (1 : Int32))), some (.inl (v3 + (1 : Int32)))]) ⟨rfl, rfl, rfl, rfl, trivial⟩ ?_
        exact ih (v2 + (1 : Int32)) (v3 + (1 : Int32)) h3 hF

set_option maxHeartbeats 4000000 in
set_option maxRecDepth 100000 in
theorem c_X8_many {x0 : Nat} {x1 : Int32} {h hh : Hp} {xr : Int32} (hF : F_X8_many x0 x1 h = some (xr, hh)) : Ctr yX8_many cX8_many 4 (some .int) 1 0 0 [.inr (8, (some x0)), .inl x1] h (some (.inl xr)) hh := by
  refine Ctr_i (own := RX8) (ini := False) (ls0 := [some (.inr (8, (some x0))), some (.inl x1), none, none]) (by decide) rfl (Nat.le_of_ble_eq_true rfl) (fun e => e.elim) rfl ?_
  intro J hJ hR
  unfold F_X8_many at hF
  refine hJ.iconst (v := 0) dX8_many_0 (by decide) ?_
  refine hJ.istore_n (i := 2) (ls2 := [some (.inr (8, (some x0))), some (.inl x1), some (.inl (0 : Int32)), none]) dX8_many_1 rfl (by decide) rfl ?_
  refine hJ.iconst (v := 0) dX8_many_2 (by decide) ?_
  refine hJ.istore_n (i := 3) (ls2 := [some (.inr (8, (some x0))), some (.inl x1), some (.inl (0 : Int32)), some (.inl (0 : Int32))]) dX8_many_3 rfl (by decide) rfl ?_
  refine hJ.forget (ls2 := [some (.inr (8, (some x0))), some (.inl x1), some (.inl (0 : Int32)), some (.inl (0 : Int32))]) ⟨rfl, rfl, rfl, rfl, trivial⟩ ?_
  refine t_X8_many_4 hJ (by decide) (by decide) (fun k6 h7 hF => ?_) FU _ _ _ hF
  refine hJ.iload_n (i := 2) dX8_many_35 rfl rfl ?_
  obtain ⟨rfl, rfl⟩ := ret_S hF
  exact hR dX8_many_36 (by decide) (by decide)

set_option maxHeartbeats 4000000 in
set_option maxRecDepth 100000 in
theorem t_X8_width_20 {β : Type} {J : JT} (hJ : Rules cX8_width RX8 6 1 0 0 False J) {a b : Nat} (ha : a ≤ 0) (hb : b ≤ 0) {v0 : Nat} {v1 : Int32} {v2 : Int32} {v3 : Int32} {κ72 : Int32 → Hp → Option β} {out : β}
    (hk72 : ∀ (k4 : Int32) (h : Hp), κ72 k4 h = some out → J 72 [some (.inr (8, (some v0))), some (.inl v1), some (.inl v2), some (.inl v3), some (.inl k4), none] [] h a b)
    : ∀ (f : Nat) (v4 : Int32) (v5 : Int32) (h : Hp), L_X8_width_20 v0 v1 v2 v3 κ72 f v4 v5 h = some out → J 20 [some (.inr (8, (some v0))), some (.inl v1), some (.inl v2), some (.inl v3), some (.inl v4), some (.inl v5)] [] h a b := by
  intro f
  induction f with
  | zero => intro v4 v5 h hF; simp [L_X8_width_20] at hF
  | succ f ih =>
    intro v4 v5 h hF
    rw [L_X8_width_20] at hF
    refine hJ.iload (i := 5) dX8_width_20 rfl ?_
    refine hJ.aload_n (i := 0) dX8_width_22 rfl rfl ?_
    refine hJ.getI dX8_width_23 f_RX8_148 rfl ?_
    refine hJ.icmp_ge (tgt := 72) dX8_width_26 (by decide) (fun e5 => ?_) (fun e5 => ?_)
    · replace hF := ite_T e5 hF
      refine hJ.forget (ls2 := [some (.inr (8, (some v0))), some (.inl v1), some (.inl v2), some (.inl v3), some (.inl v4), none]) ⟨rfl, rfl, rfl, rfl, rfl, trivial⟩ ?_
      exact hk72 v4 h hF
    · replace hF := ite_F e5 hF
      refine hJ.iload (i := 4) dX8_width_29 rfl ?_
      refine hJ.aload_n (i := 0) dX8_width_31 rfl rfl ?_
      refine hJ.iload (i := 5) dX8_width_32 rfl ?_
      refine hJ.iload_n (i := 1) dX8_width_34 rfl rfl ?_
      replace hF := cl_S hF
      obtain ⟨r6, h7, ec8, hF⟩ := hF
      refine hJ.callV (as := [.inl v5, .inl v1]) (st := [.inl v4]) dX8_width_35 w_RX8_180 ⟨by decide, rfl⟩ rfl (c_X8_isOf ec8) (by decide) ha hb rfl (Nat.le_of_ble_eq_true rfl) rfl ?_
      refine hJ.if_eq (tgt := 62) dX8_width_38 (by decide) (fun e9 => ?_) (fun e9 => ?_)
      · replace hF := ite_T e9 hF
        refine hJ.iconst (v := 0) dX8_width_62 (by decide) ?_
        refine hJ.iadd dX8_width_63 ?_
        refine hJ.istore (i := 4) (ls2 := [some (.inr (8, (some v0))), some (.inl v1), some (.inl v2), some (.inl v3), some (.inl (v4 + (0 : Int32))), some (.inl v5)]) dX8_width_64 (by decide) rfl ?_
        refine hJ.iinc (i := 5) (v := (v5 + (1 : Int32))) (ls2 := [some (.inr (8, (some v0))), some (.inl v1), some (.inl v2), some (.inl v3), some (.inl (v4 + (0 : Int32))), some (.inl (v5 + (1 : Int32)))]) dX8_width_66 rfl (addI (by decide)) (by decide) rfl ?_
        refine hJ.goto (tgt := 20) dX8_width_69 (by decide) ?_
        refine hJ.forget (ls2 := [some (.inr (8, (some v0))), some (.inl v1), some (.inl v2), some (.inl v3), some (.inl (v4 + (0 : Int32))), some (.inl (v5 + (1 : Int32)))]) ⟨rfl, rfl, rfl, rfl, rfl, rfl, trivial⟩ ?_
        exact ih (v4 + (0 : Int32)) (v5 + (1 : Int32)) h7 hF
      · replace hF := ite_F e9 hF
        refine hJ.aload_n (i := 0) dX8_width_41 rfl rfl ?_
        refine hJ.getR dX8_width_42 f_RX8_59 rfl ?_
        refine hJ.iload (i := 5) dX8_width_45 rfl ?_
        replace hF := nn_S hF
        obtain ⟨n10, e11, hF⟩ := hF
        rw [e11]
        replace hF := ck_S hF
        obtain ⟨c12, hF⟩ := hF
        refine hJ.iald dX8_width_47 a_41 rfl c12 ?_
        refine hJ.iload_n (i := 3) dX8_width_48 rfl rfl ?_
        refine hJ.icmp_ne (tgt := 62) dX8_width_49 (by decide) (fun e13 => ?_) (fun e13 => ?_)
        · replace hF := ite_F e13 hF
          refine hJ.iconst (v := 0) dX8_width_62 (by decide) ?_
          refine hJ.iadd dX8_width_63 ?_
          refine hJ.istore (i := 4) (ls2 := [some (.inr (8, (some v0))), some (.inl v1), some (.inl v2), some (.inl v3), some (.inl (v4 + (0 : Int32))), some (.inl v5)]) dX8_width_64 (by decide) rfl ?_
          refine hJ.iinc (i := 5) (v := (v5 + (1 : Int32))) (ls2 := [some (.inr (8, (some v0))), some (.inl v1), some (.inl v2), some (.inl v3), some (.inl (v4 + (0 : Int32))), some (.inl (v5 + (1 : Int32)))]) dX8_width_66 rfl (addI (by decide)) (by decide) rfl ?_
          refine hJ.goto (tgt := 20) dX8_width_69 (by decide) ?_
          refine hJ.forget (ls2 := [some (.inr (8, (some v0))), some (.inl v1), some (.inl v2), some (.inl v3), some (.inl (v4 + (0 : Int32))), some (.inl (v5 + (1 : Int32)))]) ⟨rfl, rfl, rfl, rfl, rfl, rfl, trivial⟩ ?_
          exact ih (v4 + (0 : Int32)) (v5 + (1 : Int32)) h7 hF
        · replace hF := ite_T e13 hF
          refine hJ.aload_n (i := 0) dX8_width_52 rfl rfl ?_
          refine hJ.getR dX8_width_53 f_RX8_47 rfl ?_
          refine hJ.iload (i := 5) dX8_width_56 rfl ?_
          replace hF := nn_S hF
          obtain ⟨n14, e15, hF⟩ := hF
          rw [e15]
          replace hF := ck_S hF
          obtain ⟨c16, hF⟩ := hF
          refine hJ.iald dX8_width_58 a_37 rfl c16 ?_
          refine hJ.goto (tgt := 63) dX8_width_59 (by decide) ?_
          refine hJ.iadd dX8_width_63 ?_
          refine hJ.istore (i := 4) (ls2 := [some (.inr (8, (some v0))), some (.inl v1), some (.inl v2), some (.inl v3), some (.inl (v4 + (pI h7 37 n14 (v5).toNatClampNeg))), some (.inl v5)]) dX8_width_64 (by decide) rfl ?_
          refine hJ.iinc (i := 5) (v := (v5 + (1 : Int32))) (ls2 := [some (.inr (8, (some v0))), some (.inl v1), some (.inl v2), some (.inl v3), some (.inl (v4 + (pI h7 37 n14 (v5).toNatClampNeg))), some (.inl (v5 + (1 : Int32)))]) dX8_width_66 rfl (addI (by decide)) (by decide) rfl ?_
          refine hJ.goto (tgt := 20) dX8_width_69 (by decide) ?_
          refine hJ.forget (ls2 := [some (.inr (8, (some v0))), some (.inl v1), some (.inl v2), some (.inl v3), some (.inl (v4 + (pI h7 37 n14 (v5).toNatClampNeg))), some (.inl (v5 + (1 : Int32)))]) ⟨rfl, rfl, rfl, rfl, rfl, rfl, trivial⟩ ?_
          exact ih (v4 + (pI h7 37 n14 (v5).toNatClampNeg)) (v5 + (1 : Int32)) h7 hF

set_option maxHeartbeats 4000000 in
set_option maxRecDepth 100000 in
theorem t_X8_width_4 {β : Type} {J : JT} (hJ : Rules cX8_width RX8 6 1 0 0 False J) {a b : Nat} (ha : a ≤ 0) (hb : b ≤ 0) {v0 : Nat} {v1 : Int32} {κ87 : Int32 → Hp → Option β} {out : β}
    (hk87 : ∀ (k2 : Int32) (h : Hp), κ87 k2 h = some out → J 87 [none, none, some (.inl k2), none, none, none] [] h a b)
    : ∀ (f : Nat) (v2 : Int32) (v3 : Int32) (h : Hp), L_X8_width_4 v0 v1 κ87 f v2 v3 h = some out → J 4 [some (.inr (8, (some v0))), some (.inl v1), some (.inl v2), some (.inl v3), none, none] [] h a b := by
  intro f
  induction f with
  | zero => intro v2 v3 h hF; simp [L_X8_width_4] at hF
  | succ f ih =>
    intro v2 v3 h hF
    rw [L_X8_width_4] at hF
    refine hJ.iload_n (i := 3) dX8_width_4 rfl rfl ?_
    refine hJ.aload_n (i := 0) dX8_width_5 rfl rfl ?_
    refine hJ.getR dX8_width_6 f_RX8_77 rfl ?_
    refine hJ.iload_n (i := 1) dX8_width_9 rfl rfl ?_
    replace hF := nn_S hF
    obtain ⟨n1, e2, hF⟩ := hF
    rw [e2]
    replace hF := ck_S hF
    obtain ⟨c3, hF⟩ := hF
    refine hJ.iald dX8_width_10 a_47 rfl c3 ?_
    refine hJ.icmp_ge (tgt := 87) dX8_width_11 (by decide) (fun e4 => ?_) (fun e4 => ?_)
    · replace hF := ite_T e4 hF
      refine hJ.forget (ls2 := [none, none, some (.inl v2), none, none, none]) ⟨rfl, trivial⟩ ?_
      exact hk87 v2 h hF
    · replace hF := ite_F e4 hF
      refine hJ.iconst (v := 0) dX8_width_14 (by decide) ?_
      refine hJ.istore (i := 4) (ls2 := [some (.inr (8, (some v0))), some (.inl v1), some (.inl v2), some (.inl v3), some (.inl (0 : Int32)), none]) dX8_width_15 (by decide) rfl ?_
      refine hJ.iconst (v := 0) dX8_width_17 (by decide) ?_
      refine hJ.istore (i := 5) (ls2 := [some (.inr (8, (some v0))), some (.inl v1), some (.inl v2), some (.inl v3), some (.inl (0 : Int32)), some (.inl (0 : Int32))]) dX8_width_18 (by decide) rfl ?_
      refine hJ.forget (ls2 := [some (.inr (8, (some v0))), some (.inl v1), some (.inl v2), some (.inl v3), some (.inl (0 : Int32)), some (.inl (0 : Int32))]) ⟨rfl, rfl, rfl, rfl, rfl, rfl, trivial⟩ ?_
      refine t_X8_width_20 hJ ha hb (fun k17 h18 hF => ?_) FU _ _ _ hF
      refine hJ.iload (i := 4) dX8_width_72 rfl ?_
      refine hJ.iload_n (i := 2) dX8_width_74 rfl rfl ?_
      refine hJ.icmp_le (tgt := 81) dX8_width_75 (by decide) (fun e19 => ?_) (fun e19 => ?_)
      · replace hF := ite_T e19 hF
        refine hJ.iinc (i := 3) (v := (v3 + (1 : Int32))) (ls2 := [some (.inr (8, (some v0))), some (.inl v1), some (.inl v2), some (.inl (v3 + (1 : Int32))), some (.inl k17), none]) dX8_width_81 rfl (addI (by decide)) (by decide) rfl ?_
        refine hJ.goto (tgt := 4) dX8_width_84 (by decide) ?_
        refine hJ.forget (ls2 := [some (.inr (8, (some v0))), some (.inl v1), some (.inl v2), some (.inl (v3 + (1 : Int32))), none, none]) ⟨rfl, rfl, rfl, rfl, trivial⟩ ?_
        exact ih v2 (v3 + (1 : Int32)) h18 hF
      · replace hF := ite_F e19 hF
        refine hJ.iload (i := 4) dX8_width_78 rfl ?_
        refine hJ.istore_n (i := 2) (ls2 := [some (.inr (8, (some v0))), some (.inl v1), some (.inl k17), some (.inl v3), some (.inl k17), none]) dX8_width_80 rfl (by decide) rfl ?_
        refine hJ.iinc (i := 3) (v := (v3 + (1 : Int32))) (ls2 := [some (.inr (8, (some v0))), some (.inl v1), some (.inl k17), some (.inl (v3 + (1 : Int32))), some (.inl k17), none]) dX8_width_81 rfl (addI (by decide)) (by decide) rfl ?_
        refine hJ.goto (tgt := 4) dX8_width_84 (by decide) ?_
        refine hJ.forget (ls2 := [some (.inr (8, (some v0))), some (.inl v1), some (.inl k17), some (.inl (v3 + (1 : Int32))), none, none]) ⟨rfl, rfl, rfl, rfl, trivial⟩ ?_
        exact ih k17 (v3 + (1 : Int32)) h18 hF

set_option maxHeartbeats 4000000 in
set_option maxRecDepth 100000 in
theorem c_X8_width {x0 : Nat} {x1 : Int32} {h hh : Hp} {xr : Int32} (hF : F_X8_width x0 x1 h = some (xr, hh)) : Ctr yX8_width cX8_width 6 (some .int) 1 0 0 [.inr (8, (some x0)), .inl x1] h (some (.inl xr)) hh := by
  refine Ctr_i (own := RX8) (ini := False) (ls0 := [some (.inr (8, (some x0))), some (.inl x1), none, none, none, none]) (by decide) rfl (Nat.le_of_ble_eq_true rfl) (fun e => e.elim) rfl ?_
  intro J hJ hR
  unfold F_X8_width at hF
  refine hJ.iconst (v := 0) dX8_width_0 (by decide) ?_
  refine hJ.istore_n (i := 2) (ls2 := [some (.inr (8, (some x0))), some (.inl x1), some (.inl (0 : Int32)), none, none, none]) dX8_width_1 rfl (by decide) rfl ?_
  refine hJ.iconst (v := 0) dX8_width_2 (by decide) ?_
  refine hJ.istore_n (i := 3) (ls2 := [some (.inr (8, (some x0))), some (.inl x1), some (.inl (0 : Int32)), some (.inl (0 : Int32)), none, none]) dX8_width_3 rfl (by decide) rfl ?_
  refine hJ.forget (ls2 := [some (.inr (8, (some x0))), some (.inl x1), some (.inl (0 : Int32)), some (.inl (0 : Int32)), none, none]) ⟨rfl, rfl, rfl, rfl, trivial⟩ ?_
  refine t_X8_width_4 hJ (by decide) (by decide) (fun k20 h21 hF => ?_) FU _ _ _ hF
  refine hJ.iload_n (i := 2) dX8_width_87 rfl rfl ?_
  obtain ⟨rfl, rfl⟩ := ret_S hF
  exact hR dX8_width_88 (by decide) (by decide)

set_option maxHeartbeats 4000000 in
set_option maxRecDepth 100000 in
theorem t_X8_first_2 {β : Type} {J : JT} (hJ : Rules cX8_first RX8 3 1 0 0 False J) {a b : Nat} (ha : a ≤ 0) (hb : b ≤ 0) {v0 : Nat} {v1 : Int32} {κ45 : Hp → Option β} {κ37 : Int32 → Hp → Option β} {out : β}
    (hk45 : ∀ (h : Hp), κ45 h = some out → J 45 [none, none, none] [] h a b)
    (hk37 : ∀ (k2 : Int32) (h : Hp), κ37 k2 h = some out → J 37 [none, none, some (.inl k2)] [] h a b)
    : ∀ (f : Nat) (v2 : Int32) (h : Hp), L_X8_first_2 v0 v1 κ45 κ37 f v2 h = some out → J 2 [some (.inr (8, (some v0))), some (.inl v1), some (.inl v2)] [] h a b := by
  intro f
  induction f with
  | zero => intro v2 h hF; simp [L_X8_first_2] at hF
  | succ f ih =>
    intro v2 h hF
    rw [L_X8_first_2] at hF
    refine hJ.iload_n (i := 2) dX8_first_2 rfl rfl ?_
    refine hJ.aload_n (i := 0) dX8_first_3 rfl rfl ?_
    refine hJ.getI dX8_first_4 f_RX8_148 rfl ?_
    refine hJ.icmp_ge (tgt := 45) dX8_first_7 (by decide) (fun e1 => ?_) (fun e1 => ?_)
    · replace hF := ite_T e1 hF
      refine hJ.forget (ls2 := [none, none, none]) trivial ?_
      exact hk45 h hF
    · replace hF := ite_F e1 hF
      refine hJ.aload_n (i := 0) dX8_first_10 rfl rfl ?_
      refine hJ.iload_n (i := 2) dX8_first_11 rfl rfl ?_
      refine hJ.iload_n (i := 1) dX8_first_12 rfl rfl ?_
      replace hF := cl_S hF
      obtain ⟨r2, h3, ec4, hF⟩ := hF
      refine hJ.callV (as := [.inl v2, .inl v1]) (st := []) dX8_first_13 w_RX8_180 ⟨by decide, rfl⟩ rfl (c_X8_isOf ec4) (by decide) ha hb rfl (Nat.le_of_ble_eq_true rfl) rfl ?_
      refine hJ.if_eq (tgt := 39) dX8_first_16 (by decide) (fun e5 => ?_) (fun e5 => ?_)
      · replace hF := ite_T e5 hF
        refine hJ.iinc (i := 2) (v := (v2 + (1 : Int32))) (ls2 := [some (.inr (8, (some v0))), some (.inl v1), some (.inl (v2 + (1 : Int32)))]) dX8_first_39 rfl (addI (by decide)) (by decide) rfl ?_
        refine hJ.goto (tgt := 2) dX8_first_42 (by decide) ?_
        refine hJ.forget (ls2 := [some (.inr (8, (some v0))), some (.inl v1), some (.inl (v2 + (1 : Int32)))]) ⟨rfl, rfl, rfl, trivial⟩ ?_
        exact ih (v2 + (1 : Int32)) h3 hF
      · replace hF := ite_F e5 hF
        refine hJ.aload_n (i := 0) dX8_first_19 rfl rfl ?_
        refine hJ.getR dX8_first_20 f_RX8_59 rfl ?_
        refine hJ.iload_n (i := 2) dX8_first_23 rfl rfl ?_
        replace hF := nn_S hF
        obtain ⟨n6, e7, hF⟩ := hF
        rw [e7]
        replace hF := ck_S hF
        obtain ⟨c8, hF⟩ := hF
        refine hJ.iald dX8_first_24 a_41 rfl c8 ?_
        refine hJ.if_ne (tgt := 39) dX8_first_25 (by decide) (fun e9 => ?_) (fun e9 => ?_)
        · replace hF := ite_F e9 hF
          refine hJ.iinc (i := 2) (v := (v2 + (1 : Int32))) (ls2 := [some (.inr (8, (some v0))), some (.inl v1), some (.inl (v2 + (1 : Int32)))]) dX8_first_39 rfl (addI (by decide)) (by decide) rfl ?_
          refine hJ.goto (tgt := 2) dX8_first_42 (by decide) ?_
          refine hJ.forget (ls2 := [some (.inr (8, (some v0))), some (.inl v1), some (.inl (v2 + (1 : Int32)))]) ⟨rfl, rfl, rfl, trivial⟩ ?_
          exact ih (v2 + (1 : Int32)) h3 hF
        · replace hF := ite_T e9 hF
          refine hJ.aload_n (i := 0) dX8_first_28 rfl rfl ?_
          refine hJ.getR dX8_first_29 f_RX8_62 rfl ?_
          refine hJ.iload_n (i := 2) dX8_first_32 rfl rfl ?_
          replace hF := nn_S hF
          obtain ⟨n10, e11, hF⟩ := hF
          rw [e11]
          replace hF := ck_S hF
          obtain ⟨c12, hF⟩ := hF
          refine hJ.iald dX8_first_33 a_42 rfl c12 ?_
          refine hJ.if_ne (tgt := 39) dX8_first_34 (by decide) (fun e13 => ?_) (fun e13 => ?_)
          · replace hF := ite_F e13 hF
            refine hJ.iinc (i := 2) (v := (v2 + (1 : Int32))) (ls2 := [some (.inr (8, (some v0))), some (.inl v1), some (.inl (v2 + (1 : Int32)))]) dX8_first_39 rfl (addI (by decide)) (by decide) rfl ?_
            refine hJ.goto (tgt := 2) dX8_first_42 (by decide) ?_
            refine hJ.forget (ls2 := [some (.inr (8, (some v0))), some (.inl v1), some (.inl (v2 + (1 : Int32)))]) ⟨rfl, rfl, rfl, trivial⟩ ?_
            exact ih (v2 + (1 : Int32)) h3 hF
          · replace hF := ite_T e13 hF
            refine hJ.forget (ls2 := [none, none, some (.inl v2)]) ⟨rfl, trivial⟩ ?_
            exact hk37 v2 h3 hF

set_option maxHeartbeats 4000000 in
set_option maxRecDepth 100000 in
theorem c_X8_first {x0 : Nat} {x1 : Int32} {h hh : Hp} {xr : Int32} (hF : F_X8_first x0 x1 h = some (xr, hh)) : Ctr yX8_first cX8_first 3 (some .int) 1 0 0 [.inr (8, (some x0)), .inl x1] h (some (.inl xr)) hh := by
  refine Ctr_i (own := RX8) (ini := False) (ls0 := [some (.inr (8, (some x0))), some (.inl x1), none]) (by decide) rfl (Nat.le_of_ble_eq_true rfl) (fun e => e.elim) rfl ?_
  intro J hJ hR
  unfold F_X8_first at hF
  refine hJ.iconst (v := 0) dX8_first_0 (by decide) ?_
  refine hJ.istore_n (i := 2) (ls2 := [some (.inr (8, (some x0))), some (.inl x1), some (.inl (0 : Int32))]) dX8_first_1 rfl (by decide) rfl ?_
  refine hJ.forget (ls2 := [some (.inr (8, (some x0))), some (.inl x1), some (.inl (0 : Int32))]) ⟨rfl, rfl, rfl, trivial⟩ ?_
  refine t_X8_first_2 hJ (by decide) (by decide) (fun h14 hF => ?_) (fun k15 h16 hF => ?_) FU _ _ hF
  · refine hJ.iconst (v := -1) dX8_first_45 (by decide) ?_
    obtain ⟨rfl, rfl⟩ := ret_S hF
    exact hR dX8_first_46 (by decide) (by decide)
  · refine hJ.iload_n (i := 2) dX8_first_37 rfl rfl ?_
    obtain ⟨rfl, rfl⟩ := ret_S hF
    exact hR dX8_first_38 (by decide) (by decide)

set_option maxHeartbeats 4000000 in
set_option maxRecDepth 100000 in
theorem c_X8_crew {x0 : Nat} {x1 : Int32} {h hh : Hp} {xr : Int32} (hF : F_X8_crew x0 x1 h = some (xr, hh)) : Ctr yX8_crew cX8_crew 2 (some .int) 2 0 0 [.inr (8, (some x0)), .inl x1] h (some (.inl xr)) hh := by
  refine Ctr_i (own := RX8) (ini := False) (ls0 := [some (.inr (8, (some x0))), some (.inl x1)]) (by decide) rfl (Nat.le_of_ble_eq_true rfl) (fun e => e.elim) rfl ?_
  intro J hJ hR
  unfold F_X8_crew at hF
  refine hJ.aload_n (i := 0) dX8_crew_0 rfl rfl ?_
  refine hJ.iload_n (i := 1) dX8_crew_1 rfl rfl ?_
  replace hF := cl_S hF
  obtain ⟨r1, h2, ec3, hF⟩ := hF
  refine hJ.callV (as := [.inl x1]) (st := []) dX8_crew_2 w_RX8_154 ⟨by decide, rfl⟩ rfl (c_X8_isStation ec3) (by decide) (by decide) (by decide) rfl (Nat.le_of_ble_eq_true rfl) rfl ?_
  refine hJ.if_eq (tgt := 17) dX8_crew_5 (by decide) (fun e4 => ?_) (fun e4 => ?_)
  · replace hF := ite_T e4 hF
    refine hJ.iconst (v := -1) dX8_crew_17 (by decide) ?_
    obtain ⟨rfl, rfl⟩ := ret_S hF
    exact hR dX8_crew_18 (by decide) (by decide)
  · replace hF := ite_F e4 hF
    refine hJ.aload_n (i := 0) dX8_crew_8 rfl rfl ?_
    refine hJ.getI dX8_crew_9 f_RX8_191 rfl ?_
    refine hJ.bipush (v := 10) dX8_crew_12 (by decide) ?_
    refine hJ.icmp_ne (tgt := 19) dX8_crew_14 (by decide) (fun e5 => ?_) (fun e5 => ?_)
    · replace hF := ite_F e5 hF
      refine hJ.aload_n (i := 0) dX8_crew_19 rfl rfl ?_
      refine hJ.getR dX8_crew_20 f_RX8_86 rfl ?_
      refine hJ.aload_n (i := 0) dX8_crew_23 rfl rfl ?_
      refine hJ.getI dX8_crew_24 f_RX8_191 rfl ?_
      refine hJ.iload_n (i := 1) dX8_crew_27 rfl rfl ?_
      replace hF := nn_S hF
      obtain ⟨n6, e7, hF⟩ := hF
      rw [e7]
      replace hF := ck_S hF
      obtain ⟨c8, hF⟩ := hF
      replace hF := lt_S hF
      obtain ⟨h9, eh10, hF⟩ := hF
      refine hJ.iast dX8_crew_28 a_50 rfl c8 ?_
      rw [← eh10]
      refine hJ.aload_n (i := 0) dX8_crew_29 rfl rfl ?_
      refine hJ.getR dX8_crew_30 f_RX8_92 rfl ?_
      refine hJ.aload_n (i := 0) dX8_crew_33 rfl rfl ?_
      refine hJ.getI dX8_crew_34 f_RX8_191 rfl ?_
      refine hJ.iload_n (i := 1) dX8_crew_37 rfl rfl ?_
      replace hF := nn_S hF
      obtain ⟨n11, e12, hF⟩ := hF
      rw [e12]
      replace hF := ck_S hF
      obtain ⟨c13, hF⟩ := hF
      replace hF := lt_S hF
      obtain ⟨h14, eh15, hF⟩ := hF
      refine hJ.iast dX8_crew_38 a_52 rfl c13 ?_
      rw [← eh15]
      refine hJ.aload_n (i := 0) dX8_crew_39 rfl rfl ?_
      refine hJ.getR dX8_crew_40 f_RX8_95 rfl ?_
      refine hJ.aload_n (i := 0) dX8_crew_43 rfl rfl ?_
      refine hJ.getI dX8_crew_44 f_RX8_191 rfl ?_
      refine hJ.aload_n (i := 0) dX8_crew_47 rfl rfl ?_
      refine hJ.getI dX8_crew_48 f_RX8_194 rfl ?_
      refine hJ.bipush (v := 8) dX8_crew_51 (by decide) ?_
      refine hJ.isub dX8_crew_53 ?_
      replace hF := nn_S hF
      obtain ⟨n16, e17, hF⟩ := hF
      rw [e17]
      replace hF := ck_S hF
      obtain ⟨c18, hF⟩ := hF
      replace hF := lt_S hF
      obtain ⟨h19, eh20, hF⟩ := hF
      refine hJ.iast dX8_crew_54 a_53 rfl c18 ?_
      rw [← eh20]
      refine hJ.aload_n (i := 0) dX8_crew_55 rfl rfl ?_
      refine hJ.getR dX8_crew_56 f_RX8_98 rfl ?_
      refine hJ.aload_n (i := 0) dX8_crew_59 rfl rfl ?_
      refine hJ.getI dX8_crew_60 f_RX8_191 rfl ?_
      refine hJ.iconst (v := -1) dX8_crew_63 (by decide) ?_
      replace hF := nn_S hF
      obtain ⟨n21, e22, hF⟩ := hF
      rw [e22]
      replace hF := ck_S hF
      obtain ⟨c23, hF⟩ := hF
      replace hF := lt_S hF
      obtain ⟨h24, eh25, hF⟩ := hF
      refine hJ.iast dX8_crew_64 a_54 rfl c23 ?_
      rw [← eh25]
      refine hJ.aload_n (i := 0) dX8_crew_65 rfl rfl ?_
      refine hJ.dup dX8_crew_66 ?_
      refine hJ.getI dX8_crew_67 f_RX8_191 rfl ?_
      refine hJ.iconst (v := 1) dX8_crew_70 (by decide) ?_
      refine hJ.iadd dX8_crew_71 ?_
      replace hF := lt_S hF
      obtain ⟨h26, eh27, hF⟩ := hF
      refine hJ.putI dX8_crew_72 f_RX8_191 rfl nar_i rfl ?_
      rw [← eh27]
      refine hJ.aload_n (i := 0) dX8_crew_75 rfl rfl ?_
      refine hJ.getI dX8_crew_76 f_RX8_191 rfl ?_
      refine hJ.iconst (v := 1) dX8_crew_79 (by decide) ?_
      refine hJ.isub dX8_crew_80 ?_
      obtain ⟨rfl, rfl⟩ := ret_S hF
      exact hR dX8_crew_81 (by decide) (by decide)
    · replace hF := ite_T e5 hF
      refine hJ.iconst (v := -1) dX8_crew_17 (by decide) ?_
      obtain ⟨rfl, rfl⟩ := ret_S hF
      exact hR dX8_crew_18 (by decide) (by decide)

set_option maxHeartbeats 4000000 in
set_option maxRecDepth 100000 in
theorem c_X8_isResting {x0 : Nat} {x1 : Int32} {h hh : Hp} {xr : Int32} (hF : F_X8_isResting x0 x1 h = some (xr, hh)) : Ctr yX8_isResting cX8_isResting 2 (some .boolean) 0 0 0 [.inr (8, (some x0)), .inl x1] h (some (.inl xr)) hh := by
  refine Ctr_z (own := RX8) (ini := False) (ls0 := [some (.inr (8, (some x0))), some (.inl x1)]) (by decide) rfl (Nat.le_of_ble_eq_true rfl) (fun e => e.elim) rfl ?_
  intro J hJ hR
  unfold F_X8_isResting at hF
  refine hJ.aload_n (i := 0) dX8_isResting_0 rfl rfl ?_
  refine hJ.getR dX8_isResting_1 f_RX8_89 rfl ?_
  refine hJ.iload_n (i := 1) dX8_isResting_4 rfl rfl ?_
  replace hF := nn_S hF
  obtain ⟨n1, e2, hF⟩ := hF
  rw [e2]
  replace hF := ck_S hF
  obtain ⟨c3, hF⟩ := hF
  refine hJ.iald dX8_isResting_5 a_51 rfl c3 ?_
  refine hJ.if_ne (tgt := 29) dX8_isResting_6 (by decide) (fun e4 => ?_) (fun e4 => ?_)
  · replace hF := ite_F e4 hF
    refine hJ.iconst (v := 0) dX8_isResting_29 (by decide) ?_
    obtain ⟨rfl, rfl⟩ := ret_S hF
    exact hR dX8_isResting_30 (by decide) (by decide) (by decide)
  · replace hF := ite_T e4 hF
    refine hJ.aload_n (i := 0) dX8_isResting_9 rfl rfl ?_
    refine hJ.getI dX8_isResting_10 f_RX8_194 rfl ?_
    refine hJ.aload_n (i := 0) dX8_isResting_13 rfl rfl ?_
    refine hJ.getR dX8_isResting_14 f_RX8_95 rfl ?_
    refine hJ.iload_n (i := 1) dX8_isResting_17 rfl rfl ?_
    replace hF := nn_S hF
    obtain ⟨n5, e6, hF⟩ := hF
    rw [e6]
    replace hF := ck_S hF
    obtain ⟨c7, hF⟩ := hF
    refine hJ.iald dX8_isResting_18 a_53 rfl c7 ?_
    refine hJ.isub dX8_isResting_19 ?_
    refine hJ.bipush (v := 8) dX8_isResting_20 (by decide) ?_
    refine hJ.icmp_ge (tgt := 29) dX8_isResting_22 (by decide) (fun e8 => ?_) (fun e8 => ?_)
    · replace hF := ite_T e8 hF
      refine hJ.iconst (v := 0) dX8_isResting_29 (by decide) ?_
      obtain ⟨rfl, rfl⟩ := ret_S hF
      exact hR dX8_isResting_30 (by decide) (by decide) (by decide)
    · replace hF := ite_F e8 hF
      refine hJ.iconst (v := 1) dX8_isResting_25 (by decide) ?_
      refine hJ.goto (tgt := 30) dX8_isResting_26 (by decide) ?_
      obtain ⟨rfl, rfl⟩ := ret_S hF
      exact hR dX8_isResting_30 (by decide) (by decide) (by decide)

set_option maxHeartbeats 4000000 in
set_option maxRecDepth 100000 in
theorem c_X8_ready {x0 : Nat} {x1 : Int32} {x2 : Int32} {h hh : Hp} {xr : Int32} (hF : F_X8_ready x0 x1 x2 h = some (xr, hh)) : Ctr yX8_ready cX8_ready 3 (some .boolean) 2 0 0 [.inr (8, (some x0)), .inl x1, .inl x2] h (some (.inl xr)) hh := by
  refine Ctr_z (own := RX8) (ini := False) (ls0 := [some (.inr (8, (some x0))), some (.inl x1), some (.inl x2)]) (by decide) rfl (Nat.le_of_ble_eq_true rfl) (fun e => e.elim) rfl ?_
  intro J hJ hR
  unfold F_X8_ready at hF
  refine hJ.aload_n (i := 0) dX8_ready_0 rfl rfl ?_
  refine hJ.iload_n (i := 1) dX8_ready_1 rfl rfl ?_
  refine hJ.iconst (v := 0) dX8_ready_2 (by decide) ?_
  replace hF := cl_S hF
  obtain ⟨r1, h2, ec3, hF⟩ := hF
  refine hJ.callV (as := [.inl x1, .inl (0 : Int32)]) (st := []) dX8_ready_3 w_RX8_176 ⟨by decide, rfl⟩ rfl (c_X8_isRaft ec3) (by decide) (by decide) (by decide) rfl (Nat.le_of_ble_eq_true rfl) rfl ?_
  refine hJ.if_eq (tgt := 32) dX8_ready_6 (by decide) (fun e4 => ?_) (fun e4 => ?_)
  · replace hF := ite_T e4 hF
    refine hJ.iconst (v := 0) dX8_ready_32 (by decide) ?_
    obtain ⟨rfl, rfl⟩ := ret_S hF
    exact hR dX8_ready_33 (by decide) (by decide) (by decide)
  · replace hF := ite_F e4 hF
    refine hJ.aload_n (i := 0) dX8_ready_9 rfl rfl ?_
    refine hJ.getR dX8_ready_10 f_RX8_74 rfl ?_
    refine hJ.iload_n (i := 1) dX8_ready_13 rfl rfl ?_
    replace hF := nn_S hF
    obtain ⟨n5, e6, hF⟩ := hF
    rw [e6]
    replace hF := ck_S hF
    obtain ⟨c7, hF⟩ := hF
    refine hJ.iald dX8_ready_14 a_46 rfl c7 ?_
    refine hJ.if_eq (tgt := 32) dX8_ready_15 (by decide) (fun e8 => ?_) (fun e8 => ?_)
    · replace hF := ite_T e8 hF
      refine hJ.iconst (v := 0) dX8_ready_32 (by decide) ?_
      obtain ⟨rfl, rfl⟩ := ret_S hF
      exact hR dX8_ready_33 (by decide) (by decide) (by decide)
    · replace hF := ite_F e8 hF
      refine hJ.iload_n (i := 2) dX8_ready_18 rfl rfl ?_
      refine hJ.iconst (v := 0) dX8_ready_19 (by decide) ?_
      refine hJ.aload_n (i := 0) dX8_ready_20 rfl rfl ?_
      refine hJ.getI dX8_ready_21 f_RX8_191 rfl ?_
      refine hJ.iconst (v := 1) dX8_ready_24 (by decide) ?_
      refine hJ.isub dX8_ready_25 ?_
      replace hF := cl_S hF
      obtain ⟨r9, h10, ec11, hF⟩ := hF
      refine hJ.callS (as := [.inl x2, .inl (0 : Int32), .inl ((pI h2 8 x0 30) - (1 : Int32))]) (st := []) dX8_ready_26 w_RX8_144 (c_X8_in ec11) (by decide) (by decide) (by decide) rfl (Nat.le_of_ble_eq_true rfl) rfl ?_
      refine hJ.if_ne (tgt := 34) dX8_ready_29 (by decide) (fun e12 => ?_) (fun e12 => ?_)
      · replace hF := ite_F e12 hF
        refine hJ.aload_n (i := 0) dX8_ready_34 rfl rfl ?_
        refine hJ.getR dX8_ready_35 f_RX8_89 rfl ?_
        refine hJ.iload_n (i := 2) dX8_ready_38 rfl rfl ?_
        replace hF := nn_S hF
        obtain ⟨n13, e14, hF⟩ := hF
        rw [e14]
        replace hF := ck_S hF
        obtain ⟨c15, hF⟩ := hF
        refine hJ.iald dX8_ready_39 a_51 rfl c15 ?_
        refine hJ.if_ne (tgt := 66) dX8_ready_40 (by decide) (fun e16 => ?_) (fun e16 => ?_)
        · replace hF := ite_F e16 hF
          refine hJ.iconst (v := 0) dX8_ready_66 (by decide) ?_
          obtain ⟨rfl, rfl⟩ := ret_S hF
          exact hR dX8_ready_67 (by decide) (by decide) (by decide)
        · replace hF := ite_T e16 hF
          refine hJ.aload_n (i := 0) dX8_ready_43 rfl rfl ?_
          refine hJ.getR dX8_ready_44 f_RX8_92 rfl ?_
          refine hJ.iload_n (i := 2) dX8_ready_47 rfl rfl ?_
          replace hF := nn_S hF
          obtain ⟨n17, e18, hF⟩ := hF
          rw [e18]
          replace hF := ck_S hF
          obtain ⟨c19, hF⟩ := hF
          refine hJ.iald dX8_ready_48 a_52 rfl c19 ?_
          refine hJ.aload_n (i := 0) dX8_ready_49 rfl rfl ?_
          refine hJ.getR dX8_ready_50 f_RX8_74 rfl ?_
          refine hJ.iload_n (i := 1) dX8_ready_53 rfl rfl ?_
          replace hF := nn_S hF
          obtain ⟨n20, e21, hF⟩ := hF
          rw [e21]
          replace hF := ck_S hF
          obtain ⟨c22, hF⟩ := hF
          refine hJ.iald dX8_ready_54 a_46 rfl c22 ?_
          refine hJ.icmp_ne (tgt := 66) dX8_ready_55 (by decide) (fun e23 => ?_) (fun e23 => ?_)
          · replace hF := ite_F e23 hF
            refine hJ.iconst (v := 0) dX8_ready_66 (by decide) ?_
            obtain ⟨rfl, rfl⟩ := ret_S hF
            exact hR dX8_ready_67 (by decide) (by decide) (by decide)
          · replace hF := ite_T e23 hF
            refine hJ.aload_n (i := 0) dX8_ready_58 rfl rfl ?_
            refine hJ.iload_n (i := 2) dX8_ready_59 rfl rfl ?_
            replace hF := cl_S hF
            obtain ⟨r24, h25, ec26, hF⟩ := hF
            refine hJ.callV (as := [.inl x2]) (st := []) dX8_ready_60 w_RX8_197 ⟨by decide, rfl⟩ rfl (c_X8_isResting ec26) (by decide) (by decide) (by decide) rfl (Nat.le_of_ble_eq_true rfl) rfl ?_
            refine hJ.if_eq (tgt := 68) dX8_ready_63 (by decide) (fun e27 => ?_) (fun e27 => ?_)
            · replace hF := ite_T e27 hF
              refine hJ.aload_n (i := 0) dX8_ready_68 rfl rfl ?_
              refine hJ.getR dX8_ready_69 f_RX8_71 rfl ?_
              refine hJ.iload_n (i := 1) dX8_ready_72 rfl rfl ?_
              refine hJ.iconst (v := 1) dX8_ready_73 (by decide) ?_
              replace hF := nn_S hF
              obtain ⟨n28, e29, hF⟩ := hF
              rw [e29]
              replace hF := ck_S hF
              obtain ⟨c30, hF⟩ := hF
              replace hF := lt_S hF
              obtain ⟨h31, eh32, hF⟩ := hF
              refine hJ.iast dX8_ready_74 a_45 rfl c30 ?_
              rw [← eh32]
              refine hJ.aload_n (i := 0) dX8_ready_75 rfl rfl ?_
              refine hJ.getR dX8_ready_76 f_RX8_80 rfl ?_
              refine hJ.iload_n (i := 1) dX8_ready_79 rfl rfl ?_
              refine hJ.iload_n (i := 2) dX8_ready_80 rfl rfl ?_
              replace hF := nn_S hF
              obtain ⟨n33, e34, hF⟩ := hF
              rw [e34]
              replace hF := ck_S hF
              obtain ⟨c35, hF⟩ := hF
              replace hF := lt_S hF
              obtain ⟨h36, eh37, hF⟩ := hF
              refine hJ.iast dX8_ready_81 a_48 rfl c35 ?_
              rw [← eh37]
              refine hJ.aload_n (i := 0) dX8_ready_82 rfl rfl ?_
              refine hJ.getR dX8_ready_83 f_RX8_89 rfl ?_
              refine hJ.iload_n (i := 2) dX8_ready_86 rfl rfl ?_
              refine hJ.iconst (v := 1) dX8_ready_87 (by decide) ?_
              replace hF := nn_S hF
              obtain ⟨n38, e39, hF⟩ := hF
              rw [e39]
              replace hF := ck_S hF
              obtain ⟨c40, hF⟩ := hF
              replace hF := lt_S hF
              obtain ⟨h41, eh42, hF⟩ := hF
              refine hJ.iast dX8_ready_88 a_51 rfl c40 ?_
              rw [← eh42]
              refine hJ.iconst (v := 1) dX8_ready_89 (by decide) ?_
              obtain ⟨rfl, rfl⟩ := ret_S hF
              exact hR dX8_ready_90 (by decide) (by decide) (by decide)
            · replace hF := ite_F e27 hF
              refine hJ.iconst (v := 0) dX8_ready_66 (by decide) ?_
              obtain ⟨rfl, rfl⟩ := ret_S hF
              exact hR dX8_ready_67 (by decide) (by decide) (by decide)
      · replace hF := ite_T e12 hF
        refine hJ.iconst (v := 0) dX8_ready_32 (by decide) ?_
        obtain ⟨rfl, rfl⟩ := ret_S hF
        exact hR dX8_ready_33 (by decide) (by decide) (by decide)

set_option maxHeartbeats 4000000 in
set_option maxRecDepth 100000 in
theorem c_X8_lands {x0 : Nat} {x1 : Int32} {x2 : Int32} {x3 : Int32} {h hh : Hp} {xr : Unit} (hF : F_X8_lands x0 x1 x2 x3 h = some (xr, hh)) : Ctr yX8_lands cX8_lands 4 none 0 0 0 [.inr (8, (some x0)), .inl x1, .inl x2, .inl x3] h none hh := by
  refine Ctr_v (own := RX8) (ini := False) (ls0 := [some (.inr (8, (some x0))), some (.inl x1), some (.inl x2), some (.inl x3)]) (by decide) rfl (Nat.le_of_ble_eq_true rfl) (fun e => e.elim) rfl ?_
  intro J hJ hR
  unfold F_X8_lands at hF
  refine hJ.aload_n (i := 0) dX8_lands_0 rfl rfl ?_
  refine hJ.getR dX8_lands_1 f_RX8_89 rfl ?_
  refine hJ.iload_n (i := 1) dX8_lands_4 rfl rfl ?_
  refine hJ.iconst (v := 0) dX8_lands_5 (by decide) ?_
  replace hF := nn_S hF
  obtain ⟨n1, e2, hF⟩ := hF
  rw [e2]
  replace hF := ck_S hF
  obtain ⟨c3, hF⟩ := hF
  replace hF := lt_S hF
  obtain ⟨h4, eh5, hF⟩ := hF
  refine hJ.iast dX8_lands_6 a_51 rfl c3 ?_
  rw [← eh5]
  refine hJ.aload_n (i := 0) dX8_lands_7 rfl rfl ?_
  refine hJ.getR dX8_lands_8 f_RX8_92 rfl ?_
  refine hJ.iload_n (i := 1) dX8_lands_11 rfl rfl ?_
  refine hJ.iload_n (i := 2) dX8_lands_12 rfl rfl ?_
  replace hF := nn_S hF
  obtain ⟨n6, e7, hF⟩ := hF
  rw [e7]
  replace hF := ck_S hF
  obtain ⟨c8, hF⟩ := hF
  replace hF := lt_S hF
  obtain ⟨h9, eh10, hF⟩ := hF
  refine hJ.iast dX8_lands_13 a_52 rfl c8 ?_
  rw [← eh10]
  refine hJ.aload_n (i := 0) dX8_lands_14 rfl rfl ?_
  refine hJ.getR dX8_lands_15 f_RX8_95 rfl ?_
  refine hJ.iload_n (i := 1) dX8_lands_18 rfl rfl ?_
  refine hJ.iload_n (i := 3) dX8_lands_19 rfl rfl ?_
  replace hF := nn_S hF
  obtain ⟨n11, e12, hF⟩ := hF
  rw [e12]
  replace hF := ck_S hF
  obtain ⟨c13, hF⟩ := hF
  replace hF := lt_S hF
  obtain ⟨h14, eh15, hF⟩ := hF
  refine hJ.iast dX8_lands_20 a_53 rfl c13 ?_
  rw [← eh15]
  refine hJ.aload_n (i := 0) dX8_lands_21 rfl rfl ?_
  refine hJ.getR dX8_lands_22 f_RX8_98 rfl ?_
  refine hJ.iload_n (i := 1) dX8_lands_25 rfl rfl ?_
  refine hJ.iconst (v := -1) dX8_lands_26 (by decide) ?_
  replace hF := nn_S hF
  obtain ⟨n16, e17, hF⟩ := hF
  rw [e17]
  replace hF := ck_S hF
  obtain ⟨c18, hF⟩ := hF
  replace hF := lt_S hF
  obtain ⟨h19, eh20, hF⟩ := hF
  refine hJ.iast dX8_lands_27 a_54 rfl c18 ?_
  rw [← eh20]
  obtain ⟨-, rfl⟩ := ret_S hF
  exact hR dX8_lands_28 (by decide) (by decide)

set_option maxHeartbeats 4000000 in
set_option maxRecDepth 100000 in
theorem c_X8_tie {x0 : Nat} {x1 : Int32} {h hh : Hp} {xr : Int32} (hF : F_X8_tie x0 x1 h = some (xr, hh)) : Ctr yX8_tie cX8_tie 2 (some .boolean) 2 0 0 [.inr (8, (some x0)), .inl x1] h (some (.inl xr)) hh := by
  refine Ctr_z (own := RX8) (ini := False) (ls0 := [some (.inr (8, (some x0))), some (.inl x1)]) (by decide) rfl (Nat.le_of_ble_eq_true rfl) (fun e => e.elim) rfl ?_
  intro J hJ hR
  unfold F_X8_tie at hF
  refine hJ.aload_n (i := 0) dX8_tie_0 rfl rfl ?_
  refine hJ.iload_n (i := 1) dX8_tie_1 rfl rfl ?_
  refine hJ.iconst (v := 1) dX8_tie_2 (by decide) ?_
  replace hF := cl_S hF
  obtain ⟨r1, h2, ec3, hF⟩ := hF
  refine hJ.callV (as := [.inl x1, .inl (1 : Int32)]) (st := []) dX8_tie_3 w_RX8_176 ⟨by decide, rfl⟩ rfl (c_X8_isRaft ec3) (by decide) (by decide) (by decide) rfl (Nat.le_of_ble_eq_true rfl) rfl ?_
  refine hJ.if_ne (tgt := 11) dX8_tie_6 (by decide) (fun e4 => ?_) (fun e4 => ?_)
  · replace hF := ite_F e4 hF
    refine hJ.aload_n (i := 0) dX8_tie_11 rfl rfl ?_
    refine hJ.getR dX8_tie_12 f_RX8_71 rfl ?_
    refine hJ.iload_n (i := 1) dX8_tie_15 rfl rfl ?_
    refine hJ.iconst (v := 0) dX8_tie_16 (by decide) ?_
    replace hF := nn_S hF
    obtain ⟨n5, e6, hF⟩ := hF
    rw [e6]
    replace hF := ck_S hF
    obtain ⟨c7, hF⟩ := hF
    replace hF := lt_S hF
    obtain ⟨h8, eh9, hF⟩ := hF
    refine hJ.iast dX8_tie_17 a_45 rfl c7 ?_
    rw [← eh9]
    refine hJ.aload_n (i := 0) dX8_tie_18 rfl rfl ?_
    refine hJ.aload_n (i := 0) dX8_tie_19 rfl rfl ?_
    refine hJ.getR dX8_tie_20 f_RX8_80 rfl ?_
    refine hJ.iload_n (i := 1) dX8_tie_23 rfl rfl ?_
    replace hF := nn_S hF
    obtain ⟨n10, e11, hF⟩ := hF
    rw [e11]
    replace hF := ck_S hF
    obtain ⟨c12, hF⟩ := hF
    refine hJ.iald dX8_tie_24 a_48 rfl c12 ?_
    refine hJ.aload_n (i := 0) dX8_tie_25 rfl rfl ?_
    refine hJ.getR dX8_tie_26 f_RX8_74 rfl ?_
    refine hJ.iload_n (i := 1) dX8_tie_29 rfl rfl ?_
    replace hF := nn_S hF
    obtain ⟨n13, e14, hF⟩ := hF
    rw [e14]
    replace hF := ck_S hF
    obtain ⟨c15, hF⟩ := hF
    refine hJ.iald dX8_tie_30 a_46 rfl c15 ?_
    refine hJ.aload_n (i := 0) dX8_tie_31 rfl rfl ?_
    refine hJ.getI dX8_tie_32 f_RX8_194 rfl ?_
    refine hJ.bipush (v := 8) dX8_tie_35 (by decide) ?_
    refine hJ.isub dX8_tie_37 ?_
    replace hF := cl_S hF
    obtain ⟨r16, h17, ec18, hF⟩ := hF
    refine hJ.callV0 (as := [.inl (pI h8 48 n10 (x1).toNatClampNeg), .inl (pI h8 46 n13 (x1).toNatClampNeg), .inl ((pI h8 8 x0 0) - (8 : Int32))]) (st := []) dX8_tie_38 w_RX8_200 ⟨by decide, rfl⟩ rfl (c_X8_lands ec18) (by decide) (by decide) (by decide) rfl (Nat.le_of_ble_eq_true rfl) rfl ?_
    refine hJ.aload_n (i := 0) dX8_tie_41 rfl rfl ?_
    refine hJ.getR dX8_tie_42 f_RX8_80 rfl ?_
    refine hJ.iload_n (i := 1) dX8_tie_45 rfl rfl ?_
    refine hJ.iconst (v := -1) dX8_tie_46 (by decide) ?_
    replace hF := nn_S hF
    obtain ⟨n19, e20, hF⟩ := hF
    rw [e20]
    replace hF := ck_S hF
    obtain ⟨c21, hF⟩ := hF
    replace hF := lt_S hF
    obtain ⟨h22, eh23, hF⟩ := hF
    refine hJ.iast dX8_tie_47 a_48 rfl c21 ?_
    rw [← eh23]
    refine hJ.iconst (v := 1) dX8_tie_48 (by decide) ?_
    obtain ⟨rfl, rfl⟩ := ret_S hF
    exact hR dX8_tie_49 (by decide) (by decide) (by decide)
  · replace hF := ite_T e4 hF
    refine hJ.iconst (v := 0) dX8_tie_9 (by decide) ?_
    obtain ⟨rfl, rfl⟩ := ret_S hF
    exact hR dX8_tie_10 (by decide) (by decide) (by decide)

