set_option maxHeartbeats 4000000 in
set_option maxRecDepth 100000 in
theorem t_X8_go_36 {β : Type} {J : JT} (hJ : Rules cX8_go RX8 4 4 0 0 False J) {a b : Nat} (ha : a ≤ 0) (hb : b ≤ 0) {v0 : Nat} {v1 : Int32} {v2 : Int32} {κ55 : Hp → Option β} {out : β}
    (hk55 : ∀ (h : Hp), κ55 h = some out → J 55 [some (.inr (8, (some v0))), some (.inl v1), some (.inl v2), none] [] h a b)
    : ∀ (f : Nat) (v3 : Int32) (h : Hp), L_X8_go_36 v0 v1 v2 κ55 f v3 h = some out → J 36 [some (.inr (8, (some v0))), some (.inl v1), some (.inl v2), some (.inl v3)] [] h a b := by
  intro f
  induction f with
  | zero => intro v3 h hF; simp [L_X8_go_36] at hF
  | succ f ih =>
    intro v3 h hF
    rw [L_X8_go_36] at hF
    refine hJ.iload_n (i := 3) dX8_go_36 rfl rfl ?_
    refine hJ.aload_n (i := 0) dX8_go_37 rfl rfl ?_
    refine hJ.getI dX8_go_38 f_RX8_140 rfl ?_
    refine hJ.icmp_ge (tgt := 55) dX8_go_41 (by decide) (fun e10 => ?_) (fun e10 => ?_)
    · replace hF := ite_T e10 hF
      refine hJ.forget (ls2 := [some (.inr (8, (some v0))), some (.inl v1), some (.inl v2), none]) ⟨rfl, rfl, rfl, trivial⟩ ?_
      exact hk55 h hF
    · replace hF := ite_F e10 hF
      refine hJ.aload_n (i := 0) dX8_go_44 rfl rfl ?_
      refine hJ.iload_n (i := 3) dX8_go_45 rfl rfl ?_
      replace hF := cl_S hF
      obtain ⟨r11, h12, ec13, hF⟩ := hF
      refine hJ.callV0 (as := [.inl v3]) (st := []) dX8_go_46 w_RX8_228 ⟨by decide, rfl⟩ rfl (c_X8_weir ec13) (by decide) ha hb rfl (Nat.le_of_ble_eq_true rfl) rfl ?_
      refine hJ.iinc (i := 3) (v := (v3 + (1 : Int32))) (ls2 := [some (.inr (8, (some v0))), some (.inl v1), some (.inl v2), some (.inl (v3 + (1 : Int32)))]) dX8_go_49 rfl (addI (by decide)) (by decide) rfl ?_
      refine hJ.goto (tgt := 36) dX8_go_52 (by decide) ?_
      refine hJ.forget (ls2 := [some (.inr (8, (some v0))), some (.inl v1), some (.inl v2), some (.inl (v3 + (1 : Int32)))]) ⟨rfl, rfl, rfl, rfl, trivial⟩ ?_
      exact ih (v3 + (1 : Int32)) h12 hF

set_option maxHeartbeats 4000000 in
set_option maxRecDepth 100000 in
theorem t_X8_go_57 {β : Type} {J : JT} (hJ : Rules cX8_go RX8 4 4 0 0 False J) {a b : Nat} (ha : a ≤ 0) (hb : b ≤ 0) {v0 : Nat} {v1 : Int32} {v2 : Int32} {κ121 : Hp → Option β} {out : β}
    (hk121 : ∀ (h : Hp), κ121 h = some out → J 121 [some (.inr (8, (some v0))), some (.inl v1), some (.inl v2), none] [] h a b)
    : ∀ (f : Nat) (v3 : Int32) (h : Hp), L_X8_go_57 v0 v1 v2 κ121 f v3 h = some out → J 57 [some (.inr (8, (some v0))), some (.inl v1), some (.inl v2), some (.inl v3)] [] h a b := by
  intro f
  induction f with
  | zero => intro v3 h hF; simp [L_X8_go_57] at hF
  | succ f ih =>
    intro v3 h hF
    rw [L_X8_go_57] at hF
    refine hJ.iload_n (i := 3) dX8_go_57 rfl rfl ?_
    refine hJ.aload_n (i := 0) dX8_go_58 rfl rfl ?_
    refine hJ.getI dX8_go_59 f_RX8_140 rfl ?_
    refine hJ.icmp_ge (tgt := 121) dX8_go_62 (by decide) (fun e15 => ?_) (fun e15 => ?_)
    · replace hF := ite_T e15 hF
      refine hJ.forget (ls2 := [some (.inr (8, (some v0))), some (.inl v1), some (.inl v2), none]) ⟨rfl, rfl, rfl, trivial⟩ ?_
      exact hk121 h hF
    · replace hF := ite_F e15 hF
      refine hJ.aload_n (i := 0) dX8_go_65 rfl rfl ?_
      refine hJ.getR dX8_go_66 f_RX8_25 rfl ?_
      refine hJ.iload_n (i := 3) dX8_go_69 rfl rfl ?_
      refine hJ.aload_n (i := 0) dX8_go_70 rfl rfl ?_
      refine hJ.getR dX8_go_71 f_RX8_25 rfl ?_
      refine hJ.iload_n (i := 3) dX8_go_74 rfl rfl ?_
      replace hF := nn_S hF
      obtain ⟨n16, e17, hF⟩ := hF
      rw [e17]
      replace hF := ck_S hF
      obtain ⟨c18, hF⟩ := hF
      refine hJ.iald dX8_go_75 a_30 rfl c18 ?_
      refine hJ.aload_n (i := 0) dX8_go_76 rfl rfl ?_
      refine hJ.getR dX8_go_77 f_RX8_19 rfl ?_
      refine hJ.iload_n (i := 3) dX8_go_80 rfl rfl ?_
      replace hF := nn_S hF
      obtain ⟨n19, e20, hF⟩ := hF
      rw [e20]
      replace hF := ck_S hF
      obtain ⟨c21, hF⟩ := hF
      refine hJ.iald dX8_go_81 a_28 rfl c21 ?_
      refine hJ.iadd dX8_go_82 ?_
      refine hJ.aload_n (i := 0) dX8_go_83 rfl rfl ?_
      refine hJ.getR dX8_go_84 f_RX8_22 rfl ?_
      refine hJ.iload_n (i := 3) dX8_go_87 rfl rfl ?_
      replace hF := nn_S hF
      obtain ⟨n22, e23, hF⟩ := hF
      rw [e23]
      replace hF := ck_S hF
      obtain ⟨c24, hF⟩ := hF
      refine hJ.iald dX8_go_88 a_29 rfl c24 ?_
      refine hJ.icmp_le (tgt := 101) dX8_go_89 (by decide) (fun e25 => ?_) (fun e25 => ?_)
      · replace hF := ite_T e25 hF
        refine hJ.aload_n (i := 0) dX8_go_101 rfl rfl ?_
        refine hJ.getR dX8_go_102 f_RX8_25 rfl ?_
        rw [e17]
        refine hJ.iload_n (i := 3) dX8_go_105 rfl rfl ?_
        replace hF := ck_S hF
        obtain ⟨c26, hF⟩ := hF
        refine hJ.iald dX8_go_106 a_30 rfl c26 ?_
        refine hJ.aload_n (i := 0) dX8_go_107 rfl rfl ?_
        refine hJ.getR dX8_go_108 f_RX8_19 rfl ?_
        rw [e20]
        refine hJ.iload_n (i := 3) dX8_go_111 rfl rfl ?_
        replace hF := ck_S hF
        obtain ⟨c27, hF⟩ := hF
        refine hJ.iald dX8_go_112 a_28 rfl c27 ?_
        refine hJ.iadd dX8_go_113 ?_
        replace hF := ck_S hF
        obtain ⟨c28, hF⟩ := hF
        replace hF := lt_S hF
        obtain ⟨h29, eh30, hF⟩ := hF
        refine hJ.iast dX8_go_114 a_30 rfl c28 ?_
        rw [← eh30]
        refine hJ.iinc (i := 3) (v := (v3 + (1 : Int32))) (ls2 := [some (.inr (8, (some v0))), some (.inl v1), some (.inl v2), some (.inl (v3 + (1 : Int32)))]) dX8_go_115 rfl (addI (by decide)) (by decide) rfl ?_
        refine hJ.goto (tgt := 57) dX8_go_118 (by decide) ?_
        refine hJ.forget (ls2 := [some (.inr (8, (some v0))), some (.inl v1), some (.inl v2), some (.inl (v3 + (1 : Int32)))]) ⟨rfl, rfl, rfl, rfl, trivial⟩ ?_
        exact ih (v3 + (1 : Int32)) h29 hF
      · replace hF := ite_F e25 hF
        refine hJ.aload_n (i := 0) dX8_go_92 rfl rfl ?_
        refine hJ.getR dX8_go_93 f_RX8_22 rfl ?_
        rw [e23]
        refine hJ.iload_n (i := 3) dX8_go_96 rfl rfl ?_
        replace hF := ck_S hF
        obtain ⟨c31, hF⟩ := hF
        refine hJ.iald dX8_go_97 a_29 rfl c31 ?_
        refine hJ.goto (tgt := 114) dX8_go_98 (by decide) ?_
        replace hF := ck_S hF
        obtain ⟨c32, hF⟩ := hF
        replace hF := lt_S hF
        obtain ⟨h33, eh34, hF⟩ := hF
        refine hJ.iast dX8_go_114 a_30 rfl c32 ?_
        rw [← eh34]
        refine hJ.iinc (i := 3) (v := (v3 + (1 : Int32))) (ls2 := [some (.inr (8, (some v0))), some (.inl v1), some (.inl v2), some (.inl (v3 + (1 : Int32)))]) dX8_go_115 rfl (addI (by decide)) (by decide) rfl ?_
        refine hJ.goto (tgt := 57) dX8_go_118 (by decide) ?_
        refine hJ.forget (ls2 := [some (.inr (8, (some v0))), some (.inl v1), some (.inl v2), some (.inl (v3 + (1 : Int32)))]) ⟨rfl, rfl, rfl, rfl, trivial⟩ ?_
        exact ih (v3 + (1 : Int32)) h33 hF

set_option maxHeartbeats 4000000 in
set_option maxRecDepth 100000 in
theorem t_X8_go_15 {β : Type} {J : JT} (hJ : Rules cX8_go RX8 4 4 0 0 False J) {a b : Nat} (ha : a ≤ 0) (hb : b ≤ 0) {v0 : Nat} {v1 : Int32} {κ137 : Hp → Option β} {out : β}
    (hk137 : ∀ (h : Hp), κ137 h = some out → J 137 [some (.inr (8, (some v0))), none, none, none] [] h a b)
    : ∀ (f : Nat) (v2 : Int32) (h : Hp), L_X8_go_15 v0 v1 κ137 f v2 h = some out → J 15 [some (.inr (8, (some v0))), some (.inl v1), some (.inl v2), none] [] h a b := by
  intro f
  induction f with
  | zero => intro v2 h hF; simp [L_X8_go_15] at hF
  | succ f ih =>
    intro v2 h hF
    rw [L_X8_go_15] at hF
    refine hJ.iload_n (i := 2) dX8_go_15 rfl rfl ?_
    refine hJ.iload_n (i := 1) dX8_go_16 rfl rfl ?_
    refine hJ.icmp_ge (tgt := 137) dX8_go_17 (by decide) (fun e5 => ?_) (fun e5 => ?_)
    · replace hF := ite_T e5 hF
      refine hJ.forget (ls2 := [some (.inr (8, (some v0))), none, none, none]) ⟨rfl, trivial⟩ ?_
      exact hk137 h hF
    · replace hF := ite_F e5 hF
      refine hJ.aload_n (i := 0) dX8_go_20 rfl rfl ?_
      refine hJ.getI dX8_go_21 f_RX8_194 rfl ?_
      refine hJ.sipush (v := 20000) dX8_go_24 (by decide) ?_
      refine hJ.icmp_ge (tgt := 137) dX8_go_27 (by decide) (fun e6 => ?_) (fun e6 => ?_)
      · replace hF := ite_T e6 hF
        refine hJ.forget (ls2 := [some (.inr (8, (some v0))), none, none, none]) ⟨rfl, trivial⟩ ?_
        exact hk137 h hF
      · replace hF := ite_F e6 hF
        refine hJ.aload_n (i := 0) dX8_go_30 rfl rfl ?_
        replace hF := cl_S hF
        obtain ⟨r7, h8, ec9, hF⟩ := hF
        refine hJ.callV0 (as := []) (st := []) dX8_go_31 w_RX8_225 ⟨by decide, rfl⟩ rfl (c_X8_arrivals ec9) (by decide) ha hb rfl (Nat.le_of_ble_eq_true rfl) rfl ?_
        refine hJ.iconst (v := 1) dX8_go_34 (by decide) ?_
        refine hJ.istore_n (i := 3) (ls2 := [some (.inr (8, (some v0))), some (.inl v1), some (.inl v2), some (.inl (1 : Int32))]) dX8_go_35 rfl (by decide) rfl ?_
        refine hJ.forget (ls2 := [some (.inr (8, (some v0))), some (.inl v1), some (.inl v2), some (.inl (1 : Int32))]) ⟨rfl, rfl, rfl, rfl, trivial⟩ ?_
        refine t_X8_go_36 hJ ha hb (fun h14 hF => ?_) FU _ _ hF
        refine hJ.iconst (v := 1) dX8_go_55 (by decide) ?_
        refine hJ.istore_n (i := 3) (ls2 := [some (.inr (8, (some v0))), some (.inl v1), some (.inl v2), some (.inl (1 : Int32))]) dX8_go_56 rfl (by decide) rfl ?_
        refine hJ.forget (ls2 := [some (.inr (8, (some v0))), some (.inl v1), some (.inl v2), some (.inl (1 : Int32))]) ⟨rfl, rfl, rfl, rfl, trivial⟩ ?_
        refine t_X8_go_57 hJ ha hb (fun h35 hF => ?_) FU _ _ hF
        refine hJ.aload_n (i := 0) dX8_go_121 rfl rfl ?_
        refine hJ.dup dX8_go_122 ?_
        refine hJ.getI dX8_go_123 f_RX8_194 rfl ?_
        refine hJ.iconst (v := 1) dX8_go_126 (by decide) ?_
        refine hJ.iadd dX8_go_127 ?_
        replace hF := lt_S hF
        obtain ⟨h36, eh37, hF⟩ := hF
        refine hJ.putI dX8_go_128 f_RX8_194 rfl nar_i rfl ?_
        rw [← eh37]
        refine hJ.iinc (i := 2) (v := (v2 + (1 : Int32))) (ls2 := [some (.inr (8, (some v0))), some (.inl v1), some (.inl (v2 + (1 : Int32))), none]) dX8_go_131 rfl (addI (by decide)) (by decide) rfl ?_
        refine hJ.goto (tgt := 15) dX8_go_134 (by decide) ?_
        refine hJ.forget (ls2 := [some (.inr (8, (some v0))), some (.inl v1), some (.inl (v2 + (1 : Int32))), none]) ⟨rfl, rfl, rfl, trivial⟩ ?_
        exact ih (v2 + (1 : Int32)) h36 hF

set_option maxHeartbeats 4000000 in
set_option maxRecDepth 100000 in
theorem c_X8_go {x0 : Nat} {x1 : Int32} {h hh : Hp} {xr : Int32} (hF : F_X8_go x0 x1 h = some (xr, hh)) : Ctr yX8_go cX8_go 4 (some .int) 4 0 0 [.inr (8, (some x0)), .inl x1] h (some (.inl xr)) hh := by
  refine Ctr_i (own := RX8) (ini := False) (ls0 := [some (.inr (8, (some x0))), some (.inl x1), none, none]) (by decide) rfl (Nat.le_of_ble_eq_true rfl) (fun e => e.elim) rfl ?_
  intro J hJ hR
  unfold F_X8_go at hF
  refine hJ.iload_n (i := 1) dX8_go_0 rfl rfl ?_
  refine hJ.iconst (v := 0) dX8_go_1 (by decide) ?_
  refine hJ.sipush (v := 500) dX8_go_2 (by decide) ?_
  replace hF := cl_S hF
  obtain ⟨r1, h2, ec3, hF⟩ := hF
  refine hJ.callS (as := [.inl x1, .inl (0 : Int32), .inl (500 : Int32)]) (st := []) dX8_go_5 w_RX8_144 (c_X8_in ec3) (by decide) (by decide) (by decide) rfl (Nat.le_of_ble_eq_true rfl) rfl ?_
  refine hJ.if_ne (tgt := 13) dX8_go_8 (by decide) (fun e4 => ?_) (fun e4 => ?_)
  · replace hF := ite_F e4 hF
    refine hJ.iconst (v := 0) dX8_go_13 (by decide) ?_
    refine hJ.istore_n (i := 2) (ls2 := [some (.inr (8, (some x0))), some (.inl x1), some (.inl (0 : Int32)), none]) dX8_go_14 rfl (by decide) rfl ?_
    refine hJ.forget (ls2 := [some (.inr (8, (some x0))), some (.inl x1), some (.inl (0 : Int32)), none]) ⟨rfl, rfl, rfl, trivial⟩ ?_
    refine t_X8_go_15 hJ (by decide) (by decide) (fun h38 hF => ?_) FU _ _ hF
    refine hJ.aload_n (i := 0) dX8_go_137 rfl rfl ?_
    refine hJ.getI dX8_go_138 f_RX8_194 rfl ?_
    obtain ⟨rfl, rfl⟩ := ret_S hF
    exact hR dX8_go_141 (by decide) (by decide)
  · replace hF := ite_T e4 hF
    refine hJ.iconst (v := -1) dX8_go_11 (by decide) ?_
    obtain ⟨rfl, rfl⟩ := ret_S hF
    exact hR dX8_go_12 (by decide) (by decide)

set_option maxHeartbeats 4000000 in
set_option maxRecDepth 100000 in
theorem c_X8_storm {x0 : Nat} {x1 : Int32} {x2 : Int32} {x3 : Int32} {h hh : Hp} {xr : Int32} (hF : F_X8_storm x0 x1 x2 x3 h = some (xr, hh)) : Ctr yX8_storm cX8_storm 4 (some .boolean) 2 0 0 [.inr (8, (some x0)), .inl x1, .inl x2, .inl x3] h (some (.inl xr)) hh := by
  refine Ctr_z (own := RX8) (ini := False) (ls0 := [some (.inr (8, (some x0))), some (.inl x1), some (.inl x2), some (.inl x3)]) (by decide) rfl (Nat.le_of_ble_eq_true rfl) (fun e => e.elim) rfl ?_
  intro J hJ hR
  unfold F_X8_storm at hF
  refine hJ.aload_n (i := 0) dX8_storm_0 rfl rfl ?_
  refine hJ.iload_n (i := 1) dX8_storm_1 rfl rfl ?_
  replace hF := cl_S hF
  obtain ⟨r1, h2, ec3, hF⟩ := hF
  refine hJ.callV (as := [.inl x1]) (st := []) dX8_storm_2 w_RX8_154 ⟨by decide, rfl⟩ rfl (c_X8_isStation ec3) (by decide) (by decide) (by decide) rfl (Nat.le_of_ble_eq_true rfl) rfl ?_
  refine hJ.if_eq (tgt := 21) dX8_storm_5 (by decide) (fun e4 => ?_) (fun e4 => ?_)
  · replace hF := ite_T e4 hF
    refine hJ.iconst (v := 0) dX8_storm_21 (by decide) ?_
    obtain ⟨rfl, rfl⟩ := ret_S hF
    exact hR dX8_storm_22 (by decide) (by decide) (by decide)
  · replace hF := ite_F e4 hF
    refine hJ.iload_n (i := 2) dX8_storm_8 rfl rfl ?_
    refine hJ.aload_n (i := 0) dX8_storm_9 rfl rfl ?_
    refine hJ.getI dX8_storm_10 f_RX8_194 rfl ?_
    refine hJ.icmp_lt (tgt := 21) dX8_storm_13 (by decide) (fun e5 => ?_) (fun e5 => ?_)
    · replace hF := ite_T e5 hF
      refine hJ.iconst (v := 0) dX8_storm_21 (by decide) ?_
      obtain ⟨rfl, rfl⟩ := ret_S hF
      exact hR dX8_storm_22 (by decide) (by decide) (by decide)
    · replace hF := ite_F e5 hF
      refine hJ.iload_n (i := 3) dX8_storm_16 rfl rfl ?_
      refine hJ.iload_n (i := 2) dX8_storm_17 rfl rfl ?_
      refine hJ.icmp_gt (tgt := 23) dX8_storm_18 (by decide) (fun e6 => ?_) (fun e6 => ?_)
      · replace hF := ite_T e6 hF
        refine hJ.aload_n (i := 0) dX8_storm_23 rfl rfl ?_
        refine hJ.getR dX8_storm_24 f_RX8_32 rfl ?_
        refine hJ.iload_n (i := 1) dX8_storm_27 rfl rfl ?_
        refine hJ.iload_n (i := 2) dX8_storm_28 rfl rfl ?_
        replace hF := nn_S hF
        obtain ⟨n7, e8, hF⟩ := hF
        rw [e8]
        replace hF := ck_S hF
        obtain ⟨c9, hF⟩ := hF
        replace hF := lt_S hF
        obtain ⟨h10, eh11, hF⟩ := hF
        refine hJ.iast dX8_storm_29 a_32 rfl c9 ?_
        rw [← eh11]
        refine hJ.aload_n (i := 0) dX8_storm_30 rfl rfl ?_
        refine hJ.getR dX8_storm_31 f_RX8_35 rfl ?_
        refine hJ.iload_n (i := 1) dX8_storm_34 rfl rfl ?_
        refine hJ.iload_n (i := 3) dX8_storm_35 rfl rfl ?_
        replace hF := nn_S hF
        obtain ⟨n12, e13, hF⟩ := hF
        rw [e13]
        replace hF := ck_S hF
        obtain ⟨c14, hF⟩ := hF
        replace hF := lt_S hF
        obtain ⟨h15, eh16, hF⟩ := hF
        refine hJ.iast dX8_storm_36 a_33 rfl c14 ?_
        rw [← eh16]
        refine hJ.iconst (v := 1) dX8_storm_37 (by decide) ?_
        obtain ⟨rfl, rfl⟩ := ret_S hF
        exact hR dX8_storm_38 (by decide) (by decide) (by decide)
      · replace hF := ite_F e6 hF
        refine hJ.iconst (v := 0) dX8_storm_21 (by decide) ?_
        obtain ⟨rfl, rfl⟩ := ret_S hF
        exact hR dX8_storm_22 (by decide) (by decide) (by decide)

set_option maxHeartbeats 4000000 in
set_option maxRecDepth 100000 in
theorem t_X8_breaks_16 {β : Type} {J : JT} (hJ : Rules cX8_breaks RX8 5 2 0 0 False J) {a b : Nat} (ha : a ≤ 0) (hb : b ≤ 0) {v0 : Nat} {v1 : Int32} {v2 : Int32} {κ86 : Int32 → Hp → Option β} {out : β}
    (hk86 : ∀ (k3 : Int32) (h : Hp), κ86 k3 h = some out → J 86 [some (.inr (8, (some v0))), some (.inl v1), none, some (.inl k3), none] [] h a b)
    : ∀ (f : Nat) (v3 : Int32) (v4 : Int32) (h : Hp), L_X8_breaks_16 v0 v1 v2 κ86 f v3 v4 h = some out → J 16 [some (.inr (8, (some v0))), some (.inl v1), some (.inl v2), some (.inl v3), some (.inl v4)] [] h a b := by
  intro f
  induction f with
  | zero => intro v3 v4 h hF; simp [L_X8_breaks_16] at hF
  | succ f ih =>
    intro v3 v4 h hF
    rw [L_X8_breaks_16] at hF
    refine hJ.iload (i := 4) dX8_breaks_16 rfl ?_
    refine hJ.aload_n (i := 0) dX8_breaks_18 rfl rfl ?_
    refine hJ.getI dX8_breaks_19 f_RX8_148 rfl ?_
    refine hJ.icmp_ge (tgt := 86) dX8_breaks_22 (by decide) (fun e5 => ?_) (fun e5 => ?_)
    · replace hF := ite_T e5 hF
      refine hJ.forget (ls2 := [some (.inr (8, (some v0))), some (.inl v1), none, some (.inl v3), none]) ⟨rfl, rfl, rfl, trivial⟩ ?_
      exact hk86 v3 h hF
    · replace hF := ite_F e5 hF
      refine hJ.aload_n (i := 0) dX8_breaks_25 rfl rfl ?_
      refine hJ.iload (i := 4) dX8_breaks_26 rfl ?_
      refine hJ.iload_n (i := 1) dX8_breaks_28 rfl rfl ?_
      replace hF := cl_S hF
      obtain ⟨r6, h7, ec8, hF⟩ := hF
      refine hJ.callV (as := [.inl v4, .inl v1]) (st := []) dX8_breaks_29 w_RX8_180 ⟨by decide, rfl⟩ rfl (c_X8_isOf ec8) (by decide) ha hb rfl (Nat.le_of_ble_eq_true rfl) rfl ?_
      refine hJ.if_ne (tgt := 38) dX8_breaks_32 (by decide) (fun e9 => ?_) (fun e9 => ?_)
      · replace hF := ite_F e9 hF
        refine hJ.aload_n (i := 0) dX8_breaks_38 rfl rfl ?_
        refine hJ.iload (i := 4) dX8_breaks_39 rfl ?_
        refine hJ.aload_n (i := 0) dX8_breaks_41 rfl rfl ?_
        refine hJ.getR dX8_breaks_42 f_RX8_74 rfl ?_
        refine hJ.iload_n (i := 1) dX8_breaks_45 rfl rfl ?_
        replace hF := nn_S hF
        obtain ⟨n10, e11, hF⟩ := hF
        rw [e11]
        replace hF := ck_S hF
        obtain ⟨c12, hF⟩ := hF
        refine hJ.iald dX8_breaks_46 a_46 rfl c12 ?_
        replace hF := cl_S hF
        obtain ⟨r13, h14, ec15, hF⟩ := hF
        refine hJ.callV0 (as := [.inl v4, .inl (pI h7 46 n10 (v1).toNatClampNeg)]) (st := []) dX8_breaks_47 w_RX8_187 ⟨by decide, rfl⟩ rfl (c_X8_lays ec15) (by decide) ha hb rfl (Nat.le_of_ble_eq_true rfl) rfl ?_
        refine hJ.iload (i := 4) dX8_breaks_50 rfl ?_
        refine hJ.iconst (v := 2) dX8_breaks_52 (by decide) ?_
        refine hJ.irem dX8_breaks_53 (by decide) ?_
        refine hJ.iload_n (i := 2) dX8_breaks_54 rfl rfl ?_
        refine hJ.if_eq (tgt := 62) dX8_breaks_55 (by decide) (fun e16 => ?_) (fun e16 => ?_)
        · replace hF := ite_T e16 hF
          refine hJ.iconst (v := 0) dX8_breaks_62 (by decide) ?_
          refine hJ.icmp_eq (tgt := 69) dX8_breaks_63 (by decide) (fun e17 => ?_) (fun e17 => ?_)
          · replace hF := ite_T e17 hF
            refine hJ.aload_n (i := 0) dX8_breaks_69 rfl rfl ?_
            refine hJ.getR dX8_breaks_70 f_RX8_50 rfl ?_
            refine hJ.iload (i := 4) dX8_breaks_73 rfl ?_
            refine hJ.iconst (v := 3) dX8_breaks_75 (by decide) ?_
            replace hF := nn_S hF
            obtain ⟨n18, e19, hF⟩ := hF
            rw [e19]
            replace hF := ck_S hF
            obtain ⟨c20, hF⟩ := hF
            replace hF := lt_S hF
            obtain ⟨h21, eh22, hF⟩ := hF
            refine hJ.iast dX8_breaks_76 a_38 rfl c20 ?_
            rw [← eh22]
            refine hJ.iinc (i := 3) (v := (v3 + (1 : Int32))) (ls2 := [some (.inr (8, (some v0))), some (.inl v1), some (.inl v2), some (.inl (v3 + (1 : Int32))), some (.inl v4)]) dX8_breaks_77 rfl (addI (by decide)) (by decide) rfl ?_
            refine hJ.iinc (i := 4) (v := (v4 + (1 : Int32))) (ls2 := [some (.inr (8, (some v0))), some (.inl v1), some (.inl v2), some (.inl (v3 + (1 : Int32))), some (.inl (v4 + (1 : Int32)))]) dX8_breaks_80 rfl (addI (by decide)) (by decide) rfl ?_
            refine hJ.goto (tgt := 16) dX8_breaks_83 (by decide) ?_
            refine hJ.forget (ls2 := [some (.inr (8, (some v0))), some (.inl v1), some (.inl v2), some (.inl (v3 + (1 : Int32))), some (.inl (v4 + (1 : Int32)))]) ⟨rfl, rfl, rfl, rfl, rfl, trivial⟩ ?_
            exact ih (v3 + (1 : Int32)) (v4 + (1 : Int32)) h21 hF
          · replace hF := ite_F e17 hF
            refine hJ.goto (tgt := 80) dX8_breaks_66 (by decide) ?_
            refine hJ.iinc (i := 4) (v := (v4 + (1 : Int32))) (ls2 := [some (.inr (8, (some v0))), some (.inl v1), some (.inl v2), some (.inl v3), some (.inl (v4 + (1 : Int32)))]) dX8_breaks_80 rfl (addI (by decide)) (by decide) rfl ?_
            refine hJ.goto (tgt := 16) dX8_breaks_83 (by decide) ?_
            refine hJ.forget (ls2 := [some (.inr (8, (some v0))), some (.inl v1), some (.inl v2), some (.inl v3), some (.inl (v4 + (1 : Int32)))]) ⟨rfl, rfl, rfl, rfl, rfl, trivial⟩ ?_
            exact ih v3 (v4 + (1 : Int32)) h14 hF
        · replace hF := ite_F e16 hF
          refine hJ.iconst (v := 1) dX8_breaks_58 (by decide) ?_
          refine hJ.goto (tgt := 63) dX8_breaks_59 (by decide) ?_
          refine hJ.icmp_eq (tgt := 69) dX8_breaks_63 (by decide) (fun e23 => ?_) (fun e23 => ?_)
          · replace hF := ite_T e23 hF
            refine hJ.aload_n (i := 0) dX8_breaks_69 rfl rfl ?_
            refine hJ.getR dX8_breaks_70 f_RX8_50 rfl ?_
            refine hJ.iload (i := 4) dX8_breaks_73 rfl ?_
            refine hJ.iconst (v := 3) dX8_breaks_75 (by decide) ?_
            replace hF := nn_S hF
            obtain ⟨n24, e25, hF⟩ := hF
            rw [e25]
            replace hF := ck_S hF
            obtain ⟨c26, hF⟩ := hF
            replace hF := lt_S hF
            obtain ⟨h27, eh28, hF⟩ := hF
            refine hJ.iast dX8_breaks_76 a_38 rfl c26 ?_
            rw [← eh28]
            refine hJ.iinc (i := 3) (v := (v3 + (1 : Int32))) (ls2 := [some (.inr (8, (some v0))), some (.inl v1), some (.inl v2), some (.inl (v3 + (1 : Int32))), some (.inl v4)]) dX8_breaks_77 rfl (addI (by decide)) (by decide) rfl ?_
            refine hJ.iinc (i := 4) (v := (v4 + (1 : Int32))) (ls2 := [some (.inr (8, (some v0))), some (.inl v1), some (.inl v2), some (.inl (v3 + (1 : Int32))), some (.inl (v4 + (1 : Int32)))]) dX8_breaks_80 rfl (addI (by decide)) (by decide) rfl ?_
            refine hJ.goto (tgt := 16) dX8_breaks_83 (by decide) ?_
            refine hJ.forget (ls2 := [some (.inr (8, (some v0))), some (.inl v1), some (.inl v2), some (.inl (v3 + (1 : Int32))), some (.inl (v4 + (1 : Int32)))]) ⟨rfl, rfl, rfl, rfl, rfl, trivial⟩ ?_
            exact ih (v3 + (1 : Int32)) (v4 + (1 : Int32)) h27 hF
          · replace hF := ite_F e23 hF
            refine hJ.goto (tgt := 80) dX8_breaks_66 (by decide) ?_
            refine hJ.iinc (i := 4) (v := (v4 + (1 : Int32))) (ls2 := [some (.inr (8, (some v0))), some (.inl v1), some (.inl v2), some (.inl v3), some (.inl (v4 + (1 : Int32)))]) dX8_breaks_80 rfl (addI (by decide)) (by decide) rfl ?_
            refine hJ.goto (tgt := 16) dX8_breaks_83 (by decide) ?_
            refine hJ.forget (ls2 := [some (.inr (8, (some v0))), some (.inl v1), some (.inl v2), some (.inl v3), some (.inl (v4 + (1 : Int32)))]) ⟨rfl, rfl, rfl, rfl, rfl, trivial⟩ ?_
            exact ih v3 (v4 + (1 : Int32)) h14 hF
      · replace hF := ite_T e9 hF
        refine hJ.goto (tgt := 80) dX8_breaks_35 (by decide) ?_
        refine hJ.iinc (i := 4) (v := (v4 + (1 : Int32))) (ls2 := [some (.inr (8, (some v0))), some (.inl v1), some (.inl v2), some (.inl v3), some (.inl (v4 + (1 : Int32)))]) dX8_breaks_80 rfl (addI (by decide)) (by decide) rfl ?_
        refine hJ.goto (tgt := 16) dX8_breaks_83 (by decide) ?_
        refine hJ.forget (ls2 := [some (.inr (8, (some v0))), some (.inl v1), some (.inl v2), some (.inl v3), some (.inl (v4 + (1 : Int32)))]) ⟨rfl, rfl, rfl, rfl, rfl, trivial⟩ ?_
        exact ih v3 (v4 + (1 : Int32)) h7 hF

set_option maxHeartbeats 4000000 in
set_option maxRecDepth 100000 in
theorem c_X8_breaks {x0 : Nat} {x1 : Int32} {x2 : Int32} {h hh : Hp} {xr : Int32} (hF : F_X8_breaks x0 x1 x2 h = some (xr, hh)) : Ctr yX8_breaks cX8_breaks 5 (some .int) 2 0 0 [.inr (8, (some x0)), .inl x1, .inl x2] h (some (.inl xr)) hh := by
  refine Ctr_i (own := RX8) (ini := False) (ls0 := [some (.inr (8, (some x0))), some (.inl x1), some (.inl x2), none, none]) (by decide) rfl (Nat.le_of_ble_eq_true rfl) (fun e => e.elim) rfl ?_
  intro J hJ hR
  unfold F_X8_breaks at hF
  refine hJ.aload_n (i := 0) dX8_breaks_0 rfl rfl ?_
  refine hJ.iload_n (i := 1) dX8_breaks_1 rfl rfl ?_
  refine hJ.iconst (v := 2) dX8_breaks_2 (by decide) ?_
  replace hF := cl_S hF
  obtain ⟨r1, h2, ec3, hF⟩ := hF
  refine hJ.callV (as := [.inl x1, .inl (2 : Int32)]) (st := []) dX8_breaks_3 w_RX8_176 ⟨by decide, rfl⟩ rfl (c_X8_isRaft ec3) (by decide) (by decide) (by decide) rfl (Nat.le_of_ble_eq_true rfl) rfl ?_
  refine hJ.if_ne (tgt := 11) dX8_breaks_6 (by decide) (fun e4 => ?_) (fun e4 => ?_)
  · replace hF := ite_F e4 hF
    refine hJ.iconst (v := 0) dX8_breaks_11 (by decide) ?_
    refine hJ.istore_n (i := 3) (ls2 := [some (.inr (8, (some x0))), some (.inl x1), some (.inl x2), some (.inl (0 : Int32)), none]) dX8_breaks_12 rfl (by decide) rfl ?_
    refine hJ.iconst (v := 0) dX8_breaks_13 (by decide) ?_
    refine hJ.istore (i := 4) (ls2 := [some (.inr (8, (some x0))), some (.inl x1), some (.inl x2), some (.inl (0 : Int32)), some (.inl (0 : Int32))]) dX8_breaks_14 (by decide) rfl ?_
    refine hJ.forget (ls2 := [some (.inr (8, (some x0))), some (.inl x1), some (.inl x2), some (.inl (0 : Int32)), some (.inl (0 : Int32))]) ⟨rfl, rfl, rfl, rfl, rfl, trivial⟩ ?_
    refine t_X8_breaks_16 hJ (by decide) (by decide) (fun k29 h30 hF => ?_) FU _ _ _ hF
    refine hJ.aload_n (i := 0) dX8_breaks_86 rfl rfl ?_
    refine hJ.aload_n (i := 0) dX8_breaks_87 rfl rfl ?_
    refine hJ.getR dX8_breaks_88 f_RX8_80 rfl ?_
    refine hJ.iload_n (i := 1) dX8_breaks_91 rfl rfl ?_
    replace hF := nn_S hF
    obtain ⟨n31, e32, hF⟩ := hF
    rw [e32]
    replace hF := ck_S hF
    obtain ⟨c33, hF⟩ := hF
    refine hJ.iald dX8_breaks_92 a_48 rfl c33 ?_
    refine hJ.aload_n (i := 0) dX8_breaks_93 rfl rfl ?_
    refine hJ.getR dX8_breaks_94 f_RX8_74 rfl ?_
    refine hJ.iload_n (i := 1) dX8_breaks_97 rfl rfl ?_
    replace hF := nn_S hF
    obtain ⟨n34, e35, hF⟩ := hF
    rw [e35]
    replace hF := ck_S hF
    obtain ⟨c36, hF⟩ := hF
    refine hJ.iald dX8_breaks_98 a_46 rfl c36 ?_
    refine hJ.aload_n (i := 0) dX8_breaks_99 rfl rfl ?_
    refine hJ.getI dX8_breaks_100 f_RX8_194 rfl ?_
    replace hF := cl_S hF
    obtain ⟨r37, h38, ec39, hF⟩ := hF
    refine hJ.callV0 (as := [.inl (pI h30 48 n31 (x1).toNatClampNeg), .inl (pI h30 46 n34 (x1).toNatClampNeg), .inl (pI h30 8 x0 0)]) (st := []) dX8_breaks_103 w_RX8_200 ⟨by decide, rfl⟩ rfl (c_X8_lands ec39) (by decide) (by decide) (by decide) rfl (Nat.le_of_ble_eq_true rfl) rfl ?_
    refine hJ.aload_n (i := 0) dX8_breaks_106 rfl rfl ?_
    refine hJ.iload_n (i := 1) dX8_breaks_107 rfl rfl ?_
    replace hF := cl_S hF
    obtain ⟨r40, h41, ec42, hF⟩ := hF
    refine hJ.callV0 (as := [.inl x1]) (st := []) dX8_breaks_108 w_RX8_183 ⟨by decide, rfl⟩ rfl (c_X8_ends ec42) (by decide) (by decide) (by decide) rfl (Nat.le_of_ble_eq_true rfl) rfl ?_
    refine hJ.iload_n (i := 3) dX8_breaks_111 rfl rfl ?_
    obtain ⟨rfl, rfl⟩ := ret_S hF
    exact hR dX8_breaks_112 (by decide) (by decide)
  · replace hF := ite_T e4 hF
    refine hJ.iconst (v := -1) dX8_breaks_9 (by decide) ?_
    obtain ⟨rfl, rfl⟩ := ret_S hF
    exact hR dX8_breaks_10 (by decide) (by decide)

set_option maxHeartbeats 4000000 in
set_option maxRecDepth 100000 in
theorem c_X8_right {x0 : Nat} {x1 : Int32} {x2 : Int32} {h hh : Hp} {xr : Int32} (hF : F_X8_right x0 x1 x2 h = some (xr, hh)) : Ctr yX8_right cX8_right 3 (some .boolean) 1 0 0 [.inr (8, (some x0)), .inl x1, .inl x2] h (some (.inl xr)) hh := by
  refine Ctr_z (own := RX8) (ini := False) (ls0 := [some (.inr (8, (some x0))), some (.inl x1), some (.inl x2)]) (by decide) rfl (Nat.le_of_ble_eq_true rfl) (fun e => e.elim) rfl ?_
  intro J hJ hR
  unfold F_X8_right at hF
  refine hJ.iload_n (i := 1) dX8_right_0 rfl rfl ?_
  refine hJ.iconst (v := 0) dX8_right_1 (by decide) ?_
  refine hJ.bipush (v := 7) dX8_right_2 (by decide) ?_
  replace hF := cl_S hF
  obtain ⟨r1, h2, ec3, hF⟩ := hF
  refine hJ.callS (as := [.inl x1, .inl (0 : Int32), .inl (7 : Int32)]) (st := []) dX8_right_4 w_RX8_144 (c_X8_in ec3) (by decide) (by decide) (by decide) rfl (Nat.le_of_ble_eq_true rfl) rfl ?_
  refine hJ.if_eq (tgt := 20) dX8_right_7 (by decide) (fun e4 => ?_) (fun e4 => ?_)
  · replace hF := ite_T e4 hF
    refine hJ.iconst (v := 0) dX8_right_20 (by decide) ?_
    obtain ⟨rfl, rfl⟩ := ret_S hF
    exact hR dX8_right_21 (by decide) (by decide) (by decide)
  · replace hF := ite_F e4 hF
    refine hJ.iload_n (i := 2) dX8_right_10 rfl rfl ?_
    refine hJ.iconst (v := 0) dX8_right_11 (by decide) ?_
    refine hJ.bipush (v := 9) dX8_right_12 (by decide) ?_
    replace hF := cl_S hF
    obtain ⟨r5, h6, ec7, hF⟩ := hF
    refine hJ.callS (as := [.inl x2, .inl (0 : Int32), .inl (9 : Int32)]) (st := []) dX8_right_14 w_RX8_144 (c_X8_in ec7) (by decide) (by decide) (by decide) rfl (Nat.le_of_ble_eq_true rfl) rfl ?_
    refine hJ.if_ne (tgt := 22) dX8_right_17 (by decide) (fun e8 => ?_) (fun e8 => ?_)
    · replace hF := ite_F e8 hF
      refine hJ.aload_n (i := 0) dX8_right_22 rfl rfl ?_
      refine hJ.getR dX8_right_23 f_RX8_101 rfl ?_
      refine hJ.iload_n (i := 1) dX8_right_26 rfl rfl ?_
      refine hJ.iload_n (i := 2) dX8_right_27 rfl rfl ?_
      replace hF := nn_S hF
      obtain ⟨n9, e10, hF⟩ := hF
      rw [e10]
      replace hF := ck_S hF
      obtain ⟨c11, hF⟩ := hF
      replace hF := lt_S hF
      obtain ⟨h12, eh13, hF⟩ := hF
      refine hJ.iast dX8_right_28 a_55 rfl c11 ?_
      rw [← eh13]
      refine hJ.iconst (v := 1) dX8_right_29 (by decide) ?_
      obtain ⟨rfl, rfl⟩ := ret_S hF
      exact hR dX8_right_30 (by decide) (by decide) (by decide)
    · replace hF := ite_T e8 hF
      refine hJ.iconst (v := 0) dX8_right_20 (by decide) ?_
      obtain ⟨rfl, rfl⟩ := ret_S hF
      exact hR dX8_right_21 (by decide) (by decide) (by decide)

set_option maxHeartbeats 4000000 in
set_option maxRecDepth 100000 in
theorem c_X8_toll {x0 : Nat} {x1 : Int32} {x2 : Int32} {h hh : Hp} {xr : Int32} (hF : F_X8_toll x0 x1 x2 h = some (xr, hh)) : Ctr yX8_toll cX8_toll 3 (some .boolean) 1 0 0 [.inr (8, (some x0)), .inl x1, .inl x2] h (some (.inl xr)) hh := by
  refine Ctr_z (own := RX8) (ini := False) (ls0 := [some (.inr (8, (some x0))), some (.inl x1), some (.inl x2)]) (by decide) rfl (Nat.le_of_ble_eq_true rfl) (fun e => e.elim) rfl ?_
  intro J hJ hR
  unfold F_X8_toll at hF
  refine hJ.iload_n (i := 1) dX8_toll_0 rfl rfl ?_
  refine hJ.iconst (v := 0) dX8_toll_1 (by decide) ?_
  refine hJ.sipush (v := 1000) dX8_toll_2 (by decide) ?_
  replace hF := cl_S hF
  obtain ⟨r1, h2, ec3, hF⟩ := hF
  refine hJ.callS (as := [.inl x1, .inl (0 : Int32), .inl (1000 : Int32)]) (st := []) dX8_toll_5 w_RX8_144 (c_X8_in ec3) (by decide) (by decide) (by decide) rfl (Nat.le_of_ble_eq_true rfl) rfl ?_
  refine hJ.if_eq (tgt := 30) dX8_toll_8 (by decide) (fun e4 => ?_) (fun e4 => ?_)
  · replace hF := ite_T e4 hF
    refine hJ.iconst (v := 0) dX8_toll_30 (by decide) ?_
    obtain ⟨rfl, rfl⟩ := ret_S hF
    exact hR dX8_toll_31 (by decide) (by decide) (by decide)
  · replace hF := ite_F e4 hF
    refine hJ.iload_n (i := 2) dX8_toll_11 rfl rfl ?_
    refine hJ.iconst (v := 0) dX8_toll_12 (by decide) ?_
    refine hJ.bipush (v := 100) dX8_toll_13 (by decide) ?_
    replace hF := cl_S hF
    obtain ⟨r5, h6, ec7, hF⟩ := hF
    refine hJ.callS (as := [.inl x2, .inl (0 : Int32), .inl (100 : Int32)]) (st := []) dX8_toll_15 w_RX8_144 (c_X8_in ec7) (by decide) (by decide) (by decide) rfl (Nat.le_of_ble_eq_true rfl) rfl ?_
    refine hJ.if_eq (tgt := 30) dX8_toll_18 (by decide) (fun e8 => ?_) (fun e8 => ?_)
    · replace hF := ite_T e8 hF
      refine hJ.iconst (v := 0) dX8_toll_30 (by decide) ?_
      obtain ⟨rfl, rfl⟩ := ret_S hF
      exact hR dX8_toll_31 (by decide) (by decide) (by decide)
    · replace hF := ite_F e8 hF
      refine hJ.aload_n (i := 0) dX8_toll_21 rfl rfl ?_
      refine hJ.getI dX8_toll_22 f_RX8_204 rfl ?_
      refine hJ.bipush (v := 30) dX8_toll_25 (by decide) ?_
      refine hJ.icmp_ne (tgt := 32) dX8_toll_27 (by decide) (fun e9 => ?_) (fun e9 => ?_)
      · replace hF := ite_F e9 hF
        refine hJ.aload_n (i := 0) dX8_toll_32 rfl rfl ?_
        refine hJ.getR dX8_toll_33 f_RX8_107 rfl ?_
        refine hJ.aload_n (i := 0) dX8_toll_36 rfl rfl ?_
        refine hJ.getI dX8_toll_37 f_RX8_204 rfl ?_
        refine hJ.iload_n (i := 1) dX8_toll_40 rfl rfl ?_
        replace hF := nn_S hF
        obtain ⟨n10, e11, hF⟩ := hF
        rw [e11]
        replace hF := ck_S hF
        obtain ⟨c12, hF⟩ := hF
        replace hF := lt_S hF
        obtain ⟨h13, eh14, hF⟩ := hF
        refine hJ.iast dX8_toll_41 a_57 rfl c12 ?_
        rw [← eh14]
        refine hJ.aload_n (i := 0) dX8_toll_42 rfl rfl ?_
        refine hJ.getR dX8_toll_43 f_RX8_110 rfl ?_
        refine hJ.aload_n (i := 0) dX8_toll_46 rfl rfl ?_
        refine hJ.getI dX8_toll_47 f_RX8_204 rfl ?_
        refine hJ.iload_n (i := 2) dX8_toll_50 rfl rfl ?_
        replace hF := nn_S hF
        obtain ⟨n15, e16, hF⟩ := hF
        rw [e16]
        replace hF := ck_S hF
        obtain ⟨c17, hF⟩ := hF
        replace hF := lt_S hF
        obtain ⟨h18, eh19, hF⟩ := hF
        refine hJ.iast dX8_toll_51 a_58 rfl c17 ?_
        rw [← eh19]
        refine hJ.aload_n (i := 0) dX8_toll_52 rfl rfl ?_
        refine hJ.dup dX8_toll_53 ?_
        refine hJ.getI dX8_toll_54 f_RX8_204 rfl ?_
        refine hJ.iconst (v := 1) dX8_toll_57 (by decide) ?_
        refine hJ.iadd dX8_toll_58 ?_
        replace hF := lt_S hF
        obtain ⟨h20, eh21, hF⟩ := hF
        refine hJ.putI dX8_toll_59 f_RX8_204 rfl nar_i rfl ?_
        rw [← eh21]
        refine hJ.iconst (v := 1) dX8_toll_62 (by decide) ?_
        obtain ⟨rfl, rfl⟩ := ret_S hF
        exact hR dX8_toll_63 (by decide) (by decide) (by decide)
      · replace hF := ite_T e9 hF
        refine hJ.iconst (v := 0) dX8_toll_30 (by decide) ?_
        obtain ⟨rfl, rfl⟩ := ret_S hF
        exact hR dX8_toll_31 (by decide) (by decide) (by decide)

set_option maxHeartbeats 4000000 in
set_option maxRecDepth 100000 in
theorem c_X8_price {x0 : Nat} {x1 : Int32} {x2 : Int32} {x3 : Int32} {x4 : Int32} {h hh : Hp} {xr : Int32} (hF : F_X8_price x0 x1 x2 x3 x4 h = some (xr, hh)) : Ctr yX8_price cX8_price 5 (some .boolean) 2 0 0 [.inr (8, (some x0)), .inl x1, .inl x2, .inl x3, .inl x4] h (some (.inl xr)) hh := by
  refine Ctr_z (own := RX8) (ini := False) (ls0 := [some (.inr (8, (some x0))), some (.inl x1), some (.inl x2), some (.inl x3), some (.inl x4)]) (by decide) rfl (Nat.le_of_ble_eq_true rfl) (fun e => e.elim) rfl ?_
  intro J hJ hR
  unfold F_X8_price at hF
  refine hJ.aload_n (i := 0) dX8_price_0 rfl rfl ?_
  refine hJ.iload_n (i := 1) dX8_price_1 rfl rfl ?_
  replace hF := cl_S hF
  obtain ⟨r1, h2, ec3, hF⟩ := hF
  refine hJ.callV (as := [.inl x1]) (st := []) dX8_price_2 w_RX8_154 ⟨by decide, rfl⟩ rfl (c_X8_isStation ec3) (by decide) (by decide) (by decide) rfl (Nat.le_of_ble_eq_true rfl) rfl ?_
  refine hJ.if_eq (tgt := 58) dX8_price_5 (by decide) (fun e4 => ?_) (fun e4 => ?_)
  · replace hF := ite_T e4 hF
    refine hJ.iconst (v := 0) dX8_price_58 (by decide) ?_
    obtain ⟨rfl, rfl⟩ := ret_S hF
    exact hR dX8_price_59 (by decide) (by decide) (by decide)
  · replace hF := ite_F e4 hF
    refine hJ.aload_n (i := 0) dX8_price_8 rfl rfl ?_
    refine hJ.getR dX8_price_9 f_RX8_28 rfl ?_
    refine hJ.iload_n (i := 1) dX8_price_12 rfl rfl ?_
    replace hF := nn_S hF
    obtain ⟨n5, e6, hF⟩ := hF
    rw [e6]
    replace hF := ck_S hF
    obtain ⟨c7, hF⟩ := hF
    refine hJ.zald dX8_price_13 a_31 rfl c7 ?_
    refine hJ.if_eq (tgt := 58) dX8_price_14 (by decide) (fun e8 => ?_) (fun e8 => ?_)
    · replace hF := ite_T e8 hF
      refine hJ.iconst (v := 0) dX8_price_58 (by decide) ?_
      obtain ⟨rfl, rfl⟩ := ret_S hF
      exact hR dX8_price_59 (by decide) (by decide) (by decide)
    · replace hF := ite_F e8 hF
      refine hJ.iload_n (i := 2) dX8_price_17 rfl rfl ?_
      refine hJ.iconst (v := 0) dX8_price_18 (by decide) ?_
      refine hJ.iconst (v := 3) dX8_price_19 (by decide) ?_
      replace hF := cl_S hF
      obtain ⟨r9, h10, ec11, hF⟩ := hF
      refine hJ.callS (as := [.inl x2, .inl (0 : Int32), .inl (3 : Int32)]) (st := []) dX8_price_20 w_RX8_144 (c_X8_in ec11) (by decide) (by decide) (by decide) rfl (Nat.le_of_ble_eq_true rfl) rfl ?_
      refine hJ.if_eq (tgt := 58) dX8_price_23 (by decide) (fun e12 => ?_) (fun e12 => ?_)
      · replace hF := ite_T e12 hF
        refine hJ.iconst (v := 0) dX8_price_58 (by decide) ?_
        obtain ⟨rfl, rfl⟩ := ret_S hF
        exact hR dX8_price_59 (by decide) (by decide) (by decide)
      · replace hF := ite_F e12 hF
        refine hJ.iload_n (i := 3) dX8_price_26 rfl rfl ?_
        refine hJ.iconst (v := 0) dX8_price_27 (by decide) ?_
        refine hJ.sipush (v := 1000) dX8_price_28 (by decide) ?_
        replace hF := cl_S hF
        obtain ⟨r13, h14, ec15, hF⟩ := hF
        refine hJ.callS (as := [.inl x3, .inl (0 : Int32), .inl (1000 : Int32)]) (st := []) dX8_price_31 w_RX8_144 (c_X8_in ec15) (by decide) (by decide) (by decide) rfl (Nat.le_of_ble_eq_true rfl) rfl ?_
        refine hJ.if_eq (tgt := 58) dX8_price_34 (by decide) (fun e16 => ?_) (fun e16 => ?_)
        · replace hF := ite_T e16 hF
          refine hJ.iconst (v := 0) dX8_price_58 (by decide) ?_
          obtain ⟨rfl, rfl⟩ := ret_S hF
          exact hR dX8_price_59 (by decide) (by decide) (by decide)
        · replace hF := ite_F e16 hF
          refine hJ.iload (i := 4) dX8_price_37 rfl ?_
          refine hJ.iconst (v := 0) dX8_price_39 (by decide) ?_
          refine hJ.sipush (v := 1000) dX8_price_40 (by decide) ?_
          replace hF := cl_S hF
          obtain ⟨r17, h18, ec19, hF⟩ := hF
          refine hJ.callS (as := [.inl x4, .inl (0 : Int32), .inl (1000 : Int32)]) (st := []) dX8_price_43 w_RX8_144 (c_X8_in ec19) (by decide) (by decide) (by decide) rfl (Nat.le_of_ble_eq_true rfl) rfl ?_
          refine hJ.if_eq (tgt := 58) dX8_price_46 (by decide) (fun e20 => ?_) (fun e20 => ?_)
          · replace hF := ite_T e20 hF
            refine hJ.iconst (v := 0) dX8_price_58 (by decide) ?_
            obtain ⟨rfl, rfl⟩ := ret_S hF
            exact hR dX8_price_59 (by decide) (by decide) (by decide)
          · replace hF := ite_F e20 hF
            refine hJ.aload_n (i := 0) dX8_price_49 rfl rfl ?_
            refine hJ.getI dX8_price_50 f_RX8_231 rfl ?_
            refine hJ.bipush (v := 100) dX8_price_53 (by decide) ?_
            refine hJ.icmp_ne (tgt := 60) dX8_price_55 (by decide) (fun e21 => ?_) (fun e21 => ?_)
            · replace hF := ite_F e21 hF
              refine hJ.aload_n (i := 0) dX8_price_60 rfl rfl ?_
              refine hJ.getR dX8_price_61 f_RX8_113 rfl ?_
              refine hJ.aload_n (i := 0) dX8_price_64 rfl rfl ?_
              refine hJ.getI dX8_price_65 f_RX8_231 rfl ?_
              refine hJ.iload_n (i := 1) dX8_price_68 rfl rfl ?_
              replace hF := nn_S hF
              obtain ⟨n22, e23, hF⟩ := hF
              rw [e23]
              replace hF := ck_S hF
              obtain ⟨c24, hF⟩ := hF
              replace hF := lt_S hF
              obtain ⟨h25, eh26, hF⟩ := hF
              refine hJ.iast dX8_price_69 a_59 rfl c24 ?_
              rw [← eh26]
              refine hJ.aload_n (i := 0) dX8_price_70 rfl rfl ?_
              refine hJ.getR dX8_price_71 f_RX8_116 rfl ?_
              refine hJ.aload_n (i := 0) dX8_price_74 rfl rfl ?_
              refine hJ.getI dX8_price_75 f_RX8_231 rfl ?_
              refine hJ.iload_n (i := 2) dX8_price_78 rfl rfl ?_
              replace hF := nn_S hF
              obtain ⟨n27, e28, hF⟩ := hF
              rw [e28]
              replace hF := ck_S hF
              obtain ⟨c29, hF⟩ := hF
              replace hF := lt_S hF
              obtain ⟨h30, eh31, hF⟩ := hF
              refine hJ.iast dX8_price_79 a_60 rfl c29 ?_
              rw [← eh31]
              refine hJ.aload_n (i := 0) dX8_price_80 rfl rfl ?_
              refine hJ.getR dX8_price_81 f_RX8_119 rfl ?_
              refine hJ.aload_n (i := 0) dX8_price_84 rfl rfl ?_
              refine hJ.getI dX8_price_85 f_RX8_231 rfl ?_
              refine hJ.iload_n (i := 3) dX8_price_88 rfl rfl ?_
              replace hF := nn_S hF
              obtain ⟨n32, e33, hF⟩ := hF
              rw [e33]
              replace hF := ck_S hF
              obtain ⟨c34, hF⟩ := hF
              replace hF := lt_S hF
              obtain ⟨h35, eh36, hF⟩ := hF
              refine hJ.iast dX8_price_89 a_61 rfl c34 ?_
              rw [← eh36]
              refine hJ.aload_n (i := 0) dX8_price_90 rfl rfl ?_
              refine hJ.getR dX8_price_91 f_RX8_122 rfl ?_
              refine hJ.aload_n (i := 0) dX8_price_94 rfl rfl ?_
              refine hJ.getI dX8_price_95 f_RX8_231 rfl ?_
              refine hJ.iload (i := 4) dX8_price_98 rfl ?_
              replace hF := nn_S hF
              obtain ⟨n37, e38, hF⟩ := hF
              rw [e38]
              replace hF := ck_S hF
              obtain ⟨c39, hF⟩ := hF
              replace hF := lt_S hF
              obtain ⟨h40, eh41, hF⟩ := hF
              refine hJ.iast dX8_price_100 a_62 rfl c39 ?_
              rw [← eh41]
              refine hJ.aload_n (i := 0) dX8_price_101 rfl rfl ?_
              refine hJ.dup dX8_price_102 ?_
              refine hJ.getI dX8_price_103 f_RX8_231 rfl ?_
              refine hJ.iconst (v := 1) dX8_price_106 (by decide) ?_
              refine hJ.iadd dX8_price_107 ?_
              replace hF := lt_S hF
              obtain ⟨h42, eh43, hF⟩ := hF
              refine hJ.putI dX8_price_108 f_RX8_231 rfl nar_i rfl ?_
              rw [← eh43]
              refine hJ.iconst (v := 1) dX8_price_111 (by decide) ?_
              obtain ⟨rfl, rfl⟩ := ret_S hF
              exact hR dX8_price_112 (by decide) (by decide) (by decide)
            · replace hF := ite_T e21 hF
              refine hJ.iconst (v := 0) dX8_price_58 (by decide) ?_
              obtain ⟨rfl, rfl⟩ := ret_S hF
              exact hR dX8_price_59 (by decide) (by decide) (by decide)

set_option maxHeartbeats 4000000 in
set_option maxRecDepth 100000 in
theorem t_X8_priceNow_5 {β : Type} {J : JT} (hJ : Rules cX8_priceNow RX8 5 0 0 0 False J) {a b : Nat} (ha : a ≤ 0) (hb : b ≤ 0) {v0 : Nat} {v1 : Int32} {v2 : Int32} {κ83 : Int32 → Hp → Option β} {out : β}
    (hk83 : ∀ (k3 : Int32) (h : Hp), κ83 k3 h = some out → J 83 [some (.inr (8, (some v0))), none, none, some (.inl k3), none] [] h a b)
    : ∀ (f : Nat) (v3 : Int32) (v4 : Int32) (h : Hp), L_X8_priceNow_5 v0 v1 v2 κ83 f v3 v4 h = some out → J 5 [some (.inr (8, (some v0))), some (.inl v1), some (.inl v2), some (.inl v3), some (.inl v4)] [] h a b := by
  intro f
  induction f with
  | zero => intro v3 v4 h hF; simp [L_X8_priceNow_5] at hF
  | succ f ih =>
    intro v3 v4 h hF
    rw [L_X8_priceNow_5] at hF
    refine hJ.iload (i := 4) dX8_priceNow_5 rfl ?_
    refine hJ.aload_n (i := 0) dX8_priceNow_7 rfl rfl ?_
    refine hJ.getI dX8_priceNow_8 f_RX8_231 rfl ?_
    refine hJ.icmp_ge (tgt := 83) dX8_priceNow_11 (by decide) (fun e1 => ?_) (fun e1 => ?_)
    · replace hF := ite_T e1 hF
      refine hJ.forget (ls2 := [some (.inr (8, (some v0))), none, none, some (.inl v3), none]) ⟨rfl, rfl, trivial⟩ ?_
      exact hk83 v3 h hF
    · replace hF := ite_F e1 hF
      refine hJ.aload_n (i := 0) dX8_priceNow_14 rfl rfl ?_
      refine hJ.getR dX8_priceNow_15 f_RX8_113 rfl ?_
      refine hJ.iload (i := 4) dX8_priceNow_18 rfl ?_
      replace hF := nn_S hF
      obtain ⟨n2, e3, hF⟩ := hF
      rw [e3]
      replace hF := ck_S hF
      obtain ⟨c4, hF⟩ := hF
      refine hJ.iald dX8_priceNow_20 a_59 rfl c4 ?_
      refine hJ.iload_n (i := 1) dX8_priceNow_21 rfl rfl ?_
      refine hJ.icmp_ne (tgt := 77) dX8_priceNow_22 (by decide) (fun e5 => ?_) (fun e5 => ?_)
      · replace hF := ite_F e5 hF
        refine hJ.iinc (i := 4) (v := (v4 + (1 : Int32))) (ls2 := [some (.inr (8, (some v0))), some (.inl v1), some (.inl v2), some (.inl v3), some (.inl (v4 + (1 : Int32)))]) dX8_priceNow_77 rfl (addI (by decide)) (by decide) rfl ?_
        refine hJ.goto (tgt := 5) dX8_priceNow_80 (by decide) ?_
        refine hJ.forget (ls2 := [some (.inr (8, (some v0))), some (.inl v1), some (.inl v2), some (.inl v3), some (.inl (v4 + (1 : Int32)))]) ⟨rfl, rfl, rfl, rfl, rfl, trivial⟩ ?_
        exact ih v3 (v4 + (1 : Int32)) h hF
      · replace hF := ite_T e5 hF
        refine hJ.aload_n (i := 0) dX8_priceNow_25 rfl rfl ?_
        refine hJ.getR dX8_priceNow_26 f_RX8_116 rfl ?_
        refine hJ.iload (i := 4) dX8_priceNow_29 rfl ?_
        replace hF := nn_S hF
        obtain ⟨n6, e7, hF⟩ := hF
        rw [e7]
        replace hF := ck_S hF
        obtain ⟨c8, hF⟩ := hF
        refine hJ.iald dX8_priceNow_31 a_60 rfl c8 ?_
        refine hJ.iload_n (i := 2) dX8_priceNow_32 rfl rfl ?_
        refine hJ.icmp_ne (tgt := 77) dX8_priceNow_33 (by decide) (fun e9 => ?_) (fun e9 => ?_)
        · replace hF := ite_F e9 hF
          refine hJ.iinc (i := 4) (v := (v4 + (1 : Int32))) (ls2 := [some (.inr (8, (some v0))), some (.inl v1), some (.inl v2), some (.inl v3), some (.inl (v4 + (1 : Int32)))]) dX8_priceNow_77 rfl (addI (by decide)) (by decide) rfl ?_
          refine hJ.goto (tgt := 5) dX8_priceNow_80 (by decide) ?_
          refine hJ.forget (ls2 := [some (.inr (8, (some v0))), some (.inl v1), some (.inl v2), some (.inl v3), some (.inl (v4 + (1 : Int32)))]) ⟨rfl, rfl, rfl, rfl, rfl, trivial⟩ ?_
          exact ih v3 (v4 + (1 : Int32)) h hF
        · replace hF := ite_T e9 hF
          refine hJ.aload_n (i := 0) dX8_priceNow_36 rfl rfl ?_
          refine hJ.getR dX8_priceNow_37 f_RX8_119 rfl ?_
          refine hJ.iload (i := 4) dX8_priceNow_40 rfl ?_
          replace hF := nn_S hF
          obtain ⟨n10, e11, hF⟩ := hF
          rw [e11]
          replace hF := ck_S hF
          obtain ⟨c12, hF⟩ := hF
          refine hJ.iald dX8_priceNow_42 a_61 rfl c12 ?_
          refine hJ.aload_n (i := 0) dX8_priceNow_43 rfl rfl ?_
          refine hJ.getI dX8_priceNow_44 f_RX8_194 rfl ?_
          refine hJ.bipush (v := 24) dX8_priceNow_47 (by decide) ?_
          refine hJ.idiv dX8_priceNow_49 (by decide) ?_
          refine hJ.icmp_gt (tgt := 77) dX8_priceNow_50 (by decide) (fun e13 => ?_) (fun e13 => ?_)
          · replace hF := ite_T e13 hF
            refine hJ.iinc (i := 4) (v := (v4 + (1 : Int32))) (ls2 := [some (.inr (8, (some v0))), some (.inl v1), some (.inl v2), some (.inl v3), some (.inl (v4 + (1 : Int32)))]) dX8_priceNow_77 rfl (addI (by decide)) (by decide) rfl ?_
            refine hJ.goto (tgt := 5) dX8_priceNow_80 (by decide) ?_
            refine hJ.forget (ls2 := [some (.inr (8, (some v0))), some (.inl v1), some (.inl v2), some (.inl v3), some (.inl (v4 + (1 : Int32)))]) ⟨rfl, rfl, rfl, rfl, rfl, trivial⟩ ?_
            exact ih v3 (v4 + (1 : Int32)) h hF
          · replace hF := ite_F e13 hF
            refine hJ.iload_n (i := 3) dX8_priceNow_53 rfl rfl ?_
            refine hJ.iconst (v := -1) dX8_priceNow_54 (by decide) ?_
            refine hJ.icmp_eq (tgt := 74) dX8_priceNow_55 (by decide) (fun e14 => ?_) (fun e14 => ?_)
            · replace hF := ite_T e14 hF
              refine hJ.iload (i := 4) dX8_priceNow_74 rfl ?_
              refine hJ.istore_n (i := 3) (ls2 := [some (.inr (8, (some v0))), some (.inl v1), some (.inl v2), some (.inl v4), some (.inl v4)]) dX8_priceNow_76 rfl (by decide) rfl ?_
              refine hJ.iinc (i := 4) (v := (v4 + (1 : Int32))) (ls2 := [some (.inr (8, (some v0))), some (.inl v1), some (.inl v2), some (.inl v4), some (.inl (v4 + (1 : Int32)))]) dX8_priceNow_77 rfl (addI (by decide)) (by decide) rfl ?_
              refine hJ.goto (tgt := 5) dX8_priceNow_80 (by decide) ?_
              refine hJ.forget (ls2 := [some (.inr (8, (some v0))), some (.inl v1), some (.inl v2), some (.inl v4), some (.inl (v4 + (1 : Int32)))]) ⟨rfl, rfl, rfl, rfl, rfl, trivial⟩ ?_
              exact ih v4 (v4 + (1 : Int32)) h hF
            · replace hF := ite_F e14 hF
              refine hJ.aload_n (i := 0) dX8_priceNow_58 rfl rfl ?_
              refine hJ.getR dX8_priceNow_59 f_RX8_119 rfl ?_
              rw [e11]
              refine hJ.iload (i := 4) dX8_priceNow_62 rfl ?_
              replace hF := ck_S hF
              obtain ⟨c15, hF⟩ := hF
              refine hJ.iald dX8_priceNow_64 a_61 rfl c15 ?_
              refine hJ.aload_n (i := 0) dX8_priceNow_65 rfl rfl ?_
              refine hJ.getR dX8_priceNow_66 f_RX8_119 rfl ?_
              rw [e11]
              refine hJ.iload_n (i := 3) dX8_priceNow_69 rfl rfl ?_
              replace hF := ck_S hF
              obtain ⟨c16, hF⟩ := hF
              refine hJ.iald dX8_priceNow_70 a_61 rfl c16 ?_
              refine hJ.icmp_lt (tgt := 77) dX8_priceNow_71 (by decide) (fun e17 => ?_) (fun e17 => ?_)
              · replace hF := ite_T e17 hF
                refine hJ.iinc (i := 4) (v := (v4 + (1 : Int32))) (ls2 := [some (.inr (8, (some v0))), some (.inl v1), some (.inl v2), some (.inl v3), some (.inl (v4 + (1 : Int32)))]) dX8_priceNow_77 rfl (addI (by decide)) (by decide) rfl ?_
                refine hJ.goto (tgt := 5) dX8_priceNow_80 (by decide) ?_
                refine hJ.forget (ls2 := [some (.inr (8, (some v0))), some (.inl v1), some (.inl v2), some (.inl v3), some (.inl (v4 + (1 : Int32)))]) ⟨rfl, rfl, rfl, rfl, rfl, trivial⟩ ?_
                exact ih v3 (v4 + (1 : Int32)) h hF
              · replace hF := ite_F e17 hF
                refine hJ.iload (i := 4) dX8_priceNow_74 rfl ?_
                refine hJ.istore_n (i := 3) (ls2 := [some (.inr (8, (some v0))), some (.inl v1), some (.inl v2), some (.inl v4), some (.inl v4)]) dX8_priceNow_76 rfl (by decide) rfl ?_
                refine hJ.iinc (i := 4) (v := (v4 + (1 : Int32))) (ls2 := [some (.inr (8, (some v0))), some (.inl v1), some (.inl v2), some (.inl v4), some (.inl (v4 + (1 : Int32)))]) dX8_priceNow_77 rfl (addI (by decide)) (by decide) rfl ?_
                refine hJ.goto (tgt := 5) dX8_priceNow_80 (by decide) ?_
                refine hJ.forget (ls2 := [some (.inr (8, (some v0))), some (.inl v1), some (.inl v2), some (.inl v4), some (.inl (v4 + (1 : Int32)))]) ⟨rfl, rfl, rfl, rfl, rfl, trivial⟩ ?_
                exact ih v4 (v4 + (1 : Int32)) h hF

set_option maxHeartbeats 4000000 in
set_option maxRecDepth 100000 in
theorem c_X8_priceNow {x0 : Nat} {x1 : Int32} {x2 : Int32} {h hh : Hp} {xr : Int32} (hF : F_X8_priceNow x0 x1 x2 h = some (xr, hh)) : Ctr yX8_priceNow cX8_priceNow 5 (some .int) 0 0 0 [.inr (8, (some x0)), .inl x1, .inl x2] h (some (.inl xr)) hh := by
  refine Ctr_i (own := RX8) (ini := False) (ls0 := [some (.inr (8, (some x0))), some (.inl x1), some (.inl x2), none, none]) (by decide) rfl (Nat.le_of_ble_eq_true rfl) (fun e => e.elim) rfl ?_
  intro J hJ hR
  unfold F_X8_priceNow at hF
  refine hJ.iconst (v := -1) dX8_priceNow_0 (by decide) ?_
  refine hJ.istore_n (i := 3) (ls2 := [some (.inr (8, (some x0))), some (.inl x1), some (.inl x2), some (.inl (-1 : Int32)), none]) dX8_priceNow_1 rfl (by decide) rfl ?_
  refine hJ.iconst (v := 0) dX8_priceNow_2 (by decide) ?_
  refine hJ.istore (i := 4) (ls2 := [some (.inr (8, (some x0))), some (.inl x1), some (.inl x2), some (.inl (-1 : Int32)), some (.inl (0 : Int32))]) dX8_priceNow_3 (by decide) rfl ?_
  refine hJ.forget (ls2 := [some (.inr (8, (some x0))), some (.inl x1), some (.inl x2), some (.inl (-1 : Int32)), some (.inl (0 : Int32))]) ⟨rfl, rfl, rfl, rfl, rfl, trivial⟩ ?_
  refine t_X8_priceNow_5 hJ (by decide) (by decide) (fun k18 h19 hF => ?_) FU _ _ _ hF
  refine hJ.iload_n (i := 3) dX8_priceNow_83 rfl rfl ?_
  refine hJ.iconst (v := -1) dX8_priceNow_84 (by decide) ?_
  refine hJ.icmp_ne (tgt := 92) dX8_priceNow_85 (by decide) (fun e20 => ?_) (fun e20 => ?_)
  · replace hF := ite_F e20 hF
    refine hJ.aload_n (i := 0) dX8_priceNow_92 rfl rfl ?_
    refine hJ.getR dX8_priceNow_93 f_RX8_122 rfl ?_
    refine hJ.iload_n (i := 3) dX8_priceNow_96 rfl rfl ?_
    replace hF := nn_S hF
    obtain ⟨n21, e22, hF⟩ := hF
    rw [e22]
    replace hF := ck_S hF
    obtain ⟨c23, hF⟩ := hF
    refine hJ.iald dX8_priceNow_97 a_62 rfl c23 ?_
    obtain ⟨rfl, rfl⟩ := ret_S hF
    exact hR dX8_priceNow_98 (by decide) (by decide)
  · replace hF := ite_T e20 hF
    refine hJ.iconst (v := 0) dX8_priceNow_88 (by decide) ?_
    refine hJ.goto (tgt := 98) dX8_priceNow_89 (by decide) ?_
    obtain ⟨rfl, rfl⟩ := ret_S hF
    exact hR dX8_priceNow_98 (by decide) (by decide)

set_option maxHeartbeats 4000000 in
set_option maxRecDepth 100000 in
theorem c_X8_sell {x0 : Nat} {x1 : Int32} {h hh : Hp} {xr : Int32} (hF : F_X8_sell x0 x1 h = some (xr, hh)) : Ctr yX8_sell cX8_sell 3 (some .int) 2 0 0 [.inr (8, (some x0)), .inl x1] h (some (.inl xr)) hh := by
  refine Ctr_i (own := RX8) (ini := False) (ls0 := [some (.inr (8, (some x0))), some (.inl x1), none]) (by decide) rfl (Nat.le_of_ble_eq_true rfl) (fun e => e.elim) rfl ?_
  intro J hJ hR
  unfold F_X8_sell at hF
  refine hJ.aload_n (i := 0) dX8_sell_0 rfl rfl ?_
  refine hJ.iload_n (i := 1) dX8_sell_1 rfl rfl ?_
  replace hF := cl_S hF
  obtain ⟨r1, h2, ec3, hF⟩ := hF
  refine hJ.callV (as := [.inl x1]) (st := []) dX8_sell_2 w_RX8_167 ⟨by decide, rfl⟩ rfl (c_X8_isTrunk ec3) (by decide) (by decide) (by decide) rfl (Nat.le_of_ble_eq_true rfl) rfl ?_
  refine hJ.if_eq (tgt := 39) dX8_sell_5 (by decide) (fun e4 => ?_) (fun e4 => ?_)
  · replace hF := ite_T e4 hF
    refine hJ.iconst (v := -1) dX8_sell_39 (by decide) ?_
    obtain ⟨rfl, rfl⟩ := ret_S hF
    exact hR dX8_sell_40 (by decide) (by decide)
  · replace hF := ite_F e4 hF
    refine hJ.aload_n (i := 0) dX8_sell_8 rfl rfl ?_
    refine hJ.getR dX8_sell_9 f_RX8_50 rfl ?_
    refine hJ.iload_n (i := 1) dX8_sell_12 rfl rfl ?_
    replace hF := nn_S hF
    obtain ⟨n5, e6, hF⟩ := hF
    rw [e6]
    replace hF := ck_S hF
    obtain ⟨c7, hF⟩ := hF
    refine hJ.iald dX8_sell_13 a_38 rfl c7 ?_
    refine hJ.if_ne (tgt := 39) dX8_sell_14 (by decide) (fun e8 => ?_) (fun e8 => ?_)
    · replace hF := ite_F e8 hF
      refine hJ.iconst (v := -1) dX8_sell_39 (by decide) ?_
      obtain ⟨rfl, rfl⟩ := ret_S hF
      exact hR dX8_sell_40 (by decide) (by decide)
    · replace hF := ite_T e8 hF
      refine hJ.aload_n (i := 0) dX8_sell_17 rfl rfl ?_
      refine hJ.getR dX8_sell_18 f_RX8_28 rfl ?_
      refine hJ.aload_n (i := 0) dX8_sell_21 rfl rfl ?_
      refine hJ.getR dX8_sell_22 f_RX8_53 rfl ?_
      refine hJ.iload_n (i := 1) dX8_sell_25 rfl rfl ?_
      replace hF := nn_S hF
      obtain ⟨n9, e10, hF⟩ := hF
      rw [e10]
      replace hF := ck_S hF
      obtain ⟨c11, hF⟩ := hF
      refine hJ.iald dX8_sell_26 a_39 rfl c11 ?_
      replace hF := nn_S hF
      obtain ⟨n12, e13, hF⟩ := hF
      rw [e13]
      replace hF := ck_S hF
      obtain ⟨c14, hF⟩ := hF
      refine hJ.zald dX8_sell_27 a_31 rfl c14 ?_
      refine hJ.if_eq (tgt := 39) dX8_sell_28 (by decide) (fun e15 => ?_) (fun e15 => ?_)
      · replace hF := ite_T e15 hF
        refine hJ.iconst (v := -1) dX8_sell_39 (by decide) ?_
        obtain ⟨rfl, rfl⟩ := ret_S hF
        exact hR dX8_sell_40 (by decide) (by decide)
      · replace hF := ite_F e15 hF
        refine hJ.aload_n (i := 0) dX8_sell_31 rfl rfl ?_
        refine hJ.iload_n (i := 1) dX8_sell_32 rfl rfl ?_
        replace hF := cl_S hF
        obtain ⟨r16, h17, ec18, hF⟩ := hF
        refine hJ.callV (as := [.inl x1]) (st := []) dX8_sell_33 w_RX8_170 ⟨by decide, rfl⟩ rfl (c_X8_isNext ec18) (by decide) (by decide) (by decide) rfl (Nat.le_of_ble_eq_true rfl) rfl ?_
        refine hJ.if_eq (tgt := 41) dX8_sell_36 (by decide) (fun e19 => ?_) (fun e19 => ?_)
        · replace hF := ite_T e19 hF
          refine hJ.aload_n (i := 0) dX8_sell_41 rfl rfl ?_
          refine hJ.aload_n (i := 0) dX8_sell_42 rfl rfl ?_
          refine hJ.getR dX8_sell_43 f_RX8_53 rfl ?_
          refine hJ.iload_n (i := 1) dX8_sell_46 rfl rfl ?_
          replace hF := nn_S hF
          obtain ⟨n20, e21, hF⟩ := hF
          rw [e21]
          replace hF := ck_S hF
          obtain ⟨c22, hF⟩ := hF
          refine hJ.iald dX8_sell_47 a_39 rfl c22 ?_
          refine hJ.aload_n (i := 0) dX8_sell_48 rfl rfl ?_
          refine hJ.getR dX8_sell_49 f_RX8_44 rfl ?_
          refine hJ.iload_n (i := 1) dX8_sell_52 rfl rfl ?_
          replace hF := nn_S hF
          obtain ⟨n23, e24, hF⟩ := hF
          rw [e24]
          replace hF := ck_S hF
          obtain ⟨c25, hF⟩ := hF
          refine hJ.iald dX8_sell_53 a_36 rfl c25 ?_
          replace hF := cl_S hF
          obtain ⟨r26, h27, ec28, hF⟩ := hF
          refine hJ.callV (as := [.inl (pI h17 39 n20 (x1).toNatClampNeg), .inl (pI h17 36 n23 (x1).toNatClampNeg)]) (st := []) dX8_sell_54 w_RX8_234 ⟨by decide, rfl⟩ rfl (c_X8_priceNow ec28) (by decide) (by decide) (by decide) rfl (Nat.le_of_ble_eq_true rfl) rfl ?_
          refine hJ.aload_n (i := 0) dX8_sell_57 rfl rfl ?_
          refine hJ.getR dX8_sell_58 f_RX8_47 rfl ?_
          refine hJ.iload_n (i := 1) dX8_sell_61 rfl rfl ?_
          replace hF := nn_S hF
          obtain ⟨n29, e30, hF⟩ := hF
          rw [e30]
          replace hF := ck_S hF
          obtain ⟨c31, hF⟩ := hF
          refine hJ.iald dX8_sell_62 a_37 rfl c31 ?_
          refine hJ.imul dX8_sell_63 ?_
          refine hJ.istore_n (i := 2) (ls2 := [some (.inr (8, (some x0))), some (.inl x1), some (.inl (r26 * (pI h27 37 n29 (x1).toNatClampNeg)))]) dX8_sell_64 rfl (by decide) rfl ?_
          refine hJ.aload_n (i := 0) dX8_sell_65 rfl rfl ?_
          refine hJ.getR dX8_sell_66 f_RX8_50 rfl ?_
          refine hJ.iload_n (i := 1) dX8_sell_69 rfl rfl ?_
          refine hJ.iconst (v := 2) dX8_sell_70 (by decide) ?_
          replace hF := nn_S hF
          obtain ⟨n32, e33, hF⟩ := hF
          rw [e33]
          replace hF := ck_S hF
          obtain ⟨c34, hF⟩ := hF
          replace hF := lt_S hF
          obtain ⟨h35, eh36, hF⟩ := hF
          refine hJ.iast dX8_sell_71 a_38 rfl c34 ?_
          rw [← eh36]
          refine hJ.aload_n (i := 0) dX8_sell_72 rfl rfl ?_
          refine hJ.getR dX8_sell_73 f_RX8_65 rfl ?_
          refine hJ.iload_n (i := 1) dX8_sell_76 rfl rfl ?_
          refine hJ.iload_n (i := 2) dX8_sell_77 rfl rfl ?_
          replace hF := nn_S hF
          obtain ⟨n37, e38, hF⟩ := hF
          rw [e38]
          replace hF := ck_S hF
          obtain ⟨c39, hF⟩ := hF
          replace hF := lt_S hF
          obtain ⟨h40, eh41, hF⟩ := hF
          refine hJ.iast dX8_sell_78 a_43 rfl c39 ?_
          rw [← eh41]
          refine hJ.aload_n (i := 0) dX8_sell_79 rfl rfl ?_
          refine hJ.getR dX8_sell_80 f_RX8_104 rfl ?_
          refine hJ.aload_n (i := 0) dX8_sell_83 rfl rfl ?_
          refine hJ.getR dX8_sell_84 f_RX8_41 rfl ?_
          refine hJ.iload_n (i := 1) dX8_sell_87 rfl rfl ?_
          replace hF := nn_S hF
          obtain ⟨n42, e43, hF⟩ := hF
          rw [e43]
          replace hF := ck_S hF
          obtain ⟨c44, hF⟩ := hF
          refine hJ.iald dX8_sell_88 a_35 rfl c44 ?_
          refine hJ.dup2 dX8_sell_89 ?_
          replace hF := nn_S hF
          obtain ⟨n45, e46, hF⟩ := hF
          rw [e46]
          replace hF := ck_S hF
          obtain ⟨c47, hF⟩ := hF
          refine hJ.iald dX8_sell_90 a_56 rfl c47 ?_
          refine hJ.iload_n (i := 2) dX8_sell_91 rfl rfl ?_
          refine hJ.iadd dX8_sell_92 ?_
          replace hF := ck_S hF
          obtain ⟨c48, hF⟩ := hF
          replace hF := lt_S hF
          obtain ⟨h49, eh50, hF⟩ := hF
          refine hJ.iast dX8_sell_93 a_56 rfl c48 ?_
          rw [← eh50]
          refine hJ.iload_n (i := 2) dX8_sell_94 rfl rfl ?_
          obtain ⟨rfl, rfl⟩ := ret_S hF
          exact hR dX8_sell_95 (by decide) (by decide)
        · replace hF := ite_F e19 hF
          refine hJ.iconst (v := -1) dX8_sell_39 (by decide) ?_
          obtain ⟨rfl, rfl⟩ := ret_S hF
          exact hR dX8_sell_40 (by decide) (by decide)

