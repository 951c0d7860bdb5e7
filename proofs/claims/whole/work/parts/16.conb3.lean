set_option maxHeartbeats 4000000 in
set_option maxRecDepth 100000 in
theorem t_X8_walk_49 {β : Type} {J : JT} (hJ : Rules cX8_walk RX8 4 1 0 0 False J) {a b : Nat} (ha : a ≤ 0) (hb : b ≤ 0) {v0 : Nat} {v1 : Int32} {κ82 : Int32 → Int32 → Hp → Option β} {out : β}
    (hk82 : ∀ (k2 : Int32) (k3 : Int32) (h : Hp), κ82 k2 k3 h = some out → J 82 [some (.inr (8, (some v0))), some (.inl v1), some (.inl k2), some (.inl k3)] [] h a b)
    : ∀ (f : Nat) (v2 : Int32) (v3 : Int32) (h : Hp), L_X8_walk_49 v0 v1 κ82 f v2 v3 h = some out → J 49 [some (.inr (8, (some v0))), some (.inl v1), some (.inl v2), some (.inl v3)] [] h a b := by
  intro f
  induction f with
  | zero => intro v2 v3 h hF; simp [L_X8_walk_49] at hF
  | succ f ih =>
    intro v2 v3 h hF
    rw [L_X8_walk_49] at hF
    refine hJ.iload_n (i := 3) dX8_walk_49 rfl rfl ?_
    refine hJ.if_eq (tgt := 82) dX8_walk_50 (by decide) (fun e17 => ?_) (fun e17 => ?_)
    · replace hF := ite_T e17 hF
      refine hJ.forget (ls2 := [some (.inr (8, (some v0))), some (.inl v1), some (.inl v2), some (.inl v3)]) ⟨rfl, rfl, rfl, rfl, trivial⟩ ?_
      exact hk82 v2 v3 h hF
    · replace hF := ite_F e17 hF
      refine hJ.iload_n (i := 3) dX8_walk_53 rfl rfl ?_
      refine hJ.aload_n (i := 0) dX8_walk_54 rfl rfl ?_
      refine hJ.getR dX8_walk_55 f_RX8_92 rfl ?_
      refine hJ.iload_n (i := 1) dX8_walk_58 rfl rfl ?_
      replace hF := nn_S hF
      obtain ⟨n18, e19, hF⟩ := hF
      rw [e19]
      replace hF := ck_S hF
      obtain ⟨c20, hF⟩ := hF
      refine hJ.iald dX8_walk_59 a_52 rfl c20 ?_
      refine hJ.icmp_eq (tgt := 82) dX8_walk_60 (by decide) (fun e21 => ?_) (fun e21 => ?_)
      · replace hF := ite_T e21 hF
        refine hJ.forget (ls2 := [some (.inr (8, (some v0))), some (.inl v1), some (.inl v2), some (.inl v3)]) ⟨rfl, rfl, rfl, rfl, trivial⟩ ?_
        exact hk82 v2 v3 h hF
      · replace hF := ite_F e21 hF
        refine hJ.iload_n (i := 2) dX8_walk_63 rfl rfl ?_
        refine hJ.aload_n (i := 0) dX8_walk_64 rfl rfl ?_
        refine hJ.getR dX8_walk_65 f_RX8_13 rfl ?_
        refine hJ.iload_n (i := 3) dX8_walk_68 rfl rfl ?_
        replace hF := nn_S hF
        obtain ⟨n22, e23, hF⟩ := hF
        rw [e23]
        replace hF := ck_S hF
        obtain ⟨c24, hF⟩ := hF
        refine hJ.iald dX8_walk_69 a_26 rfl c24 ?_
        refine hJ.iadd dX8_walk_70 ?_
        refine hJ.istore_n (i := 2) (ls2 := [some (.inr (8, (some v0))), some (.inl v1), some (.inl (v2 + (pI h 26 n22 (v3).toNatClampNeg))), some (.inl v3)]) dX8_walk_71 rfl (by decide) rfl ?_
        refine hJ.aload_n (i := 0) dX8_walk_72 rfl rfl ?_
        refine hJ.getR dX8_walk_73 f_RX8_9 rfl ?_
        refine hJ.iload_n (i := 3) dX8_walk_76 rfl rfl ?_
        replace hF := nn_S hF
        obtain ⟨n25, e26, hF⟩ := hF
        rw [e26]
        replace hF := ck_S hF
        obtain ⟨c27, hF⟩ := hF
        refine hJ.iald dX8_walk_77 a_25 rfl c27 ?_
        refine hJ.istore_n (i := 3) (ls2 := [some (.inr (8, (some v0))), some (.inl v1), some (.inl (v2 + (pI h 26 n22 (v3).toNatClampNeg))), some (.inl (pI h 25 n25 (v3).toNatClampNeg))]) dX8_walk_78 rfl (by decide) rfl ?_
        refine hJ.goto (tgt := 49) dX8_walk_79 (by decide) ?_
        refine hJ.forget (ls2 := [some (.inr (8, (some v0))), some (.inl v1), some (.inl (v2 + (pI h 26 n22 (v3).toNatClampNeg))), some (.inl (pI h 25 n25 (v3).toNatClampNeg))]) ⟨rfl, rfl, rfl, rfl, trivial⟩ ?_
        exact ih (v2 + (pI h 26 n22 (v3).toNatClampNeg)) (pI h 25 n25 (v3).toNatClampNeg) h hF

set_option maxHeartbeats 4000000 in
set_option maxRecDepth 100000 in
theorem c_X8_walk {x0 : Nat} {x1 : Int32} {h hh : Hp} {xr : Int32} (hF : F_X8_walk x0 x1 h = some (xr, hh)) : Ctr yX8_walk cX8_walk 4 (some .int) 1 0 0 [.inr (8, (some x0)), .inl x1] h (some (.inl xr)) hh := by
  refine Ctr_i (own := RX8) (ini := False) (ls0 := [some (.inr (8, (some x0))), some (.inl x1), none, none]) (by decide) rfl (Nat.le_of_ble_eq_true rfl) (fun e => e.elim) rfl ?_
  intro J hJ hR
  unfold F_X8_walk at hF
  refine hJ.iload_n (i := 1) dX8_walk_0 rfl rfl ?_
  refine hJ.iconst (v := 0) dX8_walk_1 (by decide) ?_
  refine hJ.aload_n (i := 0) dX8_walk_2 rfl rfl ?_
  refine hJ.getI dX8_walk_3 f_RX8_191 rfl ?_
  refine hJ.iconst (v := 1) dX8_walk_6 (by decide) ?_
  refine hJ.isub dX8_walk_7 ?_
  replace hF := cl_S hF
  obtain ⟨r1, h2, ec3, hF⟩ := hF
  refine hJ.callS (as := [.inl x1, .inl (0 : Int32), .inl ((pI h 8 x0 30) - (1 : Int32))]) (st := []) dX8_walk_8 w_RX8_144 (c_X8_in ec3) (by decide) (by decide) (by decide) rfl (Nat.le_of_ble_eq_true rfl) rfl ?_
  refine hJ.if_eq (tgt := 38) dX8_walk_11 (by decide) (fun e4 => ?_) (fun e4 => ?_)
  · replace hF := ite_T e4 hF
    refine hJ.iconst (v := -1) dX8_walk_38 (by decide) ?_
    obtain ⟨rfl, rfl⟩ := ret_S hF
    exact hR dX8_walk_39 (by decide) (by decide)
  · replace hF := ite_F e4 hF
    refine hJ.aload_n (i := 0) dX8_walk_14 rfl rfl ?_
    refine hJ.getR dX8_walk_15 f_RX8_89 rfl ?_
    refine hJ.iload_n (i := 1) dX8_walk_18 rfl rfl ?_
    replace hF := nn_S hF
    obtain ⟨n5, e6, hF⟩ := hF
    rw [e6]
    replace hF := ck_S hF
    obtain ⟨c7, hF⟩ := hF
    refine hJ.iald dX8_walk_19 a_51 rfl c7 ?_
    refine hJ.if_ne (tgt := 38) dX8_walk_20 (by decide) (fun e8 => ?_) (fun e8 => ?_)
    · replace hF := ite_F e8 hF
      refine hJ.iconst (v := -1) dX8_walk_38 (by decide) ?_
      obtain ⟨rfl, rfl⟩ := ret_S hF
      exact hR dX8_walk_39 (by decide) (by decide)
    · replace hF := ite_T e8 hF
      refine hJ.aload_n (i := 0) dX8_walk_23 rfl rfl ?_
      refine hJ.getR dX8_walk_24 f_RX8_92 rfl ?_
      refine hJ.iload_n (i := 1) dX8_walk_27 rfl rfl ?_
      replace hF := nn_S hF
      obtain ⟨n9, e10, hF⟩ := hF
      rw [e10]
      replace hF := ck_S hF
      obtain ⟨c11, hF⟩ := hF
      refine hJ.iald dX8_walk_28 a_52 rfl c11 ?_
      refine hJ.aload_n (i := 0) dX8_walk_29 rfl rfl ?_
      refine hJ.getR dX8_walk_30 f_RX8_86 rfl ?_
      refine hJ.iload_n (i := 1) dX8_walk_33 rfl rfl ?_
      replace hF := nn_S hF
      obtain ⟨n12, e13, hF⟩ := hF
      rw [e13]
      replace hF := ck_S hF
      obtain ⟨c14, hF⟩ := hF
      refine hJ.iald dX8_walk_34 a_50 rfl c14 ?_
      refine hJ.icmp_ne (tgt := 40) dX8_walk_35 (by decide) (fun e15 => ?_) (fun e15 => ?_)
      · replace hF := ite_F e15 hF
        refine hJ.iconst (v := 0) dX8_walk_40 (by decide) ?_
        refine hJ.istore_n (i := 2) (ls2 := [some (.inr (8, (some x0))), some (.inl x1), some (.inl (0 : Int32)), none]) dX8_walk_41 rfl (by decide) rfl ?_
        refine hJ.aload_n (i := 0) dX8_walk_42 rfl rfl ?_
        refine hJ.getR dX8_walk_43 f_RX8_86 rfl ?_
        rw [e13]
        refine hJ.iload_n (i := 1) dX8_walk_46 rfl rfl ?_
        replace hF := ck_S hF
        obtain ⟨c16, hF⟩ := hF
        refine hJ.iald dX8_walk_47 a_50 rfl c16 ?_
        refine hJ.istore_n (i := 3) (ls2 := [some (.inr (8, (some x0))), some (.inl x1), some (.inl (0 : Int32)), some (.inl (pI h2 50 n12 (x1).toNatClampNeg))]) dX8_walk_48 rfl (by decide) rfl ?_
        refine hJ.forget (ls2 := [some (.inr (8, (some x0))), some (.inl x1), some (.inl (0 : Int32)), some (.inl (pI h2 50 n12 (x1).toNatClampNeg))]) ⟨rfl, rfl, rfl, rfl, trivial⟩ ?_
        refine t_X8_walk_49 hJ (by decide) (by decide) (fun k28 k29 h30 hF => ?_) FU _ _ _ hF
        refine hJ.iload_n (i := 3) dX8_walk_82 rfl rfl ?_
        refine hJ.aload_n (i := 0) dX8_walk_83 rfl rfl ?_
        refine hJ.getR dX8_walk_84 f_RX8_92 rfl ?_
        refine hJ.iload_n (i := 1) dX8_walk_87 rfl rfl ?_
        replace hF := nn_S hF
        obtain ⟨n31, e32, hF⟩ := hF
        rw [e32]
        replace hF := ck_S hF
        obtain ⟨c33, hF⟩ := hF
        refine hJ.iald dX8_walk_88 a_52 rfl c33 ?_
        refine hJ.icmp_eq (tgt := 94) dX8_walk_89 (by decide) (fun e34 => ?_) (fun e34 => ?_)
        · replace hF := ite_T e34 hF
          refine hJ.aload_n (i := 0) dX8_walk_94 rfl rfl ?_
          refine hJ.getR dX8_walk_95 f_RX8_89 rfl ?_
          refine hJ.iload_n (i := 1) dX8_walk_98 rfl rfl ?_
          refine hJ.iconst (v := 2) dX8_walk_99 (by decide) ?_
          replace hF := nn_S hF
          obtain ⟨n35, e36, hF⟩ := hF
          rw [e36]
          replace hF := ck_S hF
          obtain ⟨c37, hF⟩ := hF
          replace hF := lt_S hF
          obtain ⟨h38, eh39, hF⟩ := hF
          refine hJ.iast dX8_walk_100 a_51 rfl c37 ?_
          rw [← eh39]
          refine hJ.aload_n (i := 0) dX8_walk_101 rfl rfl ?_
          refine hJ.getR dX8_walk_102 f_RX8_98 rfl ?_
          refine hJ.iload_n (i := 1) dX8_walk_105 rfl rfl ?_
          refine hJ.aload_n (i := 0) dX8_walk_106 rfl rfl ?_
          refine hJ.getI dX8_walk_107 f_RX8_194 rfl ?_
          refine hJ.iconst (v := 2) dX8_walk_110 (by decide) ?_
          refine hJ.iload_n (i := 2) dX8_walk_111 rfl rfl ?_
          refine hJ.imul dX8_walk_112 ?_
          refine hJ.iadd dX8_walk_113 ?_
          replace hF := nn_S hF
          obtain ⟨n40, e41, hF⟩ := hF
          rw [e41]
          replace hF := ck_S hF
          obtain ⟨c42, hF⟩ := hF
          replace hF := lt_S hF
          obtain ⟨h43, eh44, hF⟩ := hF
          refine hJ.iast dX8_walk_114 a_54 rfl c42 ?_
          rw [← eh44]
          refine hJ.aload_n (i := 0) dX8_walk_115 rfl rfl ?_
          refine hJ.getR dX8_walk_116 f_RX8_98 rfl ?_
          refine hJ.iload_n (i := 1) dX8_walk_119 rfl rfl ?_
          replace hF := nn_S hF
          obtain ⟨n45, e46, hF⟩ := hF
          rw [e46]
          replace hF := ck_S hF
          obtain ⟨c47, hF⟩ := hF
          refine hJ.iald dX8_walk_120 a_54 rfl c47 ?_
          obtain ⟨rfl, rfl⟩ := ret_S hF
          exact hR dX8_walk_121 (by decide) (by decide)
        · replace hF := ite_F e34 hF
          refine hJ.iconst (v := -1) dX8_walk_92 (by decide) ?_
          obtain ⟨rfl, rfl⟩ := ret_S hF
          exact hR dX8_walk_93 (by decide) (by decide)
      · replace hF := ite_T e15 hF
        refine hJ.iconst (v := -1) dX8_walk_38 (by decide) ?_
        obtain ⟨rfl, rfl⟩ := ret_S hF
        exact hR dX8_walk_39 (by decide) (by decide)

set_option maxHeartbeats 4000000 in
set_option maxRecDepth 100000 in
theorem t_X8_tollOf_4 {β : Type} {J : JT} (hJ : Rules cX8_tollOf RX8 4 0 0 0 False J) {a b : Nat} (ha : a ≤ 0) (hb : b ≤ 0) {v0 : Nat} {v1 : Int32} {κ50 : Int32 → Hp → Option β} {out : β}
    (hk50 : ∀ (k2 : Int32) (h : Hp), κ50 k2 h = some out → J 50 [some (.inr (8, (some v0))), none, some (.inl k2), none] [] h a b)
    : ∀ (f : Nat) (v2 : Int32) (v3 : Int32) (h : Hp), L_X8_tollOf_4 v0 v1 κ50 f v2 v3 h = some out → J 4 [some (.inr (8, (some v0))), some (.inl v1), some (.inl v2), some (.inl v3)] [] h a b := by
  intro f
  induction f with
  | zero => intro v2 v3 h hF; simp [L_X8_tollOf_4] at hF
  | succ f ih =>
    intro v2 v3 h hF
    rw [L_X8_tollOf_4] at hF
    refine hJ.iload_n (i := 3) dX8_tollOf_4 rfl rfl ?_
    refine hJ.aload_n (i := 0) dX8_tollOf_5 rfl rfl ?_
    refine hJ.getI dX8_tollOf_6 f_RX8_204 rfl ?_
    refine hJ.icmp_ge (tgt := 50) dX8_tollOf_9 (by decide) (fun e1 => ?_) (fun e1 => ?_)
    · replace hF := ite_T e1 hF
      refine hJ.forget (ls2 := [some (.inr (8, (some v0))), none, some (.inl v2), none]) ⟨rfl, rfl, trivial⟩ ?_
      exact hk50 v2 h hF
    · replace hF := ite_F e1 hF
      refine hJ.aload_n (i := 0) dX8_tollOf_12 rfl rfl ?_
      refine hJ.getR dX8_tollOf_13 f_RX8_107 rfl ?_
      refine hJ.iload_n (i := 3) dX8_tollOf_16 rfl rfl ?_
      replace hF := nn_S hF
      obtain ⟨n2, e3, hF⟩ := hF
      rw [e3]
      replace hF := ck_S hF
      obtain ⟨c4, hF⟩ := hF
      refine hJ.iald dX8_tollOf_17 a_57 rfl c4 ?_
      refine hJ.iload_n (i := 1) dX8_tollOf_18 rfl rfl ?_
      refine hJ.icmp_gt (tgt := 44) dX8_tollOf_19 (by decide) (fun e5 => ?_) (fun e5 => ?_)
      · replace hF := ite_T e5 hF
        refine hJ.iinc (i := 3) (v := (v3 + (1 : Int32))) (ls2 := [some (.inr (8, (some v0))), some (.inl v1), some (.inl v2), some (.inl (v3 + (1 : Int32)))]) dX8_tollOf_44 rfl (addI (by decide)) (by decide) rfl ?_
        refine hJ.goto (tgt := 4) dX8_tollOf_47 (by decide) ?_
        refine hJ.forget (ls2 := [some (.inr (8, (some v0))), some (.inl v1), some (.inl v2), some (.inl (v3 + (1 : Int32)))]) ⟨rfl, rfl, rfl, rfl, trivial⟩ ?_
        exact ih v2 (v3 + (1 : Int32)) h hF
      · replace hF := ite_F e5 hF
        refine hJ.iload_n (i := 2) dX8_tollOf_22 rfl rfl ?_
        refine hJ.iconst (v := -1) dX8_tollOf_23 (by decide) ?_
        refine hJ.icmp_eq (tgt := 42) dX8_tollOf_24 (by decide) (fun e6 => ?_) (fun e6 => ?_)
        · replace hF := ite_T e6 hF
          refine hJ.iload_n (i := 3) dX8_tollOf_42 rfl rfl ?_
          refine hJ.istore_n (i := 2) (ls2 := [some (.inr (8, (some v0))), some (.inl v1), some (.inl v3), some (.inl v3)]) dX8_tollOf_43 rfl (by decide) rfl ?_
          refine hJ.iinc (i := 3) (v := (v3 + (1 : Int32))) (ls2 := [some (.inr (8, (some v0))), some (.inl v1), some (.inl v3), some (.inl (v3 + (1 : Int32)))]) dX8_tollOf_44 rfl (addI (by decide)) (by decide) rfl ?_
          refine hJ.goto (tgt := 4) dX8_tollOf_47 (by decide) ?_
          refine hJ.forget (ls2 := [some (.inr (8, (some v0))), some (.inl v1), some (.inl v3), some (.inl (v3 + (1 : Int32)))]) ⟨rfl, rfl, rfl, rfl, trivial⟩ ?_
          exact ih v3 (v3 + (1 : Int32)) h hF
        · replace hF := ite_F e6 hF
          refine hJ.aload_n (i := 0) dX8_tollOf_27 rfl rfl ?_
          refine hJ.getR dX8_tollOf_28 f_RX8_107 rfl ?_
          rw [e3]
          refine hJ.iload_n (i := 3) dX8_tollOf_31 rfl rfl ?_
          replace hF := ck_S hF
          obtain ⟨c7, hF⟩ := hF
          refine hJ.iald dX8_tollOf_32 a_57 rfl c7 ?_
          refine hJ.aload_n (i := 0) dX8_tollOf_33 rfl rfl ?_
          refine hJ.getR dX8_tollOf_34 f_RX8_107 rfl ?_
          rw [e3]
          refine hJ.iload_n (i := 2) dX8_tollOf_37 rfl rfl ?_
          replace hF := ck_S hF
          obtain ⟨c8, hF⟩ := hF
          refine hJ.iald dX8_tollOf_38 a_57 rfl c8 ?_
          refine hJ.icmp_lt (tgt := 44) dX8_tollOf_39 (by decide) (fun e9 => ?_) (fun e9 => ?_)
          · replace hF := ite_T e9 hF
            refine hJ.iinc (i := 3) (v := (v3 + (1 : Int32))) (ls2 := [some (.inr (8, (some v0))), some (.inl v1), some (.inl v2), some (.inl (v3 + (1 : Int32)))]) dX8_tollOf_44 rfl (addI (by decide)) (by decide) rfl ?_
            refine hJ.goto (tgt := 4) dX8_tollOf_47 (by decide) ?_
            refine hJ.forget (ls2 := [some (.inr (8, (some v0))), some (.inl v1), some (.inl v2), some (.inl (v3 + (1 : Int32)))]) ⟨rfl, rfl, rfl, rfl, trivial⟩ ?_
            exact ih v2 (v3 + (1 : Int32)) h hF
          · replace hF := ite_F e9 hF
            refine hJ.iload_n (i := 3) dX8_tollOf_42 rfl rfl ?_
            refine hJ.istore_n (i := 2) (ls2 := [some (.inr (8, (some v0))), some (.inl v1), some (.inl v3), some (.inl v3)]) dX8_tollOf_43 rfl (by decide) rfl ?_
            refine hJ.iinc (i := 3) (v := (v3 + (1 : Int32))) (ls2 := [some (.inr (8, (some v0))), some (.inl v1), some (.inl v3), some (.inl (v3 + (1 : Int32)))]) dX8_tollOf_44 rfl (addI (by decide)) (by decide) rfl ?_
            refine hJ.goto (tgt := 4) dX8_tollOf_47 (by decide) ?_
            refine hJ.forget (ls2 := [some (.inr (8, (some v0))), some (.inl v1), some (.inl v3), some (.inl (v3 + (1 : Int32)))]) ⟨rfl, rfl, rfl, rfl, trivial⟩ ?_
            exact ih v3 (v3 + (1 : Int32)) h hF

set_option maxHeartbeats 4000000 in
set_option maxRecDepth 100000 in
theorem c_X8_tollOf {x0 : Nat} {x1 : Int32} {h hh : Hp} {xr : Int32} (hF : F_X8_tollOf x0 x1 h = some (xr, hh)) : Ctr yX8_tollOf cX8_tollOf 4 (some .int) 0 0 0 [.inr (8, (some x0)), .inl x1] h (some (.inl xr)) hh := by
  refine Ctr_i (own := RX8) (ini := False) (ls0 := [some (.inr (8, (some x0))), some (.inl x1), none, none]) (by decide) rfl (Nat.le_of_ble_eq_true rfl) (fun e => e.elim) rfl ?_
  intro J hJ hR
  unfold F_X8_tollOf at hF
  refine hJ.iconst (v := -1) dX8_tollOf_0 (by decide) ?_
  refine hJ.istore_n (i := 2) (ls2 := [some (.inr (8, (some x0))), some (.inl x1), some (.inl (-1 : Int32)), none]) dX8_tollOf_1 rfl (by decide) rfl ?_
  refine hJ.iconst (v := 0) dX8_tollOf_2 (by decide) ?_
  refine hJ.istore_n (i := 3) (ls2 := [some (.inr (8, (some x0))), some (.inl x1), some (.inl (-1 : Int32)), some (.inl (0 : Int32))]) dX8_tollOf_3 rfl (by decide) rfl ?_
  refine hJ.forget (ls2 := [some (.inr (8, (some x0))), some (.inl x1), some (.inl (-1 : Int32)), some (.inl (0 : Int32))]) ⟨rfl, rfl, rfl, rfl, trivial⟩ ?_
  refine t_X8_tollOf_4 hJ (by decide) (by decide) (fun k10 h11 hF => ?_) FU _ _ _ hF
  refine hJ.iload_n (i := 2) dX8_tollOf_50 rfl rfl ?_
  refine hJ.iconst (v := -1) dX8_tollOf_51 (by decide) ?_
  refine hJ.icmp_ne (tgt := 59) dX8_tollOf_52 (by decide) (fun e12 => ?_) (fun e12 => ?_)
  · replace hF := ite_F e12 hF
    refine hJ.aload_n (i := 0) dX8_tollOf_59 rfl rfl ?_
    refine hJ.getR dX8_tollOf_60 f_RX8_110 rfl ?_
    refine hJ.iload_n (i := 2) dX8_tollOf_63 rfl rfl ?_
    replace hF := nn_S hF
    obtain ⟨n13, e14, hF⟩ := hF
    rw [e14]
    replace hF := ck_S hF
    obtain ⟨c15, hF⟩ := hF
    refine hJ.iald dX8_tollOf_64 a_58 rfl c15 ?_
    obtain ⟨rfl, rfl⟩ := ret_S hF
    exact hR dX8_tollOf_65 (by decide) (by decide)
  · replace hF := ite_T e12 hF
    refine hJ.iconst (v := 0) dX8_tollOf_55 (by decide) ?_
    refine hJ.goto (tgt := 65) dX8_tollOf_56 (by decide) ?_
    obtain ⟨rfl, rfl⟩ := ret_S hF
    exact hR dX8_tollOf_65 (by decide) (by decide)

set_option maxHeartbeats 4000000 in
set_option maxRecDepth 100000 in
theorem t_X8_arrivals_2 {β : Type} {J : JT} (hJ : Rules cX8_arrivals RX8 2 1 0 0 False J) {a b : Nat} (ha : a ≤ 0) (hb : b ≤ 0) {v0 : Nat} {κ83 : Hp → Option β} {out : β}
    (hk83 : ∀ (h : Hp), κ83 h = some out → J 83 [some (.inr (8, (some v0))), none] [] h a b)
    : ∀ (f : Nat) (v1 : Int32) (h : Hp), L_X8_arrivals_2 v0 κ83 f v1 h = some out → J 2 [some (.inr (8, (some v0))), some (.inl v1)] [] h a b := by
  intro f
  induction f with
  | zero => intro v1 h hF; simp [L_X8_arrivals_2] at hF
  | succ f ih =>
    intro v1 h hF
    rw [L_X8_arrivals_2] at hF
    refine hJ.iload_n (i := 1) dX8_arrivals_2 rfl rfl ?_
    refine hJ.aload_n (i := 0) dX8_arrivals_3 rfl rfl ?_
    refine hJ.getI dX8_arrivals_4 f_RX8_151 rfl ?_
    refine hJ.icmp_ge (tgt := 83) dX8_arrivals_7 (by decide) (fun e1 => ?_) (fun e1 => ?_)
    · replace hF := ite_T e1 hF
      refine hJ.forget (ls2 := [some (.inr (8, (some v0))), none]) ⟨rfl, trivial⟩ ?_
      exact hk83 h hF
    · replace hF := ite_F e1 hF
      refine hJ.aload_n (i := 0) dX8_arrivals_10 rfl rfl ?_
      refine hJ.getR dX8_arrivals_11 f_RX8_71 rfl ?_
      refine hJ.iload_n (i := 1) dX8_arrivals_14 rfl rfl ?_
      replace hF := nn_S hF
      obtain ⟨n2, e3, hF⟩ := hF
      rw [e3]
      replace hF := ck_S hF
      obtain ⟨c4, hF⟩ := hF
      refine hJ.iald dX8_arrivals_15 a_45 rfl c4 ?_
      refine hJ.iconst (v := 2) dX8_arrivals_16 (by decide) ?_
      refine hJ.icmp_ne (tgt := 77) dX8_arrivals_17 (by decide) (fun e5 => ?_) (fun e5 => ?_)
      · replace hF := ite_F e5 hF
        refine hJ.iinc (i := 1) (v := (v1 + (1 : Int32))) (ls2 := [some (.inr (8, (some v0))), some (.inl (v1 + (1 : Int32)))]) dX8_arrivals_77 rfl (addI (by decide)) (by decide) rfl ?_
        refine hJ.goto (tgt := 2) dX8_arrivals_80 (by decide) ?_
        refine hJ.forget (ls2 := [some (.inr (8, (some v0))), some (.inl (v1 + (1 : Int32)))]) ⟨rfl, rfl, trivial⟩ ?_
        exact ih (v1 + (1 : Int32)) h hF
      · replace hF := ite_T e5 hF
        refine hJ.aload_n (i := 0) dX8_arrivals_20 rfl rfl ?_
        refine hJ.getR dX8_arrivals_21 f_RX8_83 rfl ?_
        refine hJ.iload_n (i := 1) dX8_arrivals_24 rfl rfl ?_
        replace hF := nn_S hF
        obtain ⟨n6, e7, hF⟩ := hF
        rw [e7]
        replace hF := ck_S hF
        obtain ⟨c8, hF⟩ := hF
        refine hJ.iald dX8_arrivals_25 a_49 rfl c8 ?_
        refine hJ.aload_n (i := 0) dX8_arrivals_26 rfl rfl ?_
        refine hJ.getI dX8_arrivals_27 f_RX8_194 rfl ?_
        refine hJ.icmp_eq (tgt := 36) dX8_arrivals_30 (by decide) (fun e9 => ?_) (fun e9 => ?_)
        · replace hF := ite_T e9 hF
          refine hJ.aload_n (i := 0) dX8_arrivals_36 rfl rfl ?_
          refine hJ.getR dX8_arrivals_37 f_RX8_71 rfl ?_
          rw [e3]
          refine hJ.iload_n (i := 1) dX8_arrivals_40 rfl rfl ?_
          refine hJ.iconst (v := 0) dX8_arrivals_41 (by decide) ?_
          replace hF := ck_S hF
          obtain ⟨c10, hF⟩ := hF
          replace hF := lt_S hF
          obtain ⟨h11, eh12, hF⟩ := hF
          refine hJ.iast dX8_arrivals_42 a_45 rfl c10 ?_
          rw [← eh12]
          refine hJ.aload_n (i := 0) dX8_arrivals_43 rfl rfl ?_
          refine hJ.getR dX8_arrivals_44 f_RX8_83 rfl ?_
          refine hJ.iload_n (i := 1) dX8_arrivals_47 rfl rfl ?_
          refine hJ.iconst (v := -1) dX8_arrivals_48 (by decide) ?_
          replace hF := nn_S hF
          obtain ⟨n13, e14, hF⟩ := hF
          rw [e14]
          replace hF := ck_S hF
          obtain ⟨c15, hF⟩ := hF
          replace hF := lt_S hF
          obtain ⟨h16, eh17, hF⟩ := hF
          refine hJ.iast dX8_arrivals_49 a_49 rfl c15 ?_
          rw [← eh17]
          refine hJ.aload_n (i := 0) dX8_arrivals_50 rfl rfl ?_
          refine hJ.aload_n (i := 0) dX8_arrivals_51 rfl rfl ?_
          refine hJ.getR dX8_arrivals_52 f_RX8_80 rfl ?_
          refine hJ.iload_n (i := 1) dX8_arrivals_55 rfl rfl ?_
          replace hF := nn_S hF
          obtain ⟨n18, e19, hF⟩ := hF
          rw [e19]
          replace hF := ck_S hF
          obtain ⟨c20, hF⟩ := hF
          refine hJ.iald dX8_arrivals_56 a_48 rfl c20 ?_
          refine hJ.aload_n (i := 0) dX8_arrivals_57 rfl rfl ?_
          refine hJ.getR dX8_arrivals_58 f_RX8_74 rfl ?_
          refine hJ.iload_n (i := 1) dX8_arrivals_61 rfl rfl ?_
          replace hF := nn_S hF
          obtain ⟨n21, e22, hF⟩ := hF
          rw [e22]
          replace hF := ck_S hF
          obtain ⟨c23, hF⟩ := hF
          refine hJ.iald dX8_arrivals_62 a_46 rfl c23 ?_
          refine hJ.aload_n (i := 0) dX8_arrivals_63 rfl rfl ?_
          refine hJ.getI dX8_arrivals_64 f_RX8_194 rfl ?_
          replace hF := cl_S hF
          obtain ⟨r24, h25, ec26, hF⟩ := hF
          refine hJ.callV0 (as := [.inl (pI h16 48 n18 (v1).toNatClampNeg), .inl (pI h16 46 n21 (v1).toNatClampNeg), .inl (pI h16 8 v0 0)]) (st := []) dX8_arrivals_67 w_RX8_200 ⟨by decide, rfl⟩ rfl (c_X8_lands ec26) (by decide) ha hb rfl (Nat.le_of_ble_eq_true rfl) rfl ?_
          refine hJ.aload_n (i := 0) dX8_arrivals_70 rfl rfl ?_
          refine hJ.getR dX8_arrivals_71 f_RX8_80 rfl ?_
          refine hJ.iload_n (i := 1) dX8_arrivals_74 rfl rfl ?_
          refine hJ.iconst (v := -1) dX8_arrivals_75 (by decide) ?_
          replace hF := nn_S hF
          obtain ⟨n27, e28, hF⟩ := hF
          rw [e28]
          replace hF := ck_S hF
          obtain ⟨c29, hF⟩ := hF
          replace hF := lt_S hF
          obtain ⟨h30, eh31, hF⟩ := hF
          refine hJ.iast dX8_arrivals_76 a_48 rfl c29 ?_
          rw [← eh31]
          refine hJ.iinc (i := 1) (v := (v1 + (1 : Int32))) (ls2 := [some (.inr (8, (some v0))), some (.inl (v1 + (1 : Int32)))]) dX8_arrivals_77 rfl (addI (by decide)) (by decide) rfl ?_
          refine hJ.goto (tgt := 2) dX8_arrivals_80 (by decide) ?_
          refine hJ.forget (ls2 := [some (.inr (8, (some v0))), some (.inl (v1 + (1 : Int32)))]) ⟨rfl, rfl, trivial⟩ ?_
          exact ih (v1 + (1 : Int32)) h30 hF
        · replace hF := ite_F e9 hF
          refine hJ.goto (tgt := 77) dX8_arrivals_33 (by decide) ?_
          refine hJ.iinc (i := 1) (v := (v1 + (1 : Int32))) (ls2 := [some (.inr (8, (some v0))), some (.inl (v1 + (1 : Int32)))]) dX8_arrivals_77 rfl (addI (by decide)) (by decide) rfl ?_
          refine hJ.goto (tgt := 2) dX8_arrivals_80 (by decide) ?_
          refine hJ.forget (ls2 := [some (.inr (8, (some v0))), some (.inl (v1 + (1 : Int32)))]) ⟨rfl, rfl, trivial⟩ ?_
          exact ih (v1 + (1 : Int32)) h hF

set_option maxHeartbeats 4000000 in
set_option maxRecDepth 100000 in
theorem t_X8_arrivals_85 {β : Type} {J : JT} (hJ : Rules cX8_arrivals RX8 2 1 0 0 False J) {a b : Nat} (ha : a ≤ 0) (hb : b ≤ 0) {v0 : Nat} {κ137 : Hp → Option β} {out : β}
    (hk137 : ∀ (h : Hp), κ137 h = some out → J 137 [none, none] [] h a b)
    : ∀ (f : Nat) (v1 : Int32) (h : Hp), L_X8_arrivals_85 v0 κ137 f v1 h = some out → J 85 [some (.inr (8, (some v0))), some (.inl v1)] [] h a b := by
  intro f
  induction f with
  | zero => intro v1 h hF; simp [L_X8_arrivals_85] at hF
  | succ f ih =>
    intro v1 h hF
    rw [L_X8_arrivals_85] at hF
    refine hJ.iload_n (i := 1) dX8_arrivals_85 rfl rfl ?_
    refine hJ.aload_n (i := 0) dX8_arrivals_86 rfl rfl ?_
    refine hJ.getI dX8_arrivals_87 f_RX8_191 rfl ?_
    refine hJ.icmp_ge (tgt := 137) dX8_arrivals_90 (by decide) (fun e33 => ?_) (fun e33 => ?_)
    · replace hF := ite_T e33 hF
      refine hJ.forget (ls2 := [none, none]) trivial ?_
      exact hk137 h hF
    · replace hF := ite_F e33 hF
      refine hJ.aload_n (i := 0) dX8_arrivals_93 rfl rfl ?_
      refine hJ.getR dX8_arrivals_94 f_RX8_89 rfl ?_
      refine hJ.iload_n (i := 1) dX8_arrivals_97 rfl rfl ?_
      replace hF := nn_S hF
      obtain ⟨n34, e35, hF⟩ := hF
      rw [e35]
      replace hF := ck_S hF
      obtain ⟨c36, hF⟩ := hF
      refine hJ.iald dX8_arrivals_98 a_51 rfl c36 ?_
      refine hJ.iconst (v := 2) dX8_arrivals_99 (by decide) ?_
      refine hJ.icmp_ne (tgt := 131) dX8_arrivals_100 (by decide) (fun e37 => ?_) (fun e37 => ?_)
      · replace hF := ite_F e37 hF
        refine hJ.iinc (i := 1) (v := (v1 + (1 : Int32))) (ls2 := [some (.inr (8, (some v0))), some (.inl (v1 + (1 : Int32)))]) dX8_arrivals_131 rfl (addI (by decide)) (by decide) rfl ?_
        refine hJ.goto (tgt := 85) dX8_arrivals_134 (by decide) ?_
        refine hJ.forget (ls2 := [some (.inr (8, (some v0))), some (.inl (v1 + (1 : Int32)))]) ⟨rfl, rfl, trivial⟩ ?_
        exact ih (v1 + (1 : Int32)) h hF
      · replace hF := ite_T e37 hF
        refine hJ.aload_n (i := 0) dX8_arrivals_103 rfl rfl ?_
        refine hJ.getR dX8_arrivals_104 f_RX8_98 rfl ?_
        refine hJ.iload_n (i := 1) dX8_arrivals_107 rfl rfl ?_
        replace hF := nn_S hF
        obtain ⟨n38, e39, hF⟩ := hF
        rw [e39]
        replace hF := ck_S hF
        obtain ⟨c40, hF⟩ := hF
        refine hJ.iald dX8_arrivals_108 a_54 rfl c40 ?_
        refine hJ.aload_n (i := 0) dX8_arrivals_109 rfl rfl ?_
        refine hJ.getI dX8_arrivals_110 f_RX8_194 rfl ?_
        refine hJ.icmp_ne (tgt := 131) dX8_arrivals_113 (by decide) (fun e41 => ?_) (fun e41 => ?_)
        · replace hF := ite_F e41 hF
          refine hJ.iinc (i := 1) (v := (v1 + (1 : Int32))) (ls2 := [some (.inr (8, (some v0))), some (.inl (v1 + (1 : Int32)))]) dX8_arrivals_131 rfl (addI (by decide)) (by decide) rfl ?_
          refine hJ.goto (tgt := 85) dX8_arrivals_134 (by decide) ?_
          refine hJ.forget (ls2 := [some (.inr (8, (some v0))), some (.inl (v1 + (1 : Int32)))]) ⟨rfl, rfl, trivial⟩ ?_
          exact ih (v1 + (1 : Int32)) h hF
        · replace hF := ite_T e41 hF
          refine hJ.aload_n (i := 0) dX8_arrivals_116 rfl rfl ?_
          refine hJ.iload_n (i := 1) dX8_arrivals_117 rfl rfl ?_
          refine hJ.aload_n (i := 0) dX8_arrivals_118 rfl rfl ?_
          refine hJ.getR dX8_arrivals_119 f_RX8_86 rfl ?_
          refine hJ.iload_n (i := 1) dX8_arrivals_122 rfl rfl ?_
          replace hF := nn_S hF
          obtain ⟨n42, e43, hF⟩ := hF
          rw [e43]
          replace hF := ck_S hF
          obtain ⟨c44, hF⟩ := hF
          refine hJ.iald dX8_arrivals_123 a_50 rfl c44 ?_
          refine hJ.aload_n (i := 0) dX8_arrivals_124 rfl rfl ?_
          refine hJ.getI dX8_arrivals_125 f_RX8_194 rfl ?_
          replace hF := cl_S hF
          obtain ⟨r45, h46, ec47, hF⟩ := hF
          refine hJ.callV0 (as := [.inl v1, .inl (pI h 50 n42 (v1).toNatClampNeg), .inl (pI h 8 v0 0)]) (st := []) dX8_arrivals_128 w_RX8_200 ⟨by decide, rfl⟩ rfl (c_X8_lands ec47) (by decide) ha hb rfl (Nat.le_of_ble_eq_true rfl) rfl ?_
          refine hJ.iinc (i := 1) (v := (v1 + (1 : Int32))) (ls2 := [some (.inr (8, (some v0))), some (.inl (v1 + (1 : Int32)))]) dX8_arrivals_131 rfl (addI (by decide)) (by decide) rfl ?_
          refine hJ.goto (tgt := 85) dX8_arrivals_134 (by decide) ?_
          refine hJ.forget (ls2 := [some (.inr (8, (some v0))), some (.inl (v1 + (1 : Int32)))]) ⟨rfl, rfl, trivial⟩ ?_
          exact ih (v1 + (1 : Int32)) h46 hF

set_option maxHeartbeats 4000000 in
set_option maxRecDepth 100000 in
theorem c_X8_arrivals {x0 : Nat} {h hh : Hp} {xr : Unit} (hF : F_X8_arrivals x0 h = some (xr, hh)) : Ctr yX8_arrivals cX8_arrivals 2 none 1 0 0 [.inr (8, (some x0))] h none hh := by
  refine Ctr_v (own := RX8) (ini := False) (ls0 := [some (.inr (8, (some x0))), none]) (by decide) rfl (Nat.le_of_ble_eq_true rfl) (fun e => e.elim) rfl ?_
  intro J hJ hR
  unfold F_X8_arrivals at hF
  refine hJ.iconst (v := 0) dX8_arrivals_0 (by decide) ?_
  refine hJ.istore_n (i := 1) (ls2 := [some (.inr (8, (some x0))), some (.inl (0 : Int32))]) dX8_arrivals_1 rfl (by decide) rfl ?_
  refine hJ.forget (ls2 := [some (.inr (8, (some x0))), some (.inl (0 : Int32))]) ⟨rfl, rfl, trivial⟩ ?_
  refine t_X8_arrivals_2 hJ (by decide) (by decide) (fun h32 hF => ?_) FU _ _ hF
  refine hJ.iconst (v := 0) dX8_arrivals_83 (by decide) ?_
  refine hJ.istore_n (i := 1) (ls2 := [some (.inr (8, (some x0))), some (.inl (0 : Int32))]) dX8_arrivals_84 rfl (by decide) rfl ?_
  refine hJ.forget (ls2 := [some (.inr (8, (some x0))), some (.inl (0 : Int32))]) ⟨rfl, rfl, trivial⟩ ?_
  refine t_X8_arrivals_85 hJ (by decide) (by decide) (fun h48 hF => ?_) FU _ _ hF
  obtain ⟨-, rfl⟩ := ret_S hF
  exact hR dX8_arrivals_137 (by decide) (by decide)

set_option maxHeartbeats 4000000 in
set_option maxRecDepth 100000 in
theorem c_X8_isAhead {x0 : Nat} {x1 : Int32} {x2 : Int32} {h hh : Hp} {xr : Int32} (hF : F_X8_isAhead x0 x1 x2 h = some (xr, hh)) : Ctr yX8_isAhead cX8_isAhead 5 (some .boolean) 2 0 0 [.inr (8, (some x0)), .inl x1, .inl x2] h (some (.inl xr)) hh := by
  refine Ctr_z (own := RX8) (ini := False) (ls0 := [some (.inr (8, (some x0))), some (.inl x1), some (.inl x2), none, none]) (by decide) rfl (Nat.le_of_ble_eq_true rfl) (fun e => e.elim) rfl ?_
  intro J hJ hR
  unfold F_X8_isAhead at hF
  refine hJ.aload_n (i := 0) dX8_isAhead_0 rfl rfl ?_
  refine hJ.getR dX8_isAhead_1 f_RX8_101 rfl ?_
  refine hJ.aload_n (i := 0) dX8_isAhead_4 rfl rfl ?_
  refine hJ.getR dX8_isAhead_5 f_RX8_41 rfl ?_
  refine hJ.aload_n (i := 0) dX8_isAhead_8 rfl rfl ?_
  refine hJ.iload_n (i := 1) dX8_isAhead_9 rfl rfl ?_
  replace hF := cl_S hF
  obtain ⟨r1, h2, ec3, hF⟩ := hF
  refine hJ.callV (as := [.inl x1]) (st := [.inr (35, (pR h 8 x0 13)), .inr (55, (pR h 8 x0 36))]) dX8_isAhead_10 w_RX8_207 ⟨by decide, rfl⟩ rfl (c_X8_first ec3) (by decide) (by decide) (by decide) rfl (Nat.le_of_ble_eq_true rfl) rfl ?_
  replace hF := nn_S hF
  obtain ⟨n4, e5, hF⟩ := hF
  rw [e5]
  replace hF := ck_S hF
  obtain ⟨c6, hF⟩ := hF
  refine hJ.iald dX8_isAhead_13 a_35 rfl c6 ?_
  replace hF := nn_S hF
  obtain ⟨n7, e8, hF⟩ := hF
  rw [e8]
  replace hF := ck_S hF
  obtain ⟨c9, hF⟩ := hF
  refine hJ.iald dX8_isAhead_14 a_55 rfl c9 ?_
  refine hJ.istore_n (i := 3) (ls2 := [some (.inr (8, (some x0))), some (.inl x1), some (.inl x2), some (.inl (pI h2 55 n7 ((pI h2 35 n4 (r1).toNatClampNeg)).toNatClampNeg)), none]) dX8_isAhead_15 rfl (by decide) rfl ?_
  refine hJ.aload_n (i := 0) dX8_isAhead_16 rfl rfl ?_
  refine hJ.getR dX8_isAhead_17 f_RX8_101 rfl ?_
  refine hJ.aload_n (i := 0) dX8_isAhead_20 rfl rfl ?_
  refine hJ.getR dX8_isAhead_21 f_RX8_41 rfl ?_
  refine hJ.aload_n (i := 0) dX8_isAhead_24 rfl rfl ?_
  refine hJ.iload_n (i := 2) dX8_isAhead_25 rfl rfl ?_
  replace hF := cl_S hF
  obtain ⟨r10, h11, ec12, hF⟩ := hF
  refine hJ.callV (as := [.inl x2]) (st := [.inr (35, (pR h2 8 x0 13)), .inr (55, (pR h2 8 x0 36))]) dX8_isAhead_26 w_RX8_207 ⟨by decide, rfl⟩ rfl (c_X8_first ec12) (by decide) (by decide) (by decide) rfl (Nat.le_of_ble_eq_true rfl) rfl ?_
  replace hF := nn_S hF
  obtain ⟨n13, e14, hF⟩ := hF
  rw [e14]
  replace hF := ck_S hF
  obtain ⟨c15, hF⟩ := hF
  refine hJ.iald dX8_isAhead_29 a_35 rfl c15 ?_
  replace hF := nn_S hF
  obtain ⟨n16, e17, hF⟩ := hF
  rw [e17]
  replace hF := ck_S hF
  obtain ⟨c18, hF⟩ := hF
  refine hJ.iald dX8_isAhead_30 a_55 rfl c18 ?_
  refine hJ.istore (i := 4) (ls2 := [some (.inr (8, (some x0))), some (.inl x1), some (.inl x2), some (.inl (pI h2 55 n7 ((pI h2 35 n4 (r1).toNatClampNeg)).toNatClampNeg)), some (.inl (pI h11 55 n16 ((pI h11 35 n13 (r10).toNatClampNeg)).toNatClampNeg))]) dX8_isAhead_31 (by decide) rfl ?_
  refine hJ.iload_n (i := 3) dX8_isAhead_33 rfl rfl ?_
  refine hJ.iload (i := 4) dX8_isAhead_34 rfl ?_
  refine hJ.icmp_lt (tgt := 58) dX8_isAhead_36 (by decide) (fun e19 => ?_) (fun e19 => ?_)
  · replace hF := ite_T e19 hF
    refine hJ.iconst (v := 1) dX8_isAhead_58 (by decide) ?_
    refine hJ.goto (tgt := 63) dX8_isAhead_59 (by decide) ?_
    obtain ⟨rfl, rfl⟩ := ret_S hF
    exact hR dX8_isAhead_63 (by decide) (by decide) (by decide)
  · replace hF := ite_F e19 hF
    refine hJ.iload_n (i := 3) dX8_isAhead_39 rfl rfl ?_
    refine hJ.iload (i := 4) dX8_isAhead_40 rfl ?_
    refine hJ.icmp_ne (tgt := 62) dX8_isAhead_42 (by decide) (fun e20 => ?_) (fun e20 => ?_)
    · replace hF := ite_F e20 hF
      refine hJ.iconst (v := 0) dX8_isAhead_62 (by decide) ?_
      obtain ⟨rfl, rfl⟩ := ret_S hF
      exact hR dX8_isAhead_63 (by decide) (by decide) (by decide)
    · replace hF := ite_T e20 hF
      refine hJ.aload_n (i := 0) dX8_isAhead_45 rfl rfl ?_
      refine hJ.iload_n (i := 1) dX8_isAhead_46 rfl rfl ?_
      replace hF := cl_S hF
      obtain ⟨r21, h22, ec23, hF⟩ := hF
      refine hJ.callV (as := [.inl x1]) (st := []) dX8_isAhead_47 w_RX8_210 ⟨by decide, rfl⟩ rfl (c_X8_many ec23) (by decide) (by decide) (by decide) rfl (Nat.le_of_ble_eq_true rfl) rfl ?_
      refine hJ.aload_n (i := 0) dX8_isAhead_50 rfl rfl ?_
      refine hJ.iload_n (i := 2) dX8_isAhead_51 rfl rfl ?_
      replace hF := cl_S hF
      obtain ⟨r24, h25, ec26, hF⟩ := hF
      refine hJ.callV (as := [.inl x2]) (st := [.inl r21]) dX8_isAhead_52 w_RX8_210 ⟨by decide, rfl⟩ rfl (c_X8_many ec26) (by decide) (by decide) (by decide) rfl (Nat.le_of_ble_eq_true rfl) rfl ?_
      refine hJ.icmp_le (tgt := 62) dX8_isAhead_55 (by decide) (fun e27 => ?_) (fun e27 => ?_)
      · replace hF := ite_T e27 hF
        refine hJ.iconst (v := 0) dX8_isAhead_62 (by decide) ?_
        obtain ⟨rfl, rfl⟩ := ret_S hF
        exact hR dX8_isAhead_63 (by decide) (by decide) (by decide)
      · replace hF := ite_F e27 hF
        refine hJ.iconst (v := 1) dX8_isAhead_58 (by decide) ?_
        refine hJ.goto (tgt := 63) dX8_isAhead_59 (by decide) ?_
        obtain ⟨rfl, rfl⟩ := ret_S hF
        exact hR dX8_isAhead_63 (by decide) (by decide) (by decide)

set_option maxHeartbeats 4000000 in
set_option maxRecDepth 100000 in
theorem t_X8_weir_29 {β : Type} {J : JT} (hJ : Rules cX8_weir RX8 5 3 0 0 False J) {a b : Nat} (ha : a ≤ 0) (hb : b ≤ 0) {v0 : Nat} {v1 : Int32} {κ113 : Int32 → Hp → Option β} {out : β}
    (hk113 : ∀ (k2 : Int32) (h : Hp), κ113 k2 h = some out → J 113 [some (.inr (8, (some v0))), some (.inl v1), some (.inl k2), none, none] [] h a b)
    : ∀ (f : Nat) (v2 : Int32) (v3 : Int32) (h : Hp), L_X8_weir_29 v0 v1 κ113 f v2 v3 h = some out → J 29 [some (.inr (8, (some v0))), some (.inl v1), some (.inl v2), some (.inl v3), none] [] h a b := by
  intro f
  induction f with
  | zero => intro v2 v3 h hF; simp [L_X8_weir_29] at hF
  | succ f ih =>
    intro v2 v3 h hF
    rw [L_X8_weir_29] at hF
    refine hJ.iload_n (i := 3) dX8_weir_29 rfl rfl ?_
    refine hJ.aload_n (i := 0) dX8_weir_30 rfl rfl ?_
    refine hJ.getI dX8_weir_31 f_RX8_151 rfl ?_
    refine hJ.icmp_ge (tgt := 113) dX8_weir_34 (by decide) (fun e11 => ?_) (fun e11 => ?_)
    · replace hF := ite_T e11 hF
      refine hJ.forget (ls2 := [some (.inr (8, (some v0))), some (.inl v1), some (.inl v2), none, none]) ⟨rfl, rfl, rfl, trivial⟩ ?_
      exact hk113 v2 h hF
    · replace hF := ite_F e11 hF
      refine hJ.aload_n (i := 0) dX8_weir_37 rfl rfl ?_
      refine hJ.getR dX8_weir_38 f_RX8_71 rfl ?_
      refine hJ.iload_n (i := 3) dX8_weir_41 rfl rfl ?_
      replace hF := nn_S hF
      obtain ⟨n12, e13, hF⟩ := hF
      rw [e13]
      replace hF := ck_S hF
      obtain ⟨c14, hF⟩ := hF
      refine hJ.iald dX8_weir_42 a_45 rfl c14 ?_
      refine hJ.iconst (v := 1) dX8_weir_43 (by decide) ?_
      refine hJ.icmp_ne (tgt := 107) dX8_weir_44 (by decide) (fun e15 => ?_) (fun e15 => ?_)
      · replace hF := ite_F e15 hF
        refine hJ.iinc (i := 3) (v := (v3 + (1 : Int32))) (ls2 := [some (.inr (8, (some v0))), some (.inl v1), some (.inl v2), some (.inl (v3 + (1 : Int32))), none]) dX8_weir_107 rfl (addI (by decide)) (by decide) rfl ?_
        refine hJ.goto (tgt := 29) dX8_weir_110 (by decide) ?_
        refine hJ.forget (ls2 := [some (.inr (8, (some v0))), some (.inl v1), some (.inl v2), some (.inl (v3 + (1 : Int32))), none]) ⟨rfl, rfl, rfl, rfl, trivial⟩ ?_
        exact ih v2 (v3 + (1 : Int32)) h hF
      · replace hF := ite_T e15 hF
        refine hJ.aload_n (i := 0) dX8_weir_47 rfl rfl ?_
        refine hJ.getR dX8_weir_48 f_RX8_74 rfl ?_
        refine hJ.iload_n (i := 3) dX8_weir_51 rfl rfl ?_
        replace hF := nn_S hF
        obtain ⟨n16, e17, hF⟩ := hF
        rw [e17]
        replace hF := ck_S hF
        obtain ⟨c18, hF⟩ := hF
        refine hJ.iald dX8_weir_52 a_46 rfl c18 ?_
        refine hJ.iload_n (i := 1) dX8_weir_53 rfl rfl ?_
        refine hJ.icmp_ne (tgt := 107) dX8_weir_54 (by decide) (fun e19 => ?_) (fun e19 => ?_)
        · replace hF := ite_F e19 hF
          refine hJ.iinc (i := 3) (v := (v3 + (1 : Int32))) (ls2 := [some (.inr (8, (some v0))), some (.inl v1), some (.inl v2), some (.inl (v3 + (1 : Int32))), none]) dX8_weir_107 rfl (addI (by decide)) (by decide) rfl ?_
          refine hJ.goto (tgt := 29) dX8_weir_110 (by decide) ?_
          refine hJ.forget (ls2 := [some (.inr (8, (some v0))), some (.inl v1), some (.inl v2), some (.inl (v3 + (1 : Int32))), none]) ⟨rfl, rfl, rfl, rfl, trivial⟩ ?_
          exact ih v2 (v3 + (1 : Int32)) h hF
        · replace hF := ite_T e19 hF
          refine hJ.aload_n (i := 0) dX8_weir_57 rfl rfl ?_
          refine hJ.iload_n (i := 3) dX8_weir_58 rfl rfl ?_
          replace hF := cl_S hF
          obtain ⟨r20, h21, ec22, hF⟩ := hF
          refine hJ.callV (as := [.inl v3]) (st := []) dX8_weir_59 w_RX8_213 ⟨by decide, rfl⟩ rfl (c_X8_width ec22) (by decide) ha hb rfl (Nat.le_of_ble_eq_true rfl) rfl ?_
          refine hJ.aload_n (i := 0) dX8_weir_62 rfl rfl ?_
          refine hJ.getR dX8_weir_63 f_RX8_16 rfl ?_
          refine hJ.iload_n (i := 1) dX8_weir_66 rfl rfl ?_
          replace hF := nn_S hF
          obtain ⟨n23, e24, hF⟩ := hF
          rw [e24]
          replace hF := ck_S hF
          obtain ⟨c25, hF⟩ := hF
          refine hJ.iald dX8_weir_67 a_27 rfl c25 ?_
          refine hJ.icmp_gt (tgt := 107) dX8_weir_68 (by decide) (fun e26 => ?_) (fun e26 => ?_)
          · replace hF := ite_T e26 hF
            refine hJ.iinc (i := 3) (v := (v3 + (1 : Int32))) (ls2 := [some (.inr (8, (some v0))), some (.inl v1), some (.inl v2), some (.inl (v3 + (1 : Int32))), none]) dX8_weir_107 rfl (addI (by decide)) (by decide) rfl ?_
            refine hJ.goto (tgt := 29) dX8_weir_110 (by decide) ?_
            refine hJ.forget (ls2 := [some (.inr (8, (some v0))), some (.inl v1), some (.inl v2), some (.inl (v3 + (1 : Int32))), none]) ⟨rfl, rfl, rfl, rfl, trivial⟩ ?_
            exact ih v2 (v3 + (1 : Int32)) h21 hF
          · replace hF := ite_F e26 hF
            refine hJ.iconst (v := 5) dX8_weir_71 (by decide) ?_
            refine hJ.aload_n (i := 0) dX8_weir_72 rfl rfl ?_
            refine hJ.getR dX8_weir_73 f_RX8_77 rfl ?_
            refine hJ.iload_n (i := 3) dX8_weir_76 rfl rfl ?_
            replace hF := nn_S hF
            obtain ⟨n27, e28, hF⟩ := hF
            rw [e28]
            replace hF := ck_S hF
            obtain ⟨c29, hF⟩ := hF
            refine hJ.iald dX8_weir_77 a_47 rfl c29 ?_
            refine hJ.imul dX8_weir_78 ?_
            refine hJ.aload_n (i := 0) dX8_weir_79 rfl rfl ?_
            refine hJ.getR dX8_weir_80 f_RX8_25 rfl ?_
            refine hJ.iload_n (i := 1) dX8_weir_83 rfl rfl ?_
            replace hF := nn_S hF
            obtain ⟨n30, e31, hF⟩ := hF
            rw [e31]
            replace hF := ck_S hF
            obtain ⟨c32, hF⟩ := hF
            refine hJ.iald dX8_weir_84 a_30 rfl c32 ?_
            refine hJ.icmp_le (tgt := 91) dX8_weir_85 (by decide) (fun e33 => ?_) (fun e33 => ?_)
            · replace hF := ite_T e33 hF
              refine hJ.iload_n (i := 2) dX8_weir_91 rfl rfl ?_
              refine hJ.iconst (v := -1) dX8_weir_92 (by decide) ?_
              refine hJ.icmp_eq (tgt := 105) dX8_weir_93 (by decide) (fun e34 => ?_) (fun e34 => ?_)
              · replace hF := ite_T e34 hF
                refine hJ.iload_n (i := 3) dX8_weir_105 rfl rfl ?_
                refine hJ.istore_n (i := 2) (ls2 := [some (.inr (8, (some v0))), some (.inl v1), some (.inl v3), some (.inl v3), none]) dX8_weir_106 rfl (by decide) rfl ?_
                refine hJ.iinc (i := 3) (v := (v3 + (1 : Int32))) (ls2 := [some (.inr (8, (some v0))), some (.inl v1), some (.inl v3), some (.inl (v3 + (1 : Int32))), none]) dX8_weir_107 rfl (addI (by decide)) (by decide) rfl ?_
                refine hJ.goto (tgt := 29) dX8_weir_110 (by decide) ?_
                refine hJ.forget (ls2 := [some (.inr (8, (some v0))), some (.inl v1), some (.inl v3), some (.inl (v3 + (1 : Int32))), none]) ⟨rfl, rfl, rfl, rfl, trivial⟩ ?_
                exact ih v3 (v3 + (1 : Int32)) h21 hF
              · replace hF := ite_F e34 hF
                refine hJ.aload_n (i := 0) dX8_weir_96 rfl rfl ?_
                refine hJ.iload_n (i := 3) dX8_weir_97 rfl rfl ?_
                refine hJ.iload_n (i := 2) dX8_weir_98 rfl rfl ?_
                replace hF := cl_S hF
                obtain ⟨r35, h36, ec37, hF⟩ := hF
                refine hJ.callV (as := [.inl v3, .inl v2]) (st := []) dX8_weir_99 w_RX8_216 ⟨by decide, rfl⟩ rfl (c_X8_isAhead ec37) (by decide) ha hb rfl (Nat.le_of_ble_eq_true rfl) rfl ?_
                refine hJ.if_eq (tgt := 107) dX8_weir_102 (by decide) (fun e38 => ?_) (fun e38 => ?_)
                · replace hF := ite_T e38 hF
                  refine hJ.iinc (i := 3) (v := (v3 + (1 : Int32))) (ls2 := [some (.inr (8, (some v0))), some (.inl v1), some (.inl v2), some (.inl (v3 + (1 : Int32))), none]) dX8_weir_107 rfl (addI (by decide)) (by decide) rfl ?_
                  refine hJ.goto (tgt := 29) dX8_weir_110 (by decide) ?_
                  refine hJ.forget (ls2 := [some (.inr (8, (some v0))), some (.inl v1), some (.inl v2), some (.inl (v3 + (1 : Int32))), none]) ⟨rfl, rfl, rfl, rfl, trivial⟩ ?_
                  exact ih v2 (v3 + (1 : Int32)) h36 hF
                · replace hF := ite_F e38 hF
                  refine hJ.iload_n (i := 3) dX8_weir_105 rfl rfl ?_
                  refine hJ.istore_n (i := 2) (ls2 := [some (.inr (8, (some v0))), some (.inl v1), some (.inl v3), some (.inl v3), none]) dX8_weir_106 rfl (by decide) rfl ?_
                  refine hJ.iinc (i := 3) (v := (v3 + (1 : Int32))) (ls2 := [some (.inr (8, (some v0))), some (.inl v1), some (.inl v3), some (.inl (v3 + (1 : Int32))), none]) dX8_weir_107 rfl (addI (by decide)) (by decide) rfl ?_
                  refine hJ.goto (tgt := 29) dX8_weir_110 (by decide) ?_
                  refine hJ.forget (ls2 := [some (.inr (8, (some v0))), some (.inl v1), some (.inl v3), some (.inl (v3 + (1 : Int32))), none]) ⟨rfl, rfl, rfl, rfl, trivial⟩ ?_
                  exact ih v3 (v3 + (1 : Int32)) h36 hF
            · replace hF := ite_F e33 hF
              refine hJ.goto (tgt := 107) dX8_weir_88 (by decide) ?_
              refine hJ.iinc (i := 3) (v := (v3 + (1 : Int32))) (ls2 := [some (.inr (8, (some v0))), some (.inl v1), some (.inl v2), some (.inl (v3 + (1 : Int32))), none]) dX8_weir_107 rfl (addI (by decide)) (by decide) rfl ?_
              refine hJ.goto (tgt := 29) dX8_weir_110 (by decide) ?_
              refine hJ.forget (ls2 := [some (.inr (8, (some v0))), some (.inl v1), some (.inl v2), some (.inl (v3 + (1 : Int32))), none]) ⟨rfl, rfl, rfl, rfl, trivial⟩ ?_
              exact ih v2 (v3 + (1 : Int32)) h21 hF

set_option maxHeartbeats 4000000 in
set_option maxRecDepth 100000 in
theorem t_X8_weir_187 {β : Type} {J : JT} (hJ : Rules cX8_weir RX8 5 3 0 0 False J) {a b : Nat} (ha : a ≤ 0) (hb : b ≤ 0) {v0 : Nat} {v2 : Int32} {v3 : Int32} {κ241 : Hp → Option β} {out : β}
    (hk241 : ∀ (h : Hp), κ241 h = some out → J 241 [none, none, none, none, none] [] h a b)
    : ∀ (f : Nat) (v4 : Int32) (h : Hp), L_X8_weir_187 v0 v2 v3 κ241 f v4 h = some out → J 187 [some (.inr (8, (some v0))), none, some (.inl v2), some (.inl v3), some (.inl v4)] [] h a b := by
  intro f
  induction f with
  | zero => intro v4 h hF; simp [L_X8_weir_187] at hF
  | succ f ih =>
    intro v4 h hF
    rw [L_X8_weir_187] at hF
    refine hJ.iload (i := 4) dX8_weir_187 rfl ?_
    refine hJ.aload_n (i := 0) dX8_weir_189 rfl rfl ?_
    refine hJ.getI dX8_weir_190 f_RX8_148 rfl ?_
    refine hJ.icmp_ge (tgt := 241) dX8_weir_193 (by decide) (fun e75 => ?_) (fun e75 => ?_)
    · replace hF := ite_T e75 hF
      refine hJ.forget (ls2 := [none, none, none, none, none]) trivial ?_
      exact hk241 h hF
    · replace hF := ite_F e75 hF
      refine hJ.aload_n (i := 0) dX8_weir_196 rfl rfl ?_
      refine hJ.iload (i := 4) dX8_weir_197 rfl ?_
      refine hJ.iload_n (i := 2) dX8_weir_199 rfl rfl ?_
      replace hF := cl_S hF
      obtain ⟨r76, h77, ec78, hF⟩ := hF
      refine hJ.callV (as := [.inl v4, .inl v2]) (st := []) dX8_weir_200 w_RX8_180 ⟨by decide, rfl⟩ rfl (c_X8_isOf ec78) (by decide) ha hb rfl (Nat.le_of_ble_eq_true rfl) rfl ?_
      refine hJ.if_ne (tgt := 209) dX8_weir_203 (by decide) (fun e79 => ?_) (fun e79 => ?_)
      · replace hF := ite_F e79 hF
        refine hJ.aload_n (i := 0) dX8_weir_209 rfl rfl ?_
        refine hJ.getR dX8_weir_210 f_RX8_104 rfl ?_
        refine hJ.aload_n (i := 0) dX8_weir_213 rfl rfl ?_
        refine hJ.getR dX8_weir_214 f_RX8_41 rfl ?_
        refine hJ.iload (i := 4) dX8_weir_217 rfl ?_
        replace hF := nn_S hF
        obtain ⟨n80, e81, hF⟩ := hF
        rw [e81]
        replace hF := ck_S hF
        obtain ⟨c82, hF⟩ := hF
        refine hJ.iald dX8_weir_219 a_35 rfl c82 ?_
        refine hJ.dup2 dX8_weir_220 ?_
        replace hF := nn_S hF
        obtain ⟨n83, e84, hF⟩ := hF
        rw [e84]
        replace hF := ck_S hF
        obtain ⟨c85, hF⟩ := hF
        refine hJ.iald dX8_weir_221 a_56 rfl c85 ?_
        refine hJ.iload_n (i := 3) dX8_weir_222 rfl rfl ?_
        refine hJ.isub dX8_weir_223 ?_
        replace hF := ck_S hF
        obtain ⟨c86, hF⟩ := hF
        replace hF := lt_S hF
        obtain ⟨h87, eh88, hF⟩ := hF
        refine hJ.iast dX8_weir_224 a_56 rfl c86 ?_
        rw [← eh88]
        refine hJ.aload_n (i := 0) dX8_weir_225 rfl rfl ?_
        refine hJ.dup dX8_weir_226 ?_
        refine hJ.getI dX8_weir_227 f_RX8_222 rfl ?_
        refine hJ.iload_n (i := 3) dX8_weir_230 rfl rfl ?_
        refine hJ.iadd dX8_weir_231 ?_
        replace hF := lt_S hF
        obtain ⟨h89, eh90, hF⟩ := hF
        refine hJ.putI dX8_weir_232 f_RX8_222 rfl nar_i rfl ?_
        rw [← eh90]
        refine hJ.iinc (i := 4) (v := (v4 + (1 : Int32))) (ls2 := [some (.inr (8, (some v0))), none, some (.inl v2), some (.inl v3), some (.inl (v4 + (1 : Int32)))]) dX8_weir_235 rfl (addI (by decide)) (by decide) rfl ?_
        refine hJ.goto (tgt := 187) dX8_weir_238 (by decide) ?_
        refine hJ.forget (ls2 := [some (.inr (8, (some v0))), none, some (.inl v2), some (.inl v3), some (.inl (v4 + (1 : Int32)))]) ⟨rfl, rfl, rfl, rfl, trivial⟩ ?_
        exact ih (v4 + (1 : Int32)) h89 hF
      · replace hF := ite_T e79 hF
        refine hJ.goto (tgt := 235) dX8_weir_206 (by decide) ?_
        refine hJ.iinc (i := 4) (v := (v4 + (1 : Int32))) (ls2 := [some (.inr (8, (some v0))), none, some (.inl v2), some (.inl v3), some (.inl (v4 + (1 : Int32)))]) dX8_weir_235 rfl (addI (by decide)) (by decide) rfl ?_
        refine hJ.goto (tgt := 187) dX8_weir_238 (by decide) ?_
        refine hJ.forget (ls2 := [some (.inr (8, (some v0))), none, some (.inl v2), some (.inl v3), some (.inl (v4 + (1 : Int32)))]) ⟨rfl, rfl, rfl, rfl, trivial⟩ ?_
        exact ih (v4 + (1 : Int32)) h77 hF

set_option maxHeartbeats 4000000 in
set_option maxRecDepth 100000 in
theorem c_X8_weir {x0 : Nat} {x1 : Int32} {h hh : Hp} {xr : Unit} (hF : F_X8_weir x0 x1 h = some (xr, hh)) : Ctr yX8_weir cX8_weir 5 none 3 0 0 [.inr (8, (some x0)), .inl x1] h none hh := by
  refine Ctr_v (own := RX8) (ini := False) (ls0 := [some (.inr (8, (some x0))), some (.inl x1), none, none, none]) (by decide) rfl (Nat.le_of_ble_eq_true rfl) (fun e => e.elim) rfl ?_
  intro J hJ hR
  unfold F_X8_weir at hF
  refine hJ.aload_n (i := 0) dX8_weir_0 rfl rfl ?_
  refine hJ.getI dX8_weir_1 f_RX8_194 rfl ?_
  refine hJ.aload_n (i := 0) dX8_weir_4 rfl rfl ?_
  refine hJ.getR dX8_weir_5 f_RX8_32 rfl ?_
  refine hJ.iload_n (i := 1) dX8_weir_8 rfl rfl ?_
  replace hF := nn_S hF
  obtain ⟨n1, e2, hF⟩ := hF
  rw [e2]
  replace hF := ck_S hF
  obtain ⟨c3, hF⟩ := hF
  refine hJ.iald dX8_weir_9 a_32 rfl c3 ?_
  refine hJ.aload_n (i := 0) dX8_weir_10 rfl rfl ?_
  refine hJ.getR dX8_weir_11 f_RX8_35 rfl ?_
  refine hJ.iload_n (i := 1) dX8_weir_14 rfl rfl ?_
  replace hF := nn_S hF
  obtain ⟨n4, e5, hF⟩ := hF
  rw [e5]
  replace hF := ck_S hF
  obtain ⟨c6, hF⟩ := hF
  refine hJ.iald dX8_weir_15 a_33 rfl c6 ?_
  refine hJ.iconst (v := 1) dX8_weir_16 (by decide) ?_
  refine hJ.isub dX8_weir_17 ?_
  replace hF := cl_S hF
  obtain ⟨r7, h8, ec9, hF⟩ := hF
  refine hJ.callS (as := [.inl (pI h 8 x0 0), .inl (pI h 32 n1 (x1).toNatClampNeg), .inl ((pI h 33 n4 (x1).toNatClampNeg) - (1 : Int32))]) (st := []) dX8_weir_18 w_RX8_144 (c_X8_in ec9) (by decide) (by decide) (by decide) rfl (Nat.le_of_ble_eq_true rfl) rfl ?_
  refine hJ.if_eq (tgt := 25) dX8_weir_21 (by decide) (fun e10 => ?_) (fun e10 => ?_)
  · replace hF := ite_T e10 hF
    refine hJ.iconst (v := -1) dX8_weir_25 (by decide) ?_
    refine hJ.istore_n (i := 2) (ls2 := [some (.inr (8, (some x0))), some (.inl x1), some (.inl (-1 : Int32)), none, none]) dX8_weir_26 rfl (by decide) rfl ?_
    refine hJ.iconst (v := 0) dX8_weir_27 (by decide) ?_
    refine hJ.istore_n (i := 3) (ls2 := [some (.inr (8, (some x0))), some (.inl x1), some (.inl (-1 : Int32)), some (.inl (0 : Int32)), none]) dX8_weir_28 rfl (by decide) rfl ?_
    refine hJ.forget (ls2 := [some (.inr (8, (some x0))), some (.inl x1), some (.inl (-1 : Int32)), some (.inl (0 : Int32)), none]) ⟨rfl, rfl, rfl, rfl, trivial⟩ ?_
    refine t_X8_weir_29 hJ (by decide) (by decide) (fun k39 h40 hF => ?_) FU _ _ _ hF
    refine hJ.iload_n (i := 2) dX8_weir_113 rfl rfl ?_
    refine hJ.iconst (v := -1) dX8_weir_114 (by decide) ?_
    refine hJ.icmp_ne (tgt := 119) dX8_weir_115 (by decide) (fun e41 => ?_) (fun e41 => ?_)
    · replace hF := ite_F e41 hF
      refine hJ.aload_n (i := 0) dX8_weir_119 rfl rfl ?_
      refine hJ.getR dX8_weir_120 f_RX8_25 rfl ?_
      refine hJ.iload_n (i := 1) dX8_weir_123 rfl rfl ?_
      refine hJ.dup2 dX8_weir_124 ?_
      replace hF := nn_S hF
      obtain ⟨n42, e43, hF⟩ := hF
      rw [e43]
      replace hF := ck_S hF
      obtain ⟨c44, hF⟩ := hF
      refine hJ.iald dX8_weir_125 a_30 rfl c44 ?_
      refine hJ.iconst (v := 5) dX8_weir_126 (by decide) ?_
      refine hJ.aload_n (i := 0) dX8_weir_127 rfl rfl ?_
      refine hJ.getR dX8_weir_128 f_RX8_77 rfl ?_
      refine hJ.iload_n (i := 2) dX8_weir_131 rfl rfl ?_
      replace hF := nn_S hF
      obtain ⟨n45, e46, hF⟩ := hF
      rw [e46]
      replace hF := ck_S hF
      obtain ⟨c47, hF⟩ := hF
      refine hJ.iald dX8_weir_132 a_47 rfl c47 ?_
      refine hJ.imul dX8_weir_133 ?_
      refine hJ.isub dX8_weir_134 ?_
      replace hF := ck_S hF
      obtain ⟨c48, hF⟩ := hF
      replace hF := lt_S hF
      obtain ⟨h49, eh50, hF⟩ := hF
      refine hJ.iast dX8_weir_135 a_30 rfl c48 ?_
      rw [← eh50]
      refine hJ.aload_n (i := 0) dX8_weir_136 rfl rfl ?_
      refine hJ.getR dX8_weir_137 f_RX8_71 rfl ?_
      refine hJ.iload_n (i := 2) dX8_weir_140 rfl rfl ?_
      refine hJ.iconst (v := 2) dX8_weir_141 (by decide) ?_
      replace hF := nn_S hF
      obtain ⟨n51, e52, hF⟩ := hF
      rw [e52]
      replace hF := ck_S hF
      obtain ⟨c53, hF⟩ := hF
      replace hF := lt_S hF
      obtain ⟨h54, eh55, hF⟩ := hF
      refine hJ.iast dX8_weir_142 a_45 rfl c53 ?_
      rw [← eh55]
      refine hJ.aload_n (i := 0) dX8_weir_143 rfl rfl ?_
      refine hJ.getR dX8_weir_144 f_RX8_74 rfl ?_
      refine hJ.iload_n (i := 2) dX8_weir_147 rfl rfl ?_
      refine hJ.aload_n (i := 0) dX8_weir_148 rfl rfl ?_
      refine hJ.getR dX8_weir_149 f_RX8_9 rfl ?_
      refine hJ.iload_n (i := 1) dX8_weir_152 rfl rfl ?_
      replace hF := nn_S hF
      obtain ⟨n56, e57, hF⟩ := hF
      rw [e57]
      replace hF := ck_S hF
      obtain ⟨c58, hF⟩ := hF
      refine hJ.iald dX8_weir_153 a_25 rfl c58 ?_
      replace hF := nn_S hF
      obtain ⟨n59, e60, hF⟩ := hF
      rw [e60]
      replace hF := ck_S hF
      obtain ⟨c61, hF⟩ := hF
      replace hF := lt_S hF
      obtain ⟨h62, eh63, hF⟩ := hF
      refine hJ.iast dX8_weir_154 a_46 rfl c61 ?_
      rw [← eh63]
      refine hJ.aload_n (i := 0) dX8_weir_155 rfl rfl ?_
      refine hJ.getR dX8_weir_156 f_RX8_83 rfl ?_
      refine hJ.iload_n (i := 2) dX8_weir_159 rfl rfl ?_
      refine hJ.aload_n (i := 0) dX8_weir_160 rfl rfl ?_
      refine hJ.getI dX8_weir_161 f_RX8_194 rfl ?_
      refine hJ.aload_n (i := 0) dX8_weir_164 rfl rfl ?_
      refine hJ.getR dX8_weir_165 f_RX8_13 rfl ?_
      refine hJ.iload_n (i := 1) dX8_weir_168 rfl rfl ?_
      replace hF := nn_S hF
      obtain ⟨n64, e65, hF⟩ := hF
      rw [e65]
      replace hF := ck_S hF
      obtain ⟨c66, hF⟩ := hF
      refine hJ.iald dX8_weir_169 a_26 rfl c66 ?_
      refine hJ.iadd dX8_weir_170 ?_
      replace hF := nn_S hF
      obtain ⟨n67, e68, hF⟩ := hF
      rw [e68]
      replace hF := ck_S hF
      obtain ⟨c69, hF⟩ := hF
      replace hF := lt_S hF
      obtain ⟨h70, eh71, hF⟩ := hF
      refine hJ.iast dX8_weir_171 a_49 rfl c69 ?_
      rw [← eh71]
      refine hJ.aload_n (i := 0) dX8_weir_172 rfl rfl ?_
      refine hJ.aload_n (i := 0) dX8_weir_173 rfl rfl ?_
      refine hJ.getI dX8_weir_174 f_RX8_194 rfl ?_
      refine hJ.bipush (v := 24) dX8_weir_177 (by decide) ?_
      refine hJ.idiv dX8_weir_179 (by decide) ?_
      replace hF := cl_S hF
      obtain ⟨r72, h73, ec74, hF⟩ := hF
      refine hJ.callV (as := [.inl ((pI h70 8 x0 0) / (24 : Int32))]) (st := []) dX8_weir_180 w_RX8_219 ⟨by decide, rfl⟩ rfl (c_X8_tollOf ec74) (by decide) (by decide) (by decide) rfl (Nat.le_of_ble_eq_true rfl) rfl ?_
      refine hJ.istore_n (i := 3) (ls2 := [some (.inr (8, (some x0))), some (.inl x1), some (.inl k39), some (.inl r72), none]) dX8_weir_183 rfl (by decide) rfl ?_
      refine hJ.iconst (v := 0) dX8_weir_184 (by decide) ?_
      refine hJ.istore (i := 4) (ls2 := [some (.inr (8, (some x0))), some (.inl x1), some (.inl k39), some (.inl r72), some (.inl (0 : Int32))]) dX8_weir_185 (by decide) rfl ?_
      refine hJ.forget (ls2 := [some (.inr (8, (some x0))), none, some (.inl k39), some (.inl r72), some (.inl (0 : Int32))]) ⟨rfl, rfl, rfl, rfl, trivial⟩ ?_
      refine t_X8_weir_187 hJ (by decide) (by decide) (fun h91 hF => ?_) FU _ _ hF
      obtain ⟨-, rfl⟩ := ret_S hF
      exact hR dX8_weir_241 (by decide) (by decide)
    · replace hF := ite_T e41 hF
      obtain ⟨-, rfl⟩ := ret_S hF
      exact hR dX8_weir_118 (by decide) (by decide)
  · replace hF := ite_F e10 hF
    obtain ⟨-, rfl⟩ := ret_S hF
    exact hR dX8_weir_24 (by decide) (by decide)

