set_option maxHeartbeats 4000000 in
set_option maxRecDepth 100000 in
theorem t_X1_nextOrder_7 {β : Type} {J : JT} (hJ : Rules cX1_nextOrder RX1 5 1 0 0 False J) {a b : Nat} (ha : a ≤ 0) (hb : b ≤ 0) {v0 : Nat} {κ34 : Int32 → Hp → Option β} {out : β}
    (hk34 : ∀ (k1 : Int32) (h : Hp), κ34 k1 h = some out → J 34 [some (.inr (1, (some v0))), some (.inl k1), none, none, none] [] h a b)
    : ∀ (f : Nat) (v1 : Int32) (h : Hp), L_X1_nextOrder_7 v0 κ34 f v1 h = some out → J 7 [some (.inr (1, (some v0))), some (.inl v1), none, none, none] [] h a b := by
  intro f
  induction f with
  | zero => intro v1 h hF; simp [L_X1_nextOrder_7] at hF
  | succ f ih =>
    intro v1 h hF
    rw [L_X1_nextOrder_7] at hF
    refine hJ.iload_n (i := 1) dX1_nextOrder_7 rfl rfl ?_
    refine hJ.if_lt (tgt := 34) dX1_nextOrder_8 (by decide) (fun e1 => ?_) (fun e1 => ?_)
    · replace hF := ite_T e1 hF
      refine hJ.forget (ls2 := [some (.inr (1, (some v0))), some (.inl v1), none, none, none]) ⟨rfl, rfl, trivial⟩ ?_
      exact hk34 v1 h hF
    · replace hF := ite_F e1 hF
      refine hJ.aload_n (i := 0) dX1_nextOrder_11 rfl rfl ?_
      refine hJ.getR dX1_nextOrder_12 f_RX1_17 rfl ?_
      refine hJ.iload_n (i := 1) dX1_nextOrder_15 rfl rfl ?_
      replace hF := nn_S hF
      obtain ⟨n2, e3, hF⟩ := hF
      rw [e3]
      replace hF := ck_S hF
      obtain ⟨c4, hF⟩ := hF
      refine hJ.iald dX1_nextOrder_16 a_10 rfl c4 ?_
      refine hJ.aload_n (i := 0) dX1_nextOrder_17 rfl rfl ?_
      refine hJ.getR dX1_nextOrder_18 f_RX1_17 rfl ?_
      rw [e3]
      refine hJ.iload_n (i := 1) dX1_nextOrder_21 rfl rfl ?_
      refine hJ.iconst (v := 1) dX1_nextOrder_22 (by decide) ?_
      refine hJ.iadd dX1_nextOrder_23 ?_
      replace hF := ck_S hF
      obtain ⟨c5, hF⟩ := hF
      refine hJ.iald dX1_nextOrder_24 a_10 rfl c5 ?_
      refine hJ.icmp_le (tgt := 34) dX1_nextOrder_25 (by decide) (fun e6 => ?_) (fun e6 => ?_)
      · replace hF := ite_T e6 hF
        refine hJ.forget (ls2 := [some (.inr (1, (some v0))), some (.inl v1), none, none, none]) ⟨rfl, rfl, trivial⟩ ?_
        exact hk34 v1 h hF
      · replace hF := ite_F e6 hF
        refine hJ.iinc (i := 1) (v := (v1 + (-1 : Int32))) (ls2 := [some (.inr (1, (some v0))), some (.inl (v1 + (-1 : Int32))), none, none, none]) dX1_nextOrder_28 rfl (addI (by decide)) (by decide) rfl ?_
        refine hJ.goto (tgt := 7) dX1_nextOrder_31 (by decide) ?_
        refine hJ.forget (ls2 := [some (.inr (1, (some v0))), some (.inl (v1 + (-1 : Int32))), none, none, none]) ⟨rfl, rfl, trivial⟩ ?_
        exact ih (v1 + (-1 : Int32)) h hF

set_option maxHeartbeats 4000000 in
set_option maxRecDepth 100000 in
theorem t_X1_nextOrder_47 {β : Type} {J : JT} (hJ : Rules cX1_nextOrder RX1 5 1 0 0 False J) {a b : Nat} (ha : a ≤ 0) (hb : b ≤ 0) {v0 : Nat} {v1 : Int32} {κ73 : Int32 → Hp → Option β} {out : β}
    (hk73 : ∀ (k2 : Int32) (h : Hp), κ73 k2 h = some out → J 73 [some (.inr (1, (some v0))), some (.inl v1), some (.inl k2), none, none] [] h a b)
    : ∀ (f : Nat) (v2 : Int32) (h : Hp), L_X1_nextOrder_47 v0 v1 κ73 f v2 h = some out → J 47 [some (.inr (1, (some v0))), some (.inl v1), some (.inl v2), none, none] [] h a b := by
  intro f
  induction f with
  | zero => intro v2 h hF; simp [L_X1_nextOrder_47] at hF
  | succ f ih =>
    intro v2 h hF
    rw [L_X1_nextOrder_47] at hF
    refine hJ.iload_n (i := 2) dX1_nextOrder_47 rfl rfl ?_
    refine hJ.iload_n (i := 1) dX1_nextOrder_48 rfl rfl ?_
    refine hJ.icmp_le (tgt := 73) dX1_nextOrder_49 (by decide) (fun e10 => ?_) (fun e10 => ?_)
    · replace hF := ite_T e10 hF
      refine hJ.forget (ls2 := [some (.inr (1, (some v0))), some (.inl v1), some (.inl v2), none, none]) ⟨rfl, rfl, rfl, trivial⟩ ?_
      exact hk73 v2 h hF
    · replace hF := ite_F e10 hF
      refine hJ.aload_n (i := 0) dX1_nextOrder_52 rfl rfl ?_
      refine hJ.getR dX1_nextOrder_53 f_RX1_17 rfl ?_
      refine hJ.iload_n (i := 2) dX1_nextOrder_56 rfl rfl ?_
      replace hF := nn_S hF
      obtain ⟨n11, e12, hF⟩ := hF
      rw [e12]
      replace hF := ck_S hF
      obtain ⟨c13, hF⟩ := hF
      refine hJ.iald dX1_nextOrder_57 a_10 rfl c13 ?_
      refine hJ.aload_n (i := 0) dX1_nextOrder_58 rfl rfl ?_
      refine hJ.getR dX1_nextOrder_59 f_RX1_17 rfl ?_
      rw [e12]
      refine hJ.iload_n (i := 1) dX1_nextOrder_62 rfl rfl ?_
      replace hF := ck_S hF
      obtain ⟨c14, hF⟩ := hF
      refine hJ.iald dX1_nextOrder_63 a_10 rfl c14 ?_
      refine hJ.icmp_ge (tgt := 73) dX1_nextOrder_64 (by decide) (fun e15 => ?_) (fun e15 => ?_)
      · replace hF := ite_T e15 hF
        refine hJ.forget (ls2 := [some (.inr (1, (some v0))), some (.inl v1), some (.inl v2), none, none]) ⟨rfl, rfl, rfl, trivial⟩ ?_
        exact hk73 v2 h hF
      · replace hF := ite_F e15 hF
        refine hJ.iinc (i := 2) (v := (v2 + (-1 : Int32))) (ls2 := [some (.inr (1, (some v0))), some (.inl v1), some (.inl (v2 + (-1 : Int32))), none, none]) dX1_nextOrder_67 rfl (addI (by decide)) (by decide) rfl ?_
        refine hJ.goto (tgt := 47) dX1_nextOrder_70 (by decide) ?_
        refine hJ.forget (ls2 := [some (.inr (1, (some v0))), some (.inl v1), some (.inl (v2 + (-1 : Int32))), none, none]) ⟨rfl, rfl, rfl, trivial⟩ ?_
        exact ih (v2 + (-1 : Int32)) h hF

set_option maxHeartbeats 4000000 in
set_option maxRecDepth 100000 in
theorem t_X1_nextOrder_91 {β : Type} {J : JT} (hJ : Rules cX1_nextOrder RX1 5 1 0 0 False J) {a b : Nat} (ha : a ≤ 0) (hb : b ≤ 0) {v0 : Nat} {κ113 : Hp → Option β} {out : β}
    (hk113 : ∀ (h : Hp), κ113 h = some out → J 113 [none, none, none, none, none] [] h a b)
    : ∀ (f : Nat) (v3 : Int32) (v4 : Int32) (h : Hp), L_X1_nextOrder_91 v0 κ113 f v3 v4 h = some out → J 91 [some (.inr (1, (some v0))), none, none, some (.inl v3), some (.inl v4)] [] h a b := by
  intro f
  induction f with
  | zero => intro v3 v4 h hF; simp [L_X1_nextOrder_91] at hF
  | succ f ih =>
    intro v3 v4 h hF
    rw [L_X1_nextOrder_91] at hF
    refine hJ.iload_n (i := 3) dX1_nextOrder_91 rfl rfl ?_
    refine hJ.iload (i := 4) dX1_nextOrder_92 rfl ?_
    refine hJ.icmp_ge (tgt := 113) dX1_nextOrder_94 (by decide) (fun e21 => ?_) (fun e21 => ?_)
    · replace hF := ite_T e21 hF
      refine hJ.forget (ls2 := [none, none, none, none, none]) trivial ?_
      exact hk113 h hF
    · replace hF := ite_F e21 hF
      refine hJ.aload_n (i := 0) dX1_nextOrder_97 rfl rfl ?_
      refine hJ.iload_n (i := 3) dX1_nextOrder_98 rfl rfl ?_
      refine hJ.iload (i := 4) dX1_nextOrder_99 rfl ?_
      replace hF := cl_S hF
      obtain ⟨r22, h23, ec24, hF⟩ := hF
      refine hJ.callV0 (as := [.inl v3, .inl v4]) (st := []) dX1_nextOrder_101 w_RX1_83 ⟨by decide, rfl⟩ rfl (c_X1_swap ec24) (by decide) ha hb rfl (Nat.le_of_ble_eq_true rfl) rfl ?_
      refine hJ.iinc (i := 3) (v := (v3 + (1 : Int32))) (ls2 := [some (.inr (1, (some v0))), none, none, some (.inl (v3 + (1 : Int32))), some (.inl v4)]) dX1_nextOrder_104 rfl (addI (by decide)) (by decide) rfl ?_
      refine hJ.iinc (i := 4) (v := (v4 + (-1 : Int32))) (ls2 := [some (.inr (1, (some v0))), none, none, some (.inl (v3 + (1 : Int32))), some (.inl (v4 + (-1 : Int32)))]) dX1_nextOrder_107 rfl (addI (by decide)) (by decide) rfl ?_
      refine hJ.goto (tgt := 91) dX1_nextOrder_110 (by decide) ?_
      refine hJ.forget (ls2 := [some (.inr (1, (some v0))), none, none, some (.inl (v3 + (1 : Int32))), some (.inl (v4 + (-1 : Int32)))]) ⟨rfl, rfl, rfl, trivial⟩ ?_
      exact ih (v3 + (1 : Int32)) (v4 + (-1 : Int32)) h23 hF

set_option maxHeartbeats 4000000 in
set_option maxRecDepth 100000 in
theorem c_X1_nextOrder {x0 : Nat} {h hh : Hp} {xr : Int32} (hF : F_X1_nextOrder x0 h = some (xr, hh)) : Ctr yX1_nextOrder cX1_nextOrder 5 (some .boolean) 1 0 0 [.inr (1, (some x0))] h (some (.inl xr)) hh := by
  refine Ctr_z (own := RX1) (ini := False) (ls0 := [some (.inr (1, (some x0))), none, none, none, none]) (by decide) rfl (Nat.le_of_ble_eq_true rfl) (fun e => e.elim) rfl ?_
  intro J hJ hR
  unfold F_X1_nextOrder at hF
  refine hJ.aload_n (i := 0) dX1_nextOrder_0 rfl rfl ?_
  refine hJ.getI dX1_nextOrder_1 f_RX1_30 rfl ?_
  refine hJ.iconst (v := 2) dX1_nextOrder_4 (by decide) ?_
  refine hJ.isub dX1_nextOrder_5 ?_
  refine hJ.istore_n (i := 1) (ls2 := [some (.inr (1, (some x0))), some (.inl ((pI h 1 x0 5) - (2 : Int32))), none, none, none]) dX1_nextOrder_6 rfl (by decide) rfl ?_
  refine hJ.forget (ls2 := [some (.inr (1, (some x0))), some (.inl ((pI h 1 x0 5) - (2 : Int32))), none, none, none]) ⟨rfl, rfl, trivial⟩ ?_
  refine t_X1_nextOrder_7 hJ (by decide) (by decide) (fun k7 h8 hF => ?_) FU _ _ hF
  refine hJ.iload_n (i := 1) dX1_nextOrder_34 rfl rfl ?_
  refine hJ.if_ge (tgt := 40) dX1_nextOrder_35 (by decide) (fun e9 => ?_) (fun e9 => ?_)
  · replace hF := ite_T e9 hF
    refine hJ.aload_n (i := 0) dX1_nextOrder_40 rfl rfl ?_
    refine hJ.getI dX1_nextOrder_41 f_RX1_30 rfl ?_
    refine hJ.iconst (v := 1) dX1_nextOrder_44 (by decide) ?_
    refine hJ.isub dX1_nextOrder_45 ?_
    refine hJ.istore_n (i := 2) (ls2 := [some (.inr (1, (some x0))), some (.inl k7), some (.inl ((pI h8 1 x0 5) - (1 : Int32))), none, none]) dX1_nextOrder_46 rfl (by decide) rfl ?_
    refine hJ.forget (ls2 := [some (.inr (1, (some x0))), some (.inl k7), some (.inl ((pI h8 1 x0 5) - (1 : Int32))), none, none]) ⟨rfl, rfl, rfl, trivial⟩ ?_
    refine t_X1_nextOrder_47 hJ (by decide) (by decide) (fun k16 h17 hF => ?_) FU _ _ hF
    refine hJ.aload_n (i := 0) dX1_nextOrder_73 rfl rfl ?_
    refine hJ.iload_n (i := 1) dX1_nextOrder_74 rfl rfl ?_
    refine hJ.iload_n (i := 2) dX1_nextOrder_75 rfl rfl ?_
    replace hF := cl_S hF
    obtain ⟨r18, h19, ec20, hF⟩ := hF
    refine hJ.callV0 (as := [.inl k7, .inl k16]) (st := []) dX1_nextOrder_76 w_RX1_83 ⟨by decide, rfl⟩ rfl (c_X1_swap ec20) (by decide) (by decide) (by decide) rfl (Nat.le_of_ble_eq_true rfl) rfl ?_
    refine hJ.iload_n (i := 1) dX1_nextOrder_79 rfl rfl ?_
    refine hJ.iconst (v := 1) dX1_nextOrder_80 (by decide) ?_
    refine hJ.iadd dX1_nextOrder_81 ?_
    refine hJ.istore_n (i := 3) (ls2 := [some (.inr (1, (some x0))), some (.inl k7), some (.inl k16), some (.inl (k7 + (1 : Int32))), none]) dX1_nextOrder_82 rfl (by decide) rfl ?_
    refine hJ.aload_n (i := 0) dX1_nextOrder_83 rfl rfl ?_
    refine hJ.getI dX1_nextOrder_84 f_RX1_30 rfl ?_
    refine hJ.iconst (v := 1) dX1_nextOrder_87 (by decide) ?_
    refine hJ.isub dX1_nextOrder_88 ?_
    refine hJ.istore (i := 4) (ls2 := [some (.inr (1, (some x0))), some (.inl k7), some (.inl k16), some (.inl (k7 + (1 : Int32))), some (.inl ((pI h19 1 x0 5) - (1 : Int32)))]) dX1_nextOrder_89 (by decide) rfl ?_
    refine hJ.forget (ls2 := [some (.inr (1, (some x0))), none, none, some (.inl (k7 + (1 : Int32))), some (.inl ((pI h19 1 x0 5) - (1 : Int32)))]) ⟨rfl, rfl, rfl, trivial⟩ ?_
    refine t_X1_nextOrder_91 hJ (by decide) (by decide) (fun h25 hF => ?_) FU _ _ _ hF
    refine hJ.iconst (v := 1) dX1_nextOrder_113 (by decide) ?_
    obtain ⟨rfl, rfl⟩ := ret_S hF
    exact hR dX1_nextOrder_114 (by decide) (by decide) (by decide)
  · replace hF := ite_F e9 hF
    refine hJ.iconst (v := 0) dX1_nextOrder_38 (by decide) ?_
    obtain ⟨rfl, rfl⟩ := ret_S hF
    exact hR dX1_nextOrder_39 (by decide) (by decide) (by decide)

set_option maxHeartbeats 4000000 in
set_option maxRecDepth 100000 in
theorem t_X1_work_21 {β : Type} {J : JT} (hJ : Rules cX1_work RX1 6 2 0 0 False J) {a b : Nat} (ha : a ≤ 0) (hb : b ≤ 0) {v0 : Nat} {v1 : Option Nat} {v2 : Int32} {κ80 : Hp → Option β} {out : β}
    (hk80 : ∀ (h : Hp), κ80 h = some out → J 80 [none, none, none, none, none, none] [] h a b)
    : ∀ (f : Nat) (v3 : Int32) (v4 : Int32) (h : Hp), L_X1_work_21 v0 v1 v2 κ80 f v3 v4 h = some out → J 21 [some (.inr (1, (some v0))), some (.inr (4, v1)), some (.inl v2), some (.inl v3), some (.inl v4), none] [] h a b := by
  intro f
  induction f with
  | zero => intro v3 v4 h hF; simp [L_X1_work_21] at hF
  | succ f ih =>
    intro v3 v4 h hF
    rw [L_X1_work_21] at hF
    refine hJ.iload (i := 4) dX1_work_21 rfl ?_
    refine hJ.bipush (v := 120) dX1_work_23 (by decide) ?_
    refine hJ.icmp_ge (tgt := 80) dX1_work_25 (by decide) (fun e3 => ?_) (fun e3 => ?_)
    · replace hF := ite_T e3 hF
      refine hJ.forget (ls2 := [none, none, none, none, none, none]) trivial ?_
      exact hk80 h hF
    · replace hF := ite_F e3 hF
      refine hJ.iload_n (i := 3) dX1_work_28 rfl rfl ?_
      refine hJ.if_eq (tgt := 80) dX1_work_29 (by decide) (fun e4 => ?_) (fun e4 => ?_)
      · replace hF := ite_T e4 hF
        refine hJ.forget (ls2 := [none, none, none, none, none, none]) trivial ?_
        exact hk80 h hF
      · replace hF := ite_F e4 hF
        refine hJ.aload_n (i := 0) dX1_work_32 rfl rfl ?_
        refine hJ.aload_n (i := 1) dX1_work_33 rfl rfl ?_
        refine hJ.iload_n (i := 2) dX1_work_34 rfl rfl ?_
        replace hF := cl_S hF
        obtain ⟨r5, h6, ec7, hF⟩ := hF
        refine hJ.callV (as := [.inr (4, v1), .inl v2]) (st := []) dX1_work_35 w_RX1_47 ⟨by decide, rfl⟩ rfl (c_X1_sumOfHours ec7) (by decide) ha hb rfl (Nat.le_of_ble_eq_true rfl) rfl ?_
        refine hJ.istore (i := 5) (ls2 := [some (.inr (1, (some v0))), some (.inr (4, v1)), some (.inl v2), some (.inl v3), some (.inl v4), some (.inl r5)]) dX1_work_38 (by decide) rfl ?_
        refine hJ.iload (i := 5) dX1_work_40 rfl ?_
        refine hJ.iconst (v := -1) dX1_work_42 (by decide) ?_
        refine hJ.icmp_eq (tgt := 69) dX1_work_43 (by decide) (fun e8 => ?_) (fun e8 => ?_)
        · replace hF := ite_T e8 hF
          refine hJ.aload_n (i := 0) dX1_work_69 rfl rfl ?_
          replace hF := cl_S hF
          obtain ⟨r9, h10, ec11, hF⟩ := hF
          refine hJ.callV (as := []) (st := []) dX1_work_70 w_RX1_55 ⟨by decide, rfl⟩ rfl (c_X1_nextOrder ec11) (by decide) ha hb rfl (Nat.le_of_ble_eq_true rfl) rfl ?_
          refine hJ.istore_n (i := 3) (ls2 := [some (.inr (1, (some v0))), some (.inr (4, v1)), some (.inl v2), some (.inl r9), some (.inl v4), some (.inl r5)]) dX1_work_73 rfl (by decide) rfl ?_
          refine hJ.iinc (i := 4) (v := (v4 + (1 : Int32))) (ls2 := [some (.inr (1, (some v0))), some (.inr (4, v1)), some (.inl v2), some (.inl r9), some (.inl (v4 + (1 : Int32))), some (.inl r5)]) dX1_work_74 rfl (addI (by decide)) (by decide) rfl ?_
          refine hJ.goto (tgt := 21) dX1_work_77 (by decide) ?_
          refine hJ.forget (ls2 := [some (.inr (1, (some v0))), some (.inr (4, v1)), some (.inl v2), some (.inl r9), some (.inl (v4 + (1 : Int32))), none]) ⟨rfl, rfl, rfl, rfl, rfl, trivial⟩ ?_
          exact ih r9 (v4 + (1 : Int32)) h10 hF
        · replace hF := ite_F e8 hF
          refine hJ.aload_n (i := 0) dX1_work_46 rfl rfl ?_
          refine hJ.getI dX1_work_47 f_RX1_37 rfl ?_
          refine hJ.iconst (v := -1) dX1_work_50 (by decide) ?_
          refine hJ.icmp_eq (tgt := 63) dX1_work_51 (by decide) (fun e12 => ?_) (fun e12 => ?_)
          · replace hF := ite_T e12 hF
            refine hJ.aload_n (i := 0) dX1_work_63 rfl rfl ?_
            refine hJ.iload (i := 5) dX1_work_64 rfl ?_
            replace hF := cl_S hF
            obtain ⟨r13, h14, ec15, hF⟩ := hF
            refine hJ.callV0 (as := [.inl r5]) (st := []) dX1_work_66 w_RX1_51 ⟨by decide, rfl⟩ rfl (c_X1_keep ec15) (by decide) ha hb rfl (Nat.le_of_ble_eq_true rfl) rfl ?_
            refine hJ.aload_n (i := 0) dX1_work_69 rfl rfl ?_
            replace hF := cl_S hF
            obtain ⟨r16, h17, ec18, hF⟩ := hF
            refine hJ.callV (as := []) (st := []) dX1_work_70 w_RX1_55 ⟨by decide, rfl⟩ rfl (c_X1_nextOrder ec18) (by decide) ha hb rfl (Nat.le_of_ble_eq_true rfl) rfl ?_
            refine hJ.istore_n (i := 3) (ls2 := [some (.inr (1, (some v0))), some (.inr (4, v1)), some (.inl v2), some (.inl r16), some (.inl v4), some (.inl r5)]) dX1_work_73 rfl (by decide) rfl ?_
            refine hJ.iinc (i := 4) (v := (v4 + (1 : Int32))) (ls2 := [some (.inr (1, (some v0))), some (.inr (4, v1)), some (.inl v2), some (.inl r16), some (.inl (v4 + (1 : Int32))), some (.inl r5)]) dX1_work_74 rfl (addI (by decide)) (by decide) rfl ?_
            refine hJ.goto (tgt := 21) dX1_work_77 (by decide) ?_
            refine hJ.forget (ls2 := [some (.inr (1, (some v0))), some (.inr (4, v1)), some (.inl v2), some (.inl r16), some (.inl (v4 + (1 : Int32))), none]) ⟨rfl, rfl, rfl, rfl, rfl, trivial⟩ ?_
            exact ih r16 (v4 + (1 : Int32)) h17 hF
          · replace hF := ite_F e12 hF
            refine hJ.iload (i := 5) dX1_work_54 rfl ?_
            refine hJ.aload_n (i := 0) dX1_work_56 rfl rfl ?_
            refine hJ.getI dX1_work_57 f_RX1_37 rfl ?_
            refine hJ.icmp_ge (tgt := 69) dX1_work_60 (by decide) (fun e19 => ?_) (fun e19 => ?_)
            · replace hF := ite_T e19 hF
              refine hJ.aload_n (i := 0) dX1_work_69 rfl rfl ?_
              replace hF := cl_S hF
              obtain ⟨r20, h21, ec22, hF⟩ := hF
              refine hJ.callV (as := []) (st := []) dX1_work_70 w_RX1_55 ⟨by decide, rfl⟩ rfl (c_X1_nextOrder ec22) (by decide) ha hb rfl (Nat.le_of_ble_eq_true rfl) rfl ?_
              refine hJ.istore_n (i := 3) (ls2 := [some (.inr (1, (some v0))), some (.inr (4, v1)), some (.inl v2), some (.inl r20), some (.inl v4), some (.inl r5)]) dX1_work_73 rfl (by decide) rfl ?_
              refine hJ.iinc (i := 4) (v := (v4 + (1 : Int32))) (ls2 := [some (.inr (1, (some v0))), some (.inr (4, v1)), some (.inl v2), some (.inl r20), some (.inl (v4 + (1 : Int32))), some (.inl r5)]) dX1_work_74 rfl (addI (by decide)) (by decide) rfl ?_
              refine hJ.goto (tgt := 21) dX1_work_77 (by decide) ?_
              refine hJ.forget (ls2 := [some (.inr (1, (some v0))), some (.inr (4, v1)), some (.inl v2), some (.inl r20), some (.inl (v4 + (1 : Int32))), none]) ⟨rfl, rfl, rfl, rfl, rfl, trivial⟩ ?_
              exact ih r20 (v4 + (1 : Int32)) h21 hF
            · replace hF := ite_F e19 hF
              refine hJ.aload_n (i := 0) dX1_work_63 rfl rfl ?_
              refine hJ.iload (i := 5) dX1_work_64 rfl ?_
              replace hF := cl_S hF
              obtain ⟨r23, h24, ec25, hF⟩ := hF
              refine hJ.callV0 (as := [.inl r5]) (st := []) dX1_work_66 w_RX1_51 ⟨by decide, rfl⟩ rfl (c_X1_keep ec25) (by decide) ha hb rfl (Nat.le_of_ble_eq_true rfl) rfl ?_
              refine hJ.aload_n (i := 0) dX1_work_69 rfl rfl ?_
              replace hF := cl_S hF
              obtain ⟨r26, h27, ec28, hF⟩ := hF
              refine hJ.callV (as := []) (st := []) dX1_work_70 w_RX1_55 ⟨by decide, rfl⟩ rfl (c_X1_nextOrder ec28) (by decide) ha hb rfl (Nat.le_of_ble_eq_true rfl) rfl ?_
              refine hJ.istore_n (i := 3) (ls2 := [some (.inr (1, (some v0))), some (.inr (4, v1)), some (.inl v2), some (.inl r26), some (.inl v4), some (.inl r5)]) dX1_work_73 rfl (by decide) rfl ?_
              refine hJ.iinc (i := 4) (v := (v4 + (1 : Int32))) (ls2 := [some (.inr (1, (some v0))), some (.inr (4, v1)), some (.inl v2), some (.inl r26), some (.inl (v4 + (1 : Int32))), some (.inl r5)]) dX1_work_74 rfl (addI (by decide)) (by decide) rfl ?_
              refine hJ.goto (tgt := 21) dX1_work_77 (by decide) ?_
              refine hJ.forget (ls2 := [some (.inr (1, (some v0))), some (.inr (4, v1)), some (.inl v2), some (.inl r26), some (.inl (v4 + (1 : Int32))), none]) ⟨rfl, rfl, rfl, rfl, rfl, trivial⟩ ?_
              exact ih r26 (v4 + (1 : Int32)) h27 hF

set_option maxHeartbeats 4000000 in
set_option maxRecDepth 100000 in
theorem c_X1_work {x0 : Nat} {x1 : Option Nat} {x2 : Int32} {h hh : Hp} {xr : Unit} (hF : F_X1_work x0 x1 x2 h = some (xr, hh)) : Ctr yX1_work cX1_work 6 none 2 0 0 [.inr (1, (some x0)), .inr (4, x1), .inl x2] h none hh := by
  refine Ctr_v (own := RX1) (ini := False) (ls0 := [some (.inr (1, (some x0))), some (.inr (4, x1)), some (.inl x2), none, none, none]) (by decide) rfl (Nat.le_of_ble_eq_true rfl) (fun e => e.elim) rfl ?_
  intro J hJ hR
  unfold F_X1_work at hF
  refine hJ.aload_n (i := 0) dX1_work_0 rfl rfl ?_
  refine hJ.getI dX1_work_1 f_RX1_30 rfl ?_
  refine hJ.if_eq (tgt := 15) dX1_work_4 (by decide) (fun e1 => ?_) (fun e1 => ?_)
  · replace hF := ite_T e1 hF
    obtain ⟨-, rfl⟩ := ret_S hF
    exact hR dX1_work_15 (by decide) (by decide)
  · replace hF := ite_F e1 hF
    refine hJ.aload_n (i := 0) dX1_work_7 rfl rfl ?_
    refine hJ.getI dX1_work_8 f_RX1_30 rfl ?_
    refine hJ.iconst (v := 5) dX1_work_11 (by decide) ?_
    refine hJ.icmp_le (tgt := 16) dX1_work_12 (by decide) (fun e2 => ?_) (fun e2 => ?_)
    · replace hF := ite_T e2 hF
      refine hJ.iconst (v := 1) dX1_work_16 (by decide) ?_
      refine hJ.istore_n (i := 3) (ls2 := [some (.inr (1, (some x0))), some (.inr (4, x1)), some (.inl x2), some (.inl (1 : Int32)), none, none]) dX1_work_17 rfl (by decide) rfl ?_
      refine hJ.iconst (v := 0) dX1_work_18 (by decide) ?_
      refine hJ.istore (i := 4) (ls2 := [some (.inr (1, (some x0))), some (.inr (4, x1)), some (.inl x2), some (.inl (1 : Int32)), some (.inl (0 : Int32)), none]) dX1_work_19 (by decide) rfl ?_
      refine hJ.forget (ls2 := [some (.inr (1, (some x0))), some (.inr (4, x1)), some (.inl x2), some (.inl (1 : Int32)), some (.inl (0 : Int32)), none]) ⟨rfl, rfl, rfl, rfl, rfl, trivial⟩ ?_
      refine t_X1_work_21 hJ (by decide) (by decide) (fun h29 hF => ?_) FU _ _ _ hF
      obtain ⟨-, rfl⟩ := ret_S hF
      exact hR dX1_work_80 (by decide) (by decide)
    · replace hF := ite_F e2 hF
      obtain ⟨-, rfl⟩ := ret_S hF
      exact hR dX1_work_15 (by decide) (by decide)

set_option maxHeartbeats 4000000 in
set_option maxRecDepth 100000 in
theorem c_X2_init {x0 : Nat} {x1 : Int32} {x2 : Option Nat} {h hh : Hp} {xr : Unit} (hF : F_X2_init x0 x1 x2 h = some (xr, hh)) : Ctr yX2_init cX2_init 3 none 1 1 8 [.inr (2, (some x0)), .inl x1, .inr (4, x2)] h none hh := by
  refine Ctr_v (own := RX2) (ini := True) (ls0 := [some (.inr (2, (some x0))), some (.inl x1), some (.inr (4, x2))]) (by decide) rfl (Nat.le_of_ble_eq_true rfl) (fun _ => rfl) rfl ?_
  intro J hJ hR
  unfold F_X2_init at hF
  refine hJ.aload_n (i := 0) dX2_init_0 rfl rfl ?_
  refine hJ.objInit dX2_init_1 w_RX2_3 rfl (by decide) (Nat.le_of_ble_eq_true rfl) ?_
  refine hJ.aload_n (i := 0) dX2_init_4 rfl rfl ?_
  refine hJ.bipush (v := 8) dX2_init_5 (by decide) ?_
  replace hF := lt_S hF
  obtain ⟨h1, eh2, hF⟩ := hF
  refine hJ.newq (N := 8) dX2_init_7 a_14 q_RX2_11 (by decide) (by decide) (by decide) (by decide) (by decide) ?_
  rw [← eh2]
  replace hF := lt_S hF
  obtain ⟨h3, eh4, hF⟩ := hF
  refine hJ.putRF dX2_init_10 f_RX2_13 rfl rfl trivial (Or.inr rfl) rfl ?_
  rw [← eh4]
  refine hJ.aload_n (i := 0) dX2_init_13 rfl rfl ?_
  refine hJ.iconst (v := 0) dX2_init_14 (by decide) ?_
  replace hF := lt_S hF
  obtain ⟨h5, eh6, hF⟩ := hF
  refine hJ.putI dX2_init_15 f_RX2_17 rfl nar_i rfl ?_
  rw [← eh6]
  refine hJ.aload_n (i := 0) dX2_init_18 rfl rfl ?_
  refine hJ.null (kk := 0) dX2_init_19 ?_
  replace hF := lt_S hF
  obtain ⟨h7, eh8, hF⟩ := hF
  refine hJ.putR dX2_init_20 f_RX2_21 rfl (Or.inr rfl) rfl ?_
  rw [← eh8]
  refine hJ.aload_n (i := 0) dX2_init_23 rfl rfl ?_
  refine hJ.iconst (v := -1) dX2_init_24 (by decide) ?_
  replace hF := lt_S hF
  obtain ⟨h9, eh10, hF⟩ := hF
  refine hJ.putI dX2_init_25 f_RX2_25 rfl nar_i rfl ?_
  rw [← eh10]
  refine hJ.aload_n (i := 0) dX2_init_28 rfl rfl ?_
  refine hJ.iload_n (i := 1) dX2_init_29 rfl rfl ?_
  replace hF := lt_S hF
  obtain ⟨h11, eh12, hF⟩ := hF
  refine hJ.putIF dX2_init_30 f_RX2_28 rfl rfl trivial nar_i rfl ?_
  rw [← eh12]
  refine hJ.aload_n (i := 0) dX2_init_33 rfl rfl ?_
  refine hJ.aload_n (i := 2) dX2_init_34 rfl rfl ?_
  replace hF := lt_S hF
  obtain ⟨h13, eh14, hF⟩ := hF
  refine hJ.putR dX2_init_35 f_RX2_31 rfl (Or.inr rfl) rfl ?_
  rw [← eh14]
  obtain ⟨-, rfl⟩ := ret_S hF
  exact hR dX2_init_38 (by decide) (by decide)

set_option maxHeartbeats 4000000 in
set_option maxRecDepth 100000 in
theorem t_X2_width_4 {β : Type} {J : JT} (hJ : Rules cX2_width RX2 3 1 0 0 False J) {a b : Nat} (ha : a ≤ 0) (hb : b ≤ 0) {v0 : Nat} {κ32 : Int32 → Hp → Option β} {out : β}
    (hk32 : ∀ (k1 : Int32) (h : Hp), κ32 k1 h = some out → J 32 [none, some (.inl k1), none] [] h a b)
    : ∀ (f : Nat) (v1 : Int32) (v2 : Int32) (h : Hp), L_X2_width_4 v0 κ32 f v1 v2 h = some out → J 4 [some (.inr (2, (some v0))), some (.inl v1), some (.inl v2)] [] h a b := by
  intro f
  induction f with
  | zero => intro v1 v2 h hF; simp [L_X2_width_4] at hF
  | succ f ih =>
    intro v1 v2 h hF
    rw [L_X2_width_4] at hF
    refine hJ.iload_n (i := 2) dX2_width_4 rfl rfl ?_
    refine hJ.aload_n (i := 0) dX2_width_5 rfl rfl ?_
    refine hJ.getI dX2_width_6 f_RX2_17 rfl ?_
    refine hJ.icmp_ge (tgt := 32) dX2_width_9 (by decide) (fun e1 => ?_) (fun e1 => ?_)
    · replace hF := ite_T e1 hF
      refine hJ.forget (ls2 := [none, some (.inl v1), none]) ⟨rfl, trivial⟩ ?_
      exact hk32 v1 h hF
    · replace hF := ite_F e1 hF
      refine hJ.iload_n (i := 1) dX2_width_12 rfl rfl ?_
      refine hJ.aload_n (i := 0) dX2_width_13 rfl rfl ?_
      refine hJ.getR dX2_width_14 f_RX2_13 rfl ?_
      refine hJ.iload_n (i := 2) dX2_width_17 rfl rfl ?_
      replace hF := nn_S hF
      obtain ⟨n2, e3, hF⟩ := hF
      rw [e3]
      replace hF := ck_S hF
      obtain ⟨c4, hF⟩ := hF
      refine hJ.aald dX2_width_18 a_14 rfl c4 ?_
      replace hF := nn_S hF
      obtain ⟨n5, e6, hF⟩ := hF
      rw [e6]
      refine hJ.getI dX2_width_19 f_RX2_35 rfl ?_
      refine hJ.mmax dX2_width_22 w_RX2_38 (by decide) (Nat.le_of_ble_eq_true rfl) ha hb ?_
      refine hJ.istore_n (i := 1) (ls2 := [some (.inr (2, (some v0))), some (.inl (if v1 < (pI h 3 n5 2) then (pI h 3 n5 2) else v1)), some (.inl v2)]) dX2_width_25 rfl (by decide) rfl ?_
      refine hJ.iinc (i := 2) (v := (v2 + (1 : Int32))) (ls2 := [some (.inr (2, (some v0))), some (.inl (if v1 < (pI h 3 n5 2) then (pI h 3 n5 2) else v1)), some (.inl (v2 + (1 : Int32)))]) dX2_width_26 rfl (addI (by decide)) (by decide) rfl ?_
      refine hJ.goto (tgt := 4) dX2_width_29 (by decide) ?_
      refine hJ.forget (ls2 := [some (.inr (2, (some v0))), some (.inl (if v1 < (pI h 3 n5 2) then (pI h 3 n5 2) else v1)), some (.inl (v2 + (1 : Int32)))]) ⟨rfl, rfl, rfl, trivial⟩ ?_
      exact ih (if v1 < (pI h 3 n5 2) then (pI h 3 n5 2) else v1) (v2 + (1 : Int32)) h hF

set_option maxHeartbeats 4000000 in
set_option maxRecDepth 100000 in
theorem c_X2_width {x0 : Nat} {h hh : Hp} {xr : Int32} (hF : F_X2_width x0 h = some (xr, hh)) : Ctr yX2_width cX2_width 3 (some .int) 1 0 0 [.inr (2, (some x0))] h (some (.inl xr)) hh := by
  refine Ctr_i (own := RX2) (ini := False) (ls0 := [some (.inr (2, (some x0))), none, none]) (by decide) rfl (Nat.le_of_ble_eq_true rfl) (fun e => e.elim) rfl ?_
  intro J hJ hR
  unfold F_X2_width at hF
  refine hJ.iconst (v := 0) dX2_width_0 (by decide) ?_
  refine hJ.istore_n (i := 1) (ls2 := [some (.inr (2, (some x0))), some (.inl (0 : Int32)), none]) dX2_width_1 rfl (by decide) rfl ?_
  refine hJ.iconst (v := 0) dX2_width_2 (by decide) ?_
  refine hJ.istore_n (i := 2) (ls2 := [some (.inr (2, (some x0))), some (.inl (0 : Int32)), some (.inl (0 : Int32))]) dX2_width_3 rfl (by decide) rfl ?_
  refine hJ.forget (ls2 := [some (.inr (2, (some x0))), some (.inl (0 : Int32)), some (.inl (0 : Int32))]) ⟨rfl, rfl, rfl, trivial⟩ ?_
  refine t_X2_width_4 hJ (by decide) (by decide) (fun k7 h8 hF => ?_) FU _ _ _ hF
  refine hJ.iload_n (i := 1) dX2_width_32 rfl rfl ?_
  obtain ⟨rfl, rfl⟩ := ret_S hF
  exact hR dX2_width_33 (by decide) (by decide)

set_option maxHeartbeats 4000000 in
set_option maxRecDepth 100000 in
theorem t_X2_trunkCount_4 {β : Type} {J : JT} (hJ : Rules cX2_trunkCount RX2 3 0 0 0 False J) {a b : Nat} (ha : a ≤ 0) (hb : b ≤ 0) {v0 : Nat} {κ30 : Int32 → Hp → Option β} {out : β}
    (hk30 : ∀ (k1 : Int32) (h : Hp), κ30 k1 h = some out → J 30 [none, some (.inl k1), none] [] h a b)
    : ∀ (f : Nat) (v1 : Int32) (v2 : Int32) (h : Hp), L_X2_trunkCount_4 v0 κ30 f v1 v2 h = some out → J 4 [some (.inr (2, (some v0))), some (.inl v1), some (.inl v2)] [] h a b := by
  intro f
  induction f with
  | zero => intro v1 v2 h hF; simp [L_X2_trunkCount_4] at hF
  | succ f ih =>
    intro v1 v2 h hF
    rw [L_X2_trunkCount_4] at hF
    refine hJ.iload_n (i := 2) dX2_trunkCount_4 rfl rfl ?_
    refine hJ.aload_n (i := 0) dX2_trunkCount_5 rfl rfl ?_
    refine hJ.getI dX2_trunkCount_6 f_RX2_17 rfl ?_
    refine hJ.icmp_ge (tgt := 30) dX2_trunkCount_9 (by decide) (fun e1 => ?_) (fun e1 => ?_)
    · replace hF := ite_T e1 hF
      refine hJ.forget (ls2 := [none, some (.inl v1), none]) ⟨rfl, trivial⟩ ?_
      exact hk30 v1 h hF
    · replace hF := ite_F e1 hF
      refine hJ.iload_n (i := 1) dX2_trunkCount_12 rfl rfl ?_
      refine hJ.aload_n (i := 0) dX2_trunkCount_13 rfl rfl ?_
      refine hJ.getR dX2_trunkCount_14 f_RX2_13 rfl ?_
      refine hJ.iload_n (i := 2) dX2_trunkCount_17 rfl rfl ?_
      replace hF := nn_S hF
      obtain ⟨n2, e3, hF⟩ := hF
      rw [e3]
      replace hF := ck_S hF
      obtain ⟨c4, hF⟩ := hF
      refine hJ.aald dX2_trunkCount_18 a_14 rfl c4 ?_
      replace hF := nn_S hF
      obtain ⟨n5, e6, hF⟩ := hF
      rw [e6]
      refine hJ.getI dX2_trunkCount_19 f_RX2_44 rfl ?_
      refine hJ.iadd dX2_trunkCount_22 ?_
      refine hJ.istore_n (i := 1) (ls2 := [some (.inr (2, (some v0))), some (.inl (v1 + (pI h 3 n5 1))), some (.inl v2)]) dX2_trunkCount_23 rfl (by decide) rfl ?_
      refine hJ.iinc (i := 2) (v := (v2 + (1 : Int32))) (ls2 := [some (.inr (2, (some v0))), some (.inl (v1 + (pI h 3 n5 1))), some (.inl (v2 + (1 : Int32)))]) dX2_trunkCount_24 rfl (addI (by decide)) (by decide) rfl ?_
      refine hJ.goto (tgt := 4) dX2_trunkCount_27 (by decide) ?_
      refine hJ.forget (ls2 := [some (.inr (2, (some v0))), some (.inl (v1 + (pI h 3 n5 1))), some (.inl (v2 + (1 : Int32)))]) ⟨rfl, rfl, rfl, trivial⟩ ?_
      exact ih (v1 + (pI h 3 n5 1)) (v2 + (1 : Int32)) h hF

set_option maxHeartbeats 4000000 in
set_option maxRecDepth 100000 in
theorem c_X2_trunkCount {x0 : Nat} {h hh : Hp} {xr : Int32} (hF : F_X2_trunkCount x0 h = some (xr, hh)) : Ctr yX2_trunkCount cX2_trunkCount 3 (some .int) 0 0 0 [.inr (2, (some x0))] h (some (.inl xr)) hh := by
  refine Ctr_i (own := RX2) (ini := False) (ls0 := [some (.inr (2, (some x0))), none, none]) (by decide) rfl (Nat.le_of_ble_eq_true rfl) (fun e => e.elim) rfl ?_
  intro J hJ hR
  unfold F_X2_trunkCount at hF
  refine hJ.iconst (v := 0) dX2_trunkCount_0 (by decide) ?_
  refine hJ.istore_n (i := 1) (ls2 := [some (.inr (2, (some x0))), some (.inl (0 : Int32)), none]) dX2_trunkCount_1 rfl (by decide) rfl ?_
  refine hJ.iconst (v := 0) dX2_trunkCount_2 (by decide) ?_
  refine hJ.istore_n (i := 2) (ls2 := [some (.inr (2, (some x0))), some (.inl (0 : Int32)), some (.inl (0 : Int32))]) dX2_trunkCount_3 rfl (by decide) rfl ?_
  refine hJ.forget (ls2 := [some (.inr (2, (some x0))), some (.inl (0 : Int32)), some (.inl (0 : Int32))]) ⟨rfl, rfl, rfl, trivial⟩ ?_
  refine t_X2_trunkCount_4 hJ (by decide) (by decide) (fun k7 h8 hF => ?_) FU _ _ _ hF
  refine hJ.iload_n (i := 1) dX2_trunkCount_30 rfl rfl ?_
  obtain ⟨rfl, rfl⟩ := ret_S hF
  exact hR dX2_trunkCount_31 (by decide) (by decide)

set_option maxHeartbeats 4000000 in
set_option maxRecDepth 100000 in
theorem c_X2_firstTrunk {x0 : Nat} {h hh : Hp} {xr : Option Nat} (hF : F_X2_firstTrunk x0 h = some (xr, hh)) : Ctr yX2_firstTrunk cX2_firstTrunk 1 (some (.object RX6)) 0 0 0 [.inr (2, (some x0))] h (some (.inr (6, xr))) hh := by
  refine Ctr_a (own := RX2) (ini := False) (ls0 := [some (.inr (2, (some x0)))]) (by decide) rfl (Nat.le_of_ble_eq_true rfl) (fun e => e.elim) rfl ?_
  intro J hJ hR
  unfold F_X2_firstTrunk at hF
  refine hJ.aload_n (i := 0) dX2_firstTrunk_0 rfl rfl ?_
  refine hJ.getI dX2_firstTrunk_1 f_RX2_17 rfl ?_
  refine hJ.if_le (tgt := 33) dX2_firstTrunk_4 (by decide) (fun e1 => ?_) (fun e1 => ?_)
  · replace hF := ite_T e1 hF
    refine hJ.null (kk := 6) dX2_firstTrunk_33 ?_
    obtain ⟨rfl, rfl⟩ := ret_S hF
    exact hR dX2_firstTrunk_34 (Or.inr rfl) (by decide) (by decide)
  · replace hF := ite_F e1 hF
    refine hJ.aload_n (i := 0) dX2_firstTrunk_7 rfl rfl ?_
    refine hJ.getR dX2_firstTrunk_8 f_RX2_13 rfl ?_
    refine hJ.iconst (v := 0) dX2_firstTrunk_11 (by decide) ?_
    replace hF := nn_S hF
    obtain ⟨n2, e3, hF⟩ := hF
    rw [e3]
    replace hF := ck_S hF
    obtain ⟨c4, hF⟩ := hF
    refine hJ.aald dX2_firstTrunk_12 a_14 rfl c4 ?_
    replace hF := nn_S hF
    obtain ⟨n5, e6, hF⟩ := hF
    rw [e6]
    refine hJ.getI dX2_firstTrunk_13 f_RX2_44 rfl ?_
    refine hJ.if_le (tgt := 33) dX2_firstTrunk_16 (by decide) (fun e7 => ?_) (fun e7 => ?_)
    · replace hF := ite_T e7 hF
      refine hJ.null (kk := 6) dX2_firstTrunk_33 ?_
      obtain ⟨rfl, rfl⟩ := ret_S hF
      exact hR dX2_firstTrunk_34 (Or.inr rfl) (by decide) (by decide)
    · replace hF := ite_F e7 hF
      refine hJ.aload_n (i := 0) dX2_firstTrunk_19 rfl rfl ?_
      refine hJ.getR dX2_firstTrunk_20 f_RX2_13 rfl ?_
      rw [e3]
      refine hJ.iconst (v := 0) dX2_firstTrunk_23 (by decide) ?_
      replace hF := ck_S hF
      obtain ⟨c8, hF⟩ := hF
      refine hJ.aald dX2_firstTrunk_24 a_14 rfl c8 ?_
      replace hF := nn_S hF
      obtain ⟨n9, e10, hF⟩ := hF
      rw [e10]
      refine hJ.getR dX2_firstTrunk_25 f_RX2_45 rfl ?_
      refine hJ.iconst (v := 0) dX2_firstTrunk_28 (by decide) ?_
      replace hF := nn_S hF
      obtain ⟨n11, e12, hF⟩ := hF
      rw [e12]
      replace hF := ck_S hF
      obtain ⟨c13, hF⟩ := hF
      refine hJ.aald dX2_firstTrunk_29 a_15 rfl c13 ?_
      refine hJ.goto (tgt := 34) dX2_firstTrunk_30 (by decide) ?_
      obtain ⟨rfl, rfl⟩ := ret_S hF
      exact hR dX2_firstTrunk_34 (Or.inr rfl) (by decide) (by decide)

set_option maxHeartbeats 4000000 in
set_option maxRecDepth 100000 in
theorem c_X2_fits {x0 : Nat} {x1 : Option Nat} {h hh : Hp} {xr : Int32} (hF : F_X2_fits x0 x1 h = some (xr, hh)) : Ctr yX2_fits cX2_fits 2 (some .boolean) 2 0 0 [.inr (2, (some x0)), .inr (4, x1)] h (some (.inl xr)) hh := by
  refine Ctr_z (own := RX2) (ini := False) (ls0 := [some (.inr (2, (some x0))), some (.inr (4, x1))]) (by decide) rfl (Nat.le_of_ble_eq_true rfl) (fun e => e.elim) rfl ?_
  intro J hJ hR
  unfold F_X2_fits at hF
  refine hJ.aload_n (i := 0) dX2_fits_0 rfl rfl ?_
  refine hJ.getR dX2_fits_1 f_RX2_31 rfl ?_
  refine hJ.aload_n (i := 1) dX2_fits_4 rfl rfl ?_
  refine hJ.acmp_ne (tgt := 31) dX2_fits_5 (by decide) (by decide) (fun e1 => ?_) (fun e1 => ?_)
  · replace hF := ite_F e1 hF
    refine hJ.iconst (v := 0) dX2_fits_31 (by decide) ?_
    obtain ⟨rfl, rfl⟩ := ret_S hF
    exact hR dX2_fits_32 (by decide) (by decide) (by decide)
  · replace hF := ite_T e1 hF
    refine hJ.aload_n (i := 0) dX2_fits_8 rfl rfl ?_
    replace hF := cl_S hF
    obtain ⟨r2, h3, ec4, hF⟩ := hF
    refine hJ.callV (as := []) (st := []) dX2_fits_9 w_RX2_49 ⟨by decide, rfl⟩ rfl (c_X2_state ec4) (by decide) (by decide) (by decide) rfl (Nat.le_of_ble_eq_true rfl) rfl ?_
    refine hJ.iconst (v := 1) dX2_fits_12 (by decide) ?_
    refine hJ.icmp_ne (tgt := 31) dX2_fits_13 (by decide) (fun e5 => ?_) (fun e5 => ?_)
    · replace hF := ite_F e5 hF
      refine hJ.iconst (v := 0) dX2_fits_31 (by decide) ?_
      obtain ⟨rfl, rfl⟩ := ret_S hF
      exact hR dX2_fits_32 (by decide) (by decide) (by decide)
    · replace hF := ite_T e5 hF
      refine hJ.aload_n (i := 0) dX2_fits_16 rfl rfl ?_
      replace hF := cl_S hF
      obtain ⟨r6, h7, ec8, hF⟩ := hF
      refine hJ.callV (as := []) (st := []) dX2_fits_17 w_RX2_53 ⟨by decide, rfl⟩ rfl (c_X2_width ec8) (by decide) (by decide) (by decide) rfl (Nat.le_of_ble_eq_true rfl) rfl ?_
      refine hJ.aload_n (i := 1) dX2_fits_20 rfl rfl ?_
      replace hF := nn_S hF
      obtain ⟨n9, e10, hF⟩ := hF
      subst e10
      refine hJ.getI dX2_fits_21 f_RX2_55 rfl ?_
      refine hJ.icmp_gt (tgt := 31) dX2_fits_24 (by decide) (fun e11 => ?_) (fun e11 => ?_)
      · replace hF := ite_T e11 hF
        refine hJ.iconst (v := 0) dX2_fits_31 (by decide) ?_
        obtain ⟨rfl, rfl⟩ := ret_S hF
        exact hR dX2_fits_32 (by decide) (by decide) (by decide)
      · replace hF := ite_F e11 hF
        refine hJ.iconst (v := 1) dX2_fits_27 (by decide) ?_
        refine hJ.goto (tgt := 32) dX2_fits_28 (by decide) ?_
        obtain ⟨rfl, rfl⟩ := ret_S hF
        exact hR dX2_fits_32 (by decide) (by decide) (by decide)

set_option maxHeartbeats 4000000 in
set_option maxRecDepth 100000 in
theorem t_X3_belongTo_2 {β : Type} {J : JT} (hJ : Rules cX3_belongTo RX3 3 0 0 0 False J) {a b : Nat} (ha : a ≤ 0) (hb : b ≤ 0) {v0 : Nat} {v1 : Option Nat} {κ36 : Hp → Option β} {out : β}
    (hk36 : ∀ (h : Hp), κ36 h = some out → J 36 [none, none, none] [] h a b)
    : ∀ (f : Nat) (v2 : Int32) (h : Hp), L_X3_belongTo_2 v0 v1 κ36 f v2 h = some out → J 2 [some (.inr (3, (some v0))), some (.inr (2, v1)), some (.inl v2)] [] h a b := by
  intro f
  induction f with
  | zero => intro v2 h hF; simp [L_X3_belongTo_2] at hF
  | succ f ih =>
    intro v2 h hF
    rw [L_X3_belongTo_2] at hF
    refine hJ.iload_n (i := 2) dX3_belongTo_2 rfl rfl ?_
    refine hJ.aload_n (i := 0) dX3_belongTo_3 rfl rfl ?_
    refine hJ.getI dX3_belongTo_4 f_RX3_15 rfl ?_
    refine hJ.icmp_ge (tgt := 36) dX3_belongTo_7 (by decide) (fun e1 => ?_) (fun e1 => ?_)
    · replace hF := ite_T e1 hF
      refine hJ.forget (ls2 := [none, none, none]) trivial ?_
      exact hk36 h hF
    · replace hF := ite_F e1 hF
      refine hJ.aload_n (i := 0) dX3_belongTo_10 rfl rfl ?_
      refine hJ.getR dX3_belongTo_11 f_RX3_11 rfl ?_
      refine hJ.iload_n (i := 2) dX3_belongTo_14 rfl rfl ?_
      replace hF := nn_S hF
      obtain ⟨n2, e3, hF⟩ := hF
      rw [e3]
      replace hF := ck_S hF
      obtain ⟨c4, hF⟩ := hF
      refine hJ.aald dX3_belongTo_15 a_15 rfl c4 ?_
      refine hJ.aload_n (i := 1) dX3_belongTo_16 rfl rfl ?_
      replace hF := nn_S hF
      obtain ⟨n5, e6, hF⟩ := hF
      rw [e6]
      replace hF := lt_S hF
      obtain ⟨h7, eh8, hF⟩ := hF
      refine hJ.putR dX3_belongTo_17 f_RX3_40 rfl (Or.inr rfl) rfl ?_
      rw [← eh8]
      refine hJ.aload_n (i := 0) dX3_belongTo_20 rfl rfl ?_
      refine hJ.getR dX3_belongTo_21 f_RX3_11 rfl ?_
      refine hJ.iload_n (i := 2) dX3_belongTo_24 rfl rfl ?_
      replace hF := nn_S hF
      obtain ⟨n9, e10, hF⟩ := hF
      rw [e10]
      replace hF := ck_S hF
      obtain ⟨c11, hF⟩ := hF
      refine hJ.aald dX3_belongTo_25 a_15 rfl c11 ?_
      refine hJ.null (kk := 4) dX3_belongTo_26 ?_
      replace hF := nn_S hF
      obtain ⟨n12, e13, hF⟩ := hF
      rw [e13]
      replace hF := lt_S hF
      obtain ⟨h14, eh15, hF⟩ := hF
      refine hJ.putR dX3_belongTo_27 f_RX3_33 rfl (Or.inr rfl) rfl ?_
      rw [← eh15]
      refine hJ.iinc (i := 2) (v := (v2 + (1 : Int32))) (ls2 := [some (.inr (3, (some v0))), some (.inr (2, v1)), some (.inl (v2 + (1 : Int32)))]) dX3_belongTo_30 rfl (addI (by decide)) (by decide) rfl ?_
      refine hJ.goto (tgt := 2) dX3_belongTo_33 (by decide) ?_
      refine hJ.forget (ls2 := [some (.inr (3, (some v0))), some (.inr (2, v1)), some (.inl (v2 + (1 : Int32)))]) ⟨rfl, rfl, rfl, trivial⟩ ?_
      exact ih (v2 + (1 : Int32)) h14 hF

set_option maxHeartbeats 4000000 in
set_option maxRecDepth 100000 in
theorem c_X3_belongTo {x0 : Nat} {x1 : Option Nat} {h hh : Hp} {xr : Unit} (hF : F_X3_belongTo x0 x1 h = some (xr, hh)) : Ctr yX3_belongTo cX3_belongTo 3 none 0 0 0 [.inr (3, (some x0)), .inr (2, x1)] h none hh := by
  refine Ctr_v (own := RX3) (ini := False) (ls0 := [some (.inr (3, (some x0))), some (.inr (2, x1)), none]) (by decide) rfl (Nat.le_of_ble_eq_true rfl) (fun e => e.elim) rfl ?_
  intro J hJ hR
  unfold F_X3_belongTo at hF
  refine hJ.iconst (v := 0) dX3_belongTo_0 (by decide) ?_
  refine hJ.istore_n (i := 2) (ls2 := [some (.inr (3, (some x0))), some (.inr (2, x1)), some (.inl (0 : Int32))]) dX3_belongTo_1 rfl (by decide) rfl ?_
  refine hJ.forget (ls2 := [some (.inr (3, (some x0))), some (.inr (2, x1)), some (.inl (0 : Int32))]) ⟨rfl, rfl, rfl, trivial⟩ ?_
  refine t_X3_belongTo_2 hJ (by decide) (by decide) (fun h16 hF => ?_) FU _ _ hF
  obtain ⟨-, rfl⟩ := ret_S hF
  exact hR dX3_belongTo_36 (by decide) (by decide)

set_option maxHeartbeats 4000000 in
set_option maxRecDepth 100000 in
theorem c_X2_append {x0 : Nat} {x1 : Option Nat} {h hh : Hp} {xr : Unit} (hF : F_X2_append x0 x1 h = some (xr, hh)) : Ctr yX2_append cX2_append 2 none 1 0 0 [.inr (2, (some x0)), .inr (3, x1)] h none hh := by
  refine Ctr_v (own := RX2) (ini := False) (ls0 := [some (.inr (2, (some x0))), some (.inr (3, x1))]) (by decide) rfl (Nat.le_of_ble_eq_true rfl) (fun e => e.elim) rfl ?_
  intro J hJ hR
  unfold F_X2_append at hF
  refine hJ.aload_n (i := 0) dX2_append_0 rfl rfl ?_
  refine hJ.getI dX2_append_1 f_RX2_17 rfl ?_
  refine hJ.bipush (v := 8) dX2_append_4 (by decide) ?_
  refine hJ.icmp_ge (tgt := 34) dX2_append_6 (by decide) (fun e1 => ?_) (fun e1 => ?_)
  · replace hF := ite_T e1 hF
    obtain ⟨-, rfl⟩ := ret_S hF
    exact hR dX2_append_34 (by decide) (by decide)
  · replace hF := ite_F e1 hF
    refine hJ.aload_n (i := 0) dX2_append_9 rfl rfl ?_
    refine hJ.getR dX2_append_10 f_RX2_13 rfl ?_
    refine hJ.aload_n (i := 0) dX2_append_13 rfl rfl ?_
    refine hJ.getI dX2_append_14 f_RX2_17 rfl ?_
    refine hJ.aload_n (i := 1) dX2_append_17 rfl rfl ?_
    replace hF := nn_S hF
    obtain ⟨n2, e3, hF⟩ := hF
    rw [e3]
    replace hF := ck_S hF
    obtain ⟨c4, hF⟩ := hF
    replace hF := lt_S hF
    obtain ⟨h5, eh6, hF⟩ := hF
    refine hJ.aast dX2_append_18 a_14 rfl c4 ?_
    rw [← eh6]
    refine hJ.aload_n (i := 0) dX2_append_19 rfl rfl ?_
    refine hJ.dup dX2_append_20 ?_
    refine hJ.getI dX2_append_21 f_RX2_17 rfl ?_
    refine hJ.iconst (v := 1) dX2_append_24 (by decide) ?_
    refine hJ.iadd dX2_append_25 ?_
    replace hF := lt_S hF
    obtain ⟨h7, eh8, hF⟩ := hF
    refine hJ.putI dX2_append_26 f_RX2_17 rfl nar_i rfl ?_
    rw [← eh8]
    refine hJ.aload_n (i := 1) dX2_append_29 rfl rfl ?_
    refine hJ.aload_n (i := 0) dX2_append_30 rfl rfl ?_
    replace hF := nn_S hF
    obtain ⟨n9, e10, hF⟩ := hF
    subst e10
    replace hF := cl_S hF
    obtain ⟨r11, h12, ec13, hF⟩ := hF
    refine hJ.callV0 (as := [.inr (2, (some x0))]) (st := []) dX2_append_31 w_RX2_60 ⟨by decide, rfl⟩ rfl (c_X3_belongTo ec13) (by decide) (by decide) (by decide) rfl (Nat.le_of_ble_eq_true rfl) rfl ?_
    obtain ⟨-, rfl⟩ := ret_S hF
    exact hR dX2_append_34 (by decide) (by decide)

set_option maxHeartbeats 4000000 in
set_option maxRecDepth 100000 in
theorem t_X2_moveRows_6 {β : Type} {J : JT} (hJ : Rules cX2_moveRows RX2 4 2 0 0 False J) {a b : Nat} (ha : a ≤ 0) (hb : b ≤ 0) {v0 : Nat} {v1 : Int32} {v2 : Option Nat} {κ30 : Hp → Option β} {out : β}
    (hk30 : ∀ (h : Hp), κ30 h = some out → J 30 [some (.inr (2, (some v0))), some (.inl v1), none, none] [] h a b)
    : ∀ (f : Nat) (v3 : Int32) (h : Hp), L_X2_moveRows_6 v0 v1 v2 κ30 f v3 h = some out → J 6 [some (.inr (2, (some v0))), some (.inl v1), some (.inr (2, v2)), some (.inl v3)] [] h a b := by
  intro f
  induction f with
  | zero => intro v3 h hF; simp [L_X2_moveRows_6] at hF
  | succ f ih =>
    intro v3 h hF
    rw [L_X2_moveRows_6] at hF
    refine hJ.iload_n (i := 3) dX2_moveRows_6 rfl rfl ?_
    refine hJ.aload_n (i := 0) dX2_moveRows_7 rfl rfl ?_
    refine hJ.getI dX2_moveRows_8 f_RX2_17 rfl ?_
    refine hJ.icmp_ge (tgt := 30) dX2_moveRows_11 (by decide) (fun e1 => ?_) (fun e1 => ?_)
    · replace hF := ite_T e1 hF
      refine hJ.forget (ls2 := [some (.inr (2, (some v0))), some (.inl v1), none, none]) ⟨rfl, rfl, trivial⟩ ?_
      exact hk30 h hF
    · replace hF := ite_F e1 hF
      refine hJ.aload_n (i := 2) dX2_moveRows_14 rfl rfl ?_
      refine hJ.aload_n (i := 0) dX2_moveRows_15 rfl rfl ?_
      refine hJ.getR dX2_moveRows_16 f_RX2_13 rfl ?_
      refine hJ.iload_n (i := 3) dX2_moveRows_19 rfl rfl ?_
      replace hF := nn_S hF
      obtain ⟨n2, e3, hF⟩ := hF
      rw [e3]
      replace hF := ck_S hF
      obtain ⟨c4, hF⟩ := hF
      refine hJ.aald dX2_moveRows_20 a_14 rfl c4 ?_
      replace hF := nn_S hF
      obtain ⟨n5, e6, hF⟩ := hF
      subst e6
      replace hF := cl_S hF
      obtain ⟨r7, h8, ec9, hF⟩ := hF
      refine hJ.callV0 (as := [.inr (3, (pR h 14 n2 (v3).toNatClampNeg))]) (st := []) dX2_moveRows_21 w_RX2_64 ⟨by decide, rfl⟩ rfl (c_X2_append ec9) (by decide) ha hb rfl (Nat.le_of_ble_eq_true rfl) rfl ?_
      refine hJ.iinc (i := 3) (v := (v3 + (1 : Int32))) (ls2 := [some (.inr (2, (some v0))), some (.inl v1), some (.inr (2, (some n5))), some (.inl (v3 + (1 : Int32)))]) dX2_moveRows_24 rfl (addI (by decide)) (by decide) rfl ?_
      refine hJ.goto (tgt := 6) dX2_moveRows_27 (by decide) ?_
      refine hJ.forget (ls2 := [some (.inr (2, (some v0))), some (.inl v1), some (.inr (2, (some n5))), some (.inl (v3 + (1 : Int32)))]) ⟨rfl, rfl, rfl, rfl, trivial⟩ ?_
      exact ih (v3 + (1 : Int32)) h8 hF

set_option maxHeartbeats 4000000 in
set_option maxRecDepth 100000 in
theorem c_X2_moveRows {x0 : Nat} {x1 : Int32} {x2 : Option Nat} {h hh : Hp} {xr : Unit} (hF : F_X2_moveRows x0 x1 x2 h = some (xr, hh)) : Ctr yX2_moveRows cX2_moveRows 4 none 2 0 0 [.inr (2, (some x0)), .inl x1, .inr (2, x2)] h none hh := by
  refine Ctr_v (own := RX2) (ini := False) (ls0 := [some (.inr (2, (some x0))), some (.inl x1), some (.inr (2, x2)), none]) (by decide) rfl (Nat.le_of_ble_eq_true rfl) (fun e => e.elim) rfl ?_
  intro J hJ hR
  unfold F_X2_moveRows at hF
  refine hJ.iconst (v := 0) dX2_moveRows_0 (by decide) ?_
  refine hJ.iload_n (i := 1) dX2_moveRows_1 rfl rfl ?_
  refine hJ.mmax dX2_moveRows_2 w_RX2_38 (by decide) (Nat.le_of_ble_eq_true rfl) (by decide) (by decide) ?_
  refine hJ.istore_n (i := 3) (ls2 := [some (.inr (2, (some x0))), some (.inl x1), some (.inr (2, x2)), some (.inl (if (0 : Int32) < x1 then x1 else (0 : Int32)))]) dX2_moveRows_5 rfl (by decide) rfl ?_
  refine hJ.forget (ls2 := [some (.inr (2, (some x0))), some (.inl x1), some (.inr (2, x2)), some (.inl (if (0 : Int32) < x1 then x1 else (0 : Int32)))]) ⟨rfl, rfl, rfl, rfl, trivial⟩ ?_
  refine t_X2_moveRows_6 hJ (by decide) (by decide) (fun h10 hF => ?_) FU _ _ hF
  refine hJ.aload_n (i := 0) dX2_moveRows_30 rfl rfl ?_
  refine hJ.aload_n (i := 0) dX2_moveRows_31 rfl rfl ?_
  refine hJ.getI dX2_moveRows_32 f_RX2_17 rfl ?_
  refine hJ.iconst (v := 0) dX2_moveRows_35 (by decide) ?_
  refine hJ.iload_n (i := 1) dX2_moveRows_36 rfl rfl ?_
  refine hJ.mmax dX2_moveRows_37 w_RX2_38 (by decide) (Nat.le_of_ble_eq_true rfl) (by decide) (by decide) ?_
  refine hJ.mmin dX2_moveRows_40 w_RX2_68 (by decide) (Nat.le_of_ble_eq_true rfl) (by decide) (by decide) ?_
  replace hF := lt_S hF
  obtain ⟨h11, eh12, hF⟩ := hF
  refine hJ.putI dX2_moveRows_43 f_RX2_17 rfl nar_i rfl ?_
  rw [← eh12]
  obtain ⟨-, rfl⟩ := ret_S hF
  exact hR dX2_moveRows_46 (by decide) (by decide)

set_option maxHeartbeats 4000000 in
set_option maxRecDepth 100000 in
theorem c_X2_end {x0 : Nat} {h hh : Hp} {xr : Unit} (hF : F_X2_end x0 h = some (xr, hh)) : Ctr yX2_end cX2_end 1 none 0 0 0 [.inr (2, (some x0))] h none hh := by
  refine Ctr_v (own := RX2) (ini := False) (ls0 := [some (.inr (2, (some x0)))]) (by decide) rfl (Nat.le_of_ble_eq_true rfl) (fun e => e.elim) rfl ?_
  intro J hJ hR
  unfold F_X2_end at hF
  refine hJ.aload_n (i := 0) dX2_end_0 rfl rfl ?_
  refine hJ.iconst (v := 0) dX2_end_1 (by decide) ?_
  replace hF := lt_S hF
  obtain ⟨h1, eh2, hF⟩ := hF
  refine hJ.putI dX2_end_2 f_RX2_17 rfl nar_i rfl ?_
  rw [← eh2]
  refine hJ.aload_n (i := 0) dX2_end_5 rfl rfl ?_
  refine hJ.null (kk := 4) dX2_end_6 ?_
  replace hF := lt_S hF
  obtain ⟨h3, eh4, hF⟩ := hF
  refine hJ.putR dX2_end_7 f_RX2_31 rfl (Or.inr rfl) rfl ?_
  rw [← eh4]
  obtain ⟨-, rfl⟩ := ret_S hF
  exact hR dX2_end_10 (by decide) (by decide)

set_option maxHeartbeats 4000000 in
set_option maxRecDepth 100000 in
theorem c_X2_goDown {x0 : Nat} {x1 : Option Nat} {x2 : Int32} {h hh : Hp} {xr : Unit} (hF : F_X2_goDown x0 x1 x2 h = some (xr, hh)) : Ctr yX2_goDown cX2_goDown 3 none 0 0 0 [.inr (2, (some x0)), .inr (4, x1), .inl x2] h none hh := by
  refine Ctr_v (own := RX2) (ini := False) (ls0 := [some (.inr (2, (some x0))), some (.inr (4, x1)), some (.inl x2)]) (by decide) rfl (Nat.le_of_ble_eq_true rfl) (fun e => e.elim) rfl ?_
  intro J hJ hR
  unfold F_X2_goDown at hF
  refine hJ.aload_n (i := 0) dX2_goDown_0 rfl rfl ?_
  refine hJ.iload_n (i := 2) dX2_goDown_1 rfl rfl ?_
  refine hJ.aload_n (i := 1) dX2_goDown_2 rfl rfl ?_
  replace hF := nn_S hF
  obtain ⟨n1, e2, hF⟩ := hF
  subst e2
  refine hJ.getI dX2_goDown_3 f_RX2_71 rfl ?_
  refine hJ.iadd dX2_goDown_6 ?_
  replace hF := lt_S hF
  obtain ⟨h3, eh4, hF⟩ := hF
  refine hJ.putI dX2_goDown_7 f_RX2_25 rfl nar_i rfl ?_
  rw [← eh4]
  refine hJ.aload_n (i := 0) dX2_goDown_10 rfl rfl ?_
  refine hJ.aload_n (i := 1) dX2_goDown_11 rfl rfl ?_
  refine hJ.getR dX2_goDown_12 f_RX2_74 rfl ?_
  replace hF := lt_S hF
  obtain ⟨h5, eh6, hF⟩ := hF
  refine hJ.putR dX2_goDown_15 f_RX2_31 rfl (Or.inr rfl) rfl ?_
  rw [← eh6]
  obtain ⟨-, rfl⟩ := ret_S hF
  exact hR dX2_goDown_18 (by decide) (by decide)

set_option maxHeartbeats 4000000 in
set_option maxRecDepth 100000 in
theorem t_X3_loseTrunks_4 {β : Type} {J : JT} (hJ : Rules cX3_loseTrunks RX3 4 0 0 0 False J) {a b : Nat} (ha : a ≤ 0) (hb : b ≤ 0) {v0 : Nat} {v1 : Int32} {κ46 : Int32 → Hp → Option β} {out : β}
    (hk46 : ∀ (k2 : Int32) (h : Hp), κ46 k2 h = some out → J 46 [none, none, some (.inl k2), none] [] h a b)
    : ∀ (f : Nat) (v2 : Int32) (v3 : Int32) (h : Hp), L_X3_loseTrunks_4 v0 v1 κ46 f v2 v3 h = some out → J 4 [some (.inr (3, (some v0))), some (.inl v1), some (.inl v2), some (.inl v3)] [] h a b := by
  intro f
  induction f with
  | zero => intro v2 v3 h hF; simp [L_X3_loseTrunks_4] at hF
  | succ f ih =>
    intro v2 v3 h hF
    rw [L_X3_loseTrunks_4] at hF
    refine hJ.iload_n (i := 3) dX3_loseTrunks_4 rfl rfl ?_
    refine hJ.aload_n (i := 0) dX3_loseTrunks_5 rfl rfl ?_
    refine hJ.getI dX3_loseTrunks_6 f_RX3_15 rfl ?_
    refine hJ.icmp_ge (tgt := 46) dX3_loseTrunks_9 (by decide) (fun e1 => ?_) (fun e1 => ?_)
    · replace hF := ite_T e1 hF
      refine hJ.forget (ls2 := [none, none, some (.inl v2), none]) ⟨rfl, trivial⟩ ?_
      exact hk46 v2 h hF
    · replace hF := ite_F e1 hF
      refine hJ.aload_n (i := 0) dX3_loseTrunks_12 rfl rfl ?_
      refine hJ.getR dX3_loseTrunks_13 f_RX3_11 rfl ?_
      refine hJ.iload_n (i := 3) dX3_loseTrunks_16 rfl rfl ?_
      replace hF := nn_S hF
      obtain ⟨n2, e3, hF⟩ := hF
      rw [e3]
      replace hF := ck_S hF
      obtain ⟨c4, hF⟩ := hF
      refine hJ.aald dX3_loseTrunks_17 a_15 rfl c4 ?_
      replace hF := nn_S hF
      obtain ⟨n5, e6, hF⟩ := hF
      rw [e6]
      refine hJ.getI dX3_loseTrunks_18 f_RX3_22 rfl ?_
      refine hJ.iconst (v := 2) dX3_loseTrunks_21 (by decide) ?_
      refine hJ.irem dX3_loseTrunks_22 (by decide) ?_
      refine hJ.iload_n (i := 1) dX3_loseTrunks_23 rfl rfl ?_
      refine hJ.icmp_ne (tgt := 40) dX3_loseTrunks_24 (by decide) (fun e7 => ?_) (fun e7 => ?_)
      · replace hF := ite_F e7 hF
        refine hJ.iinc (i := 3) (v := (v3 + (1 : Int32))) (ls2 := [some (.inr (3, (some v0))), some (.inl v1), some (.inl v2), some (.inl (v3 + (1 : Int32)))]) dX3_loseTrunks_40 rfl (addI (by decide)) (by decide) rfl ?_
        refine hJ.goto (tgt := 4) dX3_loseTrunks_43 (by decide) ?_
        refine hJ.forget (ls2 := [some (.inr (3, (some v0))), some (.inl v1), some (.inl v2), some (.inl (v3 + (1 : Int32)))]) ⟨rfl, rfl, rfl, rfl, trivial⟩ ?_
        exact ih v2 (v3 + (1 : Int32)) h hF
      · replace hF := ite_T e7 hF
        refine hJ.aload_n (i := 0) dX3_loseTrunks_27 rfl rfl ?_
        refine hJ.getR dX3_loseTrunks_28 f_RX3_11 rfl ?_
        rw [e3]
        refine hJ.iload_n (i := 3) dX3_loseTrunks_31 rfl rfl ?_
        replace hF := ck_S hF
        obtain ⟨c8, hF⟩ := hF
        refine hJ.aald dX3_loseTrunks_32 a_15 rfl c8 ?_
        refine hJ.null (kk := 2) dX3_loseTrunks_33 ?_
        replace hF := nn_S hF
        obtain ⟨n9, e10, hF⟩ := hF
        rw [e10]
        replace hF := lt_S hF
        obtain ⟨h11, eh12, hF⟩ := hF
        refine hJ.putR dX3_loseTrunks_34 f_RX3_40 rfl (Or.inr rfl) rfl ?_
        rw [← eh12]
        refine hJ.iinc (i := 2) (v := (v2 + (1 : Int32))) (ls2 := [some (.inr (3, (some v0))), some (.inl v1), some (.inl (v2 + (1 : Int32))), some (.inl v3)]) dX3_loseTrunks_37 rfl (addI (by decide)) (by decide) rfl ?_
        refine hJ.iinc (i := 3) (v := (v3 + (1 : Int32))) (ls2 := [some (.inr (3, (some v0))), some (.inl v1), some (.inl (v2 + (1 : Int32))), some (.inl (v3 + (1 : Int32)))]) dX3_loseTrunks_40 rfl (addI (by decide)) (by decide) rfl ?_
        refine hJ.goto (tgt := 4) dX3_loseTrunks_43 (by decide) ?_
        refine hJ.forget (ls2 := [some (.inr (3, (some v0))), some (.inl v1), some (.inl (v2 + (1 : Int32))), some (.inl (v3 + (1 : Int32)))]) ⟨rfl, rfl, rfl, rfl, trivial⟩ ?_
        exact ih (v2 + (1 : Int32)) (v3 + (1 : Int32)) h11 hF

set_option maxHeartbeats 4000000 in
set_option maxRecDepth 100000 in
theorem c_X3_loseTrunks {x0 : Nat} {x1 : Int32} {h hh : Hp} {xr : Int32} (hF : F_X3_loseTrunks x0 x1 h = some (xr, hh)) : Ctr yX3_loseTrunks cX3_loseTrunks 4 (some .int) 0 0 0 [.inr (3, (some x0)), .inl x1] h (some (.inl xr)) hh := by
  refine Ctr_i (own := RX3) (ini := False) (ls0 := [some (.inr (3, (some x0))), some (.inl x1), none, none]) (by decide) rfl (Nat.le_of_ble_eq_true rfl) (fun e => e.elim) rfl ?_
  intro J hJ hR
  unfold F_X3_loseTrunks at hF
  refine hJ.iconst (v := 0) dX3_loseTrunks_0 (by decide) ?_
  refine hJ.istore_n (i := 2) (ls2 := [some (.inr (3, (some x0))), some (.inl x1), some (.inl (0 : Int32)), none]) dX3_loseTrunks_1 rfl (by decide) rfl ?_
  refine hJ.iconst (v := 0) dX3_loseTrunks_2 (by decide) ?_
  refine hJ.istore_n (i := 3) (ls2 := [some (.inr (3, (some x0))), some (.inl x1), some (.inl (0 : Int32)), some (.inl (0 : Int32))]) dX3_loseTrunks_3 rfl (by decide) rfl ?_
  refine hJ.forget (ls2 := [some (.inr (3, (some x0))), some (.inl x1), some (.inl (0 : Int32)), some (.inl (0 : Int32))]) ⟨rfl, rfl, rfl, rfl, trivial⟩ ?_
  refine t_X3_loseTrunks_4 hJ (by decide) (by decide) (fun k13 h14 hF => ?_) FU _ _ _ hF
  refine hJ.iload_n (i := 2) dX3_loseTrunks_46 rfl rfl ?_
  obtain ⟨rfl, rfl⟩ := ret_S hF
  exact hR dX3_loseTrunks_47 (by decide) (by decide)

set_option maxHeartbeats 4000000 in
set_option maxRecDepth 100000 in
theorem t_X2_loseTrunks_4 {β : Type} {J : JT} (hJ : Rules cX2_loseTrunks RX2 4 1 0 0 False J) {a b : Nat} (ha : a ≤ 0) (hb : b ≤ 0) {v0 : Nat} {v1 : Int32} {κ31 : Int32 → Hp → Option β} {out : β}
    (hk31 : ∀ (k2 : Int32) (h : Hp), κ31 k2 h = some out → J 31 [none, none, some (.inl k2), none] [] h a b)
    : ∀ (f : Nat) (v2 : Int32) (v3 : Int32) (h : Hp), L_X2_loseTrunks_4 v0 v1 κ31 f v2 v3 h = some out → J 4 [some (.inr (2, (some v0))), some (.inl v1), some (.inl v2), some (.inl v3)] [] h a b := by
  intro f
  induction f with
  | zero => intro v2 v3 h hF; simp [L_X2_loseTrunks_4] at hF
  | succ f ih =>
    intro v2 v3 h hF
    rw [L_X2_loseTrunks_4] at hF
    refine hJ.iload_n (i := 3) dX2_loseTrunks_4 rfl rfl ?_
    refine hJ.aload_n (i := 0) dX2_loseTrunks_5 rfl rfl ?_
    refine hJ.getI dX2_loseTrunks_6 f_RX2_17 rfl ?_
    refine hJ.icmp_ge (tgt := 31) dX2_loseTrunks_9 (by decide) (fun e1 => ?_) (fun e1 => ?_)
    · replace hF := ite_T e1 hF
      refine hJ.forget (ls2 := [none, none, some (.inl v2), none]) ⟨rfl, trivial⟩ ?_
      exact hk31 v2 h hF
    · replace hF := ite_F e1 hF
      refine hJ.iload_n (i := 2) dX2_loseTrunks_12 rfl rfl ?_
      refine hJ.aload_n (i := 0) dX2_loseTrunks_13 rfl rfl ?_
      refine hJ.getR dX2_loseTrunks_14 f_RX2_13 rfl ?_
      refine hJ.iload_n (i := 3) dX2_loseTrunks_17 rfl rfl ?_
      replace hF := nn_S hF
      obtain ⟨n2, e3, hF⟩ := hF
      rw [e3]
      replace hF := ck_S hF
      obtain ⟨c4, hF⟩ := hF
      refine hJ.aald dX2_loseTrunks_18 a_14 rfl c4 ?_
      refine hJ.iload_n (i := 1) dX2_loseTrunks_19 rfl rfl ?_
      replace hF := nn_S hF
      obtain ⟨n5, e6, hF⟩ := hF
      rw [e6]
      replace hF := cl_S hF
      obtain ⟨r7, h8, ec9, hF⟩ := hF
      refine hJ.callV (as := [.inl v1]) (st := [.inl v2]) dX2_loseTrunks_20 w_RX2_84 ⟨by decide, rfl⟩ rfl (c_X3_loseTrunks ec9) (by decide) ha hb rfl (Nat.le_of_ble_eq_true rfl) rfl ?_
      refine hJ.iadd dX2_loseTrunks_23 ?_
      refine hJ.istore_n (i := 2) (ls2 := [some (.inr (2, (some v0))), some (.inl v1), some (.inl (v2 + r7)), some (.inl v3)]) dX2_loseTrunks_24 rfl (by decide) rfl ?_
      refine hJ.iinc (i := 3) (v := (v3 + (1 : Int32))) (ls2 := [some (.inr (2, (some v0))), some (.inl v1), some (.inl (v2 + r7)), some (.inl (v3 + (1 : Int32)))]) dX2_loseTrunks_25 rfl (addI (by decide)) (by decide) rfl ?_
      refine hJ.goto (tgt := 4) dX2_loseTrunks_28 (by decide) ?_
      refine hJ.forget (ls2 := [some (.inr (2, (some v0))), some (.inl v1), some (.inl (v2 + r7)), some (.inl (v3 + (1 : Int32)))]) ⟨rfl, rfl, rfl, rfl, trivial⟩ ?_
      exact ih (v2 + r7) (v3 + (1 : Int32)) h8 hF

set_option maxHeartbeats 4000000 in
set_option maxRecDepth 100000 in
theorem c_X2_loseTrunks {x0 : Nat} {x1 : Int32} {h hh : Hp} {xr : Int32} (hF : F_X2_loseTrunks x0 x1 h = some (xr, hh)) : Ctr yX2_loseTrunks cX2_loseTrunks 4 (some .int) 1 0 0 [.inr (2, (some x0)), .inl x1] h (some (.inl xr)) hh := by
  refine Ctr_i (own := RX2) (ini := False) (ls0 := [some (.inr (2, (some x0))), some (.inl x1), none, none]) (by decide) rfl (Nat.le_of_ble_eq_true rfl) (fun e => e.elim) rfl ?_
  intro J hJ hR
  unfold F_X2_loseTrunks at hF
  refine hJ.iconst (v := 0) dX2_loseTrunks_0 (by decide) ?_
  refine hJ.istore_n (i := 2) (ls2 := [some (.inr (2, (some x0))), some (.inl x1), some (.inl (0 : Int32)), none]) dX2_loseTrunks_1 rfl (by decide) rfl ?_
  refine hJ.iconst (v := 0) dX2_loseTrunks_2 (by decide) ?_
  refine hJ.istore_n (i := 3) (ls2 := [some (.inr (2, (some x0))), some (.inl x1), some (.inl (0 : Int32)), some (.inl (0 : Int32))]) dX2_loseTrunks_3 rfl (by decide) rfl ?_
  refine hJ.forget (ls2 := [some (.inr (2, (some x0))), some (.inl x1), some (.inl (0 : Int32)), some (.inl (0 : Int32))]) ⟨rfl, rfl, rfl, rfl, trivial⟩ ?_
  refine t_X2_loseTrunks_4 hJ (by decide) (by decide) (fun k10 h11 hF => ?_) FU _ _ _ hF
  refine hJ.iload_n (i := 2) dX2_loseTrunks_31 rfl rfl ?_
  obtain ⟨rfl, rfl⟩ := ret_S hF
  exact hR dX2_loseTrunks_32 (by decide) (by decide)

