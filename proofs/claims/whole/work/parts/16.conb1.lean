set_option maxHeartbeats 4000000 in
set_option maxRecDepth 100000 in
theorem c_X8_trunk {x0 : Nat} {x1 : Int32} {x2 : Int32} {x3 : Int32} {h hh : Hp} {xr : Int32} (hF : F_X8_trunk x0 x1 x2 x3 h = some (xr, hh)) : Ctr yX8_trunk cX8_trunk 4 (some .int) 2 0 0 [.inr (8, (some x0)), .inl x1, .inl x2, .inl x3] h (some (.inl xr)) hh := by
  refine Ctr_i (own := RX8) (ini := False) (ls0 := [some (.inr (8, (some x0))), some (.inl x1), some (.inl x2), some (.inl x3)]) (by decide) rfl (Nat.le_of_ble_eq_true rfl) (fun e => e.elim) rfl ?_
  intro J hJ hR
  unfold F_X8_trunk at hF
  refine hJ.iload_n (i := 1) dX8_trunk_0 rfl rfl ?_
  refine hJ.iconst (v := 1) dX8_trunk_1 (by decide) ?_
  refine hJ.ldc dX8_trunk_2 k_RX8_159 ?_
  replace hF := cl_S hF
  obtain ⟨r1, h2, ec3, hF⟩ := hF
  refine hJ.callS (as := [.inl x1, .inl (1 : Int32), .inl (99999 : Int32)]) (st := []) dX8_trunk_4 w_RX8_144 (c_X8_in ec3) (by decide) (by decide) (by decide) rfl (Nat.le_of_ble_eq_true rfl) rfl ?_
  refine hJ.if_eq (tgt := 67) dX8_trunk_7 (by decide) (fun e4 => ?_) (fun e4 => ?_)
  · replace hF := ite_T e4 hF
    refine hJ.iconst (v := -1) dX8_trunk_67 (by decide) ?_
    obtain ⟨rfl, rfl⟩ := ret_S hF
    exact hR dX8_trunk_68 (by decide) (by decide)
  · replace hF := ite_F e4 hF
    refine hJ.iload_n (i := 2) dX8_trunk_10 rfl rfl ?_
    refine hJ.if_lt (tgt := 67) dX8_trunk_11 (by decide) (fun e5 => ?_) (fun e5 => ?_)
    · replace hF := ite_T e5 hF
      refine hJ.iconst (v := -1) dX8_trunk_67 (by decide) ?_
      obtain ⟨rfl, rfl⟩ := ret_S hF
      exact hR dX8_trunk_68 (by decide) (by decide)
    · replace hF := ite_F e5 hF
      refine hJ.iload_n (i := 2) dX8_trunk_14 rfl rfl ?_
      refine hJ.bipush (v := 100) dX8_trunk_15 (by decide) ?_
      refine hJ.idiv dX8_trunk_17 (by decide) ?_
      refine hJ.bipush (v := 8) dX8_trunk_18 (by decide) ?_
      refine hJ.icmp_ge (tgt := 67) dX8_trunk_20 (by decide) (fun e6 => ?_) (fun e6 => ?_)
      · replace hF := ite_T e6 hF
        refine hJ.iconst (v := -1) dX8_trunk_67 (by decide) ?_
        obtain ⟨rfl, rfl⟩ := ret_S hF
        exact hR dX8_trunk_68 (by decide) (by decide)
      · replace hF := ite_F e6 hF
        refine hJ.iload_n (i := 2) dX8_trunk_23 rfl rfl ?_
        refine hJ.bipush (v := 10) dX8_trunk_24 (by decide) ?_
        refine hJ.idiv dX8_trunk_26 (by decide) ?_
        refine hJ.bipush (v := 10) dX8_trunk_27 (by decide) ?_
        refine hJ.irem dX8_trunk_29 (by decide) ?_
        refine hJ.iconst (v := 3) dX8_trunk_30 (by decide) ?_
        refine hJ.icmp_gt (tgt := 67) dX8_trunk_31 (by decide) (fun e7 => ?_) (fun e7 => ?_)
        · replace hF := ite_T e7 hF
          refine hJ.iconst (v := -1) dX8_trunk_67 (by decide) ?_
          obtain ⟨rfl, rfl⟩ := ret_S hF
          exact hR dX8_trunk_68 (by decide) (by decide)
        · replace hF := ite_F e7 hF
          refine hJ.iload_n (i := 2) dX8_trunk_34 rfl rfl ?_
          refine hJ.bipush (v := 10) dX8_trunk_35 (by decide) ?_
          refine hJ.irem dX8_trunk_37 (by decide) ?_
          refine hJ.if_eq (tgt := 67) dX8_trunk_38 (by decide) (fun e8 => ?_) (fun e8 => ?_)
          · replace hF := ite_T e8 hF
            refine hJ.iconst (v := -1) dX8_trunk_67 (by decide) ?_
            obtain ⟨rfl, rfl⟩ := ret_S hF
            exact hR dX8_trunk_68 (by decide) (by decide)
          · replace hF := ite_F e8 hF
            refine hJ.aload_n (i := 0) dX8_trunk_41 rfl rfl ?_
            refine hJ.iload_n (i := 1) dX8_trunk_42 rfl rfl ?_
            replace hF := cl_S hF
            obtain ⟨r9, h10, ec11, hF⟩ := hF
            refine hJ.callV (as := [.inl x1]) (st := []) dX8_trunk_43 w_RX8_160 ⟨by decide, rfl⟩ rfl (c_X8_find ec11) (by decide) (by decide) (by decide) rfl (Nat.le_of_ble_eq_true rfl) rfl ?_
            refine hJ.iconst (v := -1) dX8_trunk_46 (by decide) ?_
            refine hJ.icmp_ne (tgt := 67) dX8_trunk_47 (by decide) (fun e12 => ?_) (fun e12 => ?_)
            · replace hF := ite_F e12 hF
              refine hJ.iconst (v := -1) dX8_trunk_67 (by decide) ?_
              obtain ⟨rfl, rfl⟩ := ret_S hF
              exact hR dX8_trunk_68 (by decide) (by decide)
            · replace hF := ite_T e12 hF
              refine hJ.aload_n (i := 0) dX8_trunk_50 rfl rfl ?_
              refine hJ.iload_n (i := 3) dX8_trunk_51 rfl rfl ?_
              replace hF := cl_S hF
              obtain ⟨r13, h14, ec15, hF⟩ := hF
              refine hJ.callV (as := [.inl x3]) (st := []) dX8_trunk_52 w_RX8_154 ⟨by decide, rfl⟩ rfl (c_X8_isStation ec15) (by decide) (by decide) (by decide) rfl (Nat.le_of_ble_eq_true rfl) rfl ?_
              refine hJ.if_eq (tgt := 67) dX8_trunk_55 (by decide) (fun e16 => ?_) (fun e16 => ?_)
              · replace hF := ite_T e16 hF
                refine hJ.iconst (v := -1) dX8_trunk_67 (by decide) ?_
                obtain ⟨rfl, rfl⟩ := ret_S hF
                exact hR dX8_trunk_68 (by decide) (by decide)
              · replace hF := ite_F e16 hF
                refine hJ.aload_n (i := 0) dX8_trunk_58 rfl rfl ?_
                refine hJ.getI dX8_trunk_59 f_RX8_148 rfl ?_
                refine hJ.bipush (v := 120) dX8_trunk_62 (by decide) ?_
                refine hJ.icmp_ne (tgt := 69) dX8_trunk_64 (by decide) (fun e17 => ?_) (fun e17 => ?_)
                · replace hF := ite_F e17 hF
                  refine hJ.aload_n (i := 0) dX8_trunk_69 rfl rfl ?_
                  refine hJ.getR dX8_trunk_70 f_RX8_38 rfl ?_
                  refine hJ.aload_n (i := 0) dX8_trunk_73 rfl rfl ?_
                  refine hJ.getI dX8_trunk_74 f_RX8_148 rfl ?_
                  refine hJ.iload_n (i := 1) dX8_trunk_77 rfl rfl ?_
                  replace hF := nn_S hF
                  obtain ⟨n18, e19, hF⟩ := hF
                  rw [e19]
                  replace hF := ck_S hF
                  obtain ⟨c20, hF⟩ := hF
                  replace hF := lt_S hF
                  obtain ⟨h21, eh22, hF⟩ := hF
                  refine hJ.iast dX8_trunk_78 a_34 rfl c20 ?_
                  rw [← eh22]
                  refine hJ.aload_n (i := 0) dX8_trunk_79 rfl rfl ?_
                  refine hJ.getR dX8_trunk_80 f_RX8_41 rfl ?_
                  refine hJ.aload_n (i := 0) dX8_trunk_83 rfl rfl ?_
                  refine hJ.getI dX8_trunk_84 f_RX8_148 rfl ?_
                  refine hJ.iload_n (i := 2) dX8_trunk_87 rfl rfl ?_
                  refine hJ.bipush (v := 100) dX8_trunk_88 (by decide) ?_
                  refine hJ.idiv dX8_trunk_90 (by decide) ?_
                  replace hF := nn_S hF
                  obtain ⟨n23, e24, hF⟩ := hF
                  rw [e24]
                  replace hF := ck_S hF
                  obtain ⟨c25, hF⟩ := hF
                  replace hF := lt_S hF
                  obtain ⟨h26, eh27, hF⟩ := hF
                  refine hJ.iast dX8_trunk_91 a_35 rfl c25 ?_
                  rw [← eh27]
                  refine hJ.aload_n (i := 0) dX8_trunk_92 rfl rfl ?_
                  refine hJ.getR dX8_trunk_93 f_RX8_44 rfl ?_
                  refine hJ.aload_n (i := 0) dX8_trunk_96 rfl rfl ?_
                  refine hJ.getI dX8_trunk_97 f_RX8_148 rfl ?_
                  refine hJ.iload_n (i := 2) dX8_trunk_100 rfl rfl ?_
                  refine hJ.bipush (v := 10) dX8_trunk_101 (by decide) ?_
                  refine hJ.idiv dX8_trunk_103 (by decide) ?_
                  refine hJ.bipush (v := 10) dX8_trunk_104 (by decide) ?_
                  refine hJ.irem dX8_trunk_106 (by decide) ?_
                  replace hF := nn_S hF
                  obtain ⟨n28, e29, hF⟩ := hF
                  rw [e29]
                  replace hF := ck_S hF
                  obtain ⟨c30, hF⟩ := hF
                  replace hF := lt_S hF
                  obtain ⟨h31, eh32, hF⟩ := hF
                  refine hJ.iast dX8_trunk_107 a_36 rfl c30 ?_
                  rw [← eh32]
                  refine hJ.aload_n (i := 0) dX8_trunk_108 rfl rfl ?_
                  refine hJ.getR dX8_trunk_109 f_RX8_47 rfl ?_
                  refine hJ.aload_n (i := 0) dX8_trunk_112 rfl rfl ?_
                  refine hJ.getI dX8_trunk_113 f_RX8_148 rfl ?_
                  refine hJ.iload_n (i := 2) dX8_trunk_116 rfl rfl ?_
                  refine hJ.bipush (v := 10) dX8_trunk_117 (by decide) ?_
                  refine hJ.irem dX8_trunk_119 (by decide) ?_
                  replace hF := nn_S hF
                  obtain ⟨n33, e34, hF⟩ := hF
                  rw [e34]
                  replace hF := ck_S hF
                  obtain ⟨c35, hF⟩ := hF
                  replace hF := lt_S hF
                  obtain ⟨h36, eh37, hF⟩ := hF
                  refine hJ.iast dX8_trunk_120 a_37 rfl c35 ?_
                  rw [← eh37]
                  refine hJ.aload_n (i := 0) dX8_trunk_121 rfl rfl ?_
                  refine hJ.getR dX8_trunk_122 f_RX8_53 rfl ?_
                  refine hJ.aload_n (i := 0) dX8_trunk_125 rfl rfl ?_
                  refine hJ.getI dX8_trunk_126 f_RX8_148 rfl ?_
                  refine hJ.iload_n (i := 3) dX8_trunk_129 rfl rfl ?_
                  replace hF := nn_S hF
                  obtain ⟨n38, e39, hF⟩ := hF
                  rw [e39]
                  replace hF := ck_S hF
                  obtain ⟨c40, hF⟩ := hF
                  replace hF := lt_S hF
                  obtain ⟨h41, eh42, hF⟩ := hF
                  refine hJ.iast dX8_trunk_130 a_39 rfl c40 ?_
                  rw [← eh42]
                  refine hJ.aload_n (i := 0) dX8_trunk_131 rfl rfl ?_
                  refine hJ.getR dX8_trunk_132 f_RX8_56 rfl ?_
                  refine hJ.aload_n (i := 0) dX8_trunk_135 rfl rfl ?_
                  refine hJ.getI dX8_trunk_136 f_RX8_148 rfl ?_
                  refine hJ.iconst (v := -1) dX8_trunk_139 (by decide) ?_
                  replace hF := nn_S hF
                  obtain ⟨n43, e44, hF⟩ := hF
                  rw [e44]
                  replace hF := ck_S hF
                  obtain ⟨c45, hF⟩ := hF
                  replace hF := lt_S hF
                  obtain ⟨h46, eh47, hF⟩ := hF
                  refine hJ.iast dX8_trunk_140 a_40 rfl c45 ?_
                  rw [← eh47]
                  refine hJ.aload_n (i := 0) dX8_trunk_141 rfl rfl ?_
                  refine hJ.getR dX8_trunk_142 f_RX8_65 rfl ?_
                  refine hJ.aload_n (i := 0) dX8_trunk_145 rfl rfl ?_
                  refine hJ.getI dX8_trunk_146 f_RX8_148 rfl ?_
                  refine hJ.iconst (v := -1) dX8_trunk_149 (by decide) ?_
                  replace hF := nn_S hF
                  obtain ⟨n48, e49, hF⟩ := hF
                  rw [e49]
                  replace hF := ck_S hF
                  obtain ⟨c50, hF⟩ := hF
                  replace hF := lt_S hF
                  obtain ⟨h51, eh52, hF⟩ := hF
                  refine hJ.iast dX8_trunk_150 a_43 rfl c50 ?_
                  rw [← eh52]
                  refine hJ.aload_n (i := 0) dX8_trunk_151 rfl rfl ?_
                  refine hJ.dup dX8_trunk_152 ?_
                  refine hJ.getI dX8_trunk_153 f_RX8_148 rfl ?_
                  refine hJ.iconst (v := 1) dX8_trunk_156 (by decide) ?_
                  refine hJ.iadd dX8_trunk_157 ?_
                  replace hF := lt_S hF
                  obtain ⟨h53, eh54, hF⟩ := hF
                  refine hJ.putI dX8_trunk_158 f_RX8_148 rfl nar_i rfl ?_
                  rw [← eh54]
                  refine hJ.aload_n (i := 0) dX8_trunk_161 rfl rfl ?_
                  refine hJ.getI dX8_trunk_162 f_RX8_148 rfl ?_
                  refine hJ.iconst (v := 1) dX8_trunk_165 (by decide) ?_
                  refine hJ.isub dX8_trunk_166 ?_
                  obtain ⟨rfl, rfl⟩ := ret_S hF
                  exact hR dX8_trunk_167 (by decide) (by decide)
                · replace hF := ite_T e17 hF
                  refine hJ.iconst (v := -1) dX8_trunk_67 (by decide) ?_
                  obtain ⟨rfl, rfl⟩ := ret_S hF
                  exact hR dX8_trunk_68 (by decide) (by decide)

set_option maxHeartbeats 4000000 in
set_option maxRecDepth 100000 in
theorem t_X8_isNext_2 {β : Type} {J : JT} (hJ : Rules cX8_isNext RX8 3 0 0 0 False J) {a b : Nat} (ha : a ≤ 0) (hb : b ≤ 0) {v0 : Nat} {v1 : Int32} {κ28 : Hp → Option β} {κ20 : Hp → Option β} {out : β}
    (hk28 : ∀ (h : Hp), κ28 h = some out → J 28 [none, none, none] [] h a b)
    (hk20 : ∀ (h : Hp), κ20 h = some out → J 20 [none, none, none] [] h a b)
    : ∀ (f : Nat) (v2 : Int32) (h : Hp), L_X8_isNext_2 v0 v1 κ28 κ20 f v2 h = some out → J 2 [some (.inr (8, (some v0))), some (.inl v1), some (.inl v2)] [] h a b := by
  intro f
  induction f with
  | zero => intro v2 h hF; simp [L_X8_isNext_2] at hF
  | succ f ih =>
    intro v2 h hF
    rw [L_X8_isNext_2] at hF
    refine hJ.iload_n (i := 2) dX8_isNext_2 rfl rfl ?_
    refine hJ.aload_n (i := 0) dX8_isNext_3 rfl rfl ?_
    refine hJ.getI dX8_isNext_4 f_RX8_164 rfl ?_
    refine hJ.icmp_ge (tgt := 28) dX8_isNext_7 (by decide) (fun e1 => ?_) (fun e1 => ?_)
    · replace hF := ite_T e1 hF
      refine hJ.forget (ls2 := [none, none, none]) trivial ?_
      exact hk28 h hF
    · replace hF := ite_F e1 hF
      refine hJ.aload_n (i := 0) dX8_isNext_10 rfl rfl ?_
      refine hJ.getR dX8_isNext_11 f_RX8_68 rfl ?_
      refine hJ.iload_n (i := 2) dX8_isNext_14 rfl rfl ?_
      replace hF := nn_S hF
      obtain ⟨n2, e3, hF⟩ := hF
      rw [e3]
      replace hF := ck_S hF
      obtain ⟨c4, hF⟩ := hF
      refine hJ.iald dX8_isNext_15 a_44 rfl c4 ?_
      refine hJ.iload_n (i := 1) dX8_isNext_16 rfl rfl ?_
      refine hJ.icmp_ne (tgt := 22) dX8_isNext_17 (by decide) (fun e5 => ?_) (fun e5 => ?_)
      · replace hF := ite_F e5 hF
        refine hJ.iinc (i := 2) (v := (v2 + (1 : Int32))) (ls2 := [some (.inr (8, (some v0))), some (.inl v1), some (.inl (v2 + (1 : Int32)))]) dX8_isNext_22 rfl (addI (by decide)) (by decide) rfl ?_
        refine hJ.goto (tgt := 2) dX8_isNext_25 (by decide) ?_
        refine hJ.forget (ls2 := [some (.inr (8, (some v0))), some (.inl v1), some (.inl (v2 + (1 : Int32)))]) ⟨rfl, rfl, rfl, trivial⟩ ?_
        exact ih (v2 + (1 : Int32)) h hF
      · replace hF := ite_T e5 hF
        refine hJ.forget (ls2 := [none, none, none]) trivial ?_
        exact hk20 h hF

set_option maxHeartbeats 4000000 in
set_option maxRecDepth 100000 in
theorem c_X8_isNext {x0 : Nat} {x1 : Int32} {h hh : Hp} {xr : Int32} (hF : F_X8_isNext x0 x1 h = some (xr, hh)) : Ctr yX8_isNext cX8_isNext 3 (some .boolean) 0 0 0 [.inr (8, (some x0)), .inl x1] h (some (.inl xr)) hh := by
  refine Ctr_z (own := RX8) (ini := False) (ls0 := [some (.inr (8, (some x0))), some (.inl x1), none]) (by decide) rfl (Nat.le_of_ble_eq_true rfl) (fun e => e.elim) rfl ?_
  intro J hJ hR
  unfold F_X8_isNext at hF
  refine hJ.iconst (v := 0) dX8_isNext_0 (by decide) ?_
  refine hJ.istore_n (i := 2) (ls2 := [some (.inr (8, (some x0))), some (.inl x1), some (.inl (0 : Int32))]) dX8_isNext_1 rfl (by decide) rfl ?_
  refine hJ.forget (ls2 := [some (.inr (8, (some x0))), some (.inl x1), some (.inl (0 : Int32))]) ⟨rfl, rfl, rfl, trivial⟩ ?_
  refine t_X8_isNext_2 hJ (by decide) (by decide) (fun h6 hF => ?_) (fun h7 hF => ?_) FU _ _ hF
  · refine hJ.iconst (v := 0) dX8_isNext_28 (by decide) ?_
    obtain ⟨rfl, rfl⟩ := ret_S hF
    exact hR dX8_isNext_29 (by decide) (by decide) (by decide)
  · refine hJ.iconst (v := 1) dX8_isNext_20 (by decide) ?_
    obtain ⟨rfl, rfl⟩ := ret_S hF
    exact hR dX8_isNext_21 (by decide) (by decide) (by decide)

set_option maxHeartbeats 4000000 in
set_option maxRecDepth 100000 in
theorem c_X8_put {x0 : Nat} {x1 : Int32} {h hh : Hp} {xr : Int32} (hF : F_X8_put x0 x1 h = some (xr, hh)) : Ctr yX8_put cX8_put 2 (some .int) 2 0 0 [.inr (8, (some x0)), .inl x1] h (some (.inl xr)) hh := by
  refine Ctr_i (own := RX8) (ini := False) (ls0 := [some (.inr (8, (some x0))), some (.inl x1)]) (by decide) rfl (Nat.le_of_ble_eq_true rfl) (fun e => e.elim) rfl ?_
  intro J hJ hR
  unfold F_X8_put at hF
  refine hJ.aload_n (i := 0) dX8_put_0 rfl rfl ?_
  refine hJ.iload_n (i := 1) dX8_put_1 rfl rfl ?_
  replace hF := cl_S hF
  obtain ⟨r1, h2, ec3, hF⟩ := hF
  refine hJ.callV (as := [.inl x1]) (st := []) dX8_put_2 w_RX8_167 ⟨by decide, rfl⟩ rfl (c_X8_isTrunk ec3) (by decide) (by decide) (by decide) rfl (Nat.le_of_ble_eq_true rfl) rfl ?_
  refine hJ.if_eq (tgt := 34) dX8_put_5 (by decide) (fun e4 => ?_) (fun e4 => ?_)
  · replace hF := ite_T e4 hF
    refine hJ.iconst (v := -1) dX8_put_34 (by decide) ?_
    obtain ⟨rfl, rfl⟩ := ret_S hF
    exact hR dX8_put_35 (by decide) (by decide)
  · replace hF := ite_F e4 hF
    refine hJ.aload_n (i := 0) dX8_put_8 rfl rfl ?_
    refine hJ.getR dX8_put_9 f_RX8_50 rfl ?_
    refine hJ.iload_n (i := 1) dX8_put_12 rfl rfl ?_
    replace hF := nn_S hF
    obtain ⟨n5, e6, hF⟩ := hF
    rw [e6]
    replace hF := ck_S hF
    obtain ⟨c7, hF⟩ := hF
    refine hJ.iald dX8_put_13 a_38 rfl c7 ?_
    refine hJ.if_ne (tgt := 34) dX8_put_14 (by decide) (fun e8 => ?_) (fun e8 => ?_)
    · replace hF := ite_F e8 hF
      refine hJ.iconst (v := -1) dX8_put_34 (by decide) ?_
      obtain ⟨rfl, rfl⟩ := ret_S hF
      exact hR dX8_put_35 (by decide) (by decide)
    · replace hF := ite_T e8 hF
      refine hJ.aload_n (i := 0) dX8_put_17 rfl rfl ?_
      refine hJ.iload_n (i := 1) dX8_put_18 rfl rfl ?_
      replace hF := cl_S hF
      obtain ⟨r9, h10, ec11, hF⟩ := hF
      refine hJ.callV (as := [.inl x1]) (st := []) dX8_put_19 w_RX8_170 ⟨by decide, rfl⟩ rfl (c_X8_isNext ec11) (by decide) (by decide) (by decide) rfl (Nat.le_of_ble_eq_true rfl) rfl ?_
      refine hJ.if_ne (tgt := 34) dX8_put_22 (by decide) (fun e12 => ?_) (fun e12 => ?_)
      · replace hF := ite_F e12 hF
        refine hJ.iconst (v := -1) dX8_put_34 (by decide) ?_
        obtain ⟨rfl, rfl⟩ := ret_S hF
        exact hR dX8_put_35 (by decide) (by decide)
      · replace hF := ite_T e12 hF
        refine hJ.aload_n (i := 0) dX8_put_25 rfl rfl ?_
        refine hJ.getI dX8_put_26 f_RX8_164 rfl ?_
        refine hJ.bipush (v := 9) dX8_put_29 (by decide) ?_
        refine hJ.icmp_ne (tgt := 36) dX8_put_31 (by decide) (fun e13 => ?_) (fun e13 => ?_)
        · replace hF := ite_F e13 hF
          refine hJ.aload_n (i := 0) dX8_put_36 rfl rfl ?_
          refine hJ.getI dX8_put_37 f_RX8_164 rfl ?_
          refine hJ.if_le (tgt := 65) dX8_put_40 (by decide) (fun e14 => ?_) (fun e14 => ?_)
          · replace hF := ite_T e14 hF
            refine hJ.aload_n (i := 0) dX8_put_65 rfl rfl ?_
            refine hJ.getR dX8_put_66 f_RX8_68 rfl ?_
            refine hJ.aload_n (i := 0) dX8_put_69 rfl rfl ?_
            refine hJ.getI dX8_put_70 f_RX8_164 rfl ?_
            refine hJ.iload_n (i := 1) dX8_put_73 rfl rfl ?_
            replace hF := nn_S hF
            obtain ⟨n15, e16, hF⟩ := hF
            rw [e16]
            replace hF := ck_S hF
            obtain ⟨c17, hF⟩ := hF
            replace hF := lt_S hF
            obtain ⟨h18, eh19, hF⟩ := hF
            refine hJ.iast dX8_put_74 a_44 rfl c17 ?_
            rw [← eh19]
            refine hJ.aload_n (i := 0) dX8_put_75 rfl rfl ?_
            refine hJ.dup dX8_put_76 ?_
            refine hJ.getI dX8_put_77 f_RX8_164 rfl ?_
            refine hJ.iconst (v := 1) dX8_put_80 (by decide) ?_
            refine hJ.iadd dX8_put_81 ?_
            replace hF := lt_S hF
            obtain ⟨h20, eh21, hF⟩ := hF
            refine hJ.putI dX8_put_82 f_RX8_164 rfl nar_i rfl ?_
            rw [← eh21]
            refine hJ.aload_n (i := 0) dX8_put_85 rfl rfl ?_
            refine hJ.getI dX8_put_86 f_RX8_164 rfl ?_
            obtain ⟨rfl, rfl⟩ := ret_S hF
            exact hR dX8_put_89 (by decide) (by decide)
          · replace hF := ite_F e14 hF
            refine hJ.aload_n (i := 0) dX8_put_43 rfl rfl ?_
            refine hJ.getR dX8_put_44 f_RX8_53 rfl ?_
            refine hJ.aload_n (i := 0) dX8_put_47 rfl rfl ?_
            refine hJ.getR dX8_put_48 f_RX8_68 rfl ?_
            refine hJ.iconst (v := 0) dX8_put_51 (by decide) ?_
            replace hF := nn_S hF
            obtain ⟨n22, e23, hF⟩ := hF
            rw [e23]
            replace hF := ck_S hF
            obtain ⟨c24, hF⟩ := hF
            refine hJ.iald dX8_put_52 a_44 rfl c24 ?_
            replace hF := nn_S hF
            obtain ⟨n25, e26, hF⟩ := hF
            rw [e26]
            replace hF := ck_S hF
            obtain ⟨c27, hF⟩ := hF
            refine hJ.iald dX8_put_53 a_39 rfl c27 ?_
            refine hJ.aload_n (i := 0) dX8_put_54 rfl rfl ?_
            refine hJ.getR dX8_put_55 f_RX8_53 rfl ?_
            rw [e26]
            refine hJ.iload_n (i := 1) dX8_put_58 rfl rfl ?_
            replace hF := ck_S hF
            obtain ⟨c28, hF⟩ := hF
            refine hJ.iald dX8_put_59 a_39 rfl c28 ?_
            refine hJ.icmp_eq (tgt := 65) dX8_put_60 (by decide) (fun e29 => ?_) (fun e29 => ?_)
            · replace hF := ite_T e29 hF
              refine hJ.aload_n (i := 0) dX8_put_65 rfl rfl ?_
              refine hJ.getR dX8_put_66 f_RX8_68 rfl ?_
              rw [e23]
              refine hJ.aload_n (i := 0) dX8_put_69 rfl rfl ?_
              refine hJ.getI dX8_put_70 f_RX8_164 rfl ?_
              refine hJ.iload_n (i := 1) dX8_put_73 rfl rfl ?_
              replace hF := ck_S hF
              obtain ⟨c30, hF⟩ := hF
              replace hF := lt_S hF
              obtain ⟨h31, eh32, hF⟩ := hF
              refine hJ.iast dX8_put_74 a_44 rfl c30 ?_
              rw [← eh32]
              refine hJ.aload_n (i := 0) dX8_put_75 rfl rfl ?_
              refine hJ.dup dX8_put_76 ?_
              refine hJ.getI dX8_put_77 f_RX8_164 rfl ?_
              refine hJ.iconst (v := 1) dX8_put_80 (by decide) ?_
              refine hJ.iadd dX8_put_81 ?_
              replace hF := lt_S hF
              obtain ⟨h33, eh34, hF⟩ := hF
              refine hJ.putI dX8_put_82 f_RX8_164 rfl nar_i rfl ?_
              rw [← eh34]
              refine hJ.aload_n (i := 0) dX8_put_85 rfl rfl ?_
              refine hJ.getI dX8_put_86 f_RX8_164 rfl ?_
              obtain ⟨rfl, rfl⟩ := ret_S hF
              exact hR dX8_put_89 (by decide) (by decide)
            · replace hF := ite_F e29 hF
              refine hJ.iconst (v := -1) dX8_put_63 (by decide) ?_
              obtain ⟨rfl, rfl⟩ := ret_S hF
              exact hR dX8_put_64 (by decide) (by decide)
        · replace hF := ite_T e13 hF
          refine hJ.iconst (v := -1) dX8_put_34 (by decide) ?_
          obtain ⟨rfl, rfl⟩ := ret_S hF
          exact hR dX8_put_35 (by decide) (by decide)

set_option maxHeartbeats 4000000 in
set_option maxRecDepth 100000 in
theorem c_X8_newRaft {x0 : Nat} {x1 : Int32} {h hh : Hp} {xr : Int32} (hF : F_X8_newRaft x0 x1 h = some (xr, hh)) : Ctr yX8_newRaft cX8_newRaft 2 (some .int) 0 0 0 [.inr (8, (some x0)), .inl x1] h (some (.inl xr)) hh := by
  refine Ctr_i (own := RX8) (ini := False) (ls0 := [some (.inr (8, (some x0))), some (.inl x1)]) (by decide) rfl (Nat.le_of_ble_eq_true rfl) (fun e => e.elim) rfl ?_
  intro J hJ hR
  unfold F_X8_newRaft at hF
  refine hJ.aload_n (i := 0) dX8_newRaft_0 rfl rfl ?_
  refine hJ.getR dX8_newRaft_1 f_RX8_71 rfl ?_
  refine hJ.aload_n (i := 0) dX8_newRaft_4 rfl rfl ?_
  refine hJ.getI dX8_newRaft_5 f_RX8_151 rfl ?_
  refine hJ.iconst (v := 0) dX8_newRaft_8 (by decide) ?_
  replace hF := nn_S hF
  obtain ⟨n1, e2, hF⟩ := hF
  rw [e2]
  replace hF := ck_S hF
  obtain ⟨c3, hF⟩ := hF
  replace hF := lt_S hF
  obtain ⟨h4, eh5, hF⟩ := hF
  refine hJ.iast dX8_newRaft_9 a_45 rfl c3 ?_
  rw [← eh5]
  refine hJ.aload_n (i := 0) dX8_newRaft_10 rfl rfl ?_
  refine hJ.getR dX8_newRaft_11 f_RX8_74 rfl ?_
  refine hJ.aload_n (i := 0) dX8_newRaft_14 rfl rfl ?_
  refine hJ.getI dX8_newRaft_15 f_RX8_151 rfl ?_
  refine hJ.iload_n (i := 1) dX8_newRaft_18 rfl rfl ?_
  replace hF := nn_S hF
  obtain ⟨n6, e7, hF⟩ := hF
  rw [e7]
  replace hF := ck_S hF
  obtain ⟨c8, hF⟩ := hF
  replace hF := lt_S hF
  obtain ⟨h9, eh10, hF⟩ := hF
  refine hJ.iast dX8_newRaft_19 a_46 rfl c8 ?_
  rw [← eh10]
  refine hJ.aload_n (i := 0) dX8_newRaft_20 rfl rfl ?_
  refine hJ.getR dX8_newRaft_21 f_RX8_80 rfl ?_
  refine hJ.aload_n (i := 0) dX8_newRaft_24 rfl rfl ?_
  refine hJ.getI dX8_newRaft_25 f_RX8_151 rfl ?_
  refine hJ.iconst (v := -1) dX8_newRaft_28 (by decide) ?_
  replace hF := nn_S hF
  obtain ⟨n11, e12, hF⟩ := hF
  rw [e12]
  replace hF := ck_S hF
  obtain ⟨c13, hF⟩ := hF
  replace hF := lt_S hF
  obtain ⟨h14, eh15, hF⟩ := hF
  refine hJ.iast dX8_newRaft_29 a_48 rfl c13 ?_
  rw [← eh15]
  refine hJ.aload_n (i := 0) dX8_newRaft_30 rfl rfl ?_
  refine hJ.getR dX8_newRaft_31 f_RX8_83 rfl ?_
  refine hJ.aload_n (i := 0) dX8_newRaft_34 rfl rfl ?_
  refine hJ.getI dX8_newRaft_35 f_RX8_151 rfl ?_
  refine hJ.iconst (v := -1) dX8_newRaft_38 (by decide) ?_
  replace hF := nn_S hF
  obtain ⟨n16, e17, hF⟩ := hF
  rw [e17]
  replace hF := ck_S hF
  obtain ⟨c18, hF⟩ := hF
  replace hF := lt_S hF
  obtain ⟨h19, eh20, hF⟩ := hF
  refine hJ.iast dX8_newRaft_39 a_49 rfl c18 ?_
  rw [← eh20]
  refine hJ.aload_n (i := 0) dX8_newRaft_40 rfl rfl ?_
  refine hJ.dup dX8_newRaft_41 ?_
  refine hJ.getI dX8_newRaft_42 f_RX8_151 rfl ?_
  refine hJ.iconst (v := 1) dX8_newRaft_45 (by decide) ?_
  refine hJ.iadd dX8_newRaft_46 ?_
  replace hF := lt_S hF
  obtain ⟨h21, eh22, hF⟩ := hF
  refine hJ.putI dX8_newRaft_47 f_RX8_151 rfl nar_i rfl ?_
  rw [← eh22]
  refine hJ.aload_n (i := 0) dX8_newRaft_50 rfl rfl ?_
  refine hJ.getI dX8_newRaft_51 f_RX8_151 rfl ?_
  refine hJ.iconst (v := 1) dX8_newRaft_54 (by decide) ?_
  refine hJ.isub dX8_newRaft_55 ?_
  obtain ⟨rfl, rfl⟩ := ret_S hF
  exact hR dX8_newRaft_56 (by decide) (by decide)

set_option maxHeartbeats 4000000 in
set_option maxRecDepth 100000 in
theorem t_X8_bind_43 {β : Type} {J : JT} (hJ : Rules cX8_bind RX8 3 1 0 0 False J) {a b : Nat} (ha : a ≤ 0) (hb : b ≤ 0) {v0 : Nat} {v1 : Int32} {κ105 : Hp → Option β} {out : β}
    (hk105 : ∀ (h : Hp), κ105 h = some out → J 105 [some (.inr (8, (some v0))), some (.inl v1), none] [] h a b)
    : ∀ (f : Nat) (v2 : Int32) (h : Hp), L_X8_bind_43 v0 v1 κ105 f v2 h = some out → J 43 [some (.inr (8, (some v0))), some (.inl v1), some (.inl v2)] [] h a b := by
  intro f
  induction f with
  | zero => intro v2 h hF; simp [L_X8_bind_43] at hF
  | succ f ih =>
    intro v2 h hF
    rw [L_X8_bind_43] at hF
    refine hJ.iload_n (i := 2) dX8_bind_43 rfl rfl ?_
    refine hJ.aload_n (i := 0) dX8_bind_44 rfl rfl ?_
    refine hJ.getI dX8_bind_45 f_RX8_164 rfl ?_
    refine hJ.icmp_ge (tgt := 105) dX8_bind_48 (by decide) (fun e17 => ?_) (fun e17 => ?_)
    · replace hF := ite_T e17 hF
      refine hJ.forget (ls2 := [some (.inr (8, (some v0))), some (.inl v1), none]) ⟨rfl, rfl, trivial⟩ ?_
      exact hk105 h hF
    · replace hF := ite_F e17 hF
      refine hJ.aload_n (i := 0) dX8_bind_51 rfl rfl ?_
      refine hJ.getR dX8_bind_52 f_RX8_50 rfl ?_
      refine hJ.aload_n (i := 0) dX8_bind_55 rfl rfl ?_
      refine hJ.getR dX8_bind_56 f_RX8_68 rfl ?_
      refine hJ.iload_n (i := 2) dX8_bind_59 rfl rfl ?_
      replace hF := nn_S hF
      obtain ⟨n18, e19, hF⟩ := hF
      rw [e19]
      replace hF := ck_S hF
      obtain ⟨c20, hF⟩ := hF
      refine hJ.iald dX8_bind_60 a_44 rfl c20 ?_
      refine hJ.iconst (v := 1) dX8_bind_61 (by decide) ?_
      replace hF := nn_S hF
      obtain ⟨n21, e22, hF⟩ := hF
      rw [e22]
      replace hF := ck_S hF
      obtain ⟨c23, hF⟩ := hF
      replace hF := lt_S hF
      obtain ⟨h24, eh25, hF⟩ := hF
      refine hJ.iast dX8_bind_62 a_38 rfl c23 ?_
      rw [← eh25]
      refine hJ.aload_n (i := 0) dX8_bind_63 rfl rfl ?_
      refine hJ.getR dX8_bind_64 f_RX8_56 rfl ?_
      refine hJ.aload_n (i := 0) dX8_bind_67 rfl rfl ?_
      refine hJ.getR dX8_bind_68 f_RX8_68 rfl ?_
      refine hJ.iload_n (i := 2) dX8_bind_71 rfl rfl ?_
      replace hF := nn_S hF
      obtain ⟨n26, e27, hF⟩ := hF
      rw [e27]
      replace hF := ck_S hF
      obtain ⟨c28, hF⟩ := hF
      refine hJ.iald dX8_bind_72 a_44 rfl c28 ?_
      refine hJ.iload_n (i := 1) dX8_bind_73 rfl rfl ?_
      replace hF := nn_S hF
      obtain ⟨n29, e30, hF⟩ := hF
      rw [e30]
      replace hF := ck_S hF
      obtain ⟨c31, hF⟩ := hF
      replace hF := lt_S hF
      obtain ⟨h32, eh33, hF⟩ := hF
      refine hJ.iast dX8_bind_74 a_40 rfl c31 ?_
      rw [← eh33]
      refine hJ.aload_n (i := 0) dX8_bind_75 rfl rfl ?_
      refine hJ.getR dX8_bind_76 f_RX8_59 rfl ?_
      refine hJ.aload_n (i := 0) dX8_bind_79 rfl rfl ?_
      refine hJ.getR dX8_bind_80 f_RX8_68 rfl ?_
      refine hJ.iload_n (i := 2) dX8_bind_83 rfl rfl ?_
      replace hF := nn_S hF
      obtain ⟨n34, e35, hF⟩ := hF
      rw [e35]
      replace hF := ck_S hF
      obtain ⟨c36, hF⟩ := hF
      refine hJ.iald dX8_bind_84 a_44 rfl c36 ?_
      refine hJ.iconst (v := 0) dX8_bind_85 (by decide) ?_
      replace hF := nn_S hF
      obtain ⟨n37, e38, hF⟩ := hF
      rw [e38]
      replace hF := ck_S hF
      obtain ⟨c39, hF⟩ := hF
      replace hF := lt_S hF
      obtain ⟨h40, eh41, hF⟩ := hF
      refine hJ.iast dX8_bind_86 a_41 rfl c39 ?_
      rw [← eh41]
      refine hJ.aload_n (i := 0) dX8_bind_87 rfl rfl ?_
      refine hJ.getR dX8_bind_88 f_RX8_62 rfl ?_
      refine hJ.aload_n (i := 0) dX8_bind_91 rfl rfl ?_
      refine hJ.getR dX8_bind_92 f_RX8_68 rfl ?_
      refine hJ.iload_n (i := 2) dX8_bind_95 rfl rfl ?_
      replace hF := nn_S hF
      obtain ⟨n42, e43, hF⟩ := hF
      rw [e43]
      replace hF := ck_S hF
      obtain ⟨c44, hF⟩ := hF
      refine hJ.iald dX8_bind_96 a_44 rfl c44 ?_
      refine hJ.iload_n (i := 2) dX8_bind_97 rfl rfl ?_
      replace hF := nn_S hF
      obtain ⟨n45, e46, hF⟩ := hF
      rw [e46]
      replace hF := ck_S hF
      obtain ⟨c47, hF⟩ := hF
      replace hF := lt_S hF
      obtain ⟨h48, eh49, hF⟩ := hF
      refine hJ.iast dX8_bind_98 a_42 rfl c47 ?_
      rw [← eh49]
      refine hJ.iinc (i := 2) (v := (v2 + (1 : Int32))) (ls2 := [some (.inr (8, (some v0))), some (.inl v1), some (.inl (v2 + (1 : Int32)))]) dX8_bind_99 rfl (addI (by decide)) (by decide) rfl ?_
      refine hJ.goto (tgt := 43) dX8_bind_102 (by decide) ?_
      refine hJ.forget (ls2 := [some (.inr (8, (some v0))), some (.inl v1), some (.inl (v2 + (1 : Int32)))]) ⟨rfl, rfl, rfl, trivial⟩ ?_
      exact ih (v2 + (1 : Int32)) h48 hF

set_option maxHeartbeats 4000000 in
set_option maxRecDepth 100000 in
theorem c_X8_bind {x0 : Nat} {h hh : Hp} {xr : Int32} (hF : F_X8_bind x0 h = some (xr, hh)) : Ctr yX8_bind cX8_bind 3 (some .int) 1 0 0 [.inr (8, (some x0))] h (some (.inl xr)) hh := by
  refine Ctr_i (own := RX8) (ini := False) (ls0 := [some (.inr (8, (some x0))), none, none]) (by decide) rfl (Nat.le_of_ble_eq_true rfl) (fun e => e.elim) rfl ?_
  intro J hJ hR
  unfold F_X8_bind at hF
  refine hJ.aload_n (i := 0) dX8_bind_0 rfl rfl ?_
  refine hJ.getI dX8_bind_1 f_RX8_164 rfl ?_
  refine hJ.if_eq (tgt := 16) dX8_bind_4 (by decide) (fun e1 => ?_) (fun e1 => ?_)
  · replace hF := ite_T e1 hF
    refine hJ.iconst (v := -1) dX8_bind_16 (by decide) ?_
    obtain ⟨rfl, rfl⟩ := ret_S hF
    exact hR dX8_bind_17 (by decide) (by decide)
  · replace hF := ite_F e1 hF
    refine hJ.aload_n (i := 0) dX8_bind_7 rfl rfl ?_
    refine hJ.getI dX8_bind_8 f_RX8_151 rfl ?_
    refine hJ.bipush (v := 60) dX8_bind_11 (by decide) ?_
    refine hJ.icmp_ne (tgt := 18) dX8_bind_13 (by decide) (fun e2 => ?_) (fun e2 => ?_)
    · replace hF := ite_F e2 hF
      refine hJ.aload_n (i := 0) dX8_bind_18 rfl rfl ?_
      refine hJ.aload_n (i := 0) dX8_bind_19 rfl rfl ?_
      refine hJ.getR dX8_bind_20 f_RX8_53 rfl ?_
      refine hJ.aload_n (i := 0) dX8_bind_23 rfl rfl ?_
      refine hJ.getR dX8_bind_24 f_RX8_68 rfl ?_
      refine hJ.iconst (v := 0) dX8_bind_27 (by decide) ?_
      replace hF := nn_S hF
      obtain ⟨n3, e4, hF⟩ := hF
      rw [e4]
      replace hF := ck_S hF
      obtain ⟨c5, hF⟩ := hF
      refine hJ.iald dX8_bind_28 a_44 rfl c5 ?_
      replace hF := nn_S hF
      obtain ⟨n6, e7, hF⟩ := hF
      rw [e7]
      replace hF := ck_S hF
      obtain ⟨c8, hF⟩ := hF
      refine hJ.iald dX8_bind_29 a_39 rfl c8 ?_
      replace hF := cl_S hF
      obtain ⟨r9, h10, ec11, hF⟩ := hF
      refine hJ.callV (as := [.inl (pI h 39 n6 ((pI h 44 n3 ((0 : Int32)).toNatClampNeg)).toNatClampNeg)]) (st := []) dX8_bind_30 w_RX8_173 ⟨by decide, rfl⟩ rfl (c_X8_newRaft ec11) (by decide) (by decide) (by decide) rfl (Nat.le_of_ble_eq_true rfl) rfl ?_
      refine hJ.istore_n (i := 1) (ls2 := [some (.inr (8, (some x0))), some (.inl r9), none]) dX8_bind_33 rfl (by decide) rfl ?_
      refine hJ.aload_n (i := 0) dX8_bind_34 rfl rfl ?_
      refine hJ.getR dX8_bind_35 f_RX8_77 rfl ?_
      refine hJ.iload_n (i := 1) dX8_bind_38 rfl rfl ?_
      refine hJ.iconst (v := 1) dX8_bind_39 (by decide) ?_
      replace hF := nn_S hF
      obtain ⟨n12, e13, hF⟩ := hF
      rw [e13]
      replace hF := ck_S hF
      obtain ⟨c14, hF⟩ := hF
      replace hF := lt_S hF
      obtain ⟨h15, eh16, hF⟩ := hF
      refine hJ.iast dX8_bind_40 a_47 rfl c14 ?_
      rw [← eh16]
      refine hJ.iconst (v := 0) dX8_bind_41 (by decide) ?_
      refine hJ.istore_n (i := 2) (ls2 := [some (.inr (8, (some x0))), some (.inl r9), some (.inl (0 : Int32))]) dX8_bind_42 rfl (by decide) rfl ?_
      refine hJ.forget (ls2 := [some (.inr (8, (some x0))), some (.inl r9), some (.inl (0 : Int32))]) ⟨rfl, rfl, rfl, trivial⟩ ?_
      refine t_X8_bind_43 hJ (by decide) (by decide) (fun h50 hF => ?_) FU _ _ hF
      refine hJ.aload_n (i := 0) dX8_bind_105 rfl rfl ?_
      refine hJ.iconst (v := 0) dX8_bind_106 (by decide) ?_
      replace hF := lt_S hF
      obtain ⟨h51, eh52, hF⟩ := hF
      refine hJ.putI dX8_bind_107 f_RX8_164 rfl nar_i rfl ?_
      rw [← eh52]
      refine hJ.iload_n (i := 1) dX8_bind_110 rfl rfl ?_
      obtain ⟨rfl, rfl⟩ := ret_S hF
      exact hR dX8_bind_111 (by decide) (by decide)
    · replace hF := ite_T e2 hF
      refine hJ.iconst (v := -1) dX8_bind_16 (by decide) ?_
      obtain ⟨rfl, rfl⟩ := ret_S hF
      exact hR dX8_bind_17 (by decide) (by decide)

set_option maxHeartbeats 4000000 in
set_option maxRecDepth 100000 in
theorem c_X8_isOf {x0 : Nat} {x1 : Int32} {x2 : Int32} {h hh : Hp} {xr : Int32} (hF : F_X8_isOf x0 x1 x2 h = some (xr, hh)) : Ctr yX8_isOf cX8_isOf 3 (some .boolean) 0 0 0 [.inr (8, (some x0)), .inl x1, .inl x2] h (some (.inl xr)) hh := by
  refine Ctr_z (own := RX8) (ini := False) (ls0 := [some (.inr (8, (some x0))), some (.inl x1), some (.inl x2)]) (by decide) rfl (Nat.le_of_ble_eq_true rfl) (fun e => e.elim) rfl ?_
  intro J hJ hR
  unfold F_X8_isOf at hF
  refine hJ.aload_n (i := 0) dX8_isOf_0 rfl rfl ?_
  refine hJ.getR dX8_isOf_1 f_RX8_50 rfl ?_
  refine hJ.iload_n (i := 1) dX8_isOf_4 rfl rfl ?_
  replace hF := nn_S hF
  obtain ⟨n1, e2, hF⟩ := hF
  rw [e2]
  replace hF := ck_S hF
  obtain ⟨c3, hF⟩ := hF
  refine hJ.iald dX8_isOf_5 a_38 rfl c3 ?_
  refine hJ.iconst (v := 1) dX8_isOf_6 (by decide) ?_
  refine hJ.icmp_ne (tgt := 24) dX8_isOf_7 (by decide) (fun e4 => ?_) (fun e4 => ?_)
  · replace hF := ite_F e4 hF
    refine hJ.iconst (v := 0) dX8_isOf_24 (by decide) ?_
    obtain ⟨rfl, rfl⟩ := ret_S hF
    exact hR dX8_isOf_25 (by decide) (by decide) (by decide)
  · replace hF := ite_T e4 hF
    refine hJ.aload_n (i := 0) dX8_isOf_10 rfl rfl ?_
    refine hJ.getR dX8_isOf_11 f_RX8_56 rfl ?_
    refine hJ.iload_n (i := 1) dX8_isOf_14 rfl rfl ?_
    replace hF := nn_S hF
    obtain ⟨n5, e6, hF⟩ := hF
    rw [e6]
    replace hF := ck_S hF
    obtain ⟨c7, hF⟩ := hF
    refine hJ.iald dX8_isOf_15 a_40 rfl c7 ?_
    refine hJ.iload_n (i := 2) dX8_isOf_16 rfl rfl ?_
    refine hJ.icmp_ne (tgt := 24) dX8_isOf_17 (by decide) (fun e8 => ?_) (fun e8 => ?_)
    · replace hF := ite_F e8 hF
      refine hJ.iconst (v := 0) dX8_isOf_24 (by decide) ?_
      obtain ⟨rfl, rfl⟩ := ret_S hF
      exact hR dX8_isOf_25 (by decide) (by decide) (by decide)
    · replace hF := ite_T e8 hF
      refine hJ.iconst (v := 1) dX8_isOf_20 (by decide) ?_
      refine hJ.goto (tgt := 25) dX8_isOf_21 (by decide) ?_
      obtain ⟨rfl, rfl⟩ := ret_S hF
      exact hR dX8_isOf_25 (by decide) (by decide) (by decide)

set_option maxHeartbeats 4000000 in
set_option maxRecDepth 100000 in
theorem c_X8_ends {x0 : Nat} {x1 : Int32} {h hh : Hp} {xr : Unit} (hF : F_X8_ends x0 x1 h = some (xr, hh)) : Ctr yX8_ends cX8_ends 2 none 0 0 0 [.inr (8, (some x0)), .inl x1] h none hh := by
  refine Ctr_v (own := RX8) (ini := False) (ls0 := [some (.inr (8, (some x0))), some (.inl x1)]) (by decide) rfl (Nat.le_of_ble_eq_true rfl) (fun e => e.elim) rfl ?_
  intro J hJ hR
  unfold F_X8_ends at hF
  refine hJ.aload_n (i := 0) dX8_ends_0 rfl rfl ?_
  refine hJ.getR dX8_ends_1 f_RX8_71 rfl ?_
  refine hJ.iload_n (i := 1) dX8_ends_4 rfl rfl ?_
  refine hJ.iconst (v := 3) dX8_ends_5 (by decide) ?_
  replace hF := nn_S hF
  obtain ⟨n1, e2, hF⟩ := hF
  rw [e2]
  replace hF := ck_S hF
  obtain ⟨c3, hF⟩ := hF
  replace hF := lt_S hF
  obtain ⟨h4, eh5, hF⟩ := hF
  refine hJ.iast dX8_ends_6 a_45 rfl c3 ?_
  rw [← eh5]
  refine hJ.aload_n (i := 0) dX8_ends_7 rfl rfl ?_
  refine hJ.getR dX8_ends_8 f_RX8_77 rfl ?_
  refine hJ.iload_n (i := 1) dX8_ends_11 rfl rfl ?_
  refine hJ.iconst (v := 0) dX8_ends_12 (by decide) ?_
  replace hF := nn_S hF
  obtain ⟨n6, e7, hF⟩ := hF
  rw [e7]
  replace hF := ck_S hF
  obtain ⟨c8, hF⟩ := hF
  replace hF := lt_S hF
  obtain ⟨h9, eh10, hF⟩ := hF
  refine hJ.iast dX8_ends_13 a_47 rfl c8 ?_
  rw [← eh10]
  refine hJ.aload_n (i := 0) dX8_ends_14 rfl rfl ?_
  refine hJ.getR dX8_ends_15 f_RX8_80 rfl ?_
  refine hJ.iload_n (i := 1) dX8_ends_18 rfl rfl ?_
  refine hJ.iconst (v := -1) dX8_ends_19 (by decide) ?_
  replace hF := nn_S hF
  obtain ⟨n11, e12, hF⟩ := hF
  rw [e12]
  replace hF := ck_S hF
  obtain ⟨c13, hF⟩ := hF
  replace hF := lt_S hF
  obtain ⟨h14, eh15, hF⟩ := hF
  refine hJ.iast dX8_ends_20 a_48 rfl c13 ?_
  rw [← eh15]
  refine hJ.aload_n (i := 0) dX8_ends_21 rfl rfl ?_
  refine hJ.getR dX8_ends_22 f_RX8_83 rfl ?_
  refine hJ.iload_n (i := 1) dX8_ends_25 rfl rfl ?_
  refine hJ.iconst (v := -1) dX8_ends_26 (by decide) ?_
  replace hF := nn_S hF
  obtain ⟨n16, e17, hF⟩ := hF
  rw [e17]
  replace hF := ck_S hF
  obtain ⟨c18, hF⟩ := hF
  replace hF := lt_S hF
  obtain ⟨h19, eh20, hF⟩ := hF
  refine hJ.iast dX8_ends_27 a_49 rfl c18 ?_
  rw [← eh20]
  obtain ⟨-, rfl⟩ := ret_S hF
  exact hR dX8_ends_28 (by decide) (by decide)

set_option maxHeartbeats 4000000 in
set_option maxRecDepth 100000 in
theorem t_X8_join_60 {β : Type} {J : JT} (hJ : Rules cX8_join RX8 4 2 0 0 False J) {a b : Nat} (ha : a ≤ 0) (hb : b ≤ 0) {v0 : Nat} {v1 : Int32} {v2 : Int32} {κ108 : Hp → Option β} {out : β}
    (hk108 : ∀ (h : Hp), κ108 h = some out → J 108 [some (.inr (8, (some v0))), some (.inl v1), some (.inl v2), none] [] h a b)
    : ∀ (f : Nat) (v3 : Int32) (h : Hp), L_X8_join_60 v0 v1 v2 κ108 f v3 h = some out → J 60 [some (.inr (8, (some v0))), some (.inl v1), some (.inl v2), some (.inl v3)] [] h a b := by
  intro f
  induction f with
  | zero => intro v3 h hF; simp [L_X8_join_60] at hF
  | succ f ih =>
    intro v3 h hF
    rw [L_X8_join_60] at hF
    refine hJ.iload_n (i := 3) dX8_join_60 rfl rfl ?_
    refine hJ.aload_n (i := 0) dX8_join_61 rfl rfl ?_
    refine hJ.getI dX8_join_62 f_RX8_148 rfl ?_
    refine hJ.icmp_ge (tgt := 108) dX8_join_65 (by decide) (fun e20 => ?_) (fun e20 => ?_)
    · replace hF := ite_T e20 hF
      refine hJ.forget (ls2 := [some (.inr (8, (some v0))), some (.inl v1), some (.inl v2), none]) ⟨rfl, rfl, rfl, trivial⟩ ?_
      exact hk108 h hF
    · replace hF := ite_F e20 hF
      refine hJ.aload_n (i := 0) dX8_join_68 rfl rfl ?_
      refine hJ.iload_n (i := 3) dX8_join_69 rfl rfl ?_
      refine hJ.iload_n (i := 2) dX8_join_70 rfl rfl ?_
      replace hF := cl_S hF
      obtain ⟨r21, h22, ec23, hF⟩ := hF
      refine hJ.callV (as := [.inl v3, .inl v2]) (st := []) dX8_join_71 w_RX8_180 ⟨by decide, rfl⟩ rfl (c_X8_isOf ec23) (by decide) ha hb rfl (Nat.le_of_ble_eq_true rfl) rfl ?_
      refine hJ.if_ne (tgt := 80) dX8_join_74 (by decide) (fun e24 => ?_) (fun e24 => ?_)
      · replace hF := ite_F e24 hF
        refine hJ.aload_n (i := 0) dX8_join_80 rfl rfl ?_
        refine hJ.getR dX8_join_81 f_RX8_56 rfl ?_
        refine hJ.iload_n (i := 3) dX8_join_84 rfl rfl ?_
        refine hJ.iload_n (i := 1) dX8_join_85 rfl rfl ?_
        replace hF := nn_S hF
        obtain ⟨n25, e26, hF⟩ := hF
        rw [e26]
        replace hF := ck_S hF
        obtain ⟨c27, hF⟩ := hF
        replace hF := lt_S hF
        obtain ⟨h28, eh29, hF⟩ := hF
        refine hJ.iast dX8_join_86 a_40 rfl c27 ?_
        rw [← eh29]
        refine hJ.aload_n (i := 0) dX8_join_87 rfl rfl ?_
        refine hJ.getR dX8_join_88 f_RX8_59 rfl ?_
        refine hJ.iload_n (i := 3) dX8_join_91 rfl rfl ?_
        refine hJ.dup2 dX8_join_92 ?_
        replace hF := nn_S hF
        obtain ⟨n30, e31, hF⟩ := hF
        rw [e31]
        replace hF := ck_S hF
        obtain ⟨c32, hF⟩ := hF
        refine hJ.iald dX8_join_93 a_41 rfl c32 ?_
        refine hJ.aload_n (i := 0) dX8_join_94 rfl rfl ?_
        refine hJ.getR dX8_join_95 f_RX8_77 rfl ?_
        refine hJ.iload_n (i := 1) dX8_join_98 rfl rfl ?_
        replace hF := nn_S hF
        obtain ⟨n33, e34, hF⟩ := hF
        rw [e34]
        replace hF := ck_S hF
        obtain ⟨c35, hF⟩ := hF
        refine hJ.iald dX8_join_99 a_47 rfl c35 ?_
        refine hJ.iadd dX8_join_100 ?_
        replace hF := ck_S hF
        obtain ⟨c36, hF⟩ := hF
        replace hF := lt_S hF
        obtain ⟨h37, eh38, hF⟩ := hF
        refine hJ.iast dX8_join_101 a_41 rfl c36 ?_
        rw [← eh38]
        refine hJ.iinc (i := 3) (v := (v3 + (1 : Int32))) (ls2 := [some (.inr (8, (some v0))), some (.inl v1), some (.inl v2), some (.inl (v3 + (1 : Int32)))]) dX8_join_102 rfl (addI (by decide)) (by decide) rfl ?_
        refine hJ.goto (tgt := 60) dX8_join_105 (by decide) ?_
        refine hJ.forget (ls2 := [some (.inr (8, (some v0))), some (.inl v1), some (.inl v2), some (.inl (v3 + (1 : Int32)))]) ⟨rfl, rfl, rfl, rfl, trivial⟩ ?_
        exact ih (v3 + (1 : Int32)) h37 hF
      · replace hF := ite_T e24 hF
        refine hJ.goto (tgt := 102) dX8_join_77 (by decide) ?_
        refine hJ.iinc (i := 3) (v := (v3 + (1 : Int32))) (ls2 := [some (.inr (8, (some v0))), some (.inl v1), some (.inl v2), some (.inl (v3 + (1 : Int32)))]) dX8_join_102 rfl (addI (by decide)) (by decide) rfl ?_
        refine hJ.goto (tgt := 60) dX8_join_105 (by decide) ?_
        refine hJ.forget (ls2 := [some (.inr (8, (some v0))), some (.inl v1), some (.inl v2), some (.inl (v3 + (1 : Int32)))]) ⟨rfl, rfl, rfl, rfl, trivial⟩ ?_
        exact ih (v3 + (1 : Int32)) h22 hF

set_option maxHeartbeats 4000000 in
set_option maxRecDepth 100000 in
theorem c_X8_join {x0 : Nat} {x1 : Int32} {x2 : Int32} {h hh : Hp} {xr : Int32} (hF : F_X8_join x0 x1 x2 h = some (xr, hh)) : Ctr yX8_join cX8_join 4 (some .boolean) 2 0 0 [.inr (8, (some x0)), .inl x1, .inl x2] h (some (.inl xr)) hh := by
  refine Ctr_z (own := RX8) (ini := False) (ls0 := [some (.inr (8, (some x0))), some (.inl x1), some (.inl x2), none]) (by decide) rfl (Nat.le_of_ble_eq_true rfl) (fun e => e.elim) rfl ?_
  intro J hJ hR
  unfold F_X8_join at hF
  refine hJ.aload_n (i := 0) dX8_join_0 rfl rfl ?_
  refine hJ.iload_n (i := 1) dX8_join_1 rfl rfl ?_
  refine hJ.iconst (v := 0) dX8_join_2 (by decide) ?_
  replace hF := cl_S hF
  obtain ⟨r1, h2, ec3, hF⟩ := hF
  refine hJ.callV (as := [.inl x1, .inl (0 : Int32)]) (st := []) dX8_join_3 w_RX8_176 ⟨by decide, rfl⟩ rfl (c_X8_isRaft ec3) (by decide) (by decide) (by decide) rfl (Nat.le_of_ble_eq_true rfl) rfl ?_
  refine hJ.if_eq (tgt := 56) dX8_join_6 (by decide) (fun e4 => ?_) (fun e4 => ?_)
  · replace hF := ite_T e4 hF
    refine hJ.iconst (v := 0) dX8_join_56 (by decide) ?_
    obtain ⟨rfl, rfl⟩ := ret_S hF
    exact hR dX8_join_57 (by decide) (by decide) (by decide)
  · replace hF := ite_F e4 hF
    refine hJ.aload_n (i := 0) dX8_join_9 rfl rfl ?_
    refine hJ.iload_n (i := 2) dX8_join_10 rfl rfl ?_
    refine hJ.iconst (v := 0) dX8_join_11 (by decide) ?_
    replace hF := cl_S hF
    obtain ⟨r5, h6, ec7, hF⟩ := hF
    refine hJ.callV (as := [.inl x2, .inl (0 : Int32)]) (st := []) dX8_join_12 w_RX8_176 ⟨by decide, rfl⟩ rfl (c_X8_isRaft ec7) (by decide) (by decide) (by decide) rfl (Nat.le_of_ble_eq_true rfl) rfl ?_
    refine hJ.if_eq (tgt := 56) dX8_join_15 (by decide) (fun e8 => ?_) (fun e8 => ?_)
    · replace hF := ite_T e8 hF
      refine hJ.iconst (v := 0) dX8_join_56 (by decide) ?_
      obtain ⟨rfl, rfl⟩ := ret_S hF
      exact hR dX8_join_57 (by decide) (by decide) (by decide)
    · replace hF := ite_F e8 hF
      refine hJ.iload_n (i := 1) dX8_join_18 rfl rfl ?_
      refine hJ.iload_n (i := 2) dX8_join_19 rfl rfl ?_
      refine hJ.icmp_eq (tgt := 56) dX8_join_20 (by decide) (fun e9 => ?_) (fun e9 => ?_)
      · replace hF := ite_T e9 hF
        refine hJ.iconst (v := 0) dX8_join_56 (by decide) ?_
        obtain ⟨rfl, rfl⟩ := ret_S hF
        exact hR dX8_join_57 (by decide) (by decide) (by decide)
      · replace hF := ite_F e9 hF
        refine hJ.aload_n (i := 0) dX8_join_23 rfl rfl ?_
        refine hJ.getR dX8_join_24 f_RX8_74 rfl ?_
        refine hJ.iload_n (i := 1) dX8_join_27 rfl rfl ?_
        replace hF := nn_S hF
        obtain ⟨n10, e11, hF⟩ := hF
        rw [e11]
        replace hF := ck_S hF
        obtain ⟨c12, hF⟩ := hF
        refine hJ.iald dX8_join_28 a_46 rfl c12 ?_
        refine hJ.aload_n (i := 0) dX8_join_29 rfl rfl ?_
        refine hJ.getR dX8_join_30 f_RX8_74 rfl ?_
        rw [e11]
        refine hJ.iload_n (i := 2) dX8_join_33 rfl rfl ?_
        replace hF := ck_S hF
        obtain ⟨c13, hF⟩ := hF
        refine hJ.iald dX8_join_34 a_46 rfl c13 ?_
        refine hJ.icmp_ne (tgt := 56) dX8_join_35 (by decide) (fun e14 => ?_) (fun e14 => ?_)
        · replace hF := ite_F e14 hF
          refine hJ.iconst (v := 0) dX8_join_56 (by decide) ?_
          obtain ⟨rfl, rfl⟩ := ret_S hF
          exact hR dX8_join_57 (by decide) (by decide) (by decide)
        · replace hF := ite_T e14 hF
          refine hJ.aload_n (i := 0) dX8_join_38 rfl rfl ?_
          refine hJ.getR dX8_join_39 f_RX8_77 rfl ?_
          refine hJ.iload_n (i := 1) dX8_join_42 rfl rfl ?_
          replace hF := nn_S hF
          obtain ⟨n15, e16, hF⟩ := hF
          rw [e16]
          replace hF := ck_S hF
          obtain ⟨c17, hF⟩ := hF
          refine hJ.iald dX8_join_43 a_47 rfl c17 ?_
          refine hJ.aload_n (i := 0) dX8_join_44 rfl rfl ?_
          refine hJ.getR dX8_join_45 f_RX8_77 rfl ?_
          rw [e16]
          refine hJ.iload_n (i := 2) dX8_join_48 rfl rfl ?_
          replace hF := ck_S hF
          obtain ⟨c18, hF⟩ := hF
          refine hJ.iald dX8_join_49 a_47 rfl c18 ?_
          refine hJ.iadd dX8_join_50 ?_
          refine hJ.bipush (v := 8) dX8_join_51 (by decide) ?_
          refine hJ.icmp_le (tgt := 58) dX8_join_53 (by decide) (fun e19 => ?_) (fun e19 => ?_)
          · replace hF := ite_T e19 hF
            refine hJ.iconst (v := 0) dX8_join_58 (by decide) ?_
            refine hJ.istore_n (i := 3) (ls2 := [some (.inr (8, (some x0))), some (.inl x1), some (.inl x2), some (.inl (0 : Int32))]) dX8_join_59 rfl (by decide) rfl ?_
            refine hJ.forget (ls2 := [some (.inr (8, (some x0))), some (.inl x1), some (.inl x2), some (.inl (0 : Int32))]) ⟨rfl, rfl, rfl, rfl, trivial⟩ ?_
            refine t_X8_join_60 hJ (by decide) (by decide) (fun h39 hF => ?_) FU _ _ hF
            refine hJ.aload_n (i := 0) dX8_join_108 rfl rfl ?_
            refine hJ.getR dX8_join_109 f_RX8_77 rfl ?_
            refine hJ.iload_n (i := 1) dX8_join_112 rfl rfl ?_
            refine hJ.dup2 dX8_join_113 ?_
            replace hF := nn_S hF
            obtain ⟨n40, e41, hF⟩ := hF
            rw [e41]
            replace hF := ck_S hF
            obtain ⟨c42, hF⟩ := hF
            refine hJ.iald dX8_join_114 a_47 rfl c42 ?_
            refine hJ.aload_n (i := 0) dX8_join_115 rfl rfl ?_
            refine hJ.getR dX8_join_116 f_RX8_77 rfl ?_
            rw [e41]
            refine hJ.iload_n (i := 2) dX8_join_119 rfl rfl ?_
            replace hF := ck_S hF
            obtain ⟨c43, hF⟩ := hF
            refine hJ.iald dX8_join_120 a_47 rfl c43 ?_
            refine hJ.iadd dX8_join_121 ?_
            replace hF := ck_S hF
            obtain ⟨c44, hF⟩ := hF
            replace hF := lt_S hF
            obtain ⟨h45, eh46, hF⟩ := hF
            refine hJ.iast dX8_join_122 a_47 rfl c44 ?_
            rw [← eh46]
            refine hJ.aload_n (i := 0) dX8_join_123 rfl rfl ?_
            refine hJ.iload_n (i := 2) dX8_join_124 rfl rfl ?_
            replace hF := cl_S hF
            obtain ⟨r47, h48, ec49, hF⟩ := hF
            refine hJ.callV0 (as := [.inl x2]) (st := []) dX8_join_125 w_RX8_183 ⟨by decide, rfl⟩ rfl (c_X8_ends ec49) (by decide) (by decide) (by decide) rfl (Nat.le_of_ble_eq_true rfl) rfl ?_
            refine hJ.iconst (v := 1) dX8_join_128 (by decide) ?_
            obtain ⟨rfl, rfl⟩ := ret_S hF
            exact hR dX8_join_129 (by decide) (by decide) (by decide)
          · replace hF := ite_F e19 hF
            refine hJ.iconst (v := 0) dX8_join_56 (by decide) ?_
            obtain ⟨rfl, rfl⟩ := ret_S hF
            exact hR dX8_join_57 (by decide) (by decide) (by decide)

