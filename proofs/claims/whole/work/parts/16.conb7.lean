set_option maxHeartbeats 4000000 in
set_option maxRecDepth 100000 in
theorem t_X8_count_116 {β : Type} {J : JT} (hJ : Rules cX8_count RX8 4 1 0 0 False J) {a b : Nat} (ha : a ≤ 0) (hb : b ≤ 0) {v0 : Nat} {κ148 : Int32 → Hp → Option β} {out : β}
    (hk148 : ∀ (k2 : Int32) (h : Hp), κ148 k2 h = some out → J 148 [none, none, some (.inl k2), none] [] h a b)
    : ∀ (f : Nat) (v2 : Int32) (v3 : Int32) (h : Hp), L_X8_count_116 v0 κ148 f v2 v3 h = some out → J 116 [some (.inr (8, (some v0))), none, some (.inl v2), some (.inl v3)] [] h a b := by
  intro f
  induction f with
  | zero => intro v2 v3 h hF; simp [L_X8_count_116] at hF
  | succ f ih =>
    intro v2 v3 h hF
    rw [L_X8_count_116] at hF
    refine hJ.iload_n (i := 3) dX8_count_116 rfl rfl ?_
    refine hJ.aload_n (i := 0) dX8_count_117 rfl rfl ?_
    refine hJ.getI dX8_count_118 f_RX8_148 rfl ?_
    refine hJ.icmp_ge (tgt := 148) dX8_count_121 (by decide) (fun e16 => ?_) (fun e16 => ?_)
    · replace hF := ite_T e16 hF
      refine hJ.forget (ls2 := [none, none, some (.inl v2), none]) ⟨rfl, trivial⟩ ?_
      exact hk148 v2 h hF
    · replace hF := ite_F e16 hF
      refine hJ.iload_n (i := 2) dX8_count_124 rfl rfl ?_
      refine hJ.aload_n (i := 0) dX8_count_125 rfl rfl ?_
      refine hJ.getR dX8_count_126 f_RX8_50 rfl ?_
      refine hJ.iload_n (i := 3) dX8_count_129 rfl rfl ?_
      replace hF := nn_S hF
      obtain ⟨n17, e18, hF⟩ := hF
      rw [e18]
      replace hF := ck_S hF
      obtain ⟨c19, hF⟩ := hF
      refine hJ.iald dX8_count_130 a_38 rfl c19 ?_
      refine hJ.iconst (v := 3) dX8_count_131 (by decide) ?_
      refine hJ.icmp_ne (tgt := 139) dX8_count_132 (by decide) (fun e20 => ?_) (fun e20 => ?_)
      · replace hF := ite_F e20 hF
        refine hJ.iconst (v := 0) dX8_count_139 (by decide) ?_
        refine hJ.iadd dX8_count_140 ?_
        refine hJ.istore_n (i := 2) (ls2 := [some (.inr (8, (some v0))), none, some (.inl (v2 + (0 : Int32))), some (.inl v3)]) dX8_count_141 rfl (by decide) rfl ?_
        refine hJ.iinc (i := 3) (v := (v3 + (1 : Int32))) (ls2 := [some (.inr (8, (some v0))), none, some (.inl (v2 + (0 : Int32))), some (.inl (v3 + (1 : Int32)))]) dX8_count_142 rfl (addI (by decide)) (by decide) rfl ?_
        refine hJ.goto (tgt := 116) dX8_count_145 (by decide) ?_
        refine hJ.forget (ls2 := [some (.inr (8, (some v0))), none, some (.inl (v2 + (0 : Int32))), some (.inl (v3 + (1 : Int32)))]) ⟨rfl, rfl, rfl, trivial⟩ ?_
        exact ih (v2 + (0 : Int32)) (v3 + (1 : Int32)) h hF
      · replace hF := ite_T e20 hF
        refine hJ.iconst (v := 1) dX8_count_135 (by decide) ?_
        refine hJ.goto (tgt := 140) dX8_count_136 (by decide) ?_
        refine hJ.iadd dX8_count_140 ?_
        refine hJ.istore_n (i := 2) (ls2 := [some (.inr (8, (some v0))), none, some (.inl (v2 + (1 : Int32))), some (.inl v3)]) dX8_count_141 rfl (by decide) rfl ?_
        refine hJ.iinc (i := 3) (v := (v3 + (1 : Int32))) (ls2 := [some (.inr (8, (some v0))), none, some (.inl (v2 + (1 : Int32))), some (.inl (v3 + (1 : Int32)))]) dX8_count_142 rfl (addI (by decide)) (by decide) rfl ?_
        refine hJ.goto (tgt := 116) dX8_count_145 (by decide) ?_
        refine hJ.forget (ls2 := [some (.inr (8, (some v0))), none, some (.inl (v2 + (1 : Int32))), some (.inl (v3 + (1 : Int32)))]) ⟨rfl, rfl, rfl, trivial⟩ ?_
        exact ih (v2 + (1 : Int32)) (v3 + (1 : Int32)) h hF

set_option maxHeartbeats 4000000 in
set_option maxRecDepth 100000 in
theorem t_X8_count_80 {β : Type} {J : JT} (hJ : Rules cX8_count RX8 4 1 0 0 False J) {a b : Nat} (ha : a ≤ 0) (hb : b ≤ 0) {v0 : Nat} {κ112 : Int32 → Hp → Option β} {out : β}
    (hk112 : ∀ (k2 : Int32) (h : Hp), κ112 k2 h = some out → J 112 [none, none, some (.inl k2), none] [] h a b)
    : ∀ (f : Nat) (v2 : Int32) (v3 : Int32) (h : Hp), L_X8_count_80 v0 κ112 f v2 v3 h = some out → J 80 [some (.inr (8, (some v0))), none, some (.inl v2), some (.inl v3)] [] h a b := by
  intro f
  induction f with
  | zero => intro v2 v3 h hF; simp [L_X8_count_80] at hF
  | succ f ih =>
    intro v2 v3 h hF
    rw [L_X8_count_80] at hF
    refine hJ.iload_n (i := 3) dX8_count_80 rfl rfl ?_
    refine hJ.aload_n (i := 0) dX8_count_81 rfl rfl ?_
    refine hJ.getI dX8_count_82 f_RX8_148 rfl ?_
    refine hJ.icmp_ge (tgt := 112) dX8_count_85 (by decide) (fun e23 => ?_) (fun e23 => ?_)
    · replace hF := ite_T e23 hF
      refine hJ.forget (ls2 := [none, none, some (.inl v2), none]) ⟨rfl, trivial⟩ ?_
      exact hk112 v2 h hF
    · replace hF := ite_F e23 hF
      refine hJ.iload_n (i := 2) dX8_count_88 rfl rfl ?_
      refine hJ.aload_n (i := 0) dX8_count_89 rfl rfl ?_
      refine hJ.getR dX8_count_90 f_RX8_50 rfl ?_
      refine hJ.iload_n (i := 3) dX8_count_93 rfl rfl ?_
      replace hF := nn_S hF
      obtain ⟨n24, e25, hF⟩ := hF
      rw [e25]
      replace hF := ck_S hF
      obtain ⟨c26, hF⟩ := hF
      refine hJ.iald dX8_count_94 a_38 rfl c26 ?_
      refine hJ.iconst (v := 2) dX8_count_95 (by decide) ?_
      refine hJ.icmp_ne (tgt := 103) dX8_count_96 (by decide) (fun e27 => ?_) (fun e27 => ?_)
      · replace hF := ite_F e27 hF
        refine hJ.iconst (v := 0) dX8_count_103 (by decide) ?_
        refine hJ.iadd dX8_count_104 ?_
        refine hJ.istore_n (i := 2) (ls2 := [some (.inr (8, (some v0))), none, some (.inl (v2 + (0 : Int32))), some (.inl v3)]) dX8_count_105 rfl (by decide) rfl ?_
        refine hJ.iinc (i := 3) (v := (v3 + (1 : Int32))) (ls2 := [some (.inr (8, (some v0))), none, some (.inl (v2 + (0 : Int32))), some (.inl (v3 + (1 : Int32)))]) dX8_count_106 rfl (addI (by decide)) (by decide) rfl ?_
        refine hJ.goto (tgt := 80) dX8_count_109 (by decide) ?_
        refine hJ.forget (ls2 := [some (.inr (8, (some v0))), none, some (.inl (v2 + (0 : Int32))), some (.inl (v3 + (1 : Int32)))]) ⟨rfl, rfl, rfl, trivial⟩ ?_
        exact ih (v2 + (0 : Int32)) (v3 + (1 : Int32)) h hF
      · replace hF := ite_T e27 hF
        refine hJ.iconst (v := 1) dX8_count_99 (by decide) ?_
        refine hJ.goto (tgt := 104) dX8_count_100 (by decide) ?_
        refine hJ.iadd dX8_count_104 ?_
        refine hJ.istore_n (i := 2) (ls2 := [some (.inr (8, (some v0))), none, some (.inl (v2 + (1 : Int32))), some (.inl v3)]) dX8_count_105 rfl (by decide) rfl ?_
        refine hJ.iinc (i := 3) (v := (v3 + (1 : Int32))) (ls2 := [some (.inr (8, (some v0))), none, some (.inl (v2 + (1 : Int32))), some (.inl (v3 + (1 : Int32)))]) dX8_count_106 rfl (addI (by decide)) (by decide) rfl ?_
        refine hJ.goto (tgt := 80) dX8_count_109 (by decide) ?_
        refine hJ.forget (ls2 := [some (.inr (8, (some v0))), none, some (.inl (v2 + (1 : Int32))), some (.inl (v3 + (1 : Int32)))]) ⟨rfl, rfl, rfl, trivial⟩ ?_
        exact ih (v2 + (1 : Int32)) (v3 + (1 : Int32)) h hF

set_option maxHeartbeats 4000000 in
set_option maxRecDepth 100000 in
theorem c_X8_count {x0 : Nat} {x1 : Int32} {h hh : Hp} {xr : Int32} (hF : F_X8_count x0 x1 h = some (xr, hh)) : Ctr yX8_count cX8_count 4 (some .int) 1 0 0 [.inr (8, (some x0)), .inl x1] h (some (.inl xr)) hh := by
  refine Ctr_i (own := RX8) (ini := False) (ls0 := [some (.inr (8, (some x0))), some (.inl x1), none, none]) (by decide) rfl (Nat.le_of_ble_eq_true rfl) (fun e => e.elim) rfl ?_
  intro J hJ hR
  unfold F_X8_count at hF
  refine hJ.iconst (v := 0) dX8_count_0 (by decide) ?_
  refine hJ.istore_n (i := 2) (ls2 := [some (.inr (8, (some x0))), some (.inl x1), some (.inl (0 : Int32)), none]) dX8_count_1 rfl (by decide) rfl ?_
  refine hJ.iload_n (i := 1) dX8_count_2 rfl rfl ?_
  by_cases e1 : x1 = (0 : Int32)
  · replace hF := ite_T e1 hF
    refine hJ.tabIn (off := 45) (tgt := 48) dX8_count_3 (by rw [e1]; decide) (by rw [e1]; decide) (by rw [e1]; decide) (by decide) ?_
    refine hJ.aload_n (i := 0) dX8_count_48 rfl rfl ?_
    refine hJ.getI dX8_count_49 f_RX8_194 rfl ?_
    obtain ⟨rfl, rfl⟩ := ret_S hF
    exact hR dX8_count_52 (by decide) (by decide)
  · replace hF := ite_F e1 hF
    by_cases e2 : x1 = (1 : Int32)
    · replace hF := ite_T e2 hF
      refine hJ.tabIn (off := 50) (tgt := 53) dX8_count_3 (by rw [e2]; decide) (by rw [e2]; decide) (by rw [e2]; decide) (by decide) ?_
      refine hJ.aload_n (i := 0) dX8_count_53 rfl rfl ?_
      refine hJ.getI dX8_count_54 f_RX8_140 rfl ?_
      obtain ⟨rfl, rfl⟩ := ret_S hF
      exact hR dX8_count_57 (by decide) (by decide)
    · replace hF := ite_F e2 hF
      by_cases e3 : x1 = (2 : Int32)
      · replace hF := ite_T e3 hF
        refine hJ.tabIn (off := 55) (tgt := 58) dX8_count_3 (by rw [e3]; decide) (by rw [e3]; decide) (by rw [e3]; decide) (by decide) ?_
        refine hJ.aload_n (i := 0) dX8_count_58 rfl rfl ?_
        refine hJ.getI dX8_count_59 f_RX8_148 rfl ?_
        obtain ⟨rfl, rfl⟩ := ret_S hF
        exact hR dX8_count_62 (by decide) (by decide)
      · replace hF := ite_F e3 hF
        by_cases e4 : x1 = (3 : Int32)
        · replace hF := ite_T e4 hF
          refine hJ.tabIn (off := 60) (tgt := 63) dX8_count_3 (by rw [e4]; decide) (by rw [e4]; decide) (by rw [e4]; decide) (by decide) ?_
          refine hJ.aload_n (i := 0) dX8_count_63 rfl rfl ?_
          refine hJ.getI dX8_count_64 f_RX8_151 rfl ?_
          obtain ⟨rfl, rfl⟩ := ret_S hF
          exact hR dX8_count_67 (by decide) (by decide)
        · replace hF := ite_F e4 hF
          by_cases e5 : x1 = (4 : Int32)
          · replace hF := ite_T e5 hF
            refine hJ.tabIn (off := 65) (tgt := 68) dX8_count_3 (by rw [e5]; decide) (by rw [e5]; decide) (by rw [e5]; decide) (by decide) ?_
            refine hJ.aload_n (i := 0) dX8_count_68 rfl rfl ?_
            refine hJ.getI dX8_count_69 f_RX8_191 rfl ?_
            obtain ⟨rfl, rfl⟩ := ret_S hF
            exact hR dX8_count_72 (by decide) (by decide)
          · replace hF := ite_F e5 hF
            by_cases e6 : x1 = (5 : Int32)
            · replace hF := ite_T e6 hF
              refine hJ.tabIn (off := 70) (tgt := 73) dX8_count_3 (by rw [e6]; decide) (by rw [e6]; decide) (by rw [e6]; decide) (by decide) ?_
              refine hJ.aload_n (i := 0) dX8_count_73 rfl rfl ?_
              refine hJ.getI dX8_count_74 f_RX8_222 rfl ?_
              obtain ⟨rfl, rfl⟩ := ret_S hF
              exact hR dX8_count_77 (by decide) (by decide)
            · replace hF := ite_F e6 hF
              by_cases e7 : x1 = (6 : Int32)
              · replace hF := ite_T e7 hF
                refine hJ.tabIn (off := 75) (tgt := 78) dX8_count_3 (by rw [e7]; decide) (by rw [e7]; decide) (by rw [e7]; decide) (by decide) ?_
                refine hJ.iconst (v := 0) dX8_count_78 (by decide) ?_
                refine hJ.istore_n (i := 3) (ls2 := [some (.inr (8, (some x0))), some (.inl x1), some (.inl (0 : Int32)), some (.inl (0 : Int32))]) dX8_count_79 rfl (by decide) rfl ?_
                refine hJ.forget (ls2 := [some (.inr (8, (some x0))), none, some (.inl (0 : Int32)), some (.inl (0 : Int32))]) ⟨rfl, rfl, rfl, trivial⟩ ?_
                refine t_X8_count_80 hJ (by decide) (by decide) (fun k28 h29 hF => ?_) FU _ _ _ hF
                refine hJ.iload_n (i := 2) dX8_count_112 rfl rfl ?_
                obtain ⟨rfl, rfl⟩ := ret_S hF
                exact hR dX8_count_113 (by decide) (by decide)
              · replace hF := ite_F e7 hF
                by_cases e8 : x1 = (7 : Int32)
                · replace hF := ite_T e8 hF
                  refine hJ.tabIn (off := 111) (tgt := 114) dX8_count_3 (by rw [e8]; decide) (by rw [e8]; decide) (by rw [e8]; decide) (by decide) ?_
                  refine hJ.iconst (v := 0) dX8_count_114 (by decide) ?_
                  refine hJ.istore_n (i := 3) (ls2 := [some (.inr (8, (some x0))), some (.inl x1), some (.inl (0 : Int32)), some (.inl (0 : Int32))]) dX8_count_115 rfl (by decide) rfl ?_
                  refine hJ.forget (ls2 := [some (.inr (8, (some x0))), none, some (.inl (0 : Int32)), some (.inl (0 : Int32))]) ⟨rfl, rfl, rfl, trivial⟩ ?_
                  refine t_X8_count_116 hJ (by decide) (by decide) (fun k21 h22 hF => ?_) FU _ _ _ hF
                  refine hJ.iload_n (i := 2) dX8_count_148 rfl rfl ?_
                  obtain ⟨rfl, rfl⟩ := ret_S hF
                  exact hR dX8_count_149 (by decide) (by decide)
                · replace hF := ite_F e8 hF
                  have z0 : (x1).toInt ≠ 0 := i32_ne e1
                  have z1 : (x1).toInt ≠ 1 := i32_ne e2
                  have z2 : (x1).toInt ≠ 2 := i32_ne e3
                  have z3 : (x1).toInt ≠ 3 := i32_ne e4
                  have z4 : (x1).toInt ≠ 4 := i32_ne e5
                  have z5 : (x1).toInt ≠ 5 := i32_ne e6
                  have z6 : (x1).toInt ≠ 6 := i32_ne e7
                  have z7 : (x1).toInt ≠ 7 := i32_ne e8
                  refine hJ.tabOut (tgt := 150) dX8_count_3 (by omega) (by decide) ?_
                  refine hJ.iload_n (i := 1) dX8_count_150 rfl rfl ?_
                  refine hJ.bipush (v := 100) dX8_count_151 (by decide) ?_
                  refine hJ.bipush (v := 99) dX8_count_153 (by decide) ?_
                  refine hJ.aload_n (i := 0) dX8_count_155 rfl rfl ?_
                  refine hJ.getI dX8_count_156 f_RX8_140 rfl ?_
                  refine hJ.iadd dX8_count_159 ?_
                  replace hF := cl_S hF
                  obtain ⟨r9, h10, ec11, hF⟩ := hF
                  refine hJ.callS (as := [.inl x1, .inl (100 : Int32), .inl ((99 : Int32) + (pI h 8 x0 1))]) (st := []) dX8_count_160 w_RX8_144 (c_X8_in ec11) (by decide) (by decide) (by decide) rfl (Nat.le_of_ble_eq_true rfl) rfl ?_
                  refine hJ.if_eq (tgt := 178) dX8_count_163 (by decide) (fun e12 => ?_) (fun e12 => ?_)
                  · replace hF := ite_T e12 hF
                    refine hJ.iconst (v := -1) dX8_count_178 (by decide) ?_
                    obtain ⟨rfl, rfl⟩ := ret_S hF
                    exact hR dX8_count_179 (by decide) (by decide)
                  · replace hF := ite_F e12 hF
                    refine hJ.aload_n (i := 0) dX8_count_166 rfl rfl ?_
                    refine hJ.getR dX8_count_167 f_RX8_25 rfl ?_
                    refine hJ.iload_n (i := 1) dX8_count_170 rfl rfl ?_
                    refine hJ.bipush (v := 100) dX8_count_171 (by decide) ?_
                    refine hJ.isub dX8_count_173 ?_
                    replace hF := nn_S hF
                    obtain ⟨n13, e14, hF⟩ := hF
                    rw [e14]
                    replace hF := ck_S hF
                    obtain ⟨c15, hF⟩ := hF
                    refine hJ.iald dX8_count_174 a_30 rfl c15 ?_
                    refine hJ.goto (tgt := 179) dX8_count_175 (by decide) ?_
                    obtain ⟨rfl, rfl⟩ := ret_S hF
                    exact hR dX8_count_179 (by decide) (by decide)

