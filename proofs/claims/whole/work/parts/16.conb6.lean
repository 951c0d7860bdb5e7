set_option maxHeartbeats 4000000 in
set_option maxRecDepth 100000 in
theorem t_X8_tries_20 {β : Type} {J : JT} (hJ : Rules cX8_tries RX8 8 2 0 0 False J) {a b : Nat} (ha : a ≤ 0) (hb : b ≤ 0) {v0 : Nat} {v1 : Int32} {κ105 : Int32 → Hp → Option β} {κ87 : Hp → Option β} {out : β}
    (hk105 : ∀ (k2 : Int32) (h : Hp), κ105 k2 h = some out → J 105 [some (.inr (8, (some v0))), some (.inl v1), some (.inl k2), none, none, none, none, none] [] h a b)
    (hk87 : ∀ (h : Hp), κ87 h = some out → J 87 [none, none, none, none, none, none, none, none] [] h a b)
    : ∀ (f : Nat) (v2 : Int32) (v3 : Int32) (h : Hp), L_X8_tries_20 v0 v1 κ105 κ87 f v2 v3 h = some out → J 20 [some (.inr (8, (some v0))), some (.inl v1), some (.inl v2), some (.inl v3), none, none, none, none] [] h a b := by
  intro f
  induction f with
  | zero => intro v2 v3 h hF; simp [L_X8_tries_20] at hF
  | succ f ih =>
    intro v2 v3 h hF
    rw [L_X8_tries_20] at hF
    refine hJ.iload_n (i := 3) dX8_tries_20 rfl rfl ?_
    refine hJ.aload_n (i := 0) dX8_tries_21 rfl rfl ?_
    refine hJ.getI dX8_tries_22 f_RX8_151 rfl ?_
    refine hJ.icmp_ge (tgt := 105) dX8_tries_25 (by decide) (fun e5 => ?_) (fun e5 => ?_)
    · replace hF := ite_T e5 hF
      refine hJ.forget (ls2 := [some (.inr (8, (some v0))), some (.inl v1), some (.inl v2), none, none, none, none, none]) ⟨rfl, rfl, rfl, trivial⟩ ?_
      exact hk105 v2 h hF
    · replace hF := ite_F e5 hF
      refine hJ.aload_n (i := 0) dX8_tries_28 rfl rfl ?_
      refine hJ.getR dX8_tries_29 f_RX8_71 rfl ?_
      refine hJ.iload_n (i := 3) dX8_tries_32 rfl rfl ?_
      replace hF := nn_S hF
      obtain ⟨n6, e7, hF⟩ := hF
      rw [e7]
      replace hF := ck_S hF
      obtain ⟨c8, hF⟩ := hF
      refine hJ.iald dX8_tries_33 a_45 rfl c8 ?_
      refine hJ.iconst (v := 1) dX8_tries_34 (by decide) ?_
      refine hJ.icmp_ne (tgt := 99) dX8_tries_35 (by decide) (fun e9 => ?_) (fun e9 => ?_)
      · replace hF := ite_F e9 hF
        refine hJ.iinc (i := 3) (v := (v3 + (1 : Int32))) (ls2 := [some (.inr (8, (some v0))), some (.inl v1), some (.inl v2), some (.inl (v3 + (1 : Int32))), none, none, none, none]) dX8_tries_99 rfl (addI (by decide)) (by decide) rfl ?_
        refine hJ.goto (tgt := 20) dX8_tries_102 (by decide) ?_
        refine hJ.forget (ls2 := [some (.inr (8, (some v0))), some (.inl v1), some (.inl v2), some (.inl (v3 + (1 : Int32))), none, none, none, none]) ⟨rfl, rfl, rfl, rfl, trivial⟩ ?_
        exact ih v2 (v3 + (1 : Int32)) h hF
      · replace hF := ite_T e9 hF
        refine hJ.aload_n (i := 0) dX8_tries_38 rfl rfl ?_
        refine hJ.getR dX8_tries_39 f_RX8_74 rfl ?_
        refine hJ.iload_n (i := 3) dX8_tries_42 rfl rfl ?_
        replace hF := nn_S hF
        obtain ⟨n10, e11, hF⟩ := hF
        rw [e11]
        replace hF := ck_S hF
        obtain ⟨c12, hF⟩ := hF
        refine hJ.iald dX8_tries_43 a_46 rfl c12 ?_
        refine hJ.iload_n (i := 1) dX8_tries_44 rfl rfl ?_
        refine hJ.icmp_ne (tgt := 99) dX8_tries_45 (by decide) (fun e13 => ?_) (fun e13 => ?_)
        · replace hF := ite_F e13 hF
          refine hJ.iinc (i := 3) (v := (v3 + (1 : Int32))) (ls2 := [some (.inr (8, (some v0))), some (.inl v1), some (.inl v2), some (.inl (v3 + (1 : Int32))), none, none, none, none]) dX8_tries_99 rfl (addI (by decide)) (by decide) rfl ?_
          refine hJ.goto (tgt := 20) dX8_tries_102 (by decide) ?_
          refine hJ.forget (ls2 := [some (.inr (8, (some v0))), some (.inl v1), some (.inl v2), some (.inl (v3 + (1 : Int32))), none, none, none, none]) ⟨rfl, rfl, rfl, rfl, trivial⟩ ?_
          exact ih v2 (v3 + (1 : Int32)) h hF
        · replace hF := ite_T e13 hF
          refine hJ.aload_n (i := 0) dX8_tries_48 rfl rfl ?_
          refine hJ.iload_n (i := 3) dX8_tries_49 rfl rfl ?_
          replace hF := cl_S hF
          obtain ⟨r14, h15, ec16, hF⟩ := hF
          refine hJ.callV (as := [.inl v3]) (st := []) dX8_tries_50 w_RX8_213 ⟨by decide, rfl⟩ rfl (c_X8_width ec16) (by decide) ha hb rfl (Nat.le_of_ble_eq_true rfl) rfl ?_
          refine hJ.aload_n (i := 0) dX8_tries_53 rfl rfl ?_
          refine hJ.getR dX8_tries_54 f_RX8_16 rfl ?_
          refine hJ.iload_n (i := 1) dX8_tries_57 rfl rfl ?_
          replace hF := nn_S hF
          obtain ⟨n17, e18, hF⟩ := hF
          rw [e18]
          replace hF := ck_S hF
          obtain ⟨c19, hF⟩ := hF
          refine hJ.iald dX8_tries_58 a_27 rfl c19 ?_
          refine hJ.icmp_gt (tgt := 99) dX8_tries_59 (by decide) (fun e20 => ?_) (fun e20 => ?_)
          · replace hF := ite_T e20 hF
            refine hJ.iinc (i := 3) (v := (v3 + (1 : Int32))) (ls2 := [some (.inr (8, (some v0))), some (.inl v1), some (.inl v2), some (.inl (v3 + (1 : Int32))), none, none, none, none]) dX8_tries_99 rfl (addI (by decide)) (by decide) rfl ?_
            refine hJ.goto (tgt := 20) dX8_tries_102 (by decide) ?_
            refine hJ.forget (ls2 := [some (.inr (8, (some v0))), some (.inl v1), some (.inl v2), some (.inl (v3 + (1 : Int32))), none, none, none, none]) ⟨rfl, rfl, rfl, rfl, trivial⟩ ?_
            exact ih v2 (v3 + (1 : Int32)) h15 hF
          · replace hF := ite_F e20 hF
            refine hJ.iconst (v := 5) dX8_tries_62 (by decide) ?_
            refine hJ.aload_n (i := 0) dX8_tries_63 rfl rfl ?_
            refine hJ.getR dX8_tries_64 f_RX8_77 rfl ?_
            refine hJ.iload_n (i := 3) dX8_tries_67 rfl rfl ?_
            replace hF := nn_S hF
            obtain ⟨n21, e22, hF⟩ := hF
            rw [e22]
            replace hF := ck_S hF
            obtain ⟨c23, hF⟩ := hF
            refine hJ.iald dX8_tries_68 a_47 rfl c23 ?_
            refine hJ.imul dX8_tries_69 ?_
            refine hJ.aload_n (i := 0) dX8_tries_70 rfl rfl ?_
            refine hJ.getR dX8_tries_71 f_RX8_22 rfl ?_
            refine hJ.iload_n (i := 1) dX8_tries_74 rfl rfl ?_
            replace hF := nn_S hF
            obtain ⟨n24, e25, hF⟩ := hF
            rw [e25]
            replace hF := ck_S hF
            obtain ⟨c26, hF⟩ := hF
            refine hJ.iald dX8_tries_75 a_29 rfl c26 ?_
            refine hJ.icmp_le (tgt := 82) dX8_tries_76 (by decide) (fun e27 => ?_) (fun e27 => ?_)
            · replace hF := ite_T e27 hF
              refine hJ.iload_n (i := 2) dX8_tries_82 rfl rfl ?_
              refine hJ.iconst (v := 5) dX8_tries_83 (by decide) ?_
              refine hJ.icmp_ne (tgt := 89) dX8_tries_84 (by decide) (fun e28 => ?_) (fun e28 => ?_)
              · replace hF := ite_F e28 hF
                refine hJ.aload_n (i := 0) dX8_tries_89 rfl rfl ?_
                refine hJ.getR dX8_tries_90 f_RX8_125 rfl ?_
                refine hJ.iload_n (i := 2) dX8_tries_93 rfl rfl ?_
                refine hJ.iload_n (i := 3) dX8_tries_94 rfl rfl ?_
                replace hF := nn_S hF
                obtain ⟨n29, e30, hF⟩ := hF
                rw [e30]
                replace hF := ck_S hF
                obtain ⟨c31, hF⟩ := hF
                replace hF := lt_S hF
                obtain ⟨h32, eh33, hF⟩ := hF
                refine hJ.iast dX8_tries_95 a_63 rfl c31 ?_
                rw [← eh33]
                refine hJ.iinc (i := 2) (v := (v2 + (1 : Int32))) (ls2 := [some (.inr (8, (some v0))), some (.inl v1), some (.inl (v2 + (1 : Int32))), some (.inl v3), none, none, none, none]) dX8_tries_96 rfl (addI (by decide)) (by decide) rfl ?_
                refine hJ.iinc (i := 3) (v := (v3 + (1 : Int32))) (ls2 := [some (.inr (8, (some v0))), some (.inl v1), some (.inl (v2 + (1 : Int32))), some (.inl (v3 + (1 : Int32))), none, none, none, none]) dX8_tries_99 rfl (addI (by decide)) (by decide) rfl ?_
                refine hJ.goto (tgt := 20) dX8_tries_102 (by decide) ?_
                refine hJ.forget (ls2 := [some (.inr (8, (some v0))), some (.inl v1), some (.inl (v2 + (1 : Int32))), some (.inl (v3 + (1 : Int32))), none, none, none, none]) ⟨rfl, rfl, rfl, rfl, trivial⟩ ?_
                exact ih (v2 + (1 : Int32)) (v3 + (1 : Int32)) h32 hF
              · replace hF := ite_T e28 hF
                refine hJ.forget (ls2 := [none, none, none, none, none, none, none, none]) trivial ?_
                exact hk87 h15 hF
            · replace hF := ite_F e27 hF
              refine hJ.goto (tgt := 99) dX8_tries_79 (by decide) ?_
              refine hJ.iinc (i := 3) (v := (v3 + (1 : Int32))) (ls2 := [some (.inr (8, (some v0))), some (.inl v1), some (.inl v2), some (.inl (v3 + (1 : Int32))), none, none, none, none]) dX8_tries_99 rfl (addI (by decide)) (by decide) rfl ?_
              refine hJ.goto (tgt := 20) dX8_tries_102 (by decide) ?_
              refine hJ.forget (ls2 := [some (.inr (8, (some v0))), some (.inl v1), some (.inl v2), some (.inl (v3 + (1 : Int32))), none, none, none, none]) ⟨rfl, rfl, rfl, rfl, trivial⟩ ?_
              exact ih v2 (v3 + (1 : Int32)) h15 hF

set_option maxHeartbeats 4000000 in
set_option maxRecDepth 100000 in
theorem t_X8_tries_118 {β : Type} {J : JT} (hJ : Rules cX8_tries RX8 8 2 0 0 False J) {a b : Nat} (ha : a ≤ 0) (hb : b ≤ 0) {v0 : Nat} {v1 : Int32} {v2 : Int32} {κ135 : Int32 → Hp → Option β} {out : β}
    (hk135 : ∀ (k3 : Int32) (h : Hp), κ135 k3 h = some out → J 135 [some (.inr (8, (some v0))), some (.inl v1), some (.inl v2), some (.inl k3), none, none, none, none] [] h a b)
    : ∀ (f : Nat) (v3 : Int32) (v4 : Int32) (h : Hp), L_X8_tries_118 v0 v1 v2 κ135 f v3 v4 h = some out → J 118 [some (.inr (8, (some v0))), some (.inl v1), some (.inl v2), some (.inl v3), some (.inl v4), none, none, none] [] h a b := by
  intro f
  induction f with
  | zero => intro v3 v4 h hF; simp [L_X8_tries_118] at hF
  | succ f ih =>
    intro v3 v4 h hF
    rw [L_X8_tries_118] at hF
    refine hJ.iload (i := 4) dX8_tries_118 rfl ?_
    refine hJ.iload_n (i := 2) dX8_tries_120 rfl rfl ?_
    refine hJ.icmp_gt (tgt := 135) dX8_tries_121 (by decide) (fun e37 => ?_) (fun e37 => ?_)
    · replace hF := ite_T e37 hF
      refine hJ.forget (ls2 := [some (.inr (8, (some v0))), some (.inl v1), some (.inl v2), some (.inl v3), none, none, none, none]) ⟨rfl, rfl, rfl, rfl, trivial⟩ ?_
      exact hk135 v3 h hF
    · replace hF := ite_F e37 hF
      refine hJ.iload_n (i := 3) dX8_tries_124 rfl rfl ?_
      refine hJ.iload (i := 4) dX8_tries_125 rfl ?_
      refine hJ.imul dX8_tries_127 ?_
      refine hJ.istore_n (i := 3) (ls2 := [some (.inr (8, (some v0))), some (.inl v1), some (.inl v2), some (.inl (v3 * v4)), some (.inl v4), none, none, none]) dX8_tries_128 rfl (by decide) rfl ?_
      refine hJ.iinc (i := 4) (v := (v4 + (1 : Int32))) (ls2 := [some (.inr (8, (some v0))), some (.inl v1), some (.inl v2), some (.inl (v3 * v4)), some (.inl (v4 + (1 : Int32))), none, none, none]) dX8_tries_129 rfl (addI (by decide)) (by decide) rfl ?_
      refine hJ.goto (tgt := 118) dX8_tries_132 (by decide) ?_
      refine hJ.forget (ls2 := [some (.inr (8, (some v0))), some (.inl v1), some (.inl v2), some (.inl (v3 * v4)), some (.inl (v4 + (1 : Int32))), none, none, none]) ⟨rfl, rfl, rfl, rfl, rfl, trivial⟩ ?_
      exact ih (v3 * v4) (v4 + (1 : Int32)) h hF

set_option maxHeartbeats 4000000 in
set_option maxRecDepth 100000 in
theorem t_X8_tries_191 {β : Type} {J : JT} (hJ : Rules cX8_tries RX8 8 2 0 0 False J) {a b : Nat} (ha : a ≤ 0) (hb : b ≤ 0) {v0 : Nat} {v1 : Int32} {v2 : Int32} {v3 : Int32} {v4 : Int32} {v5 : Int32} {κ236 : Hp → Option β} {out : β}
    (hk236 : ∀ (h : Hp), κ236 h = some out → J 236 [some (.inr (8, (some v0))), some (.inl v1), some (.inl v2), some (.inl v3), some (.inl v4), some (.inl v5), none, none] [] h a b)
    : ∀ (f : Nat) (v7 : Int32) (h : Hp), L_X8_tries_191 v0 v1 v2 v3 v4 v5 κ236 f v7 h = some out → J 191 [some (.inr (8, (some v0))), some (.inl v1), some (.inl v2), some (.inl v3), some (.inl v4), some (.inl v5), none, some (.inl v7)] [] h a b := by
  intro f
  induction f with
  | zero => intro v7 h hF; simp [L_X8_tries_191] at hF
  | succ f ih =>
    intro v7 h hF
    rw [L_X8_tries_191] at hF
    refine hJ.iload (i := 7) dX8_tries_191 rfl ?_
    refine hJ.iload_n (i := 2) dX8_tries_193 rfl rfl ?_
    refine hJ.icmp_ge (tgt := 236) dX8_tries_194 (by decide) (fun e49 => ?_) (fun e49 => ?_)
    · replace hF := ite_T e49 hF
      refine hJ.forget (ls2 := [some (.inr (8, (some v0))), some (.inl v1), some (.inl v2), some (.inl v3), some (.inl v4), some (.inl v5), none, none]) ⟨rfl, rfl, rfl, rfl, rfl, rfl, trivial⟩ ?_
      exact hk236 h hF
    · replace hF := ite_F e49 hF
      refine hJ.aload_n (i := 0) dX8_tries_197 rfl rfl ?_
      refine hJ.getR dX8_tries_198 f_RX8_134 rfl ?_
      refine hJ.iload (i := 7) dX8_tries_201 rfl ?_
      refine hJ.aload_n (i := 0) dX8_tries_203 rfl rfl ?_
      refine hJ.getR dX8_tries_204 f_RX8_125 rfl ?_
      refine hJ.aload_n (i := 0) dX8_tries_207 rfl rfl ?_
      refine hJ.getR dX8_tries_208 f_RX8_128 rfl ?_
      refine hJ.iload (i := 7) dX8_tries_211 rfl ?_
      replace hF := nn_S hF
      obtain ⟨n50, e51, hF⟩ := hF
      rw [e51]
      replace hF := ck_S hF
      obtain ⟨c52, hF⟩ := hF
      refine hJ.iald dX8_tries_213 a_64 rfl c52 ?_
      replace hF := nn_S hF
      obtain ⟨n53, e54, hF⟩ := hF
      rw [e54]
      replace hF := ck_S hF
      obtain ⟨c55, hF⟩ := hF
      refine hJ.iald dX8_tries_214 a_63 rfl c55 ?_
      replace hF := nn_S hF
      obtain ⟨n56, e57, hF⟩ := hF
      rw [e57]
      replace hF := ck_S hF
      obtain ⟨c58, hF⟩ := hF
      replace hF := lt_S hF
      obtain ⟨h59, eh60, hF⟩ := hF
      refine hJ.iast dX8_tries_215 a_66 rfl c58 ?_
      rw [← eh60]
      refine hJ.aload_n (i := 0) dX8_tries_216 rfl rfl ?_
      refine hJ.getR dX8_tries_217 f_RX8_137 rfl ?_
      refine hJ.iload (i := 7) dX8_tries_220 rfl ?_
      refine hJ.aload_n (i := 0) dX8_tries_222 rfl rfl ?_
      refine hJ.getR dX8_tries_223 f_RX8_131 rfl ?_
      refine hJ.iload (i := 7) dX8_tries_226 rfl ?_
      replace hF := nn_S hF
      obtain ⟨n61, e62, hF⟩ := hF
      rw [e62]
      replace hF := ck_S hF
      obtain ⟨c63, hF⟩ := hF
      refine hJ.iald dX8_tries_228 a_65 rfl c63 ?_
      replace hF := nn_S hF
      obtain ⟨n64, e65, hF⟩ := hF
      rw [e65]
      replace hF := ck_S hF
      obtain ⟨c66, hF⟩ := hF
      replace hF := lt_S hF
      obtain ⟨h67, eh68, hF⟩ := hF
      refine hJ.iast dX8_tries_229 a_67 rfl c66 ?_
      rw [← eh68]
      refine hJ.iinc (i := 7) (v := (v7 + (1 : Int32))) (ls2 := [some (.inr (8, (some v0))), some (.inl v1), some (.inl v2), some (.inl v3), some (.inl v4), some (.inl v5), none, some (.inl (v7 + (1 : Int32)))]) dX8_tries_230 rfl (addI (by decide)) (by decide) rfl ?_
      refine hJ.goto (tgt := 191) dX8_tries_233 (by decide) ?_
      refine hJ.forget (ls2 := [some (.inr (8, (some v0))), some (.inl v1), some (.inl v2), some (.inl v3), some (.inl v4), some (.inl v5), none, some (.inl (v7 + (1 : Int32)))]) ⟨rfl, rfl, rfl, rfl, rfl, rfl, rfl, trivial⟩ ?_
      exact ih (v7 + (1 : Int32)) h67 hF

set_option maxHeartbeats 4000000 in
set_option maxRecDepth 100000 in
theorem t_X8_tries_141 {β : Type} {J : JT} (hJ : Rules cX8_tries RX8 8 2 0 0 False J) {a b : Nat} (ha : a ≤ 0) (hb : b ≤ 0) {v0 : Nat} {v1 : Int32} {v2 : Int32} {v3 : Int32} {κ242 : Int32 → Hp → Option β} {out : β}
    (hk242 : ∀ (k4 : Int32) (h : Hp), κ242 k4 h = some out → J 242 [none, none, some (.inl v2), none, some (.inl k4), none, none, none] [] h a b)
    : ∀ (f : Nat) (v4 : Int32) (v5 : Int32) (h : Hp), L_X8_tries_141 v0 v1 v2 v3 κ242 f v4 v5 h = some out → J 141 [some (.inr (8, (some v0))), some (.inl v1), some (.inl v2), some (.inl v3), some (.inl v4), some (.inl v5), none, none] [] h a b := by
  intro f
  induction f with
  | zero => intro v4 v5 h hF; simp [L_X8_tries_141] at hF
  | succ f ih =>
    intro v4 v5 h hF
    rw [L_X8_tries_141] at hF
    refine hJ.iload (i := 5) dX8_tries_141 rfl ?_
    refine hJ.iload_n (i := 3) dX8_tries_143 rfl rfl ?_
    refine hJ.icmp_ge (tgt := 242) dX8_tries_144 (by decide) (fun e40 => ?_) (fun e40 => ?_)
    · replace hF := ite_T e40 hF
      refine hJ.forget (ls2 := [none, none, some (.inl v2), none, some (.inl v4), none, none, none]) ⟨rfl, rfl, trivial⟩ ?_
      exact hk242 v4 h hF
    · replace hF := ite_F e40 hF
      refine hJ.aload_n (i := 0) dX8_tries_147 rfl rfl ?_
      refine hJ.iload (i := 5) dX8_tries_148 rfl ?_
      refine hJ.iload_n (i := 2) dX8_tries_150 rfl rfl ?_
      replace hF := cl_S hF
      obtain ⟨r41, h42, ec43, hF⟩ := hF
      refine hJ.callV0 (as := [.inl v5, .inl v2]) (st := []) dX8_tries_151 w_RX8_239 ⟨by decide, rfl⟩ rfl (c_X8_orders ec43) (by decide) ha hb rfl (Nat.le_of_ble_eq_true rfl) rfl ?_
      refine hJ.aload_n (i := 0) dX8_tries_154 rfl rfl ?_
      refine hJ.iload_n (i := 1) dX8_tries_155 rfl rfl ?_
      refine hJ.iload_n (i := 2) dX8_tries_156 rfl rfl ?_
      replace hF := cl_S hF
      obtain ⟨r44, h45, ec46, hF⟩ := hF
      refine hJ.callV (as := [.inl v1, .inl v2]) (st := []) dX8_tries_157 w_RX8_242 ⟨by decide, rfl⟩ rfl (c_X8_sumOf ec46) (by decide) ha hb rfl (Nat.le_of_ble_eq_true rfl) rfl ?_
      refine hJ.istore (i := 6) (ls2 := [some (.inr (8, (some v0))), some (.inl v1), some (.inl v2), some (.inl v3), some (.inl v4), some (.inl v5), some (.inl r44), none]) dX8_tries_160 (by decide) rfl ?_
      refine hJ.iload (i := 6) dX8_tries_162 rfl ?_
      refine hJ.iconst (v := -1) dX8_tries_164 (by decide) ?_
      refine hJ.icmp_eq (tgt := 236) dX8_tries_165 (by decide) (fun e47 => ?_) (fun e47 => ?_)
      · replace hF := ite_T e47 hF
        refine hJ.iinc (i := 5) (v := (v5 + (1 : Int32))) (ls2 := [some (.inr (8, (some v0))), some (.inl v1), some (.inl v2), some (.inl v3), some (.inl v4), some (.inl (v5 + (1 : Int32))), some (.inl r44), none]) dX8_tries_236 rfl (addI (by decide)) (by decide) rfl ?_
        refine hJ.goto (tgt := 141) dX8_tries_239 (by decide) ?_
        refine hJ.forget (ls2 := [some (.inr (8, (some v0))), some (.inl v1), some (.inl v2), some (.inl v3), some (.inl v4), some (.inl (v5 + (1 : Int32))), none, none]) ⟨rfl, rfl, rfl, rfl, rfl, rfl, trivial⟩ ?_
        exact ih v4 (v5 + (1 : Int32)) h45 hF
      · replace hF := ite_F e47 hF
        refine hJ.iload (i := 4) dX8_tries_168 rfl ?_
        refine hJ.iconst (v := -1) dX8_tries_170 (by decide) ?_
        refine hJ.icmp_eq (tgt := 184) dX8_tries_171 (by decide) (fun e48 => ?_) (fun e48 => ?_)
        · replace hF := ite_T e48 hF
          refine hJ.iload (i := 6) dX8_tries_184 rfl ?_
          refine hJ.istore (i := 4) (ls2 := [some (.inr (8, (some v0))), some (.inl v1), some (.inl v2), some (.inl v3), some (.inl r44), some (.inl v5), some (.inl r44), none]) dX8_tries_186 (by decide) rfl ?_
          refine hJ.iconst (v := 0) dX8_tries_188 (by decide) ?_
          refine hJ.istore (i := 7) (ls2 := [some (.inr (8, (some v0))), some (.inl v1), some (.inl v2), some (.inl v3), some (.inl r44), some (.inl v5), some (.inl r44), some (.inl (0 : Int32))]) dX8_tries_189 (by decide) rfl ?_
          refine hJ.forget (ls2 := [some (.inr (8, (some v0))), some (.inl v1), some (.inl v2), some (.inl v3), some (.inl r44), some (.inl v5), none, some (.inl (0 : Int32))]) ⟨rfl, rfl, rfl, rfl, rfl, rfl, rfl, trivial⟩ ?_
          refine t_X8_tries_191 hJ ha hb (fun h69 hF => ?_) FU _ _ hF
          refine hJ.iinc (i := 5) (v := (v5 + (1 : Int32))) (ls2 := [some (.inr (8, (some v0))), some (.inl v1), some (.inl v2), some (.inl v3), some (.inl r44), some (.inl (v5 + (1 : Int32))), none, none]) dX8_tries_236 rfl (addI (by decide)) (by decide) rfl ?_
          refine hJ.goto (tgt := 141) dX8_tries_239 (by decide) ?_
          refine hJ.forget (ls2 := [some (.inr (8, (some v0))), some (.inl v1), some (.inl v2), some (.inl v3), some (.inl r44), some (.inl (v5 + (1 : Int32))), none, none]) ⟨rfl, rfl, rfl, rfl, rfl, rfl, trivial⟩ ?_
          exact ih r44 (v5 + (1 : Int32)) h69 hF
        · replace hF := ite_F e48 hF
          refine hJ.iload (i := 6) dX8_tries_174 rfl ?_
          refine hJ.iload (i := 4) dX8_tries_176 rfl ?_
          refine hJ.icmp_lt (tgt := 184) dX8_tries_178 (by decide) (fun e70 => ?_) (fun e70 => ?_)
          · replace hF := ite_T e70 hF
            refine hJ.iload (i := 6) dX8_tries_184 rfl ?_
            refine hJ.istore (i := 4) (ls2 := [some (.inr (8, (some v0))), some (.inl v1), some (.inl v2), some (.inl v3), some (.inl r44), some (.inl v5), some (.inl r44), none]) dX8_tries_186 (by decide) rfl ?_
            refine hJ.iconst (v := 0) dX8_tries_188 (by decide) ?_
            refine hJ.istore (i := 7) (ls2 := [some (.inr (8, (some v0))), some (.inl v1), some (.inl v2), some (.inl v3), some (.inl r44), some (.inl v5), some (.inl r44), some (.inl (0 : Int32))]) dX8_tries_189 (by decide) rfl ?_
            refine hJ.forget (ls2 := [some (.inr (8, (some v0))), some (.inl v1), some (.inl v2), some (.inl v3), some (.inl r44), some (.inl v5), none, some (.inl (0 : Int32))]) ⟨rfl, rfl, rfl, rfl, rfl, rfl, rfl, trivial⟩ ?_
            refine t_X8_tries_191 hJ ha hb (fun h71 hF => ?_) FU _ _ hF
            refine hJ.iinc (i := 5) (v := (v5 + (1 : Int32))) (ls2 := [some (.inr (8, (some v0))), some (.inl v1), some (.inl v2), some (.inl v3), some (.inl r44), some (.inl (v5 + (1 : Int32))), none, none]) dX8_tries_236 rfl (addI (by decide)) (by decide) rfl ?_
            refine hJ.goto (tgt := 141) dX8_tries_239 (by decide) ?_
            refine hJ.forget (ls2 := [some (.inr (8, (some v0))), some (.inl v1), some (.inl v2), some (.inl v3), some (.inl r44), some (.inl (v5 + (1 : Int32))), none, none]) ⟨rfl, rfl, rfl, rfl, rfl, rfl, trivial⟩ ?_
            exact ih r44 (v5 + (1 : Int32)) h71 hF
          · replace hF := ite_F e70 hF
            refine hJ.goto (tgt := 236) dX8_tries_181 (by decide) ?_
            refine hJ.iinc (i := 5) (v := (v5 + (1 : Int32))) (ls2 := [some (.inr (8, (some v0))), some (.inl v1), some (.inl v2), some (.inl v3), some (.inl v4), some (.inl (v5 + (1 : Int32))), some (.inl r44), none]) dX8_tries_236 rfl (addI (by decide)) (by decide) rfl ?_
            refine hJ.goto (tgt := 141) dX8_tries_239 (by decide) ?_
            refine hJ.forget (ls2 := [some (.inr (8, (some v0))), some (.inl v1), some (.inl v2), some (.inl v3), some (.inl v4), some (.inl (v5 + (1 : Int32))), none, none]) ⟨rfl, rfl, rfl, rfl, rfl, rfl, trivial⟩ ?_
            exact ih v4 (v5 + (1 : Int32)) h45 hF

set_option maxHeartbeats 4000000 in
set_option maxRecDepth 100000 in
theorem c_X8_tries {x0 : Nat} {x1 : Int32} {h hh : Hp} {xr : Int32} (hF : F_X8_tries x0 x1 h = some (xr, hh)) : Ctr yX8_tries cX8_tries 8 (some .int) 2 0 0 [.inr (8, (some x0)), .inl x1] h (some (.inl xr)) hh := by
  refine Ctr_i (own := RX8) (ini := False) (ls0 := [some (.inr (8, (some x0))), some (.inl x1), none, none, none, none, none, none]) (by decide) rfl (Nat.le_of_ble_eq_true rfl) (fun e => e.elim) rfl ?_
  intro J hJ hR
  unfold F_X8_tries at hF
  refine hJ.iload_n (i := 1) dX8_tries_0 rfl rfl ?_
  refine hJ.iconst (v := 1) dX8_tries_1 (by decide) ?_
  refine hJ.aload_n (i := 0) dX8_tries_2 rfl rfl ?_
  refine hJ.getI dX8_tries_3 f_RX8_140 rfl ?_
  refine hJ.iconst (v := 1) dX8_tries_6 (by decide) ?_
  refine hJ.isub dX8_tries_7 ?_
  replace hF := cl_S hF
  obtain ⟨r1, h2, ec3, hF⟩ := hF
  refine hJ.callS (as := [.inl x1, .inl (1 : Int32), .inl ((pI h 8 x0 1) - (1 : Int32))]) (st := []) dX8_tries_8 w_RX8_144 (c_X8_in ec3) (by decide) (by decide) (by decide) rfl (Nat.le_of_ble_eq_true rfl) rfl ?_
  refine hJ.if_ne (tgt := 16) dX8_tries_11 (by decide) (fun e4 => ?_) (fun e4 => ?_)
  · replace hF := ite_F e4 hF
    refine hJ.iconst (v := 0) dX8_tries_16 (by decide) ?_
    refine hJ.istore_n (i := 2) (ls2 := [some (.inr (8, (some x0))), some (.inl x1), some (.inl (0 : Int32)), none, none, none, none, none]) dX8_tries_17 rfl (by decide) rfl ?_
    refine hJ.iconst (v := 0) dX8_tries_18 (by decide) ?_
    refine hJ.istore_n (i := 3) (ls2 := [some (.inr (8, (some x0))), some (.inl x1), some (.inl (0 : Int32)), some (.inl (0 : Int32)), none, none, none, none]) dX8_tries_19 rfl (by decide) rfl ?_
    refine hJ.forget (ls2 := [some (.inr (8, (some x0))), some (.inl x1), some (.inl (0 : Int32)), some (.inl (0 : Int32)), none, none, none, none]) ⟨rfl, rfl, rfl, rfl, trivial⟩ ?_
    refine t_X8_tries_20 hJ (by decide) (by decide) (fun k34 h35 hF => ?_) (fun h80 hF => ?_) FU _ _ _ hF
    · refine hJ.iload_n (i := 2) dX8_tries_105 rfl rfl ?_
      refine hJ.if_ne (tgt := 113) dX8_tries_106 (by decide) (fun e36 => ?_) (fun e36 => ?_)
      · replace hF := ite_F e36 hF
        refine hJ.iconst (v := 1) dX8_tries_113 (by decide) ?_
        refine hJ.istore_n (i := 3) (ls2 := [some (.inr (8, (some x0))), some (.inl x1), some (.inl k34), some (.inl (1 : Int32)), none, none, none, none]) dX8_tries_114 rfl (by decide) rfl ?_
        refine hJ.iconst (v := 2) dX8_tries_115 (by decide) ?_
        refine hJ.istore (i := 4) (ls2 := [some (.inr (8, (some x0))), some (.inl x1), some (.inl k34), some (.inl (1 : Int32)), some (.inl (2 : Int32)), none, none, none]) dX8_tries_116 (by decide) rfl ?_
        refine hJ.forget (ls2 := [some (.inr (8, (some x0))), some (.inl x1), some (.inl k34), some (.inl (1 : Int32)), some (.inl (2 : Int32)), none, none, none]) ⟨rfl, rfl, rfl, rfl, rfl, trivial⟩ ?_
        refine t_X8_tries_118 hJ (by decide) (by decide) (fun k38 h39 hF => ?_) FU _ _ _ hF
        refine hJ.iconst (v := -1) dX8_tries_135 (by decide) ?_
        refine hJ.istore (i := 4) (ls2 := [some (.inr (8, (some x0))), some (.inl x1), some (.inl k34), some (.inl k38), some (.inl (-1 : Int32)), none, none, none]) dX8_tries_136 (by decide) rfl ?_
        refine hJ.iconst (v := 0) dX8_tries_138 (by decide) ?_
        refine hJ.istore (i := 5) (ls2 := [some (.inr (8, (some x0))), some (.inl x1), some (.inl k34), some (.inl k38), some (.inl (-1 : Int32)), some (.inl (0 : Int32)), none, none]) dX8_tries_139 (by decide) rfl ?_
        refine hJ.forget (ls2 := [some (.inr (8, (some x0))), some (.inl x1), some (.inl k34), some (.inl k38), some (.inl (-1 : Int32)), some (.inl (0 : Int32)), none, none]) ⟨rfl, rfl, rfl, rfl, rfl, rfl, trivial⟩ ?_
        refine t_X8_tries_141 hJ (by decide) (by decide) (fun k72 h73 hF => ?_) FU _ _ _ hF
        refine hJ.iload (i := 4) dX8_tries_242 rfl ?_
        refine hJ.iconst (v := -1) dX8_tries_244 (by decide) ?_
        refine hJ.icmp_ne (tgt := 252) dX8_tries_245 (by decide) (fun e74 => ?_) (fun e74 => ?_)
        · replace hF := ite_F e74 hF
          refine hJ.iload_n (i := 2) dX8_tries_252 rfl rfl ?_
          obtain ⟨rfl, rfl⟩ := ret_S hF
          exact hR dX8_tries_253 (by decide) (by decide)
        · replace hF := ite_T e74 hF
          refine hJ.iconst (v := -1) dX8_tries_248 (by decide) ?_
          refine hJ.goto (tgt := 253) dX8_tries_249 (by decide) ?_
          obtain ⟨rfl, rfl⟩ := ret_S hF
          exact hR dX8_tries_253 (by decide) (by decide)
      · replace hF := ite_T e36 hF
        refine hJ.iconst (v := 0) dX8_tries_109 (by decide) ?_
        refine hJ.goto (tgt := 114) dX8_tries_110 (by decide) ?_
        refine hJ.istore_n (i := 3) (ls2 := [some (.inr (8, (some x0))), some (.inl x1), some (.inl k34), some (.inl (0 : Int32)), none, none, none, none]) dX8_tries_114 rfl (by decide) rfl ?_
        refine hJ.iconst (v := 2) dX8_tries_115 (by decide) ?_
        refine hJ.istore (i := 4) (ls2 := [some (.inr (8, (some x0))), some (.inl x1), some (.inl k34), some (.inl (0 : Int32)), some (.inl (2 : Int32)), none, none, none]) dX8_tries_116 (by decide) rfl ?_
        refine hJ.forget (ls2 := [some (.inr (8, (some x0))), some (.inl x1), some (.inl k34), some (.inl (0 : Int32)), some (.inl (2 : Int32)), none, none, none]) ⟨rfl, rfl, rfl, rfl, rfl, trivial⟩ ?_
        refine t_X8_tries_118 hJ (by decide) (by decide) (fun k75 h76 hF => ?_) FU _ _ _ hF
        refine hJ.iconst (v := -1) dX8_tries_135 (by decide) ?_
        refine hJ.istore (i := 4) (ls2 := [some (.inr (8, (some x0))), some (.inl x1), some (.inl k34), some (.inl k75), some (.inl (-1 : Int32)), none, none, none]) dX8_tries_136 (by decide) rfl ?_
        refine hJ.iconst (v := 0) dX8_tries_138 (by decide) ?_
        refine hJ.istore (i := 5) (ls2 := [some (.inr (8, (some x0))), some (.inl x1), some (.inl k34), some (.inl k75), some (.inl (-1 : Int32)), some (.inl (0 : Int32)), none, none]) dX8_tries_139 (by decide) rfl ?_
        refine hJ.forget (ls2 := [some (.inr (8, (some x0))), some (.inl x1), some (.inl k34), some (.inl k75), some (.inl (-1 : Int32)), some (.inl (0 : Int32)), none, none]) ⟨rfl, rfl, rfl, rfl, rfl, rfl, trivial⟩ ?_
        refine t_X8_tries_141 hJ (by decide) (by decide) (fun k77 h78 hF => ?_) FU _ _ _ hF
        refine hJ.iload (i := 4) dX8_tries_242 rfl ?_
        refine hJ.iconst (v := -1) dX8_tries_244 (by decide) ?_
        refine hJ.icmp_ne (tgt := 252) dX8_tries_245 (by decide) (fun e79 => ?_) (fun e79 => ?_)
        · replace hF := ite_F e79 hF
          refine hJ.iload_n (i := 2) dX8_tries_252 rfl rfl ?_
          obtain ⟨rfl, rfl⟩ := ret_S hF
          exact hR dX8_tries_253 (by decide) (by decide)
        · replace hF := ite_T e79 hF
          refine hJ.iconst (v := -1) dX8_tries_248 (by decide) ?_
          refine hJ.goto (tgt := 253) dX8_tries_249 (by decide) ?_
          obtain ⟨rfl, rfl⟩ := ret_S hF
          exact hR dX8_tries_253 (by decide) (by decide)
    · refine hJ.iconst (v := -1) dX8_tries_87 (by decide) ?_
      obtain ⟨rfl, rfl⟩ := ret_S hF
      exact hR dX8_tries_88 (by decide) (by decide)
  · replace hF := ite_T e4 hF
    refine hJ.iconst (v := -1) dX8_tries_14 (by decide) ?_
    obtain ⟨rfl, rfl⟩ := ret_S hF
    exact hR dX8_tries_15 (by decide) (by decide)

set_option maxHeartbeats 4000000 in
set_option maxRecDepth 100000 in
theorem c_X8_best {x0 : Nat} {x1 : Int32} {x2 : Int32} {h hh : Hp} {xr : Int32} (hF : F_X8_best x0 x1 x2 h = some (xr, hh)) : Ctr yX8_best cX8_best 3 (some .int) 3 0 0 [.inr (8, (some x0)), .inl x1, .inl x2] h (some (.inl xr)) hh := by
  refine Ctr_i (own := RX8) (ini := False) (ls0 := [some (.inr (8, (some x0))), some (.inl x1), some (.inl x2)]) (by decide) rfl (Nat.le_of_ble_eq_true rfl) (fun e => e.elim) rfl ?_
  intro J hJ hR
  unfold F_X8_best at hF
  refine hJ.iload_n (i := 2) dX8_best_0 rfl rfl ?_
  refine hJ.iconst (v := 0) dX8_best_1 (by decide) ?_
  refine hJ.aload_n (i := 0) dX8_best_2 rfl rfl ?_
  refine hJ.iload_n (i := 1) dX8_best_3 rfl rfl ?_
  replace hF := cl_S hF
  obtain ⟨r1, h2, ec3, hF⟩ := hF
  refine hJ.callV (as := [.inl x1]) (st := [.inl (0 : Int32), .inl x2]) dX8_best_4 w_RX8_245 ⟨by decide, rfl⟩ rfl (c_X8_tries ec3) (by decide) (by decide) (by decide) rfl (Nat.le_of_ble_eq_true rfl) rfl ?_
  refine hJ.iconst (v := 1) dX8_best_7 (by decide) ?_
  refine hJ.isub dX8_best_8 ?_
  replace hF := cl_S hF
  obtain ⟨r4, h5, ec6, hF⟩ := hF
  refine hJ.callS (as := [.inl x2, .inl (0 : Int32), .inl (r1 - (1 : Int32))]) (st := []) dX8_best_9 w_RX8_144 (c_X8_in ec6) (by decide) (by decide) (by decide) rfl (Nat.le_of_ble_eq_true rfl) rfl ?_
  refine hJ.if_eq (tgt := 24) dX8_best_12 (by decide) (fun e7 => ?_) (fun e7 => ?_)
  · replace hF := ite_T e7 hF
    refine hJ.iconst (v := -1) dX8_best_24 (by decide) ?_
    obtain ⟨rfl, rfl⟩ := ret_S hF
    exact hR dX8_best_25 (by decide) (by decide)
  · replace hF := ite_F e7 hF
    refine hJ.aload_n (i := 0) dX8_best_15 rfl rfl ?_
    refine hJ.getR dX8_best_16 f_RX8_134 rfl ?_
    refine hJ.iload_n (i := 2) dX8_best_19 rfl rfl ?_
    replace hF := nn_S hF
    obtain ⟨n8, e9, hF⟩ := hF
    rw [e9]
    replace hF := ck_S hF
    obtain ⟨c10, hF⟩ := hF
    refine hJ.iald dX8_best_20 a_66 rfl c10 ?_
    refine hJ.goto (tgt := 25) dX8_best_21 (by decide) ?_
    obtain ⟨rfl, rfl⟩ := ret_S hF
    exact hR dX8_best_25 (by decide) (by decide)

set_option maxHeartbeats 4000000 in
set_option maxRecDepth 100000 in
theorem c_X8_passes {x0 : Nat} {x1 : Int32} {x2 : Int32} {h hh : Hp} {xr : Int32} (hF : F_X8_passes x0 x1 x2 h = some (xr, hh)) : Ctr yX8_passes cX8_passes 3 (some .int) 3 0 0 [.inr (8, (some x0)), .inl x1, .inl x2] h (some (.inl xr)) hh := by
  refine Ctr_i (own := RX8) (ini := False) (ls0 := [some (.inr (8, (some x0))), some (.inl x1), some (.inl x2)]) (by decide) rfl (Nat.le_of_ble_eq_true rfl) (fun e => e.elim) rfl ?_
  intro J hJ hR
  unfold F_X8_passes at hF
  refine hJ.iload_n (i := 2) dX8_passes_0 rfl rfl ?_
  refine hJ.iconst (v := 0) dX8_passes_1 (by decide) ?_
  refine hJ.aload_n (i := 0) dX8_passes_2 rfl rfl ?_
  refine hJ.iload_n (i := 1) dX8_passes_3 rfl rfl ?_
  replace hF := cl_S hF
  obtain ⟨r1, h2, ec3, hF⟩ := hF
  refine hJ.callV (as := [.inl x1]) (st := [.inl (0 : Int32), .inl x2]) dX8_passes_4 w_RX8_245 ⟨by decide, rfl⟩ rfl (c_X8_tries ec3) (by decide) (by decide) (by decide) rfl (Nat.le_of_ble_eq_true rfl) rfl ?_
  refine hJ.iconst (v := 1) dX8_passes_7 (by decide) ?_
  refine hJ.isub dX8_passes_8 ?_
  replace hF := cl_S hF
  obtain ⟨r4, h5, ec6, hF⟩ := hF
  refine hJ.callS (as := [.inl x2, .inl (0 : Int32), .inl (r1 - (1 : Int32))]) (st := []) dX8_passes_9 w_RX8_144 (c_X8_in ec6) (by decide) (by decide) (by decide) rfl (Nat.le_of_ble_eq_true rfl) rfl ?_
  refine hJ.if_eq (tgt := 24) dX8_passes_12 (by decide) (fun e7 => ?_) (fun e7 => ?_)
  · replace hF := ite_T e7 hF
    refine hJ.iconst (v := -1) dX8_passes_24 (by decide) ?_
    obtain ⟨rfl, rfl⟩ := ret_S hF
    exact hR dX8_passes_25 (by decide) (by decide)
  · replace hF := ite_F e7 hF
    refine hJ.aload_n (i := 0) dX8_passes_15 rfl rfl ?_
    refine hJ.getR dX8_passes_16 f_RX8_137 rfl ?_
    refine hJ.iload_n (i := 2) dX8_passes_19 rfl rfl ?_
    replace hF := nn_S hF
    obtain ⟨n8, e9, hF⟩ := hF
    rw [e9]
    replace hF := ck_S hF
    obtain ⟨c10, hF⟩ := hF
    refine hJ.iald dX8_passes_20 a_67 rfl c10 ?_
    refine hJ.goto (tgt := 25) dX8_passes_21 (by decide) ?_
    obtain ⟨rfl, rfl⟩ := ret_S hF
    exact hR dX8_passes_25 (by decide) (by decide)

set_option maxHeartbeats 4000000 in
set_option maxRecDepth 100000 in
theorem c_X8_told {x0 : Nat} {x1 : Int32} {x2 : Int32} {h hh : Hp} {xr : Int32} (hF : F_X8_told x0 x1 x2 h = some (xr, hh)) : Ctr yX8_told cX8_told 3 (some .int) 2 0 0 [.inr (8, (some x0)), .inl x1, .inl x2] h (some (.inl xr)) hh := by
  refine Ctr_i (own := RX8) (ini := False) (ls0 := [some (.inr (8, (some x0))), some (.inl x1), some (.inl x2)]) (by decide) rfl (Nat.le_of_ble_eq_true rfl) (fun e => e.elim) rfl ?_
  intro J hJ hR
  unfold F_X8_told at hF
  refine hJ.aload_n (i := 0) dX8_told_0 rfl rfl ?_
  refine hJ.iload_n (i := 1) dX8_told_1 rfl rfl ?_
  replace hF := cl_S hF
  obtain ⟨r1, h2, ec3, hF⟩ := hF
  refine hJ.callV (as := [.inl x1]) (st := []) dX8_told_2 w_RX8_167 ⟨by decide, rfl⟩ rfl (c_X8_isTrunk ec3) (by decide) (by decide) (by decide) rfl (Nat.le_of_ble_eq_true rfl) rfl ?_
  refine hJ.if_ne (tgt := 10) dX8_told_5 (by decide) (fun e4 => ?_) (fun e4 => ?_)
  · replace hF := ite_F e4 hF
    refine hJ.iload_n (i := 2) dX8_told_10 rfl rfl ?_
    by_cases e5 : x2 = (0 : Int32)
    · replace hF := ite_T e5 hF
      refine hJ.tabIn (off := 45) (tgt := 56) dX8_told_11 (by rw [e5]; decide) (by rw [e5]; decide) (by rw [e5]; decide) (by decide) ?_
      refine hJ.aload_n (i := 0) dX8_told_56 rfl rfl ?_
      refine hJ.getR dX8_told_57 f_RX8_38 rfl ?_
      refine hJ.iload_n (i := 1) dX8_told_60 rfl rfl ?_
      replace hF := nn_S hF
      obtain ⟨n42, e43, hF⟩ := hF
      rw [e43]
      replace hF := ck_S hF
      obtain ⟨c44, hF⟩ := hF
      refine hJ.iald dX8_told_61 a_34 rfl c44 ?_
      obtain ⟨rfl, rfl⟩ := ret_S hF
      exact hR dX8_told_62 (by decide) (by decide)
    · replace hF := ite_F e5 hF
      by_cases e6 : x2 = (1 : Int32)
      · replace hF := ite_T e6 hF
        refine hJ.tabIn (off := 52) (tgt := 63) dX8_told_11 (by rw [e6]; decide) (by rw [e6]; decide) (by rw [e6]; decide) (by decide) ?_
        refine hJ.aload_n (i := 0) dX8_told_63 rfl rfl ?_
        refine hJ.getR dX8_told_64 f_RX8_41 rfl ?_
        refine hJ.iload_n (i := 1) dX8_told_67 rfl rfl ?_
        replace hF := nn_S hF
        obtain ⟨n39, e40, hF⟩ := hF
        rw [e40]
        replace hF := ck_S hF
        obtain ⟨c41, hF⟩ := hF
        refine hJ.iald dX8_told_68 a_35 rfl c41 ?_
        obtain ⟨rfl, rfl⟩ := ret_S hF
        exact hR dX8_told_69 (by decide) (by decide)
      · replace hF := ite_F e6 hF
        by_cases e7 : x2 = (2 : Int32)
        · replace hF := ite_T e7 hF
          refine hJ.tabIn (off := 59) (tgt := 70) dX8_told_11 (by rw [e7]; decide) (by rw [e7]; decide) (by rw [e7]; decide) (by decide) ?_
          refine hJ.aload_n (i := 0) dX8_told_70 rfl rfl ?_
          refine hJ.getR dX8_told_71 f_RX8_44 rfl ?_
          refine hJ.iload_n (i := 1) dX8_told_74 rfl rfl ?_
          replace hF := nn_S hF
          obtain ⟨n36, e37, hF⟩ := hF
          rw [e37]
          replace hF := ck_S hF
          obtain ⟨c38, hF⟩ := hF
          refine hJ.iald dX8_told_75 a_36 rfl c38 ?_
          obtain ⟨rfl, rfl⟩ := ret_S hF
          exact hR dX8_told_76 (by decide) (by decide)
        · replace hF := ite_F e7 hF
          by_cases e8 : x2 = (3 : Int32)
          · replace hF := ite_T e8 hF
            refine hJ.tabIn (off := 66) (tgt := 77) dX8_told_11 (by rw [e8]; decide) (by rw [e8]; decide) (by rw [e8]; decide) (by decide) ?_
            refine hJ.aload_n (i := 0) dX8_told_77 rfl rfl ?_
            refine hJ.getR dX8_told_78 f_RX8_47 rfl ?_
            refine hJ.iload_n (i := 1) dX8_told_81 rfl rfl ?_
            replace hF := nn_S hF
            obtain ⟨n33, e34, hF⟩ := hF
            rw [e34]
            replace hF := ck_S hF
            obtain ⟨c35, hF⟩ := hF
            refine hJ.iald dX8_told_82 a_37 rfl c35 ?_
            obtain ⟨rfl, rfl⟩ := ret_S hF
            exact hR dX8_told_83 (by decide) (by decide)
          · replace hF := ite_F e8 hF
            by_cases e9 : x2 = (4 : Int32)
            · replace hF := ite_T e9 hF
              refine hJ.tabIn (off := 73) (tgt := 84) dX8_told_11 (by rw [e9]; decide) (by rw [e9]; decide) (by rw [e9]; decide) (by decide) ?_
              refine hJ.aload_n (i := 0) dX8_told_84 rfl rfl ?_
              refine hJ.getR dX8_told_85 f_RX8_50 rfl ?_
              refine hJ.iload_n (i := 1) dX8_told_88 rfl rfl ?_
              replace hF := nn_S hF
              obtain ⟨n30, e31, hF⟩ := hF
              rw [e31]
              replace hF := ck_S hF
              obtain ⟨c32, hF⟩ := hF
              refine hJ.iald dX8_told_89 a_38 rfl c32 ?_
              obtain ⟨rfl, rfl⟩ := ret_S hF
              exact hR dX8_told_90 (by decide) (by decide)
            · replace hF := ite_F e9 hF
              by_cases e10 : x2 = (5 : Int32)
              · replace hF := ite_T e10 hF
                refine hJ.tabIn (off := 80) (tgt := 91) dX8_told_11 (by rw [e10]; decide) (by rw [e10]; decide) (by rw [e10]; decide) (by decide) ?_
                refine hJ.aload_n (i := 0) dX8_told_91 rfl rfl ?_
                refine hJ.getR dX8_told_92 f_RX8_50 rfl ?_
                refine hJ.iload_n (i := 1) dX8_told_95 rfl rfl ?_
                replace hF := nn_S hF
                obtain ⟨n23, e24, hF⟩ := hF
                rw [e24]
                replace hF := ck_S hF
                obtain ⟨c25, hF⟩ := hF
                refine hJ.iald dX8_told_96 a_38 rfl c25 ?_
                refine hJ.if_ne (tgt := 109) dX8_told_97 (by decide) (fun e26 => ?_) (fun e26 => ?_)
                · replace hF := ite_F e26 hF
                  refine hJ.iconst (v := -1) dX8_told_109 (by decide) ?_
                  obtain ⟨rfl, rfl⟩ := ret_S hF
                  exact hR dX8_told_110 (by decide) (by decide)
                · replace hF := ite_T e26 hF
                  refine hJ.aload_n (i := 0) dX8_told_100 rfl rfl ?_
                  refine hJ.getR dX8_told_101 f_RX8_53 rfl ?_
                  refine hJ.iload_n (i := 1) dX8_told_104 rfl rfl ?_
                  replace hF := nn_S hF
                  obtain ⟨n27, e28, hF⟩ := hF
                  rw [e28]
                  replace hF := ck_S hF
                  obtain ⟨c29, hF⟩ := hF
                  refine hJ.iald dX8_told_105 a_39 rfl c29 ?_
                  refine hJ.goto (tgt := 110) dX8_told_106 (by decide) ?_
                  obtain ⟨rfl, rfl⟩ := ret_S hF
                  exact hR dX8_told_110 (by decide) (by decide)
              · replace hF := ite_F e10 hF
                by_cases e11 : x2 = (6 : Int32)
                · replace hF := ite_T e11 hF
                  refine hJ.tabIn (off := 100) (tgt := 111) dX8_told_11 (by rw [e11]; decide) (by rw [e11]; decide) (by rw [e11]; decide) (by decide) ?_
                  refine hJ.aload_n (i := 0) dX8_told_111 rfl rfl ?_
                  refine hJ.getR dX8_told_112 f_RX8_50 rfl ?_
                  refine hJ.iload_n (i := 1) dX8_told_115 rfl rfl ?_
                  replace hF := nn_S hF
                  obtain ⟨n16, e17, hF⟩ := hF
                  rw [e17]
                  replace hF := ck_S hF
                  obtain ⟨c18, hF⟩ := hF
                  refine hJ.iald dX8_told_116 a_38 rfl c18 ?_
                  refine hJ.iconst (v := 1) dX8_told_117 (by decide) ?_
                  refine hJ.icmp_ne (tgt := 130) dX8_told_118 (by decide) (fun e19 => ?_) (fun e19 => ?_)
                  · replace hF := ite_F e19 hF
                    refine hJ.iconst (v := -1) dX8_told_130 (by decide) ?_
                    obtain ⟨rfl, rfl⟩ := ret_S hF
                    exact hR dX8_told_131 (by decide) (by decide)
                  · replace hF := ite_T e19 hF
                    refine hJ.aload_n (i := 0) dX8_told_121 rfl rfl ?_
                    refine hJ.getR dX8_told_122 f_RX8_56 rfl ?_
                    refine hJ.iload_n (i := 1) dX8_told_125 rfl rfl ?_
                    replace hF := nn_S hF
                    obtain ⟨n20, e21, hF⟩ := hF
                    rw [e21]
                    replace hF := ck_S hF
                    obtain ⟨c22, hF⟩ := hF
                    refine hJ.iald dX8_told_126 a_40 rfl c22 ?_
                    refine hJ.goto (tgt := 131) dX8_told_127 (by decide) ?_
                    obtain ⟨rfl, rfl⟩ := ret_S hF
                    exact hR dX8_told_131 (by decide) (by decide)
                · replace hF := ite_F e11 hF
                  by_cases e12 : x2 = (7 : Int32)
                  · replace hF := ite_T e12 hF
                    refine hJ.tabIn (off := 121) (tgt := 132) dX8_told_11 (by rw [e12]; decide) (by rw [e12]; decide) (by rw [e12]; decide) (by decide) ?_
                    refine hJ.aload_n (i := 0) dX8_told_132 rfl rfl ?_
                    refine hJ.getR dX8_told_133 f_RX8_65 rfl ?_
                    refine hJ.iload_n (i := 1) dX8_told_136 rfl rfl ?_
                    replace hF := nn_S hF
                    obtain ⟨n13, e14, hF⟩ := hF
                    rw [e14]
                    replace hF := ck_S hF
                    obtain ⟨c15, hF⟩ := hF
                    refine hJ.iald dX8_told_137 a_43 rfl c15 ?_
                    obtain ⟨rfl, rfl⟩ := ret_S hF
                    exact hR dX8_told_138 (by decide) (by decide)
                  · replace hF := ite_F e12 hF
                    have z0 : (x2).toInt ≠ 0 := i32_ne e5
                    have z1 : (x2).toInt ≠ 1 := i32_ne e6
                    have z2 : (x2).toInt ≠ 2 := i32_ne e7
                    have z3 : (x2).toInt ≠ 3 := i32_ne e8
                    have z4 : (x2).toInt ≠ 4 := i32_ne e9
                    have z5 : (x2).toInt ≠ 5 := i32_ne e10
                    have z6 : (x2).toInt ≠ 6 := i32_ne e11
                    have z7 : (x2).toInt ≠ 7 := i32_ne e12
                    refine hJ.tabOut (tgt := 139) dX8_told_11 (by omega) (by decide) ?_
                    refine hJ.iconst (v := -1) dX8_told_139 (by decide) ?_
                    obtain ⟨rfl, rfl⟩ := ret_S hF
                    exact hR dX8_told_140 (by decide) (by decide)
  · replace hF := ite_T e4 hF
    refine hJ.iconst (v := -1) dX8_told_8 (by decide) ?_
    obtain ⟨rfl, rfl⟩ := ret_S hF
    exact hR dX8_told_9 (by decide) (by decide)

set_option maxHeartbeats 4000000 in
set_option maxRecDepth 100000 in
theorem c_X8_raft {x0 : Nat} {x1 : Int32} {x2 : Int32} {h hh : Hp} {xr : Int32} (hF : F_X8_raft x0 x1 x2 h = some (xr, hh)) : Ctr yX8_raft cX8_raft 3 (some .int) 2 0 0 [.inr (8, (some x0)), .inl x1, .inl x2] h (some (.inl xr)) hh := by
  refine Ctr_i (own := RX8) (ini := False) (ls0 := [some (.inr (8, (some x0))), some (.inl x1), some (.inl x2)]) (by decide) rfl (Nat.le_of_ble_eq_true rfl) (fun e => e.elim) rfl ?_
  intro J hJ hR
  unfold F_X8_raft at hF
  refine hJ.iload_n (i := 1) dX8_raft_0 rfl rfl ?_
  refine hJ.iconst (v := 0) dX8_raft_1 (by decide) ?_
  refine hJ.aload_n (i := 0) dX8_raft_2 rfl rfl ?_
  refine hJ.getI dX8_raft_3 f_RX8_151 rfl ?_
  refine hJ.iconst (v := 1) dX8_raft_6 (by decide) ?_
  refine hJ.isub dX8_raft_7 ?_
  replace hF := cl_S hF
  obtain ⟨r1, h2, ec3, hF⟩ := hF
  refine hJ.callS (as := [.inl x1, .inl (0 : Int32), .inl ((pI h 8 x0 24) - (1 : Int32))]) (st := []) dX8_raft_8 w_RX8_144 (c_X8_in ec3) (by decide) (by decide) (by decide) rfl (Nat.le_of_ble_eq_true rfl) rfl ?_
  refine hJ.if_ne (tgt := 16) dX8_raft_11 (by decide) (fun e4 => ?_) (fun e4 => ?_)
  · replace hF := ite_F e4 hF
    refine hJ.iload_n (i := 2) dX8_raft_16 rfl rfl ?_
    by_cases e5 : x2 = (0 : Int32)
    · replace hF := ite_T e5 hF
      refine hJ.tabIn (off := 43) (tgt := 60) dX8_raft_17 (by rw [e5]; decide) (by rw [e5]; decide) (by rw [e5]; decide) (by decide) ?_
      refine hJ.aload_n (i := 0) dX8_raft_60 rfl rfl ?_
      refine hJ.getR dX8_raft_61 f_RX8_71 rfl ?_
      refine hJ.iload_n (i := 1) dX8_raft_64 rfl rfl ?_
      replace hF := nn_S hF
      obtain ⟨n34, e35, hF⟩ := hF
      rw [e35]
      replace hF := ck_S hF
      obtain ⟨c36, hF⟩ := hF
      refine hJ.iald dX8_raft_65 a_45 rfl c36 ?_
      obtain ⟨rfl, rfl⟩ := ret_S hF
      exact hR dX8_raft_66 (by decide) (by decide)
    · replace hF := ite_F e5 hF
      by_cases e6 : x2 = (1 : Int32)
      · replace hF := ite_T e6 hF
        refine hJ.tabIn (off := 50) (tgt := 67) dX8_raft_17 (by rw [e6]; decide) (by rw [e6]; decide) (by rw [e6]; decide) (by decide) ?_
        refine hJ.aload_n (i := 0) dX8_raft_67 rfl rfl ?_
        refine hJ.getR dX8_raft_68 f_RX8_71 rfl ?_
        refine hJ.iload_n (i := 1) dX8_raft_71 rfl rfl ?_
        replace hF := nn_S hF
        obtain ⟨n27, e28, hF⟩ := hF
        rw [e28]
        replace hF := ck_S hF
        obtain ⟨c29, hF⟩ := hF
        refine hJ.iald dX8_raft_72 a_45 rfl c29 ?_
        refine hJ.iconst (v := 3) dX8_raft_73 (by decide) ?_
        refine hJ.icmp_ne (tgt := 81) dX8_raft_74 (by decide) (fun e30 => ?_) (fun e30 => ?_)
        · replace hF := ite_F e30 hF
          refine hJ.aload_n (i := 0) dX8_raft_81 rfl rfl ?_
          refine hJ.getR dX8_raft_82 f_RX8_74 rfl ?_
          refine hJ.iload_n (i := 1) dX8_raft_85 rfl rfl ?_
          replace hF := nn_S hF
          obtain ⟨n31, e32, hF⟩ := hF
          rw [e32]
          replace hF := ck_S hF
          obtain ⟨c33, hF⟩ := hF
          refine hJ.iald dX8_raft_86 a_46 rfl c33 ?_
          obtain ⟨rfl, rfl⟩ := ret_S hF
          exact hR dX8_raft_87 (by decide) (by decide)
        · replace hF := ite_T e30 hF
          refine hJ.iconst (v := -1) dX8_raft_77 (by decide) ?_
          refine hJ.goto (tgt := 87) dX8_raft_78 (by decide) ?_
          obtain ⟨rfl, rfl⟩ := ret_S hF
          exact hR dX8_raft_87 (by decide) (by decide)
      · replace hF := ite_F e6 hF
        by_cases e7 : x2 = (2 : Int32)
        · replace hF := ite_T e7 hF
          refine hJ.tabIn (off := 71) (tgt := 88) dX8_raft_17 (by rw [e7]; decide) (by rw [e7]; decide) (by rw [e7]; decide) (by decide) ?_
          refine hJ.aload_n (i := 0) dX8_raft_88 rfl rfl ?_
          refine hJ.getR dX8_raft_89 f_RX8_77 rfl ?_
          refine hJ.iload_n (i := 1) dX8_raft_92 rfl rfl ?_
          replace hF := nn_S hF
          obtain ⟨n24, e25, hF⟩ := hF
          rw [e25]
          replace hF := ck_S hF
          obtain ⟨c26, hF⟩ := hF
          refine hJ.iald dX8_raft_93 a_47 rfl c26 ?_
          obtain ⟨rfl, rfl⟩ := ret_S hF
          exact hR dX8_raft_94 (by decide) (by decide)
        · replace hF := ite_F e7 hF
          by_cases e8 : x2 = (3 : Int32)
          · replace hF := ite_T e8 hF
            refine hJ.tabIn (off := 78) (tgt := 95) dX8_raft_17 (by rw [e8]; decide) (by rw [e8]; decide) (by rw [e8]; decide) (by decide) ?_
            refine hJ.aload_n (i := 0) dX8_raft_95 rfl rfl ?_
            refine hJ.iload_n (i := 1) dX8_raft_96 rfl rfl ?_
            replace hF := cl_S hF
            obtain ⟨r21, h22, ec23, hF⟩ := hF
            refine hJ.callV (as := [.inl x1]) (st := []) dX8_raft_97 w_RX8_210 ⟨by decide, rfl⟩ rfl (c_X8_many ec23) (by decide) (by decide) (by decide) rfl (Nat.le_of_ble_eq_true rfl) rfl ?_
            obtain ⟨rfl, rfl⟩ := ret_S hF
            exact hR dX8_raft_100 (by decide) (by decide)
          · replace hF := ite_F e8 hF
            by_cases e9 : x2 = (4 : Int32)
            · replace hF := ite_T e9 hF
              refine hJ.tabIn (off := 84) (tgt := 101) dX8_raft_17 (by rw [e9]; decide) (by rw [e9]; decide) (by rw [e9]; decide) (by decide) ?_
              refine hJ.aload_n (i := 0) dX8_raft_101 rfl rfl ?_
              refine hJ.iload_n (i := 1) dX8_raft_102 rfl rfl ?_
              replace hF := cl_S hF
              obtain ⟨r18, h19, ec20, hF⟩ := hF
              refine hJ.callV (as := [.inl x1]) (st := []) dX8_raft_103 w_RX8_213 ⟨by decide, rfl⟩ rfl (c_X8_width ec20) (by decide) (by decide) (by decide) rfl (Nat.le_of_ble_eq_true rfl) rfl ?_
              obtain ⟨rfl, rfl⟩ := ret_S hF
              exact hR dX8_raft_106 (by decide) (by decide)
            · replace hF := ite_F e9 hF
              by_cases e10 : x2 = (5 : Int32)
              · replace hF := ite_T e10 hF
                refine hJ.tabIn (off := 90) (tgt := 107) dX8_raft_17 (by rw [e10]; decide) (by rw [e10]; decide) (by rw [e10]; decide) (by decide) ?_
                refine hJ.aload_n (i := 0) dX8_raft_107 rfl rfl ?_
                refine hJ.getR dX8_raft_108 f_RX8_80 rfl ?_
                refine hJ.iload_n (i := 1) dX8_raft_111 rfl rfl ?_
                replace hF := nn_S hF
                obtain ⟨n15, e16, hF⟩ := hF
                rw [e16]
                replace hF := ck_S hF
                obtain ⟨c17, hF⟩ := hF
                refine hJ.iald dX8_raft_112 a_48 rfl c17 ?_
                obtain ⟨rfl, rfl⟩ := ret_S hF
                exact hR dX8_raft_113 (by decide) (by decide)
              · replace hF := ite_F e10 hF
                by_cases e11 : x2 = (6 : Int32)
                · replace hF := ite_T e11 hF
                  refine hJ.tabIn (off := 97) (tgt := 114) dX8_raft_17 (by rw [e11]; decide) (by rw [e11]; decide) (by rw [e11]; decide) (by decide) ?_
                  refine hJ.aload_n (i := 0) dX8_raft_114 rfl rfl ?_
                  refine hJ.getR dX8_raft_115 f_RX8_83 rfl ?_
                  refine hJ.iload_n (i := 1) dX8_raft_118 rfl rfl ?_
                  replace hF := nn_S hF
                  obtain ⟨n12, e13, hF⟩ := hF
                  rw [e13]
                  replace hF := ck_S hF
                  obtain ⟨c14, hF⟩ := hF
                  refine hJ.iald dX8_raft_119 a_49 rfl c14 ?_
                  obtain ⟨rfl, rfl⟩ := ret_S hF
                  exact hR dX8_raft_120 (by decide) (by decide)
                · replace hF := ite_F e11 hF
                  have z0 : (x2).toInt ≠ 0 := i32_ne e5
                  have z1 : (x2).toInt ≠ 1 := i32_ne e6
                  have z2 : (x2).toInt ≠ 2 := i32_ne e7
                  have z3 : (x2).toInt ≠ 3 := i32_ne e8
                  have z4 : (x2).toInt ≠ 4 := i32_ne e9
                  have z5 : (x2).toInt ≠ 5 := i32_ne e10
                  have z6 : (x2).toInt ≠ 6 := i32_ne e11
                  refine hJ.tabOut (tgt := 121) dX8_raft_17 (by omega) (by decide) ?_
                  refine hJ.iconst (v := -1) dX8_raft_121 (by decide) ?_
                  obtain ⟨rfl, rfl⟩ := ret_S hF
                  exact hR dX8_raft_122 (by decide) (by decide)
  · replace hF := ite_T e4 hF
    refine hJ.iconst (v := -1) dX8_raft_14 (by decide) ?_
    obtain ⟨rfl, rfl⟩ := ret_S hF
    exact hR dX8_raft_15 (by decide) (by decide)

set_option maxHeartbeats 4000000 in
set_option maxRecDepth 100000 in
theorem c_X8_crewed {x0 : Nat} {x1 : Int32} {x2 : Int32} {h hh : Hp} {xr : Int32} (hF : F_X8_crewed x0 x1 x2 h = some (xr, hh)) : Ctr yX8_crewed cX8_crewed 3 (some .int) 1 0 0 [.inr (8, (some x0)), .inl x1, .inl x2] h (some (.inl xr)) hh := by
  refine Ctr_i (own := RX8) (ini := False) (ls0 := [some (.inr (8, (some x0))), some (.inl x1), some (.inl x2)]) (by decide) rfl (Nat.le_of_ble_eq_true rfl) (fun e => e.elim) rfl ?_
  intro J hJ hR
  unfold F_X8_crewed at hF
  refine hJ.iload_n (i := 1) dX8_crewed_0 rfl rfl ?_
  refine hJ.iconst (v := 0) dX8_crewed_1 (by decide) ?_
  refine hJ.aload_n (i := 0) dX8_crewed_2 rfl rfl ?_
  refine hJ.getI dX8_crewed_3 f_RX8_191 rfl ?_
  refine hJ.iconst (v := 1) dX8_crewed_6 (by decide) ?_
  refine hJ.isub dX8_crewed_7 ?_
  replace hF := cl_S hF
  obtain ⟨r1, h2, ec3, hF⟩ := hF
  refine hJ.callS (as := [.inl x1, .inl (0 : Int32), .inl ((pI h 8 x0 30) - (1 : Int32))]) (st := []) dX8_crewed_8 w_RX8_144 (c_X8_in ec3) (by decide) (by decide) (by decide) rfl (Nat.le_of_ble_eq_true rfl) rfl ?_
  refine hJ.if_ne (tgt := 16) dX8_crewed_11 (by decide) (fun e4 => ?_) (fun e4 => ?_)
  · replace hF := ite_F e4 hF
    refine hJ.iload_n (i := 2) dX8_crewed_16 rfl rfl ?_
    by_cases e5 : x2 = (0 : Int32)
    · replace hF := ite_T e5 hF
      refine hJ.tabIn (off := 31) (tgt := 48) dX8_crewed_17 (by rw [e5]; decide) (by rw [e5]; decide) (by rw [e5]; decide) (by decide) ?_
      refine hJ.aload_n (i := 0) dX8_crewed_48 rfl rfl ?_
      refine hJ.getR dX8_crewed_49 f_RX8_89 rfl ?_
      refine hJ.iload_n (i := 1) dX8_crewed_52 rfl rfl ?_
      replace hF := nn_S hF
      obtain ⟨n27, e28, hF⟩ := hF
      rw [e28]
      replace hF := ck_S hF
      obtain ⟨c29, hF⟩ := hF
      refine hJ.iald dX8_crewed_53 a_51 rfl c29 ?_
      obtain ⟨rfl, rfl⟩ := ret_S hF
      exact hR dX8_crewed_54 (by decide) (by decide)
    · replace hF := ite_F e5 hF
      by_cases e6 : x2 = (1 : Int32)
      · replace hF := ite_T e6 hF
        refine hJ.tabIn (off := 38) (tgt := 55) dX8_crewed_17 (by rw [e6]; decide) (by rw [e6]; decide) (by rw [e6]; decide) (by decide) ?_
        refine hJ.aload_n (i := 0) dX8_crewed_55 rfl rfl ?_
        refine hJ.getR dX8_crewed_56 f_RX8_89 rfl ?_
        refine hJ.iload_n (i := 1) dX8_crewed_59 rfl rfl ?_
        replace hF := nn_S hF
        obtain ⟨n20, e21, hF⟩ := hF
        rw [e21]
        replace hF := ck_S hF
        obtain ⟨c22, hF⟩ := hF
        refine hJ.iald dX8_crewed_60 a_51 rfl c22 ?_
        refine hJ.if_ne (tgt := 73) dX8_crewed_61 (by decide) (fun e23 => ?_) (fun e23 => ?_)
        · replace hF := ite_F e23 hF
          refine hJ.iconst (v := -1) dX8_crewed_73 (by decide) ?_
          obtain ⟨rfl, rfl⟩ := ret_S hF
          exact hR dX8_crewed_74 (by decide) (by decide)
        · replace hF := ite_T e23 hF
          refine hJ.aload_n (i := 0) dX8_crewed_64 rfl rfl ?_
          refine hJ.getR dX8_crewed_65 f_RX8_92 rfl ?_
          refine hJ.iload_n (i := 1) dX8_crewed_68 rfl rfl ?_
          replace hF := nn_S hF
          obtain ⟨n24, e25, hF⟩ := hF
          rw [e25]
          replace hF := ck_S hF
          obtain ⟨c26, hF⟩ := hF
          refine hJ.iald dX8_crewed_69 a_52 rfl c26 ?_
          refine hJ.goto (tgt := 74) dX8_crewed_70 (by decide) ?_
          obtain ⟨rfl, rfl⟩ := ret_S hF
          exact hR dX8_crewed_74 (by decide) (by decide)
      · replace hF := ite_F e6 hF
        by_cases e7 : x2 = (2 : Int32)
        · replace hF := ite_T e7 hF
          refine hJ.tabIn (off := 58) (tgt := 75) dX8_crewed_17 (by rw [e7]; decide) (by rw [e7]; decide) (by rw [e7]; decide) (by decide) ?_
          refine hJ.aload_n (i := 0) dX8_crewed_75 rfl rfl ?_
          refine hJ.getR dX8_crewed_76 f_RX8_89 rfl ?_
          refine hJ.iload_n (i := 1) dX8_crewed_79 rfl rfl ?_
          replace hF := nn_S hF
          obtain ⟨n13, e14, hF⟩ := hF
          rw [e14]
          replace hF := ck_S hF
          obtain ⟨c15, hF⟩ := hF
          refine hJ.iald dX8_crewed_80 a_51 rfl c15 ?_
          refine hJ.iconst (v := 2) dX8_crewed_81 (by decide) ?_
          refine hJ.icmp_ne (tgt := 94) dX8_crewed_82 (by decide) (fun e16 => ?_) (fun e16 => ?_)
          · replace hF := ite_F e16 hF
            refine hJ.iconst (v := -1) dX8_crewed_94 (by decide) ?_
            obtain ⟨rfl, rfl⟩ := ret_S hF
            exact hR dX8_crewed_95 (by decide) (by decide)
          · replace hF := ite_T e16 hF
            refine hJ.aload_n (i := 0) dX8_crewed_85 rfl rfl ?_
            refine hJ.getR dX8_crewed_86 f_RX8_98 rfl ?_
            refine hJ.iload_n (i := 1) dX8_crewed_89 rfl rfl ?_
            replace hF := nn_S hF
            obtain ⟨n17, e18, hF⟩ := hF
            rw [e18]
            replace hF := ck_S hF
            obtain ⟨c19, hF⟩ := hF
            refine hJ.iald dX8_crewed_90 a_54 rfl c19 ?_
            refine hJ.goto (tgt := 95) dX8_crewed_91 (by decide) ?_
            obtain ⟨rfl, rfl⟩ := ret_S hF
            exact hR dX8_crewed_95 (by decide) (by decide)
        · replace hF := ite_F e7 hF
          by_cases e8 : x2 = (3 : Int32)
          · replace hF := ite_T e8 hF
            refine hJ.tabIn (off := 79) (tgt := 96) dX8_crewed_17 (by rw [e8]; decide) (by rw [e8]; decide) (by rw [e8]; decide) (by decide) ?_
            refine hJ.aload_n (i := 0) dX8_crewed_96 rfl rfl ?_
            refine hJ.iload_n (i := 1) dX8_crewed_97 rfl rfl ?_
            replace hF := cl_S hF
            obtain ⟨r9, h10, ec11, hF⟩ := hF
            refine hJ.callV (as := [.inl x1]) (st := []) dX8_crewed_98 w_RX8_197 ⟨by decide, rfl⟩ rfl (c_X8_isResting ec11) (by decide) (by decide) (by decide) rfl (Nat.le_of_ble_eq_true rfl) rfl ?_
            refine hJ.if_eq (tgt := 108) dX8_crewed_101 (by decide) (fun e12 => ?_) (fun e12 => ?_)
            · replace hF := ite_T e12 hF
              refine hJ.iconst (v := 0) dX8_crewed_108 (by decide) ?_
              obtain ⟨rfl, rfl⟩ := ret_S hF
              exact hR dX8_crewed_109 (by decide) (by decide)
            · replace hF := ite_F e12 hF
              refine hJ.iconst (v := 1) dX8_crewed_104 (by decide) ?_
              refine hJ.goto (tgt := 109) dX8_crewed_105 (by decide) ?_
              obtain ⟨rfl, rfl⟩ := ret_S hF
              exact hR dX8_crewed_109 (by decide) (by decide)
          · replace hF := ite_F e8 hF
            have z0 : (x2).toInt ≠ 0 := i32_ne e5
            have z1 : (x2).toInt ≠ 1 := i32_ne e6
            have z2 : (x2).toInt ≠ 2 := i32_ne e7
            have z3 : (x2).toInt ≠ 3 := i32_ne e8
            refine hJ.tabOut (tgt := 110) dX8_crewed_17 (by omega) (by decide) ?_
            refine hJ.iconst (v := -1) dX8_crewed_110 (by decide) ?_
            obtain ⟨rfl, rfl⟩ := ret_S hF
            exact hR dX8_crewed_111 (by decide) (by decide)
  · replace hF := ite_T e4 hF
    refine hJ.iconst (v := -1) dX8_crewed_14 (by decide) ?_
    obtain ⟨rfl, rfl⟩ := ret_S hF
    exact hR dX8_crewed_15 (by decide) (by decide)

