section OPS
variable {nw : Nat} {z : Nat → Nat} {ro : Nat → Nat → Nat} {w : Nat → Nat} {tt : Nat → Nat → Nat} {q0 : Nat} {h : Hp}
theorem brk_l {r T : Nat} {pv : Int32} {x2 : Int32} {rem : Nat} (hx : (x2 = 0 ∧ rem = 0) ∨ (x2 ≠ 0 ∧ rem = 1)) (hr : r < 60) {β : Type} (ka : Int32 → Hp → Option β) : ∀ n i f acc g, TL T g → pI g 46 0 r = pv → i + n = T → n < f → ∃ g', L_X8_breaks_16 0 (nI r) x2 ka f acc (nI i) g = ka (acc + su (fun k => if ofm g r (i + k) then (if (i + k) % 2 = rem then 1 else 0) else 0) n) g' ∧ Fr [38, 39, 40] [] g g' ∧ ∀ t, ((i ≤ t ∧ t < T ∧ ofm g r t) → pI g' 38 0 t = (if t % 2 = rem then 3 else 0) ∧ pI g' 39 0 t = pv ∧ pI g' 40 0 t = -1) ∧ (¬ (i ≤ t ∧ t < T ∧ ofm g r t) → pI g' 38 0 t = pI g 38 0 t ∧ pI g' 39 0 t = pI g 39 0 t ∧ pI g' 40 0 t = pI g 40 0 t) := by
  intro n
  induction n with
  | zero =>
    intro i f acc g m ep hi hf
    obtain ⟨f, rfl⟩ := fu_1 hf
    have hT := m.2.1
    refine ⟨g, ?_, Fr.refl _ _ _, fun t => ⟨fun ⟨k1, k2, _⟩ => by omega, fun _ => ⟨rfl, rfl, rfl⟩⟩⟩
    rw [L_X8_breaks_16, m.1, q_le (by omega) (by omega), su, Int32.add_zero]
  | succ n ih =>
    intro i f acc g m ep hi hf
    obtain ⟨f, rfl⟩ := fu_1 hf
    have hT := m.2.1
    have em2 : nI i - nI i / (2 : Int32) * (2 : Int32) = nI (i % 2) := i_rem (by omega) (by decide) (by decide)
    rw [su_off (fun k => if ofm g r k then (if k % 2 = rem then (1 : Int32) else 0) else 0), ← Int32.add_assoc]
    rcases m.isOf (r := r) (t := i) (by omega) with ⟨c, e⟩ | ⟨c, e⟩
    · rw [if_pos c]
      have fin : ∀ (g1 : Hp) (A : Int32), Fr [38, 39, 40] [] g g1 → A = acc + (if i % 2 = rem then 1 else 0) → L_X8_breaks_16 0 (nI r) x2 ka (f + 1) acc (nI i) g = L_X8_breaks_16 0 (nI r) x2 ka f A (nI (i + 1)) g1 → (pI g1 38 0 i = (if i % 2 = rem then 3 else 0) ∧ pI g1 39 0 i = pv ∧ pI g1 40 0 i = -1) → (∀ t, t ≠ i → pI g1 38 0 t = pI g 38 0 t ∧ pI g1 39 0 t = pI g 39 0 t ∧ pI g1 40 0 t = pI g 40 0 t) → ∃ g', L_X8_breaks_16 0 (nI r) x2 ka (f + 1) acc (nI i) g = ka (acc + (if i % 2 = rem then 1 else 0) + su (fun k => if ofm g r (i + 1 + k) then (if (i + 1 + k) % 2 = rem then 1 else 0) else 0) n) g' ∧ Fr [38, 39, 40] [] g g' ∧ ∀ t, ((i ≤ t ∧ t < T ∧ ofm g r t) → pI g' 38 0 t = (if t % 2 = rem then 3 else 0) ∧ pI g' 39 0 t = pv ∧ pI g' 40 0 t = -1) ∧ (¬ (i ≤ t ∧ t < T ∧ ofm g r t) → pI g' 38 0 t = pI g 38 0 t ∧ pI g' 39 0 t = pI g 39 0 t ∧ pI g' 40 0 t = pI g 40 0 t) := by
        intro g1 A f1 hA hL hi1 ho1
        obtain ⟨g', e', fr, ht⟩ := ih (i + 1) f A g1 (m.fr f1 (by decide)) (by rw [f1.I (by decide)]; exact ep) (by omega) (by omega)
        refine ⟨g', ?_, f1.trans fr, fun t => ?_⟩
        · rw [hL, e', hA]
          congr 2
          refine su_ext (fun k _ => ?_)
          obtain ⟨o1, -, o3⟩ := ho1 (i + 1 + k) (by omega)
          simp only [ofm, o1, o3]
        · have := ht t
          by_cases et : t = i
          · subst et
            refine ⟨fun _ => ?_, fun hn => absurd ⟨Nat.le_refl _, by omega, c⟩ hn⟩
            obtain ⟨k1, k2, k3⟩ := this.2 (fun q => by omega)
            rw [k1, k2, k3]
            exact hi1
          · obtain ⟨o1, o2, o3⟩ := ho1 t et
            simp only [ofm, o1, o2, o3] at this
            refine ⟨fun q => this.1 ⟨by omega, q.2⟩, fun q => this.2 (fun q2 => q ⟨by omega, q2.2⟩)⟩
      have start : L_X8_breaks_16 0 (nI r) x2 ka (f + 1) acc (nI i) g = if i % 2 = rem then L_X8_breaks_16 0 (nI r) x2 ka f (acc + 1) (nI (i + 1)) (wI (wI (wI (wI g 38 0 i 0) 39 0 i pv) 40 0 i (-1)) 38 0 i 3) else L_X8_breaks_16 0 (nI r) x2 ka f acc (nI (i + 1)) (wI (wI (wI g 38 0 i 0) 39 0 i pv) 40 0 i (-1)) := by
        rw [L_X8_breaks_16, m.1, q_nle (by omega) (by omega), e, e_cl, if_neg (by decide), m.r 26 (by decide), e_nn, m.l 46 60 (by decide) (by decide), i_inb (by omega) (by omega), e_ck, i_cl (by omega), ep, F_X8_lays]
        simp (disch := omega) only [e_nn, e_onnN, e_onnS, e_ck, e_lt, e_cl, F_within, F_in, isz0, isz1, i10, ↓reduceIte, sl_RI, sl_CI, sl_LI, sl_IR, sl_CR, sl_LR, sl_II, sl_Ie, sl_RR, sl_Re, sl_CN, sl_Ce, sl_LN, sl_Le, sl_IN, sl_INe, sl_RN, sl_RNe, up2_s, up2_n, up1_s, up1_n, upN_s, upN_n, ne_eq, not_false_eq_true, reduceCtorEq, i_le, i_lt, i_eq, i_cl, i_inb, nI_add, nI_1, i_n1, i_1n, i_sub, m.r 16 (by decide), m.r 17 (by decide), m.r 18 (by decide), m.l 38 120 (by decide) (by decide), m.l 39 120 (by decide) (by decide), m.l 40 120 (by decide) (by decide), em2]
        rcases hx with ⟨rfl, rfl⟩ | ⟨hx, rfl⟩
        · rw [if_pos rfl]
          by_cases d : i % 2 = 0
          · rw [if_pos d, q_eqR 0 d]
          · rw [if_neg d, q_neR 0 d (by omega) (by omega)]
        · rw [if_neg hx]
          by_cases d : i % 2 = 1
          · rw [if_pos d, q_eqR 1 d]
          · rw [if_neg d, q_neR 1 d (by omega) (by omega)]
      by_cases d : i % 2 = rem
      · rw [if_pos d] at start
        refine fin _ _ ((((Fr.refl _ _ _).wI (by decide)).wI (by decide)).wI (by decide) |>.wI (by decide)) (by rw [if_pos d]) start ?_ (fun t ht => ?_)
        · rw [if_pos d]
          simp (disch := omega) only [sl_RI, sl_CI, sl_LI, sl_IR, sl_CR, sl_LR, sl_II, sl_Ie, sl_RR, sl_Re, sl_CN, sl_Ce, sl_LN, sl_Le, sl_IN, sl_INe, sl_RN, sl_RNe, up2_s, up2_n, up1_s, up1_n, upN_s, upN_n, ne_eq, not_false_eq_true, reduceCtorEq, and_self]
        · simp (disch := omega) only [sl_RI, sl_CI, sl_LI, sl_IR, sl_CR, sl_LR, sl_II, sl_Ie, sl_RR, sl_Re, sl_CN, sl_Ce, sl_LN, sl_Le, sl_IN, sl_INe, sl_RN, sl_RNe, up2_s, up2_n, up1_s, up1_n, upN_s, upN_n, ne_eq, not_false_eq_true, reduceCtorEq, and_self]
      · rw [if_neg d] at start
        refine fin _ _ ((((Fr.refl _ _ _).wI (by decide)).wI (by decide)).wI (by decide)) (by rw [if_neg d, Int32.add_zero]) start ?_ (fun t ht => ?_)
        · rw [if_neg d]
          simp (disch := omega) only [sl_RI, sl_CI, sl_LI, sl_IR, sl_CR, sl_LR, sl_II, sl_Ie, sl_RR, sl_Re, sl_CN, sl_Ce, sl_LN, sl_Le, sl_IN, sl_INe, sl_RN, sl_RNe, up2_s, up2_n, up1_s, up1_n, upN_s, upN_n, ne_eq, not_false_eq_true, reduceCtorEq, and_self]
        · simp (disch := omega) only [sl_RI, sl_CI, sl_LI, sl_IR, sl_CR, sl_LR, sl_II, sl_Ie, sl_RR, sl_Re, sl_CN, sl_Ce, sl_LN, sl_Le, sl_IN, sl_INe, sl_RN, sl_RNe, up2_s, up2_n, up1_s, up1_n, upN_s, upN_n, ne_eq, not_false_eq_true, reduceCtorEq, and_self]
    · rw [if_neg c, Int32.add_zero]
      obtain ⟨g', e', fr, ht⟩ := ih (i + 1) f acc g m ep (by omega) (by omega)
      refine ⟨g', ?_, fr, fun t => ⟨fun q => ?_, fun q => (ht t).2 (fun q2 => q ⟨by omega, q2.2⟩)⟩⟩
      · rw [L_X8_breaks_16, m.1, q_nle (by omega) (by omega), e, e_cl, if_pos rfl, nI_1]
        exact e'
      · have : t ≠ i := fun e => c (e ▸ q.2.2)
        exact (ht t).1 ⟨by omega, q.2⟩
theorem nI_m8 (n : Nat) : nI (n + 8) - 8 = nI n := by
  have := i_sub (a := n + 8) (b := 8) (by omega)
  rw [show n + 8 - 8 = n by omega] at this
  exact this
theorem op_breaks (I : SimG nw z ro w tt q0 h) (x y : Int32) : OP (F_X7_breaks 0 x y) (F_X8_breaks 0 x y) h := by
  have hR := I.c_hR
  have hS := I.c_hS
  have hT := I.c_hT
  have hC := I.c_hC
  obtain ⟨n1, n2, n3⟩ := I.gnw
  rcases wi_ix x (n := pC h 2) (by omega) with ⟨e1, e2⟩ | ⟨e1, r, hr, rfl, e2⟩
  · refine OP.same I (r := -1) ?_ ?_
    · rw [F_X7_breaks, I.raftAt, e_cl, e2, e_onnN]
    · rw [F_X8_breaks, isRaftN I.c_j24 e1, e_cl, if_pos rfl]
  by_cases c0 : pI h 45 0 r = 2
  rotate_left
  · refine OP.same I (r := -1) ?_ ?_
    · rw [F_X7_breaks, I.raftAt, e_cl, e2, e_onnS, I.state2 hr, e_cl, if_neg c0]
    · rw [F_X8_breaks, isRaftS hR hr I.c_j24 I.r8_25 I.l45_0 e1, if_neg c0, e_cl, if_pos rfl]
  obtain ⟨rem, hrem, hx⟩ : ∃ rem : Nat, rem < 2 ∧ ((y = 0 ∧ rem = 0) ∨ (y ≠ 0 ∧ rem = 1)) := by
    by_cases c : y = 0
    · exact ⟨0, by omega, Or.inl ⟨c, rfl⟩⟩
    · exact ⟨1, by omega, Or.inr ⟨c, rfl⟩⟩
  obtain ⟨⟨a1, a2, a3, zz, a4, a5⟩, hst⟩ := I.rf r hr
  obtain ⟨b2, ⟨p, p1, p2, p3⟩, ⟨c, c1, c2, c3, c4⟩⟩ : pI h 47 0 r ≠ 0 ∧ (∃ p, p < pC h 4 ∧ pR h 2 r 3 = some p ∧ pI h 46 0 r = nI p) ∧ (∃ c, c < pC h 0 ∧ pR h 2 r 4 = some c ∧ pI h 48 0 r = nI c ∧ pR h 0 c 3 = some r) := by
    rcases hst with ⟨b1, -⟩ | ⟨b1, -⟩ | ⟨b1, -⟩ | ⟨b1, b2, b3, b4, -⟩
    · rw [c0] at b1; exact absurd b1 (by decide)
    · rw [c0] at b1; exact absurd b1 (by decide)
    · rw [c0] at b1; exact absurd b1 (by decide)
    · exact ⟨b2, b3, b4⟩
  obtain ⟨gc1, gst⟩ := I.cr.1 c c1
  obtain ⟨s6, -⟩ : pI h 0 c 4 = -1 ∧ ∃ k, pI h 0 c 5 = nI k - 8 ∧ k ≤ nw := by
    rcases gst with ⟨-, -, s5, -⟩ | ⟨-, -, -, s⟩ | ⟨-, -, s5, -⟩
    · rw [s5] at c4; cases c4
    · exact s
    · rw [s5] at c4; cases c4
  obtain ⟨k1, k2, k3, k4, k5⟩ := I.rw.1 r hr
  obtain ⟨g1, ec1, fc1, u1⟩ := lose2_l (r := r) (zb := z r) (ρ := ro r) (ω := fun k => w (ro r k)) (τ := fun k => tt (ro r k)) hrem k2 (fun k10 h11 => some (k10, h11)) (z r) 0 FU 0 h (by omega) (by unfold FU; omega) k1 k3 k4 (fun k hk => ⟨(I.rowA hr k hk).1, (I.rowA hr k hk).2, fun j hj => ⟨(I.tr.1 _ (I.of_m hr hk hj).2.1).1.1, by have := (I.of_m hr hk hj).2.1; omega⟩⟩)
  simp only [Nat.zero_add, Int32.zero_add] at ec1
  rw [I.su_of hr (fun t => if t % 2 = rem then 1 else 0)] at ec1
  generalize hN : su (fun t => if ofm h r t then (if t % 2 = rem then (1 : Int32) else 0) else 0) (pC h 6) = N at ec1
  have ec1 : F_X2_loseTrunks r (nI rem) h = some (N, g1) := ec1
  have fc4 : Fr [0, 2, 7] [0, 2, 6] h (wI (wI (wR (wR (wR (wI g1 7 0 17 (pI h 7 0 17 + N)) 0 c 3 none) 0 c 2 (some p)) 2 r 4 none) 2 r 5 (-1)) 0 c 5 (nI nw)) := ((((((fc1.mono (by decide) (by decide)).wI (by decide)).wR (by decide)).wR (by decide)).wR (by decide)).wI (by decide)).wI (by decide)
  have f1I : ∀ k, pI g1 k = pI h k := fun k => fc1.I (not_mem_nil' k)
  have f1R : ∀ k, k ≠ 6 → pR g1 k = pR h k := fun k hk => fc1.R (by simpa using hk)
  obtain ⟨h1, ec5, fc5, u2, u3, u4⟩ := F_scatter (g := (wI (wI (wR (wR (wR (wI g1 7 0 17 (pI h 7 0 17 + N)) 0 c 3 none) 0 c 2 (some p)) 2 r 4 none) 2 r 5 (-1)) 0 c 5 (nI nw))) (r := r) (zb := z r) (ρ := ro r) (ω := fun k => w (ro r k)) (τ := fun k => tt (ro r k)) k2 (by simp (disch := omega) only [sl_RI, sl_CI, sl_LI, sl_IR, sl_CR, sl_LR, sl_II, sl_Ie, sl_RR, sl_Re, sl_CN, sl_Ce, sl_LN, sl_Le, sl_IN, sl_INe, sl_RN, sl_RNe, up2_s, up2_n, up1_s, up1_n, upN_s, upN_n, ne_eq, not_false_eq_true, reduceCtorEq, f1I]; exact k1) (by simp (disch := omega) only [sl_RI, sl_CI, sl_LI, sl_IR, sl_CR, sl_LR, sl_II, sl_Ie, sl_RR, sl_Re, sl_CN, sl_Ce, sl_LN, sl_Le, sl_IN, sl_INe, sl_RN, sl_RNe, up2_s, up2_n, up1_s, up1_n, upN_s, upN_n, ne_eq, not_false_eq_true, reduceCtorEq, f1R]; exact k3) (by simp (disch := omega) only [sl_RI, sl_CI, sl_LI, sl_IR, sl_CR, sl_LR, sl_II, sl_Ie, sl_RR, sl_Re, sl_CN, sl_Ce, sl_LN, sl_Le, sl_IN, sl_INe, sl_RN, sl_RNe, up2_s, up2_n, up1_s, up1_n, upN_s, upN_n, ne_eq, not_false_eq_true, reduceCtorEq, fc1.L]; exact k4) (fun k hk => ⟨by rw [fc4.R (by decide)]; exact (I.rowA hr k hk).1, (I.rowA hr k hk).2.fr fc4 (by decide) (by decide) (by decide)⟩)
  have fc : Fr [0, 2, 7] [0, 2, 6] h h1 := fc4.trans (fc5.mono (by decide) (by decide))
  have M : ME h h1 := fc.ME (by decide) (by decide)
  have w0 : pI h1 0 = up2 (pI h 0) c 5 (nI nw) := by rw [fc5.I (by decide)]; simp (disch := omega) only [sl_RI, sl_CI, sl_LI, sl_IR, sl_CR, sl_LR, sl_II, sl_Ie, sl_RR, sl_Re, sl_CN, sl_Ce, sl_LN, sl_Le, sl_IN, sl_INe, sl_RN, sl_RNe, up2_s, up2_n, up1_s, up1_n, upN_s, upN_n, ne_eq, not_false_eq_true, reduceCtorEq, f1I]
  have w2 : pI h1 2 = up2 (up2 (pI h 2) r 5 (-1)) r 2 0 := by rw [u2]; simp (disch := omega) only [sl_RI, sl_CI, sl_LI, sl_IR, sl_CR, sl_LR, sl_II, sl_Ie, sl_RR, sl_Re, sl_CN, sl_Ce, sl_LN, sl_Le, sl_IN, sl_INe, sl_RN, sl_RNe, up2_s, up2_n, up1_s, up1_n, upN_s, upN_n, ne_eq, not_false_eq_true, reduceCtorEq, f1I]
  have w7 : pI h1 7 = up2 (pI h 7) 0 17 (pI h 7 0 17 + N) := by rw [fc5.I (by decide)]; simp (disch := omega) only [sl_RI, sl_CI, sl_LI, sl_IR, sl_CR, sl_LR, sl_II, sl_Ie, sl_RR, sl_Re, sl_CN, sl_Ce, sl_LN, sl_Le, sl_IN, sl_INe, sl_RN, sl_RNe, up2_s, up2_n, up1_s, up1_n, upN_s, upN_n, ne_eq, not_false_eq_true, reduceCtorEq, f1I]
  have v0 : pR h1 0 = up2 (up2 (pR h 0) c 3 none) c 2 (some p) := by rw [fc5.R (by decide)]; simp (disch := omega) only [sl_RI, sl_CI, sl_LI, sl_IR, sl_CR, sl_LR, sl_II, sl_Ie, sl_RR, sl_Re, sl_CN, sl_Ce, sl_LN, sl_Le, sl_IN, sl_INe, sl_RN, sl_RNe, up2_s, up2_n, up1_s, up1_n, upN_s, upN_n, ne_eq, not_false_eq_true, reduceCtorEq, f1R]
  have v2 : pR h1 2 = up2 (up2 (pR h 2) r 4 none) r 3 none := by rw [u3]; simp (disch := omega) only [sl_RI, sl_CI, sl_LI, sl_IR, sl_CR, sl_LR, sl_II, sl_Ie, sl_RR, sl_Re, sl_CN, sl_Ce, sl_LN, sl_Le, sl_IN, sl_INe, sl_RN, sl_RNe, up2_s, up2_n, up1_s, up1_n, upN_s, upN_n, ne_eq, not_false_eq_true, reduceCtorEq, f1R]
  have e6 : ∀ t, pR (wI (wI (wR (wR (wR (wI g1 7 0 17 (pI h 7 0 17 + N)) 0 c 3 none) 0 c 2 (some p)) 2 r 4 none) 2 r 5 (-1)) 0 c 5 (nI nw)) 6 t = pR g1 6 t := fun t => by simp (disch := omega) only [sl_RI, sl_CI, sl_LI, sl_IR, sl_CR, sl_LR, sl_II, sl_Ie, sl_RR, sl_Re, sl_CN, sl_Ce, sl_LN, sl_Le, sl_IN, sl_INe, sl_RN, sl_RNe, up2_s, up2_n, up1_s, up1_n, upN_s, upN_n, ne_eq, not_false_eq_true, reduceCtorEq]
  have e23 : pR (wI (wI (wR (wR (wR (wI g1 7 0 17 (pI h 7 0 17 + N)) 0 c 3 none) 0 c 2 (some p)) 2 r 4 none) 2 r 5 (-1)) 0 c 5 (nI nw)) 2 r 3 = some p := by simp (disch := omega) only [sl_RI, sl_CI, sl_LI, sl_IR, sl_CR, sl_LR, sl_II, sl_Ie, sl_RR, sl_Re, sl_CN, sl_Ce, sl_LN, sl_Le, sl_IN, sl_INe, sl_RN, sl_RNe, up2_s, up2_n, up1_s, up1_n, upN_s, upN_n, ne_eq, not_false_eq_true, reduceCtorEq, f1R]; exact p2
  have em := brk_l (T := pC h 6) (pv := nI p) (r := r) hx (by omega) (fun k29 h30 => nn (pR h30 8 0 28) fun n31 => ck (inb (nI r) (pL h30 48 n31)) <| nn (pR h30 8 0 26) fun n34 => ck (inb (nI r) (pL h30 46 n34)) <| cl (F_X8_lands 0 (pI h30 48 n31 (nI r).toNatClampNeg) (pI h30 46 n34 (nI r).toNatClampNeg) (pI h30 8 0 0) h30) fun _ h38 => cl (F_X8_ends 0 (nI r) h38) fun _ h41 => some (k29, h41)) (pC h 6) 0 FU 0 h1 (I.TL M) (by rw [M.I (by decide)]; exact p3) (by omega) (by unfold FU; omega)
  obtain ⟨g', em, fm, v3⟩ := em
  have m38 : pI h1 38 = pI h 38 := M.I (by decide)
  have m39 : pI h1 39 = pI h 39 := M.I (by decide)
  have m40 : pI h1 40 = pI h 40 := M.I (by decide)
  simp only [ofm, m38, m39, m40] at v3 em
  simp only [Nat.zero_add, Int32.zero_add] at em
  have hN' : su (fun t => if pI h 38 0 t = 1 ∧ pI h 40 0 t = nI r then (if t % 2 = rem then (1 : Int32) else 0) else 0) (pC h 6) = N := hN
  rw [hN'] at em
  have of1 : ∀ t, t < pC h 6 → ofm h r t → pI g' 38 0 t = (if t % 2 = rem then 3 else 0) ∧ pI g' 39 0 t = nI p ∧ pI g' 40 0 t = -1 := fun t ht o => (v3 t).1 ⟨by omega, ht, o⟩
  have of2 : ∀ t, ¬ ofm h r t → pI g' 38 0 t = pI h 38 0 t ∧ pI g' 39 0 t = pI h 39 0 t ∧ pI g' 40 0 t = pI h 40 0 t := fun t o => (v3 t).2 (fun q => o q.2.2)
  have of3 : ∀ t, t < pC h 6 → ofm h r t → pR h1 6 t 6 = none ∧ (t % 2 = rem → pR h1 6 t 5 = none) ∧ (t % 2 ≠ rem → pR h1 6 t 5 = some p) := fun t ht o => by
    have hin := (I.of_iff hr ht).mpr o
    obtain ⟨l1, l2, l3⟩ := (u4 t).1 hin
    obtain ⟨i, i1, i2⟩ := hin
    obtain ⟨d1, d2, d3⟩ := (u1 t).1 ⟨i, by omega, i1, i2⟩
    rw [e6 t] at l2 l3
    rw [e23] at l3
    obtain ⟨q5, q6⟩ : pR h 6 t 5 = none ∧ pR h 6 t 6 ≠ none := by
      rcases (I.tr.1 t ht).2.2 with ⟨q, -⟩ | ⟨-, q5, ⟨r', -, q, -⟩, -⟩ | ⟨q, -⟩ | ⟨q, -⟩
      · rw [o.1] at q; exact absurd q (by decide)
      · exact ⟨q5, by rw [q]; simp⟩
      · rw [o.1] at q; exact absurd q (by decide)
      · rw [o.1] at q; exact absurd q (by decide)
    exact ⟨l1, fun e => by rw [l2 (d1 e), d3, q5], fun e => l3 (by rw [d2 e]; exact q6)⟩
  have of4 : ∀ t, t < pC h 6 → ¬ ofm h r t → pR h1 6 t = pR h 6 t := fun t ht o => by
    have hin : ¬ _ := fun q => o ((I.of_iff hr ht).mp q)
    rw [(u4 t).2 hin, e6 t]
    exact (u1 t).2 (fun ⟨k, _, q⟩ => hin ⟨k, q⟩)
  refine ⟨N, h1, (wI (wI (wI (wI (wI (wI (wI (wI g' 51 0 c 0) 52 0 c (nI p)) 53 0 c (nI nw)) 54 0 c (-1)) 45 0 r 3) 47 0 r 0) 48 0 r (-1)) 49 0 r (-1)), ?_, ?_, nw, up1 z r 0, ro, w, tt, q0, ?_⟩
  · rw [F_X7_breaks, I.raftAt, e_cl, e2, e_onnS, I.state2 hr, e_cl, if_pos c0]
    have lc : F_X2_landCrew r (wI g1 7 0 17 (pI g1 7 0 17 + N)) = some (some c, wI (wR (wR (wR (wI g1 7 0 17 (pI h 7 0 17 + N)) 0 c 3 none) 0 c 2 (some p)) 2 r 4 none) 2 r 5 (-1)) := by
      have e4 : pR (wI g1 7 0 17 (pI g1 7 0 17 + N)) 2 r 4 = some c := by simp (disch := omega) only [sl_RI, sl_CI, sl_LI, sl_IR, sl_CR, sl_LR, sl_II, sl_Ie, sl_RR, sl_Re, sl_CN, sl_Ce, sl_LN, sl_Le, sl_IN, sl_INe, sl_RN, sl_RNe, up2_s, up2_n, up1_s, up1_n, upN_s, upN_n, ne_eq, not_false_eq_true, reduceCtorEq, f1R]; exact c2
      rw [F_X2_landCrew, e4, e_onnS]
      have e3 : pR g1 2 r 3 = some p := by rw [f1R 2 (by decide)]; exact p2
      simp (disch := omega) only [e_nn, e_onnN, e_onnS, e_ck, e_lt, e_cl, F_within, F_in, isz0, isz1, i10, ↓reduceIte, sl_RI, sl_CI, sl_LI, sl_IR, sl_CR, sl_LR, sl_II, sl_Ie, sl_RR, sl_Re, sl_CN, sl_Ce, sl_LN, sl_Le, sl_IN, sl_INe, sl_RN, sl_RNe, up2_s, up2_n, up1_s, up1_n, upN_s, upN_n, ne_eq, not_false_eq_true, reduceCtorEq, e3, f1I]
    have en : pI (wI (wR (wR (wR (wI g1 7 0 17 (pI h 7 0 17 + N)) 0 c 3 none) 0 c 2 (some p)) 2 r 4 none) 2 r 5 (-1)) 7 0 14 = nI nw := by simp (disch := omega) only [sl_RI, sl_CI, sl_LI, sl_IR, sl_CR, sl_LR, sl_II, sl_Ie, sl_RR, sl_Re, sl_CN, sl_Ce, sl_LN, sl_Le, sl_IN, sl_INe, sl_RN, sl_RNe, up2_s, up2_n, up1_s, up1_n, upN_s, upN_n, ne_eq, not_false_eq_true, reduceCtorEq, f1I]; exact n1
    rcases hx with ⟨hy, rfl⟩ | ⟨hy, rfl⟩
    · rw [if_pos hy, show (0 : Int32) = nI 0 from rfl, ec1, e_cl, e_lt, lc, e_cl, e_onnS, e_lt, en, ec5, e_cl]
    · rw [if_neg hy, show (1 : Int32) = nI 1 from rfl, ec1, e_cl, e_lt, lc, e_cl, e_onnS, e_lt, en, ec5, e_cl]
  · rw [F_X8_breaks, isRaftS (R := pC h 2) hR hr (by rw [M.I (by decide)]; exact I.c_j24) (by rw [M.R (by decide)]; exact I.r8_25) (by rw [M.L (by decide)]; exact I.l45_0) e1, M.I (k := 45) (by decide), if_pos c0, e_cl, if_neg (by decide)]
    refine em.trans ?_
    have TG := (I.TL M).fr fm (by decide)
    have k48 : pI g' 48 0 r = nI c := by rw [fm.I (by decide), M.I (by decide)]; exact c3
    have k46 : pI g' 46 0 r = nI p := by rw [fm.I (by decide), M.I (by decide)]; exact p3
    have k0 : pI g' 8 0 0 = nI nw := by rw [fm.I (by decide), M.I (by decide)]; exact n2
    rw [TG.r 28 (by decide), e_nn, TG.l 48 60 (by decide) (by decide), i_inb (by omega) (by omega), e_ck, TG.r 26 (by decide), e_nn, TG.l 46 60 (by decide) (by decide), i_inb (by omega) (by omega), e_ck, i_cl (by omega), k48, k46, k0, F_lands (by omega) (TG.r 32 (by decide)) (TG.r 33 (by decide)) (TG.r 34 (by decide)) (TG.r 35 (by decide)) (TG.l 51 10 (by decide) (by decide)) (TG.l 52 10 (by decide) (by decide)) (TG.l 53 10 (by decide) (by decide)) (TG.l 54 10 (by decide) (by decide)), e_cl]
    have f5 : Fr [51, 52, 53, 54] [] g' (wI (wI (wI (wI g' 51 0 c 0) 52 0 c (nI p)) 53 0 c (nI nw)) 54 0 c (-1)) := ((((Fr.refl _ _ _).wI (by decide)).wI (by decide)).wI (by decide)).wI (by decide)
    rw [F_ends (TG.fr f5 (by decide)) (by omega), e_cl]
  · unfold SimG
    simp (disch := omega) only [sl_RI, sl_CI, sl_LI, sl_IR, sl_CR, sl_LR, sl_II, sl_Ie, sl_RR, sl_Re, sl_CN, sl_Ce, sl_LN, sl_Le, sl_IN, sl_INe, sl_RN, sl_RNe, up2_s, up2_n, up1_s, up1_n, upN_s, upN_n, ne_eq, not_false_eq_true, reduceCtorEq]
    simp (disch := decide) only [fm.I, fm.R, fm.L, fm.C]
    simp (disch := decide) only [fc.I, fc.R, fc.L, fc.C, w0, w2, w7, v0, v2]
    simp (disch := omega) only [sl_RI, sl_CI, sl_LI, sl_IR, sl_CR, sl_LR, sl_II, sl_Ie, sl_RR, sl_Re, sl_CN, sl_Ce, sl_LN, sl_Le, sl_IN, sl_INe, sl_RN, sl_RNe, up2_s, up2_n, up1_s, up1_n, upN_s, upN_n, ne_eq, not_false_eq_true, reduceCtorEq]
    have nx1 : ∀ j, j < w q0 → tt q0 j < pC h 6 := fun j hj => ((I.rw.2.1 q0 I.nx.2.1).2.2.2.2.2 j hj).2
    have no0 : ∀ t, pI h 38 0 t = 0 → ¬ ofm h r t := fun t e o => by rw [o.1] at e; exact absurd e (by decide)
    refine ⟨I.w7, I.w1, I.w5, I.w8, I.ln, I.ct, I.a19, I.a20, I.a21, I.a22, I.st, I.sb, ?_, ?_, ?_, ?_, ?_, I.to, I.pr, I.gnw, I.tk, I.rg, I.ba, ?_⟩
    · refine I.tr.scat (r := r) p1 (fun t ht o => ?_) (fun t ht o => ?_) (fun t ht => ?_)
      · obtain ⟨x1, x2, x3⟩ := of1 t ht o
        obtain ⟨y1, y2, y3⟩ := of3 t ht o
        by_cases d : t % 2 = rem
        · rw [if_pos d] at x1
          exact Or.inr ⟨x1, y2 d, y1⟩
        · rw [if_neg d] at x1
          exact Or.inl ⟨x1, x2, y3 d, y1⟩
      · obtain ⟨x1, x2, x3⟩ := of2 t o
        exact ⟨x1, x2, x3, of4 t ht o⟩
      · exact (of2 t (no0 t (I.tr.2 t ht))).1
    · intro r' hr'
      by_cases e : r' = r
      · subst e
        simp (disch := omega) only [sl_RI, sl_CI, sl_LI, sl_IR, sl_CR, sl_LR, sl_II, sl_Ie, sl_RR, sl_Re, sl_CN, sl_Ce, sl_LN, sl_Le, sl_IN, sl_INe, sl_RN, sl_RNe, up2_s, up2_n, up1_s, up1_n, upN_s, upN_n, ne_eq, not_false_eq_true, reduceCtorEq]
        exact ⟨⟨a1, trivial, trivial, 0, by omega, rfl⟩, Or.inl ⟨trivial, trivial, trivial, trivial, trivial, trivial⟩⟩
      · obtain ⟨q1, q2⟩ := I.rf r' hr'
        simp (disch := omega) only [sl_RI, sl_CI, sl_LI, sl_IR, sl_CR, sl_LR, sl_II, sl_Ie, sl_RR, sl_Re, sl_CN, sl_Ce, sl_LN, sl_Le, sl_IN, sl_INe, sl_RN, sl_RNe, up2_s, up2_n, up1_s, up1_n, upN_s, upN_n, ne_eq, not_false_eq_true, reduceCtorEq]
        refine ⟨q1, ?_⟩
        rcases q2 with q2 | q2 | ⟨b1, b2, b3, ⟨d, d1, d2, d3, d4⟩, b5⟩ | ⟨b1, b2, b3, ⟨d, d1, d2, d3, d4⟩, b5⟩
        · exact Or.inl q2
        · exact Or.inr (Or.inl q2)
        · have : d ≠ c := by rintro rfl; rw [c4] at d4; cases d4; exact e rfl
          exact Or.inr (Or.inr (Or.inl ⟨b1, b2, b3, ⟨d, d1, d2, d3, by simpa (disch := omega) only [sl_RI, sl_CI, sl_LI, sl_IR, sl_CR, sl_LR, sl_II, sl_Ie, sl_RR, sl_Re, sl_CN, sl_Ce, sl_LN, sl_Le, sl_IN, sl_INe, sl_RN, sl_RNe, up2_s, up2_n, up1_s, up1_n, upN_s, upN_n, ne_eq, not_false_eq_true, reduceCtorEq] using d4⟩, b5⟩))
        · have : d ≠ c := by rintro rfl; rw [c4] at d4; cases d4; exact e rfl
          exact Or.inr (Or.inr (Or.inr ⟨b1, b2, b3, ⟨d, d1, d2, d3, by simpa (disch := omega) only [sl_RI, sl_CI, sl_LI, sl_IR, sl_CR, sl_LR, sl_II, sl_Ie, sl_RR, sl_Re, sl_CN, sl_Ce, sl_LN, sl_Le, sl_IN, sl_INe, sl_RN, sl_RNe, up2_s, up2_n, up1_s, up1_n, upN_s, upN_n, ne_eq, not_false_eq_true, reduceCtorEq] using d4⟩, b5⟩))
    · refine ⟨fun c' hc' => ?_, fun c' hc' => by have := I.cr.2 c' hc'; simpa (disch := omega) only [sl_RI, sl_CI, sl_LI, sl_IR, sl_CR, sl_LR, sl_II, sl_Ie, sl_RR, sl_Re, sl_CN, sl_Ce, sl_LN, sl_Le, sl_IN, sl_INe, sl_RN, sl_RNe, up2_s, up2_n, up1_s, up1_n, upN_s, upN_n, ne_eq, not_false_eq_true, reduceCtorEq] using this⟩
      by_cases e : c' = c
      · subst e
        simp (disch := omega) only [sl_RI, sl_CI, sl_LI, sl_IR, sl_CR, sl_LR, sl_II, sl_Ie, sl_RR, sl_Re, sl_CN, sl_Ce, sl_LN, sl_Le, sl_IN, sl_INe, sl_RN, sl_RNe, up2_s, up2_n, up1_s, up1_n, upN_s, upN_n, ne_eq, not_false_eq_true, reduceCtorEq]
        exact ⟨gc1, Or.inl ⟨trivial, ⟨p, p1, rfl, rfl⟩, trivial, s6, nw + 8, nw + 8, (nI_m8 nw).symm, (nI_m8 nw).symm, Nat.le_refl _, Nat.le_refl _, Or.inl rfl⟩⟩
      · obtain ⟨q1, q2⟩ := I.cr.1 c' hc'
        simp (disch := omega) only [sl_RI, sl_CI, sl_LI, sl_IR, sl_CR, sl_LR, sl_II, sl_Ie, sl_RR, sl_Re, sl_CN, sl_Ce, sl_LN, sl_Le, sl_IN, sl_INe, sl_RN, sl_RNe, up2_s, up2_n, up1_s, up1_n, upN_s, upN_n, ne_eq, not_false_eq_true, reduceCtorEq]
        refine ⟨q1, ?_⟩
        rcases q2 with q2 | ⟨b1, b2, ⟨d, d1, d2, d3, d4⟩, b5⟩ | q2
        · exact Or.inl q2
        · have : d ≠ r := by rintro rfl; rw [c2] at d3; cases d3; exact e rfl
          exact Or.inr (Or.inl ⟨b1, b2, ⟨d, d1, d2, by simpa (disch := omega) only [sl_RI, sl_CI, sl_LI, sl_IR, sl_CR, sl_LR, sl_II, sl_Ie, sl_RR, sl_Re, sl_CN, sl_Ce, sl_LN, sl_Le, sl_IN, sl_INe, sl_RN, sl_RNe, up2_s, up2_n, up1_s, up1_n, upN_s, upN_n, ne_eq, not_false_eq_true, reduceCtorEq] using d3, by simpa (disch := omega) only [sl_RI, sl_CI, sl_LI, sl_IR, sl_CR, sl_LR, sl_II, sl_Ie, sl_RR, sl_Re, sl_CN, sl_Ce, sl_LN, sl_Le, sl_IN, sl_INe, sl_RN, sl_RNe, up2_s, up2_n, up1_s, up1_n, upN_s, upN_n, ne_eq, not_false_eq_true, reduceCtorEq] using d4⟩, b5⟩)
        · exact Or.inr (Or.inr q2)
    · refine I.rw.scat hr hR (fun r' e => ?_) ?_ (fun r' => ?_) (fun t ht o => ?_) (fun t ht o => ?_)
      · simp (disch := omega) only [sl_RI, sl_CI, sl_LI, sl_IR, sl_CR, sl_LR, sl_II, sl_Ie, sl_RR, sl_Re, sl_CN, sl_Ce, sl_LN, sl_Le, sl_IN, sl_INe, sl_RN, sl_RNe, up2_s, up2_n, up1_s, up1_n, upN_s, upN_n, ne_eq, not_false_eq_true, reduceCtorEq]
      · simp (disch := omega) only [sl_RI, sl_CI, sl_LI, sl_IR, sl_CR, sl_LR, sl_II, sl_Ie, sl_RR, sl_Re, sl_CN, sl_Ce, sl_LN, sl_Le, sl_IN, sl_INe, sl_RN, sl_RNe, up2_s, up2_n, up1_s, up1_n, upN_s, upN_n, ne_eq, not_false_eq_true, reduceCtorEq]
      · by_cases e : r' = r
        · subst e; simp (disch := omega) only [sl_RI, sl_CI, sl_LI, sl_IR, sl_CR, sl_LR, sl_II, sl_Ie, sl_RR, sl_Re, sl_CN, sl_Ce, sl_LN, sl_Le, sl_IN, sl_INe, sl_RN, sl_RNe, up2_s, up2_n, up1_s, up1_n, upN_s, upN_n, ne_eq, not_false_eq_true, reduceCtorEq]
        · simp (disch := omega) only [sl_RI, sl_CI, sl_LI, sl_IR, sl_CR, sl_LR, sl_II, sl_Ie, sl_RR, sl_Re, sl_CN, sl_Ce, sl_LN, sl_Le, sl_IN, sl_INe, sl_RN, sl_RNe, up2_s, up2_n, up1_s, up1_n, upN_s, upN_n, ne_eq, not_false_eq_true, reduceCtorEq]
      · rw [(of1 t ht o).1]; split <;> decide
      · exact ⟨(of2 t o).1, (of2 t o).2.2⟩
    · refine I.nx.scat nx1 (fun r' hr' => ?_) (fun t ht e => ?_)
      · by_cases e : r' = r
        · subst e; rw [up1_s]; omega
        · rw [up1_n _ _ e]; omega
      · obtain ⟨x1, x2, -⟩ := of2 t (no0 t e)
        exact ⟨x1.trans e, x2⟩
    · obtain ⟨s1, s2⟩ := I.so
      rw [s1, s2]
      constructor
      · refine (cnt_ext (fun t ht => ?_)).symm
        by_cases o : ofm h r t
        · rw [(of1 t ht o).1, o.1]; split <;> decide
        · rw [(of2 t o).1]
      · unfold cnt
        rw [← hN, ← su_add]
        refine su_ext (fun t ht => ?_)
        by_cases o : ofm h r t
        · rw [(of1 t ht o).1, if_pos o, o.1]
          by_cases d : t % 2 = rem
          · rw [if_pos d, if_pos d]; decide
          · rw [if_neg d, if_neg d]; decide
        · rw [(of2 t o).1, if_neg o, Int32.add_zero]
end OPS
