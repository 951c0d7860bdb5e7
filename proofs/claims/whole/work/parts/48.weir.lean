section OPS
variable {nw : Nat} {z : Nat → Nat} {ro : Nat → Nat → Nat} {w : Nat → Nat} {tt : Nat → Nat → Nat} {q0 : Nat} {h : Hp}
theorem SimG.stm (I : SimG nw z ro w tt q0 h) {s : Nat} (hs : s < pC h 4) : ∃ σ : Int32, (σ = 0 ∨ σ = 1) ∧ (∀ g, CE h g → F_X4_storms s (nI nw) g = some (σ, g)) ∧ wi (nI nw) (pI h 32 0 s) (pI h 33 0 s - 1) = σ := by
  obtain ⟨n1, n2, n3⟩ := I.gnw
  obtain ⟨-, f, t, f1, t1, f2, t2⟩ := I.sb s hs
  have a8 : pI h 4 s 8 = nI f := by rw [(I.st.1 s hs).2.2.2.2.2.2.2.1]; exact f1
  have a9 : pI h 4 s 9 = nI t := by rw [(I.st.1 s hs).2.2.2.2.2.2.2.2.1]; exact t1
  by_cases c1 : nw < f
  · refine ⟨0, Or.inl rfl, fun g c => ?_, ?_⟩
    · rw [F_X4_storms, c.I (k := 4) (by decide), a8, q_lt c1 f2]
    · rw [wi, f1, q_lt c1 f2]
  · by_cases c2 : t ≤ nw
    · refine ⟨0, Or.inl rfl, fun g c => ?_, ?_⟩
      · rw [F_X4_storms, c.I (k := 4) (by decide), a8, q_nlt (by omega) (by omega), a9, q_le c2 (by omega)]
      · rw [wi, f1, q_nlt (by omega) (by omega), t1, if_pos]
        cases t with
        | zero =>
          rw [Int32.lt_iff_toInt_lt, nI_toInt (by omega)]
          have : (nI 0 - 1).toInt = -1 := by decide
          omega
        | succ t => rw [nI_pred]; exact nI_lt (by omega) (by omega)
    · refine ⟨1, Or.inr rfl, fun g c => ?_, ?_⟩
      · rw [F_X4_storms, c.I (k := 4) (by decide), a8, q_nlt (by omega) (by omega), a9, q_nle (by omega) (by omega)]
      · rw [wi, f1, q_nlt (by omega) (by omega), t1, if_neg]
        cases t with
        | zero => omega
        | succ t => rw [nI_pred]; exact nI_nlt (by omega) (by omega)
theorem SimG.tollC (I : SimG nw z ro w tt q0 h) : ∃ v : Int32, (∀ g, CE h g → F_X5_inForce 0 0 (nI (nw / 24)) g = some (v, g)) ∧ ∀ g : Hp, pI g 8 0 38 = pI h 8 0 38 → pR g 8 0 = pR h 8 0 → pL g 57 0 = pL h 57 0 → pL g 58 0 = pL h 58 0 → pI g 57 0 = pI h 57 0 → pI g 58 0 = pI h 58 0 → F_X8_tollOf 0 (nI (nw / 24)) g = some (v, g) := by
  obtain ⟨v, h1, h2⟩ := I.tollNow
  refine ⟨v, fun g c => ?_, h2⟩
  obtain ⟨n1, n2, n3⟩ := I.gnw
  obtain ⟨n, hn, ex, ey, hk⟩ := I.to
  obtain ⟨d, hd⟩ : ∃ d : Nat → Nat, ∀ k, k < n → pI h 57 0 k = nI (d k) ∧ d k < 2147483648 := by
    refine ⟨fun k => (pI h 57 0 k).toNatClampNeg, fun k hk2 => ?_⟩
    obtain ⟨-, -, -, d, d1, d2⟩ := hk k hk2
    show pI h 57 0 k = nI ((pI h 57 0 k).toNatClampNeg) ∧ (pI h 57 0 k).toNatClampNeg < 2147483648
    rw [d2, i_cl (by omega)]
    exact ⟨rfl, by omega⟩
  have hk' : ∀ g, CE h g → ∀ k, k < n → (pI g 16 0 k = 0 ↔ (fun _ => true : Nat → Bool) k = true) ∧ pI g 17 0 k = nI (d k) ∧ pI g 18 0 k = pI h 58 0 k ∧ d k < 2147483648 := by
    intro g c k hk2
    obtain ⟨a1, a2, a3, -⟩ := hk k hk2
    obtain ⟨b1, b2⟩ := hd k hk2
    rw [c.I (k := 16) (by decide), c.I (k := 17) (by decide), c.I (k := 18) (by decide)]
    exact ⟨by simp only [a1], by rw [a2, b1], a3, b2⟩
  have ec : ∀ g, CE h g → F_X5_inForce 0 0 (nI (nw / 24)) g = some (vS (pI h 58 0) (bst (fun k => (fun _ => true : Nat → Bool) k && decide (d k ≤ nw / 24)) d n 0 none), g) := fun g c => inf_c (h := g) (q := 0) (n := n) (len := 30) (K := fun _ => true) (d := d) (σ := pI h 58 0) (ky := 0) (D := nw / 24) (by rw [c.I (by decide)]; exact ex) hn (by omega) (by rw [c.R (by decide)]; exact I.r5_00) (by rw [c.R (by decide)]; exact I.r5_01) (by rw [c.R (by decide)]; exact I.r5_02) (by rw [c.L (by decide)]; exact I.l16_0) (by rw [c.L (by decide)]; exact I.l17_0) (by rw [c.L (by decide)]; exact I.l18_0) (hk' g c) (by omega) (fun k16 h17 => some (k16, h17)) n 0 FU none (by omega) (by unfold FU; omega) (fun k h => by cases h)
  have := (ec h (CE.refl h)).symm.trans h1
  injection this with this
  injection this with this
  rw [← this]
  exact ec g c
set_option maxRecDepth 20000 in
theorem weir_step {S s : Nat} (M : Mid S nw h) (s0 : 0 < s) (hsS : s < S) : ∃ h', Mid S nw h' ∧ (∀ g, CE h g → ∃ g', F_X7_openWeir 0 (some s) g = some ((), g') ∧ CE h' g' ∧ ME g g') ∧ (∀ g, ME h g → ∃ g', F_X8_weir 0 (nI s) g = some ((), g') ∧ ME h' g' ∧ CE g g') := by
  obtain ⟨rfl, Q, z, ro, w, tt, q0, I⟩ := id M
  have hs := hsS
  have hC := I.c_hC
  have hR := I.c_hR
  have hS := I.c_hS
  have hT := I.c_hT
  obtain ⟨n1, n2, n3⟩ := I.gnw
  obtain ⟨σ, σ01, σc, σm⟩ := I.stm hs
  have headC : ∀ g, CE h g → F_X7_openWeir 0 (some s) g = if σ = 0 then (cl (F_X7_nextAt 0 (some s) g) fun r7 h8 => onn r7 (some ((), h8)) fun n11 => cl (F_X7_takeTolls 0 (some n11) h8) fun _ h13 => cl (F_X2_need n11 h13) fun r15 h16 => lt (wI h16 4 s 7 ((pI h13 4 s 7) - r15)) fun h18 => cl (F_X2_goDown n11 (some s) (pI h18 7 0 14) h18) fun _ h21 => some ((), h21)) else some ((), g) := by
    intro g c
    rw [F_X7_openWeir, e_nn, c.I (k := 7) (by decide), n1, σc g c, e_cl]
  rcases σ01 with rfl | rfl
  rotate_left
  · refine ⟨h, M, fun g c => ⟨g, ?_, c, ME.refl g⟩, fun g m => ⟨g, ?_, m, CE.refl g⟩⟩
    · rw [headC g c, if_neg (by decide)]
    · rw [F_X8_weir, m.R (k := 8) (by decide), I.r8_9, e_nn, m.L (k := 32) (by decide), I.l32_0, i_inb (by omega) (by omega), e_ck, I.r8_10, e_nn, m.L (k := 33) (by decide), I.l33_0, i_inb (by omega) (by omega), e_ck, i_cl (by omega), m.I (k := 8) (by decide), n2, m.I (k := 32) (by decide), m.I (k := 33) (by decide), F_in, σm, e_cl, if_neg (by decide)]
  have selC : ∀ g, CE h g → ∃ v, F_X7_nextAt 0 (some s) g = some (v, g) ∧ spC h z ro w tt s (crw h) (pC h 0) v := by
    intro g c
    obtain ⟨v, e, a⟩ := next_c I c hs (fun k25 h26 => some (k25, h26)) (pC h 0) 0 FU none (by omega) (by unfold FU; omega) ⟨fun b hb => (by cases hb), fun r _ hk => (by omega)⟩
    exact ⟨v, e, a⟩
  have selM : ∀ g, ME h g → ∀ (β : Type) (ka : Int32 → Hp → Option β), ∃ v, L_X8_weir_29 0 (nI s) ka FU (-1) (nI 0) g = ka (vK v) g ∧ spC h z ro w tt s id (pC h 2) v := fun g m β ka => weir_m I m hs ka (pC h 2) 0 FU none (by omega) (by unfold FU; omega) ⟨fun b hb => (by cases hb), fun r _ hk => absurd hk (Nat.not_lt_zero _)⟩
  obtain ⟨v, ev, av⟩ := selC h (CE.refl h)
  have selC' : ∀ g, CE h g → F_X7_nextAt 0 (some s) g = some (v, g) := by
    intro g c
    obtain ⟨v', e, a⟩ := selC g c
    obtain ⟨vm, -, am⟩ := selM h (ME.refl h) (Int32 × Hp) (fun k h => some (k, h))
    rw [e, I.choice a am, ← I.choice av am]
  have selM' : ∀ g, ME h g → ∀ (β : Type) (ka : Int32 → Hp → Option β), L_X8_weir_29 0 (nI s) ka FU (-1) (nI 0) g = ka (vK v) g := by
    intro g m β ka
    obtain ⟨vm, em, am⟩ := selM g m β ka
    rw [em, I.choice av am]
  cases v with
  | none =>
    refine ⟨h, M, fun g c => ⟨g, ?_, c, ME.refl g⟩, fun g m => ⟨g, ?_, m, CE.refl g⟩⟩
    · rw [headC g c, if_pos rfl, selC' g c, e_cl, e_onnN]
    · rw [F_X8_weir, m.R (k := 8) (by decide), I.r8_9, e_nn, m.L (k := 32) (by decide), I.l32_0, i_inb (by omega) (by omega), e_ck, I.r8_10, e_nn, m.L (k := 33) (by decide), I.l33_0, i_inb (by omega) (by omega), e_ck, i_cl (by omega), m.I (k := 8) (by decide), n2, m.I (k := 32) (by decide), m.I (k := 33) (by decide), F_in, σm, e_cl, if_pos rfl]
      refine (selM' g m _ _).trans ?_
      rw [show vK none = -1 from rfl, if_pos rfl]
  | some r =>
  obtain ⟨⟨hr, ft, hnd⟩, -⟩ := av.1 r rfl
  obtain ⟨hz, ⟨p, p1, p2, p3, p4⟩, ⟨cr, c1, c2, c3, c4, c5⟩, b5⟩ := I.rdy hr ft.1
  have hps : p = s := by
    have := ft.2.1
    rw [p4, i_eq (by omega) (by omega)] at this
    exact this
  subst hps
  obtain ⟨bl, bl1, bl2, bl3⟩ := (I.st.1 p p1).2.2.2.2.2.2.2.2.2.2.2 p2
  obtain ⟨⟨hh, wd, fl, hd, pd, s1, s2, s3, s4, s5, s6, s7, s8, s9, s10, s11⟩, -⟩ := I.sb p p1
  have s12 : 1 ≤ hh := s11 p2
  clear s11
  have z8 := (I.rw.1 r hr).2.1
  rw [s5, i_le (by omega) (by omega)] at hnd
  obtain ⟨v, vc, vm⟩ := I.tollC
  have e24 : nI nw / (24 : Int32) = nI (nw / 24) := i_div (d := 24) (by omega) (by omega) (by omega)
  obtain ⟨ow, how⟩ : ∃ ow : Nat → Nat, ∀ t, t < pC h 6 → pI h 35 0 t = nI (ow t) ∧ ow t < 8 := by
    refine ⟨fun t => (pI h 35 0 t).toNatClampNeg, fun t ht => ?_⟩
    obtain ⟨-, ⟨⟨o, o1, o2⟩, -⟩, -⟩ := I.tr.1 t ht
    show pI h 35 0 t = nI ((pI h 35 0 t).toNatClampNeg) ∧ (pI h 35 0 t).toNatClampNeg < 8
    rw [o2, i_cl (by omega)]
    exact ⟨rfl, o1⟩
  have i4p : pI h 4 p 7 = nI pd := by rw [(I.st.1 p p1).2.2.2.2.2.2.1]; exact s5
  have i4h : pI h 4 p 2 = nI hh := by rw [(I.st.1 p p1).2.1]; exact s1
  have esub : nI pd - nI (5 * z r) = nI (pd - 5 * z r) := i_sub hnd
  have eadd : nI nw + nI hh = nI (nw + hh) := nI_add _ _
  have ez47 := I.z47 hr
  refine ⟨(wI (sI (wI (wI (wI (wI (wR (wI (wI (wI (sI h 24 (rw0 (pI h 24) (fun o => pI h 24 0 o - su (fun k => su (fun j => if ow (tt (ro r k) j) = o then v else 0) (w (ro r k))) (z r)))) 7 0 15 (pI h 7 0 15 + su (fun k => su (fun _ => v) (w (ro r k))) (z r))) 4 p 7 (nI (pd - 5 * z r))) 2 r 5 (nI (nw + hh))) 2 r 3 (some bl)) 30 0 p (nI (pd - 5 * z r))) 45 0 r 2) 46 0 r (nI bl)) 49 0 r (nI (nw + hh))) 56 (rw0 (pI h 56) (fun o => pI h 56 0 o - su (fun t => if ofm h r t then (if ow t = o then v else 0) else 0) (pC h 6)))) 8 0 46 (pI h 8 0 46 + su (fun t => if ofm h r t then v else 0) (pC h 6))), ⟨rfl, ⟨?_, ?_⟩, z, ro, w, tt, q0, ?_⟩, fun g c => ?_, fun g m => ?_⟩
  · intro r' hr'
    simp (disch := omega) only [ss_II, ss_Ie, ss_RI, ss_LI, ss_CI, ss_RR, ss_Re, ss_IR, ss_LR, ss_CR, rw0_0, ne_eq, not_false_eq_true, sl_RI, sl_CI, sl_LI, sl_IR, sl_CR, sl_LR, sl_II, sl_Ie, sl_RR, sl_Re, sl_CN, sl_Ce, sl_LN, sl_Le, sl_IN, sl_INe, sl_RN, sl_RNe, up2_s, up2_n, up1_s, up1_n, upN_s, upN_n, ne_eq, not_false_eq_true, reduceCtorEq] at hr' ⊢
    by_cases e : r' = r
    · subst e
      rw [up1_s, up1_s, i_eq (by omega) (by omega)]
      intro _; omega
    · rw [up1_n _ _ e, up1_n _ _ e]
      exact Q.1 r' hr'
  · intro c hc
    simp (disch := omega) only [ss_II, ss_Ie, ss_RI, ss_LI, ss_CI, ss_RR, ss_Re, ss_IR, ss_LR, ss_CR, rw0_0, ne_eq, not_false_eq_true, sl_RI, sl_CI, sl_LI, sl_IR, sl_CR, sl_LR, sl_II, sl_Ie, sl_RR, sl_Re, sl_CN, sl_Ce, sl_LN, sl_Le, sl_IN, sl_INe, sl_RN, sl_RNe, up2_s, up2_n, up1_s, up1_n, upN_s, upN_n, ne_eq, not_false_eq_true, reduceCtorEq] at hc ⊢
    exact Q.2 c hc
  · unfold SimG
    simp (disch := omega) only [ss_II, ss_Ie, ss_RI, ss_LI, ss_CI, ss_RR, ss_Re, ss_IR, ss_LR, ss_CR, rw0_0, ne_eq, not_false_eq_true, sl_RI, sl_CI, sl_LI, sl_IR, sl_CR, sl_LR, sl_II, sl_Ie, sl_RR, sl_Re, sl_CN, sl_Ce, sl_LN, sl_Le, sl_IN, sl_INe, sl_RN, sl_RNe, up2_s, up2_n, up1_s, up1_n, upN_s, upN_n, ne_eq, not_false_eq_true, reduceCtorEq]
    refine ⟨I.w7, I.w1, I.w5, I.w8, I.ln, I.ct, I.a19, I.a20, I.a21, I.a22, ?_, ?_, I.tr, ?_, ?_, ?_, I.nx, I.to, I.pr, I.gnw, ?_, I.rg, ?_, I.so⟩
    · refine ⟨fun n hn => ?_, fun n hn => ?_⟩
      · have := I.st.1 n hn
        by_cases e : n = p
        · subst e
          obtain ⟨a0, a2, a3, a4, a5, a6, -, a8⟩ := this
          simp (disch := omega) only [sl_RI, sl_CI, sl_LI, sl_IR, sl_CR, sl_LR, sl_II, sl_Ie, sl_RR, sl_Re, sl_CN, sl_Ce, sl_LN, sl_Le, sl_IN, sl_INe, sl_RN, sl_RNe, up2_s, up2_n, up1_s, up1_n, upN_s, upN_n, ne_eq, not_false_eq_true, reduceCtorEq]
          exact ⟨a0, a2, a3, a4, a5, a6, trivial, a8⟩
        · simpa (disch := omega) only [sl_RI, sl_CI, sl_LI, sl_IR, sl_CR, sl_LR, sl_II, sl_Ie, sl_RR, sl_Re, sl_CN, sl_Ce, sl_LN, sl_Le, sl_IN, sl_INe, sl_RN, sl_RNe, up2_s, up2_n, up1_s, up1_n, upN_s, upN_n, ne_eq, not_false_eq_true, reduceCtorEq] using this
      · have := I.st.2 n hn
        simpa (disch := omega) only [sl_RI, sl_CI, sl_LI, sl_IR, sl_CR, sl_LR, sl_II, sl_Ie, sl_RR, sl_Re, sl_CN, sl_Ce, sl_LN, sl_Le, sl_IN, sl_INe, sl_RN, sl_RNe, up2_s, up2_n, up1_s, up1_n, upN_s, upN_n, ne_eq, not_false_eq_true, reduceCtorEq] using this
    · intro n hn
      have := I.sb n hn
      by_cases e : n = p
      · subst e
        rw [up1_s]
        exact ⟨⟨hh, wd, fl, hd, pd - 5 * z r, s1, s2, s3, s4, rfl, s6, s7, s8, s9, by omega, fun _ => s12⟩, this.2⟩
      · simpa (disch := omega) only [sl_RI, sl_CI, sl_LI, sl_IR, sl_CR, sl_LR, sl_II, sl_Ie, sl_RR, sl_Re, sl_CN, sl_Ce, sl_LN, sl_Le, sl_IN, sl_INe, sl_RN, sl_RNe, up2_s, up2_n, up1_s, up1_n, upN_s, upN_n, ne_eq, not_false_eq_true, reduceCtorEq] using this
    · intro r' hr'
      by_cases e : r' = r
      · subst e
        obtain ⟨⟨a1, a2, a3, a4⟩, b⟩ := I.rf r' hr
        have nz : pI h 47 0 r' ≠ 0 := by
          rw [ez47]; intro q
          have := (i_eqL 0 (by omega) (by omega)).mp q
          omega
        simp (disch := omega) only [sl_RI, sl_CI, sl_LI, sl_IR, sl_CR, sl_LR, sl_II, sl_Ie, sl_RR, sl_Re, sl_CN, sl_Ce, sl_LN, sl_Le, sl_IN, sl_INe, sl_RN, sl_RNe, up2_s, up2_n, up1_s, up1_n, upN_s, upN_n, ne_eq, not_false_eq_true, reduceCtorEq]
        exact ⟨⟨a1, a2, trivial, a4⟩, Or.inr (Or.inr (Or.inr ⟨trivial, nz, ⟨bl, by omega, rfl, rfl⟩, ⟨cr, c1, c2, c3, c4⟩, nw + hh, by omega, by omega, rfl⟩))⟩
      · have := I.rf r' hr'
        simpa (disch := omega) only [sl_RI, sl_CI, sl_LI, sl_IR, sl_CR, sl_LR, sl_II, sl_Ie, sl_RR, sl_Re, sl_CN, sl_Ce, sl_LN, sl_Le, sl_IN, sl_INe, sl_RN, sl_RNe, up2_s, up2_n, up1_s, up1_n, upN_s, upN_n, ne_eq, not_false_eq_true, reduceCtorEq] using this
    · refine ⟨fun c hc => ?_, I.cr.2⟩
      obtain ⟨q1, q2⟩ := I.cr.1 c hc
      refine ⟨q1, ?_⟩
      rcases q2 with q2 | ⟨b1, b2, ⟨d, d1, d2, d3, d4⟩, b5⟩ | q2
      · exact Or.inl q2
      · refine Or.inr (Or.inl ⟨b1, b2, ⟨d, d1, d2, ?_, ?_⟩, b5⟩)
        · by_cases e : d = r
          · subst e; simp (disch := omega) only [sl_RI, sl_CI, sl_LI, sl_IR, sl_CR, sl_LR, sl_II, sl_Ie, sl_RR, sl_Re, sl_CN, sl_Ce, sl_LN, sl_Le, sl_IN, sl_INe, sl_RN, sl_RNe, up2_s, up2_n, up1_s, up1_n, upN_s, upN_n, ne_eq, not_false_eq_true, reduceCtorEq]; exact d3
          · simp (disch := omega) only [sl_RI, sl_CI, sl_LI, sl_IR, sl_CR, sl_LR, sl_II, sl_Ie, sl_RR, sl_Re, sl_CN, sl_Ce, sl_LN, sl_Le, sl_IN, sl_INe, sl_RN, sl_RNe, up2_s, up2_n, up1_s, up1_n, upN_s, upN_n, ne_eq, not_false_eq_true, reduceCtorEq]; exact d3
        · by_cases e : d = r
          · subst e; rw [up1_s]; exact Or.inr rfl
          · rw [up1_n _ _ e]; exact d4
      · exact Or.inr (Or.inr q2)
    · refine (I.rw.i2 (fun r' => ?_)).r2 (fun r' => ?_)
      · by_cases e : r' = r
        · subst e; simp (disch := omega) only [sl_RI, sl_CI, sl_LI, sl_IR, sl_CR, sl_LR, sl_II, sl_Ie, sl_RR, sl_Re, sl_CN, sl_Ce, sl_LN, sl_Le, sl_IN, sl_INe, sl_RN, sl_RNe, up2_s, up2_n, up1_s, up1_n, upN_s, upN_n, ne_eq, not_false_eq_true, reduceCtorEq]
        · simp (disch := omega) only [sl_RI, sl_CI, sl_LI, sl_IR, sl_CR, sl_LR, sl_II, sl_Ie, sl_RR, sl_Re, sl_CN, sl_Ce, sl_LN, sl_Le, sl_IN, sl_INe, sl_RN, sl_RNe, up2_s, up2_n, up1_s, up1_n, upN_s, upN_n, ne_eq, not_false_eq_true, reduceCtorEq]
      · by_cases e : r' = r
        · subst e; simp (disch := omega) only [sl_RI, sl_CI, sl_LI, sl_IR, sl_CR, sl_LR, sl_II, sl_Ie, sl_RR, sl_Re, sl_CN, sl_Ce, sl_LN, sl_Le, sl_IN, sl_INe, sl_RN, sl_RNe, up2_s, up2_n, up1_s, up1_n, upN_s, upN_n, ne_eq, not_false_eq_true, reduceCtorEq]
        · simp (disch := omega) only [sl_RI, sl_CI, sl_LI, sl_IR, sl_CR, sl_LR, sl_II, sl_Ie, sl_RR, sl_Re, sl_CN, sl_Ce, sl_LN, sl_Le, sl_IN, sl_INe, sl_RN, sl_RNe, up2_s, up2_n, up1_s, up1_n, upN_s, upN_n, ne_eq, not_false_eq_true, reduceCtorEq]
    · rw [I.tk, I.su_of hr (fun _ => v)]
    · intro o ho
      show pI h 24 0 o - su (fun k => su (fun j => if ow (tt (ro r k) j) = o then v else 0) (w (ro r k))) (z r) = pI h 56 0 o - su (fun t => if ofm h r t then (if ow t = o then v else 0) else 0) (pC h 6)
      rw [I.ba o ho, I.su_of hr (fun t => if ow t = o then v else 0)]
  · obtain ⟨k1, k2, k3, k4, k5⟩ := I.rw.1 r hr
    obtain ⟨g1, e1, b1, b2, fr⟩ := tk_r (r := r) (zb := z r) (ρ := ro r) (ω := fun k => w (ro r k)) (τ := fun k => tt (ro r k)) (ow := ow) (v := v) k2 (fun h32 => some ((), h32)) (z r) 0 FU g (by omega) (by unfold FU; omega) (by rw [c.I (by decide)]; exact k1) (by rw [c.R (by decide)]; exact k3) (by rw [c.L (by decide)]; exact k4) (by rw [c.R (by decide)]; exact I.r7_12) (by rw [c.L (by decide)]; exact I.l24_0) (fun k hk => by
      obtain ⟨q1, q2, q3, q4, q5, q6⟩ := I.rw.2.1 _ (k5 k hk).2.1
      refine ⟨by rw [c.R (by decide)]; exact (k5 k hk).1, ⟨by rw [c.I (by decide)]; exact q1, q2, by rw [c.R (by decide)]; exact q3, by rw [c.L (by decide)]; exact q4, fun j hj => by rw [c.R (by decide)]; exact (q6 j hj).1⟩, fun j hj => ?_⟩
      rw [c.I (by decide), (I.tr.1 _ (q6 j hj).2).1.2.2.1]
      exact how _ (q6 j hj).2)
    simp only [Nat.zero_add] at b1 b2
    rw [c.I (k := 24) (by decide)] at b1
    rw [c.I (k := 7) (by decide)] at b2
    have ce1 : CE (wI (sI h 24 (rw0 (pI h 24) (fun o => pI h 24 0 o - su (fun k => su (fun j => if ow (tt (ro r k) j) = o then v else 0) (w (ro r k))) (z r)))) 7 0 15 (pI h 7 0 15 + su (fun k => su (fun _ => v) (w (ro r k))) (z r))) g1 := CE.fr2 (by decide) c fr b1 b2
    refine ⟨wR (wI (wI g1 4 p 7 (nI (pd - 5 * z r))) 2 r 5 (nI (nw + hh))) 2 r 3 (some bl), ?_, ?_, ?_⟩
    · have et : F_X7_takeTolls 0 (some r) g = some ((), g1) := by
        rw [F_X7_takeTolls, F_X7_today, c.I (k := 7) (by decide), n1, e24, e_cl, c.R (k := 7) (by decide), I.r7_9, e_nn, vc g c, e_cl]
        exact e1
      have j2 : pI g1 2 = pI h 2 := by rw [fr.I (by decide)]; exact c.I (by decide)
      have j4 : pI g1 4 = pI h 4 := by rw [fr.I (by decide)]; exact c.I (by decide)
      have jr4 : pR g1 4 = pR h 4 := by rw [fr.R (by decide)]; exact c.R (by decide)
      have j7 : pI g1 7 0 14 = nI nw := by rw [b2, up2_s, up1_n _ _ (by omega)]; exact n1
      rw [headC g c, if_pos rfl, selC' g c, e_cl, e_onnS, et, e_cl, F_X2_need, j2, k1, show (5 : Int32) = nI 5 from rfl, pk_mul, e_cl, j4, i4p, esub, e_lt, F_X2_goDown, e_nn]
      simp (disch := omega) only [e_nn, e_onnN, e_onnS, e_ck, e_lt, e_cl, F_within, F_in, isz0, isz1, i10, ↓reduceIte, sl_RI, sl_CI, sl_LI, sl_IR, sl_CR, sl_LR, sl_II, sl_Ie, sl_RR, sl_Re, sl_CN, sl_Ce, sl_LN, sl_Le, sl_IN, sl_INe, sl_RN, sl_RNe, up2_s, up2_n, up1_s, up1_n, upN_s, upN_n, ne_eq, not_false_eq_true, reduceCtorEq, j7, j4, jr4, i4h, bl2, eadd]
    · exact (((((((ce1.wI2.wI2.wR2).wIl (by decide)).wIl (by decide)).wIl (by decide)).wIl (by decide)).sIl (by decide)).wIl (by decide))
    · exact (((fr.ME (by decide) (by decide)).wIr (by decide)).wIr (by decide)).wRr (by decide)
  · have m1 : ME (wR (wI (wI (wI (sI h 24 (rw0 (pI h 24) (fun o => pI h 24 0 o - su (fun k => su (fun j => if ow (tt (ro r k) j) = o then v else 0) (w (ro r k))) (z r)))) 7 0 15 (pI h 7 0 15 + su (fun k => su (fun _ => v) (w (ro r k))) (z r))) 4 p 7 (nI (pd - 5 * z r))) 2 r 5 (nI (nw + hh))) 2 r 3 (some bl)) g := ((((m.sIl (by decide)).wIl (by decide)).wIl (by decide)).wIl (by decide)).wRl (by decide)
    have m2 : ME (wI (wI (wI (wI (wR (wI (wI (wI (sI h 24 (rw0 (pI h 24) (fun o => pI h 24 0 o - su (fun k => su (fun j => if ow (tt (ro r k) j) = o then v else 0) (w (ro r k))) (z r)))) 7 0 15 (pI h 7 0 15 + su (fun k => su (fun _ => v) (w (ro r k))) (z r))) 4 p 7 (nI (pd - 5 * z r))) 2 r 5 (nI (nw + hh))) 2 r 3 (some bl)) 30 0 p (nI (pd - 5 * z r))) 45 0 r 2) 46 0 r (nI bl)) 49 0 r (nI (nw + hh))) (wI (wI (wI (wI g 30 0 p (nI (pd - 5 * z r))) 45 0 r 2) 46 0 r (nI bl)) 49 0 r (nI (nw + hh))) := m1.wI2.wI2.wI2.wI2
    have TG : TL (pC h 6) (wI (wI (wI (wI g 30 0 p (nI (pd - 5 * z r))) 45 0 r 2) 46 0 r (nI bl)) 49 0 r (nI (nw + hh))) := by
      have t := I.TL m
      exact ⟨by simp (disch := omega) only [sl_RI, sl_CI, sl_LI, sl_IR, sl_CR, sl_LR, sl_II, sl_Ie, sl_RR, sl_Re, sl_CN, sl_Ce, sl_LN, sl_Le, sl_IN, sl_INe, sl_RN, sl_RNe, up2_s, up2_n, up1_s, up1_n, upN_s, upN_n, ne_eq, not_false_eq_true, reduceCtorEq]; exact t.1, t.2.1, t.2.2.1, t.2.2.2⟩
    obtain ⟨g', e1, b1, b2, fr⟩ := tk_m (T := pC h 6) (r := r) (ow := ow) (v := v) (fun h91 => some ((), h91)) (pC h 6) 0 FU (wI (wI (wI (wI g 30 0 p (nI (pd - 5 * z r))) 45 0 r 2) 46 0 r (nI bl)) 49 0 r (nI (nw + hh))) TG (fun t ht => by simp (disch := omega) only [sl_RI, sl_CI, sl_LI, sl_IR, sl_CR, sl_LR, sl_II, sl_Ie, sl_RR, sl_Re, sl_CN, sl_Ce, sl_LN, sl_Le, sl_IN, sl_INe, sl_RN, sl_RNe, up2_s, up2_n, up1_s, up1_n, upN_s, upN_n, ne_eq, not_false_eq_true, reduceCtorEq]; rw [m.I (k := 35) (by decide)]; exact how t ht) (by omega) (by unfold FU; omega)
    simp (disch := omega) only [Nat.zero_add, ofm, sl_RI, sl_CI, sl_LI, sl_IR, sl_CR, sl_LR, sl_II, sl_Ie, sl_RR, sl_Re, sl_CN, sl_Ce, sl_LN, sl_Le, sl_IN, sl_INe, sl_RN, sl_RNe, up2_s, up2_n, up1_s, up1_n, upN_s, upN_n, ne_eq, not_false_eq_true, reduceCtorEq] at b1 b2
    rw [m.I (k := 56) (by decide), m.I (k := 38) (by decide), m.I (k := 40) (by decide)] at b1
    rw [m.I (k := 8) (by decide), m.I (k := 38) (by decide), m.I (k := 40) (by decide)] at b2
    refine ⟨g', ?_, ?_, ?_⟩
    · rw [F_X8_weir, m.R (k := 8) (by decide), I.r8_9, e_nn, m.L (k := 32) (by decide), I.l32_0, i_inb (by omega) (by omega), e_ck, I.r8_10, e_nn, m.L (k := 33) (by decide), I.l33_0, i_inb (by omega) (by omega), e_ck, i_cl (by omega), m.I (k := 8) (by decide), n2, m.I (k := 32) (by decide), m.I (k := 33) (by decide), F_in, σm, e_cl, if_pos rfl]
      refine (selM' g m _ _).trans ?_
      have v4 := vm (wI (wI (wI (wI g 30 0 p (nI (pd - 5 * z r))) 45 0 r 2) 46 0 r (nI bl)) 49 0 r (nI (nw + hh))) (by simp (disch := omega) only [sl_RI, sl_CI, sl_LI, sl_IR, sl_CR, sl_LR, sl_II, sl_Ie, sl_RR, sl_Re, sl_CN, sl_Ce, sl_LN, sl_Le, sl_IN, sl_INe, sl_RN, sl_RNe, up2_s, up2_n, up1_s, up1_n, upN_s, upN_n, ne_eq, not_false_eq_true, reduceCtorEq]; rw [m.I (by decide)]) (by simp (disch := omega) only [sl_RI, sl_CI, sl_LI, sl_IR, sl_CR, sl_LR, sl_II, sl_Ie, sl_RR, sl_Re, sl_CN, sl_Ce, sl_LN, sl_Le, sl_IN, sl_INe, sl_RN, sl_RNe, up2_s, up2_n, up1_s, up1_n, upN_s, upN_n, ne_eq, not_false_eq_true, reduceCtorEq]; rw [m.R (by decide)]) (by simp (disch := omega) only [sl_RI, sl_CI, sl_LI, sl_IR, sl_CR, sl_LR, sl_II, sl_Ie, sl_RR, sl_Re, sl_CN, sl_Ce, sl_LN, sl_Le, sl_IN, sl_INe, sl_RN, sl_RNe, up2_s, up2_n, up1_s, up1_n, upN_s, upN_n, ne_eq, not_false_eq_true, reduceCtorEq]; rw [m.L (by decide)]) (by simp (disch := omega) only [sl_RI, sl_CI, sl_LI, sl_IR, sl_CR, sl_LR, sl_II, sl_Ie, sl_RR, sl_Re, sl_CN, sl_Ce, sl_LN, sl_Le, sl_IN, sl_INe, sl_RN, sl_RNe, up2_s, up2_n, up1_s, up1_n, upN_s, upN_n, ne_eq, not_false_eq_true, reduceCtorEq]; rw [m.L (by decide)]) (by simp (disch := omega) only [sl_RI, sl_CI, sl_LI, sl_IR, sl_CR, sl_LR, sl_II, sl_Ie, sl_RR, sl_Re, sl_CN, sl_Ce, sl_LN, sl_Le, sl_IN, sl_INe, sl_RN, sl_RNe, up2_s, up2_n, up1_s, up1_n, upN_s, upN_n, ne_eq, not_false_eq_true, reduceCtorEq]; rw [m.I (by decide)]) (by simp (disch := omega) only [sl_RI, sl_CI, sl_LI, sl_IR, sl_CR, sl_LR, sl_II, sl_Ie, sl_RR, sl_Re, sl_CN, sl_Ce, sl_LN, sl_Le, sl_IN, sl_INe, sl_RN, sl_RNe, up2_s, up2_n, up1_s, up1_n, upN_s, upN_n, ne_eq, not_false_eq_true, reduceCtorEq]; rw [m.I (by decide)])
      rw [show vK (some r) = nI r from rfl, q_m1 (by omega), m.R (k := 8) (by decide), I.r8_7, e_nn, m.L (k := 30) (by decide), I.l30_0, i_inb (by omega) (by omega), e_ck, I.r8_27, e_nn, m.L (k := 47) (by decide), I.l47_0, i_inb (by omega) (by omega), e_ck, e_ck, i_cl (by omega), m.I (k := 30) (by decide), m.I (k := 47) (by decide), ez47, s5, show (5 : Int32) = nI 5 from rfl, pk_mul, esub]
      simp (disch := omega) only [e_nn, e_onnN, e_onnS, e_ck, e_lt, e_cl, F_within, F_in, isz0, isz1, i10, ↓reduceIte, sl_RI, sl_CI, sl_LI, sl_IR, sl_CR, sl_LR, sl_II, sl_Ie, sl_RR, sl_Re, sl_CN, sl_Ce, sl_LN, sl_Le, sl_IN, sl_INe, sl_RN, sl_RNe, up2_s, up2_n, up1_s, up1_n, upN_s, upN_n, ne_eq, not_false_eq_true, reduceCtorEq, i_le, i_lt, i_eq, i_cl, i_inb, nI_add, nI_1, i_n1, i_1n, i_sub, m.R (k := 8) (by decide), m.L (k := 45) (by decide), m.L (k := 25) (by decide), m.L (k := 46) (by decide), m.L (k := 26) (by decide), m.L (k := 49) (by decide), m.I (k := 25) (by decide), m.I (k := 26) (by decide), m.I (k := 8) (by decide), I.r8_25, I.r8_2, I.r8_26, I.r8_3, I.r8_29, I.l45_0, I.l25_0, I.l46_0, I.l26_0, I.l49_0, bl3, s1, n2, eadd, e24, v4]
      exact e1
    · refine ME.fr2 (by decide) m2 fr b1 ?_
      rw [b2]
      simp (disch := omega) only [ss_II, ss_Ie, ss_RI, ss_LI, ss_CI, ss_RR, ss_Re, ss_IR, ss_LR, ss_CR, rw0_0, ne_eq, not_false_eq_true, sl_RI, sl_CI, sl_LI, sl_IR, sl_CR, sl_LR, sl_II, sl_Ie, sl_RR, sl_Re, sl_CN, sl_Ce, sl_LN, sl_Le, sl_IN, sl_INe, sl_RN, sl_RNe, up2_s, up2_n, up1_s, up1_n, upN_s, upN_n, ne_eq, not_false_eq_true, reduceCtorEq]
    · exact (((((CE.refl g).wIr (by decide)).wIr (by decide)).wIr (by decide)).wIr (by decide)).trans (fr.CE (by decide) (by decide))
end OPS
