theorem GR.nw1 {S R C nw : Nat} {i2 : Nat → Nat → Int32} {r2 r0 : Nat → Nat → Option Nat} {m45 m46 m47 m48 m49 : Nat → Int32} (g : GR S R C nw i2 r2 r0 m45 m46 m47 m48 m49) (q : ∀ r, r < R → m45 r = 2 → m49 r ≠ nI nw) : GR S R C (nw + 1) i2 r2 r0 m45 m46 m47 m48 m49 := by
  intro r hr
  obtain ⟨a, b⟩ := g r hr
  refine ⟨a, ?_⟩
  rcases b with b | b | b | ⟨b1, b2, b3, b4, y, y1, y2, y3⟩
  · exact Or.inl b
  · exact Or.inr (Or.inl b)
  · exact Or.inr (Or.inr (Or.inl b))
  · refine Or.inr (Or.inr (Or.inr ⟨b1, b2, b3, b4, y, ?_, y2, y3⟩))
    have := q r hr b1
    rw [y3] at this
    have : y ≠ nw := fun e => this (by rw [e])
    omega
theorem GC.nw1 {S R C nw : Nat} {i0 : Nat → Nat → Int32} {r0 r2 : Nat → Nat → Option Nat} {m45 m50 m51 m52 m53 m54 : Nat → Int32} (g : GC S R C nw i0 r0 r2 m45 m50 m51 m52 m53 m54) (q : ∀ c, c < C → m51 c = 2 → m54 c ≠ nI nw) : GC S R C (nw + 1) i0 r0 r2 m45 m50 m51 m52 m53 m54 := by
  refine ⟨fun c hc => ?_, g.2⟩
  obtain ⟨a, b⟩ := g.1 c hc
  refine ⟨a, ?_⟩
  rcases b with ⟨b1, b2, b3, b4, k, k', k1, k2, k3, k4, k5⟩ | ⟨b1, b2, b3, b4, k, k1, k2⟩ | ⟨b1, b2, b3, y, y1, y2, y3, y4⟩
  · exact Or.inl ⟨b1, b2, b3, b4, k, k', k1, k2, by omega, by omega, by omega⟩
  · exact Or.inr (Or.inl ⟨b1, b2, b3, b4, k, k1, by omega⟩)
  · refine Or.inr (Or.inr ⟨b1, b2, b3, y, ?_, y2, y3, y4⟩)
    have := q c hc b1
    rw [y4] at this
    have : y ≠ nw := fun e => this (by rw [e])
    omega
section OPS
variable {nw : Nat} {h : Hp}
theorem pond_step {S s : Nat} (M : Mid S nw h) (hsS : s < S) : ∃ h', Mid S nw h' ∧ (∀ g, CE h g → ∃ g', F_X4_fillPond s g = some ((), g') ∧ CE h' g' ∧ ME g g') ∧ (∀ (β : Type) (v1 v2 : Int32) (ka : Hp → Option β) (f : Nat) (g : Hp), ME h g → ∃ g', L_X8_go_57 0 v1 v2 ka (f + 1) (nI s) g = L_X8_go_57 0 v1 v2 ka f (nI (s + 1)) g' ∧ ME h' g' ∧ CE g g') := by
  obtain ⟨rfl, Q, z, ro, w, tt, q0, I⟩ := id M
  have hS := I.c_hS
  obtain ⟨⟨hh, wd, fl, hd, pd, s1, s2, s3, s4, s5, s6, s7, s8, s9, s10, s11⟩, sq⟩ := I.sb s hsS
  obtain ⟨a0, a2, a3, a4, a5, a6, a7, a8⟩ := I.st.1 s hsS
  have e1 : nI pd + nI fl = nI (pd + fl) := nI_add _ _
  obtain ⟨x, hx, x1, x2⟩ : ∃ x, x ≤ hd ∧ (if nI (pd + fl) < nI hd then nI (pd + fl) else nI hd) = nI x ∧ (if nI (pd + fl) ≤ nI hd then nI (pd + fl) else nI hd) = nI x := by
    by_cases c : pd + fl < hd
    · exact ⟨pd + fl, by omega, by rw [q_lt c (by omega)], by rw [q_le (by omega) (by omega)]⟩
    · refine ⟨hd, Nat.le_refl _, by rw [q_nlt (by omega) (by omega)], ?_⟩
      by_cases c2 : pd + fl = hd
      · rw [c2, q_le (Nat.le_refl _) (by omega)]
      · rw [q_nle (by omega) (by omega)]
  refine ⟨wI (wI h 4 s 7 (nI x)) 30 0 s (nI x), ⟨rfl, ⟨Q.1, Q.2⟩, z, ro, w, tt, q0, ?_⟩, fun g c => ⟨wI g 4 s 7 (nI x), ?_, c.wI2.wIl (by decide), (ME.refl g).wIr (by decide)⟩, fun β v1 v2 ka f g m => ⟨wI g 30 0 s (nI x), ?_, (m.wIl (by decide)).wI2, (CE.refl g).wIr (by decide)⟩⟩
  · unfold SimG
    simp (disch := omega) only [sl_RI, sl_CI, sl_LI, sl_IR, sl_CR, sl_LR, sl_II, sl_Ie, sl_RR, sl_Re, sl_CN, sl_Ce, sl_LN, sl_Le, sl_IN, sl_INe, sl_RN, sl_RNe, up2_s, up2_n, up1_s, up1_n, upN_s, upN_n, ne_eq, not_false_eq_true, reduceCtorEq]
    refine ⟨I.w7, I.w1, I.w5, I.w8, I.ln, I.ct, I.a19, I.a20, I.a21, I.a22, ?_, ?_, I.tr, I.rf, I.cr, I.rw, I.nx, I.to, I.pr, I.gnw, I.tk, I.rg, I.ba, I.so⟩
    · refine ⟨fun n hn => ?_, fun n hn => ?_⟩
      · have := I.st.1 n hn
        by_cases e : n = s
        · subst e
          simp (disch := omega) only [sl_RI, sl_CI, sl_LI, sl_IR, sl_CR, sl_LR, sl_II, sl_Ie, sl_RR, sl_Re, sl_CN, sl_Ce, sl_LN, sl_Le, sl_IN, sl_INe, sl_RN, sl_RNe, up2_s, up2_n, up1_s, up1_n, upN_s, upN_n, ne_eq, not_false_eq_true, reduceCtorEq]
          exact ⟨a0, a2, a3, a4, a5, a6, trivial, a8⟩
        · simpa (disch := omega) only [sl_RI, sl_CI, sl_LI, sl_IR, sl_CR, sl_LR, sl_II, sl_Ie, sl_RR, sl_Re, sl_CN, sl_Ce, sl_LN, sl_Le, sl_IN, sl_INe, sl_RN, sl_RNe, up2_s, up2_n, up1_s, up1_n, upN_s, upN_n, ne_eq, not_false_eq_true, reduceCtorEq] using this
      · have := I.st.2 n hn
        simpa (disch := omega) only [sl_RI, sl_CI, sl_LI, sl_IR, sl_CR, sl_LR, sl_II, sl_Ie, sl_RR, sl_Re, sl_CN, sl_Ce, sl_LN, sl_Le, sl_IN, sl_INe, sl_RN, sl_RNe, up2_s, up2_n, up1_s, up1_n, upN_s, upN_n, ne_eq, not_false_eq_true, reduceCtorEq] using this
    · intro n hn
      have := I.sb n hn
      by_cases e : n = s
      · subst e
        rw [up1_s]
        exact ⟨⟨hh, wd, fl, hd, x, s1, s2, s3, s4, rfl, s6, s7, s8, s9, hx, s11⟩, sq⟩
      · simpa (disch := omega) only [sl_RI, sl_CI, sl_LI, sl_IR, sl_CR, sl_LR, sl_II, sl_Ie, sl_RR, sl_Re, sl_CN, sl_Ce, sl_LN, sl_Le, sl_IN, sl_INe, sl_RN, sl_RNe, up2_s, up2_n, up1_s, up1_n, upN_s, upN_n, ne_eq, not_false_eq_true, reduceCtorEq] using this
  · rw [F_X4_fillPond, c.I (k := 4) (by decide), a7, a4, a5, s5, s3, s4, e1, x1, e_lt]
  · rw [L_X8_go_57, m.I (k := 8) (by decide), I.c_j1, q_nle (by omega) (by omega), m.R (k := 8) (by decide), I.r8_7, e_nn, m.L (k := 30) (by decide), I.l30_0, i_inb (by omega) (by omega), e_ck, I.r8_5, e_nn, m.L (k := 28) (by decide), I.l28_0, i_inb (by omega) (by omega), e_ck, I.r8_6, e_nn, m.L (k := 29) (by decide), I.l29_0, i_inb (by omega) (by omega), e_ck, i_cl (by omega), m.I (k := 30) (by decide), m.I (k := 28) (by decide), m.I (k := 29) (by decide), s5, s3, s4, e1, e_ck, e_ck, e_ck, e_ck, e_ck, e_lt, e_lt, nI_1, ← x2]
    split <;> rfl
theorem pond_l {S : Nat} : ∀ (m s : Nat) (h : Hp), Mid S nw h → S ≤ s + m → s < 1000 → ∃ h', Mid S nw h' ∧ (∀ (β : Type) (ka : Hp → Option β) (f : Nat) (g : Hp), m < f → CE h g → ∃ g', L_X7_passHour_57 0 ka f (nI s) g = ka g' ∧ CE h' g' ∧ ME g g') ∧ (∀ (β : Type) (v1 v2 : Int32) (ka : Hp → Option β) (f : Nat) (g : Hp), m < f → ME h g → ∃ g', L_X8_go_57 0 v1 v2 ka f (nI s) g = ka g' ∧ ME h' g' ∧ CE g g') := by
  have stop : ∀ (s m : Nat) (h : Hp), Mid S nw h → S ≤ s → s < 1000 → ∃ h', Mid S nw h' ∧ (∀ (β : Type) (ka : Hp → Option β) (f : Nat) (g : Hp), m < f → CE h g → ∃ g', L_X7_passHour_57 0 ka f (nI s) g = ka g' ∧ CE h' g' ∧ ME g g') ∧ (∀ (β : Type) (v1 v2 : Int32) (ka : Hp → Option β) (f : Nat) (g : Hp), m < f → ME h g → ∃ g', L_X8_go_57 0 v1 v2 ka f (nI s) g = ka g' ∧ ME h' g' ∧ CE g g') := by
    intro s m h M hs hs2
    obtain ⟨rfl, Q, z, ro, w, tt, q0, I⟩ := id M
    have hS := I.c_hS
    refine ⟨h, M, fun β ka f g hf c => ⟨g, ?_, c, ME.refl g⟩, fun β v1 v2 ka f g hf m => ⟨g, ?_, m, CE.refl g⟩⟩
    · obtain ⟨f, rfl⟩ := fu_1 hf
      rw [L_X7_passHour_57, c.I (k := 7) (by decide), I.c_i1, q_le hs (by omega)]
    · obtain ⟨f, rfl⟩ := fu_1 hf
      rw [L_X8_go_57, m.I (k := 8) (by decide), I.c_j1, q_le hs (by omega)]
  intro m
  induction m with
  | zero => intro s h M hs hs2; exact stop s 0 h M (by omega) hs2
  | succ m ih =>
    intro s h M hs hs2
    by_cases c : S ≤ s
    · exact stop s (m + 1) h M c hs2
    obtain ⟨h1, M1, C1, E1⟩ := pond_step M (show s < S by omega)
    have hS12 : S ≤ 12 := by
      obtain ⟨rfl, Q, z, ro, w, tt, q0, I⟩ := id M
      exact I.c_hS
    obtain ⟨h2, M2, C2, E2⟩ := ih (s + 1) h1 M1 (by omega) (by omega)
    obtain ⟨rfl, Q, z, ro, w, tt, q0, I⟩ := id M
    refine ⟨h2, M2, fun β ka f g hf c => ?_, fun β v1 v2 ka f g hf m => ?_⟩
    · obtain ⟨f, rfl⟩ := fu_1 hf
      obtain ⟨g1, e1, c1, m1⟩ := C1 g c
      obtain ⟨g2, e2, c2, m2⟩ := C2 β ka f g1 (by omega) c1
      refine ⟨g2, ?_, c2, m1.trans m2⟩
      rw [L_X7_passHour_57, c.I (k := 7) (by decide), I.c_i1, q_nle (by omega) (by omega), c.R (k := 7) (by decide), I.r7_0, e_nn, c.L (k := 19) (by decide), I.l19_0, i_inb (by omega) (by omega), e_ck, i_cl (by omega), c.R (k := 19) (by decide), I.a19 s (by omega), e_nn, e1, e_cl, nI_1, e2]
    · obtain ⟨f, rfl⟩ := fu_1 hf
      obtain ⟨g1, e1, c1, m1⟩ := E1 β v1 v2 ka f g m
      obtain ⟨g2, e2, c2, m2⟩ := E2 β v1 v2 ka f g1 (by omega) c1
      exact ⟨g2, e1.trans e2, c2, m1.trans m2⟩
theorem weir_l {S : Nat} : ∀ (m s : Nat) (h : Hp), Mid S nw h → 0 < s → S ≤ s + m → s < 1000 → ∃ h', Mid S nw h' ∧ (∀ (β : Type) (ka : Hp → Option β) (f : Nat) (g : Hp), m < f → CE h g → ∃ g', L_X7_passHour_31 0 ka f (nI s) g = ka g' ∧ CE h' g' ∧ ME g g') ∧ (∀ (β : Type) (v1 v2 : Int32) (ka : Hp → Option β) (f : Nat) (g : Hp), m < f → ME h g → ∃ g', L_X8_go_36 0 v1 v2 ka f (nI s) g = ka g' ∧ ME h' g' ∧ CE g g') := by
  have stop : ∀ (s m : Nat) (h : Hp), Mid S nw h → S ≤ s → s < 1000 → ∃ h', Mid S nw h' ∧ (∀ (β : Type) (ka : Hp → Option β) (f : Nat) (g : Hp), m < f → CE h g → ∃ g', L_X7_passHour_31 0 ka f (nI s) g = ka g' ∧ CE h' g' ∧ ME g g') ∧ (∀ (β : Type) (v1 v2 : Int32) (ka : Hp → Option β) (f : Nat) (g : Hp), m < f → ME h g → ∃ g', L_X8_go_36 0 v1 v2 ka f (nI s) g = ka g' ∧ ME h' g' ∧ CE g g') := by
    intro s m h M hs hs2
    obtain ⟨rfl, Q, z, ro, w, tt, q0, I⟩ := id M
    have hS := I.c_hS
    refine ⟨h, M, fun β ka f g hf c => ⟨g, ?_, c, ME.refl g⟩, fun β v1 v2 ka f g hf m => ⟨g, ?_, m, CE.refl g⟩⟩
    · obtain ⟨f, rfl⟩ := fu_1 hf
      rw [L_X7_passHour_31, c.I (k := 7) (by decide), I.c_i1, q_le hs (by omega)]
    · obtain ⟨f, rfl⟩ := fu_1 hf
      rw [L_X8_go_36, m.I (k := 8) (by decide), I.c_j1, q_le hs (by omega)]
  intro m
  induction m with
  | zero => intro s h M s0 hs hs2; exact stop s 0 h M (by omega) hs2
  | succ m ih =>
    intro s h M s0 hs hs2
    by_cases c : S ≤ s
    · exact stop s (m + 1) h M c hs2
    obtain ⟨h1, M1, C1, E1⟩ := weir_step M s0 (show s < S by omega)
    have hS12 : S ≤ 12 := by
      obtain ⟨rfl, Q, z, ro, w, tt, q0, I⟩ := id M
      exact I.c_hS
    obtain ⟨h2, M2, C2, E2⟩ := ih (s + 1) h1 M1 (by omega) (by omega) (by omega)
    obtain ⟨rfl, Q, z, ro, w, tt, q0, I⟩ := id M
    refine ⟨h2, M2, fun β ka f g hf c => ?_, fun β v1 v2 ka f g hf m => ?_⟩
    · obtain ⟨f, rfl⟩ := fu_1 hf
      obtain ⟨g1, e1, c1, m1⟩ := C1 g c
      obtain ⟨g2, e2, c2, m2⟩ := C2 β ka f g1 (by omega) c1
      refine ⟨g2, ?_, c2, m1.trans m2⟩
      rw [L_X7_passHour_31, c.I (k := 7) (by decide), I.c_i1, q_nle (by omega) (by omega), c.R (k := 7) (by decide), I.r7_0, e_nn, c.L (k := 19) (by decide), I.l19_0, i_inb (by omega) (by omega), e_ck, i_cl (by omega), c.R (k := 19) (by decide), I.a19 s (by omega), e1, e_cl, nI_1, e2]
    · obtain ⟨f, rfl⟩ := fu_1 hf
      obtain ⟨g1, e1, c1, m1⟩ := E1 g m
      obtain ⟨g2, e2, c2, m2⟩ := E2 β v1 v2 ka f g1 (by omega) c1
      refine ⟨g2, ?_, c2, m1.trans m2⟩
      rw [L_X8_go_36, m.I (k := 8) (by decide), I.c_j1, q_nle (by omega) (by omega), e1, e_cl, nI_1, e2]
theorem hour_step (J : ∃ z ro w tt q0, SimG nw z ro w tt q0 h) (hn : nw < 20000) : ∃ h', (∃ z ro w tt q0, SimG (nw + 1) z ro w tt q0 h') ∧ (∀ g, CE h g → ∃ g', F_X7_passHour 0 g = some ((), g') ∧ CE h' g' ∧ ME g g') ∧ (∀ (β : Type) (v1 v2 : Int32) (ka : Hp → Option β) (g : Hp), ME h g → ∃ g', (cl (F_X8_arrivals 0 g) fun _ h8 => L_X8_go_36 0 v1 v2 (fun h14 => L_X8_go_57 0 v1 v2 (fun h35 => lt (wI h35 8 0 0 ((pI h35 8 0 0) + (1 : Int32))) fun h36 => ka h36) FU (1 : Int32) h14) FU (1 : Int32) h8) = ka g' ∧ ME h' g' ∧ CE g g') := by
  obtain ⟨z, ro, w, tt, q0, I⟩ := J
  have hS := I.c_hS
  obtain ⟨h1, M1, C1, E1⟩ := arr_step I
  obtain ⟨h2, M2, C2, E2⟩ := weir_l (pC h 4) 1 h1 M1 (by omega) (by omega) (by omega)
  obtain ⟨h3, M3, C3, E3⟩ := pond_l (pC h 4) 1 h2 M2 (by omega) (by omega)
  obtain ⟨-, Q, z', ro', w', tt', q0', I'⟩ := M3
  obtain ⟨n1, n2, n3⟩ := I'.gnw
  refine ⟨wI (wI h3 7 0 14 (nI (nw + 1))) 8 0 0 (nI (nw + 1)), ⟨z', ro', w', tt', q0', ?_⟩, fun g c => ?_, fun β v1 v2 ka g m => ?_⟩
  · unfold SimG
    simp (disch := omega) only [sl_RI, sl_CI, sl_LI, sl_IR, sl_CR, sl_LR, sl_II, sl_Ie, sl_RR, sl_Re, sl_CN, sl_Ce, sl_LN, sl_Le, sl_IN, sl_INe, sl_RN, sl_RNe, up2_s, up2_n, up1_s, up1_n, upN_s, upN_n, ne_eq, not_false_eq_true, reduceCtorEq]
    refine ⟨I'.w7, I'.w1, I'.w5, I'.w8, I'.ln, I'.ct, I'.a19, I'.a20, I'.a21, I'.a22, I'.st, I'.sb, I'.tr, I'.rf.nw1 Q.1, I'.cr.nw1 Q.2, I'.rw, I'.nx, I'.to, I'.pr, ?_, I'.tk, I'.rg, I'.ba, I'.so⟩
    exact ⟨rfl, rfl, by omega⟩
  · obtain ⟨g1, e1, c1, m1⟩ := C1 _ (fun h10 => L_X7_passHour_31 0 (fun h18 => L_X7_passHour_57 0 (fun h28 => lt (wI h28 7 0 14 ((pI h28 7 0 14) + (1 : Int32))) fun h29 => some ((), h29)) FU (nI 1) h18) FU (nI 1) h10) g c
    obtain ⟨g2, e2, c2, m2⟩ := C2 _ (fun h18 => L_X7_passHour_57 0 (fun h28 => lt (wI h28 7 0 14 ((pI h28 7 0 14) + (1 : Int32))) fun h29 => some ((), h29)) FU (nI 1) h18) FU g1 (by unfold FU; omega) c1
    obtain ⟨g3, e3, c3, m3⟩ := C3 _ (fun h28 => lt (wI h28 7 0 14 ((pI h28 7 0 14) + (1 : Int32))) fun h29 => some ((), h29)) FU g2 (by unfold FU; omega) c2
    refine ⟨wI g3 7 0 14 (nI (nw + 1)), ?_, c3.wI2.wIl (by decide), ((m1.trans m2).trans m3).wIr (by decide)⟩
    refine (e1.trans (e2.trans e3)).trans ?_
    rw [e_lt, c3.I (k := 7) (by decide), n1, nI_1]
  · obtain ⟨g1, e1, c1, m1⟩ := E1 g m
    obtain ⟨g2, e2, c2, m2⟩ := E2 _ v1 v2 (fun h14 => L_X8_go_57 0 v1 v2 (fun h35 => lt (wI h35 8 0 0 ((pI h35 8 0 0) + (1 : Int32))) fun h36 => ka h36) FU (nI 1) h14) FU g1 (by unfold FU; omega) c1
    obtain ⟨g3, e3, c3, m3⟩ := E3 _ v1 v2 (fun h35 => lt (wI h35 8 0 0 ((pI h35 8 0 0) + (1 : Int32))) fun h36 => ka h36) FU g2 (by unfold FU; omega) c2
    refine ⟨wI g3 8 0 0 (nI (nw + 1)), ?_, (c3.wIl (by decide)).wI2, ((m1.trans m2).trans m3).wIr (by decide)⟩
    rw [e1, e_cl]
    refine (e2.trans e3).trans ?_
    rw [e_lt, c3.I (k := 8) (by decide), n2, nI_1]
end OPS
theorem go_l (n : Nat) (hn : n ≤ 500) : ∀ (m i nw : Nat) (h : Hp), (∃ z ro w tt q0, SimG nw z ro w tt q0 h) → i + m = n → ∃ nw' h', (∃ z ro w tt q0, SimG nw' z ro w tt q0 h') ∧ (∀ (β : Type) (ka : Hp → Option β) (f : Nat) (g : Hp), m < f → CE h g → ∃ g', L_X7_go_15 0 (nI n) ka f (nI i) g = ka g' ∧ CE h' g' ∧ ME g g') ∧ (∀ (β : Type) (ka : Hp → Option β) (f : Nat) (g : Hp), m < f → ME h g → ∃ g', L_X8_go_15 0 (nI n) ka f (nI i) g = ka g' ∧ ME h' g' ∧ CE g g') := by
  intro m
  induction m with
  | zero =>
    intro i nw h J hi
    refine ⟨nw, h, J, fun β ka f g hf c => ⟨g, ?_, c, ME.refl g⟩, fun β ka f g hf m => ⟨g, ?_, m, CE.refl g⟩⟩
    · obtain ⟨f, rfl⟩ := fu_1 hf
      rw [L_X7_go_15, q_le (by omega) (by omega)]
    · obtain ⟨f, rfl⟩ := fu_1 hf
      rw [L_X8_go_15, q_le (by omega) (by omega)]
  | succ m ih =>
    intro i nw h J hi
    obtain ⟨z, ro, w, tt, q0, I⟩ := id J
    obtain ⟨n1, n2, n3⟩ := I.gnw
    by_cases c0 : 20000 ≤ nw
    · refine ⟨nw, h, J, fun β ka f g hf c => ⟨g, ?_, c, ME.refl g⟩, fun β ka f g hf m => ⟨g, ?_, m, CE.refl g⟩⟩
      · obtain ⟨f, rfl⟩ := fu_1 hf
        rw [L_X7_go_15, q_nle (by omega) (by omega), c.I (k := 7) (by decide), n1, q_leL 20000 c0 (by omega)]
      · obtain ⟨f, rfl⟩ := fu_1 hf
        rw [L_X8_go_15, q_nle (by omega) (by omega), m.I (k := 8) (by decide), n2, q_leL 20000 c0 (by omega)]
    obtain ⟨h1, J1, C1, E1⟩ := hour_step J (by omega)
    obtain ⟨nw', h2, J2, C2, E2⟩ := ih (i + 1) (nw + 1) h1 J1 (by omega)
    refine ⟨nw', h2, J2, fun β ka f g hf c => ?_, fun β ka f g hf m => ?_⟩
    · obtain ⟨f, rfl⟩ := fu_1 hf
      obtain ⟨g1, e1, c1, m1⟩ := C1 g c
      obtain ⟨g2, e2, c2, m2⟩ := C2 β ka f g1 (by omega) c1
      refine ⟨g2, ?_, c2, m1.trans m2⟩
      rw [L_X7_go_15, q_nle (by omega) (by omega), c.I (k := 7) (by decide), n1, q_nleL 20000 (by omega) (by omega), e1, e_cl, nI_1, e2]
    · obtain ⟨f, rfl⟩ := fu_1 hf
      obtain ⟨g1, e1, c1, m1⟩ := E1 β (nI n) (nI i) (fun h36 => L_X8_go_15 0 (nI n) ka f (nI i + 1) h36) g m
      obtain ⟨g2, e2, c2, m2⟩ := E2 β ka f g1 (by omega) c1
      refine ⟨g2, ?_, c2, m1.trans m2⟩
      rw [L_X8_go_15, q_nle (by omega) (by omega), m.I (k := 8) (by decide), n2, q_nleL 20000 (by omega) (by omega)]
      refine e1.trans ?_
      rw [nI_1]
      exact e2
theorem op_go {nw : Nat} {z : Nat → Nat} {ro : Nat → Nat → Nat} {w : Nat → Nat} {tt : Nat → Nat → Nat} {q0 : Nat} {h : Hp} (I : SimG nw z ro w tt q0 h) (x : Int32) : OP (F_X7_go 0 x) (F_X8_go 0 x) h := by
  rcases wi_k x 500 (by decide) with ⟨e1, -⟩ | ⟨e1, n, hn, rfl, -⟩
  · have e1 : wi x 0 500 = 0 := e1
    refine OP.same I (r := -1) ?_ ?_
    · rw [F_X7_go, F_within, e_cl, e1, if_pos rfl]
    · rw [F_X8_go, F_in, e_cl, e1, if_pos rfl]
  have e1 : wi (nI n) 0 500 = 1 := e1
  obtain ⟨nw', h', ⟨z', ro', w', tt', q0', I'⟩, C, E⟩ := go_l n hn n 0 nw h ⟨z, ro, w, tt, q0, I⟩ (by omega)
  obtain ⟨n1, n2, n3⟩ := I'.gnw
  obtain ⟨g1, a1, c1, m1⟩ := C _ (fun h10 => some ((pI h10 7 0 14), h10)) FU h (by unfold FU; omega) (CE.refl h)
  obtain ⟨g2, a2, m2, c2⟩ := E _ (fun h38 => some ((pI h38 8 0 0), h38)) FU g1 (by unfold FU; omega) m1
  have e := Hp_ext (c1.trans c2) m2
  refine ⟨nI nw', g1, g2, ?_, ?_, nw', z', ro', w', tt', q0', by rw [e]; exact I'⟩
  · rw [F_X7_go, F_within, e_cl, e1, if_neg (by decide)]
    refine a1.trans ?_
    rw [c1.I (k := 7) (by decide), n1]
  · rw [F_X8_go, F_in, e_cl, e1, if_neg (by decide)]
    refine a2.trans ?_
    rw [m2.I (k := 8) (by decide), n2]
