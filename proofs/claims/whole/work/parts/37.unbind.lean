theorem GT.scat {S T R : Nat} {i6 : Nat → Nat → Int32} {r6 r6' : Nat → Nat → Option Nat} {m34 m35 m36 m37 m38 m38' m39 m39' m40 m40' m43 : Nat → Int32} (g : GT S T R i6 r6 m34 m35 m36 m37 m38 m39 m40 m43) {r p : Nat} (hp : p < S)
    (h1 : ∀ t, t < T → (m38 t = 1 ∧ m40 t = nI r) → (m38' t = 0 ∧ m39' t = nI p ∧ r6' t 5 = some p ∧ r6' t 6 = none) ∨ (m38' t = 3 ∧ r6' t 5 = none ∧ r6' t 6 = none))
    (h2 : ∀ t, t < T → ¬ (m38 t = 1 ∧ m40 t = nI r) → m38' t = m38 t ∧ m39' t = m39 t ∧ m40' t = m40 t ∧ r6' t = r6 t)
    (h3 : ∀ t, T ≤ t → m38' t = m38 t) : GT S T R i6 r6' m34 m35 m36 m37 m38' m39' m40' m43 := by
  refine ⟨fun t ht => ?_, fun t ht => by rw [h3 t ht]; exact g.2 t ht⟩
  obtain ⟨a, b, c⟩ := g.1 t ht
  refine ⟨a, b, ?_⟩
  by_cases o : m38 t = 1 ∧ m40 t = nI r
  · have m43 : m43 t = -1 := by
      rcases c with ⟨c1, -⟩ | ⟨-, -, -, c⟩ | ⟨c1, -⟩ | ⟨c1, -⟩
      · rw [o.1] at c1; exact absurd c1 (by decide)
      · exact c
      · rw [o.1] at c1; exact absurd c1 (by decide)
      · rw [o.1] at c1; exact absurd c1 (by decide)
    rcases h1 t ht o with ⟨k1, k2, k3, k4⟩ | ⟨k1, k2, k3⟩
    · exact Or.inl ⟨k1, ⟨p, hp, k3, k2⟩, k4, m43⟩
    · exact Or.inr (Or.inr (Or.inr ⟨k1, k2, k3, m43⟩))
  · obtain ⟨k1, k2, k3, k4⟩ := h2 t ht o
    rw [k1, k2, k3, k4]
    exact c
theorem GRo.scat {T R NR : Nat} {z : Nat → Nat} {ro : Nat → Nat → Nat} {w : Nat → Nat} {tt : Nat → Nat → Nat} {i2 i2' : Nat → Nat → Int32} {r2 r2' a14 : Nat → Nat → Option Nat} {l14 : Nat → Nat} {i3 : Nat → Nat → Int32} {r3 a15 : Nat → Nat → Option Nat} {l15 : Nat → Nat} {i6 : Nat → Nat → Int32} {m38 m38' m40 m40' m41 m42 : Nat → Int32}
    (g : GRo T R NR z ro w tt i2 r2 a14 l14 i3 r3 a15 l15 i6 m38 m40 m41 m42) {r : Nat} (hr : r < R) (hR : R ≤ 60) (e2 : ∀ r', r' ≠ r → i2' r' 2 = i2 r' 2) (e2r : i2' r 2 = 0) (e1 : ∀ r', r2' r' 1 = r2 r' 1)
    (h1 : ∀ t, t < T → (m38 t = 1 ∧ m40 t = nI r) → m38' t ≠ 1) (h2 : ∀ t, t < T → ¬ (m38 t = 1 ∧ m40 t = nI r) → m38' t = m38 t ∧ m40' t = m40 t) :
    GRo T R NR (up1 z r 0) ro w tt i2' r2' a14 l14 i3 r3 a15 l15 i6 m38' m40' m41 m42 := by
  obtain ⟨g1, g2, g3, g4⟩ := g
  refine ⟨fun r' hr' => ?_, g2, fun r' hr' i hi j hj => ?_, fun t ht h => ?_⟩
  · rw [e1 r']
    obtain ⟨k1, k2, k3, k4, k5⟩ := g1 r' hr'
    by_cases e : r' = r
    · subst e
      rw [up1_s, e2r]
      exact ⟨rfl, by omega, k3, k4, fun i hi => by omega⟩
    · rw [up1_n _ _ e, e2 r' e]
      exact ⟨k1, k2, k3, k4, k5⟩
  · by_cases e : r' = r
    · subst e; rw [up1_s] at hi; omega
    · rw [up1_n _ _ e] at hi
      have hlt := ((g2 _ ((g1 r' hr').2.2.2.2 i hi).2.1).2.2.2.2.2 j hj).2
      obtain ⟨k1, k2, k3⟩ := g3 r' hr' i hi j hj
      obtain ⟨q1, q2⟩ := h2 _ hlt (fun o => e (by rw [k2, i_eq (by omega) (by omega)] at o; exact o.2))
      rw [q1, q2]
      exact ⟨k1, k2, k3⟩
  · by_cases o : m38 t = 1 ∧ m40 t = nI r
    · exact absurd h (h1 t ht o)
    · rw [(h2 t ht o).1] at h
      obtain ⟨r', hr', i, hi, j, hj, e⟩ := g4 t ht h
      have ne : r' ≠ r := by
        rintro rfl
        have := (g3 r' hr' i hi j hj).2.1
        rw [e] at this
        exact o ⟨h, this⟩
      exact ⟨r', hr', i, by rw [up1_n _ _ ne]; exact hi, j, hj, e⟩
theorem GN.scat {T R NR : Nat} {z z' : Nat → Nat} {ro : Nat → Nat → Nat} {w : Nat → Nat} {tt : Nat → Nat → Nat} {q0 : Nat} {x8 : Option Nat} {y22 : Int32} {m44 m38 m38' m39 m39' : Nat → Int32} (g : GN T R NR z ro w tt q0 x8 y22 m44 m38 m39) (hT : ∀ j, j < w q0 → tt q0 j < T) (hz : ∀ r, r < R → z' r ≤ z r) (h : ∀ t, t < T → m38 t = 0 → m38' t = 0 ∧ m39' t = m39 t) : GN T R NR z' ro w tt q0 x8 y22 m44 m38' m39' := by
  obtain ⟨g1, g2, g3, g4, g5, g6⟩ := g
  refine ⟨g1, g2, g3, fun j hj => ?_, fun r hr i hi => g5 r hr i (by have := hz r hr; omega), g6⟩
  obtain ⟨k1, k2, k3⟩ := g4 j hj
  obtain ⟨-, k4, -⟩ := g4 0 (by omega)
  obtain ⟨q1, q2⟩ := h _ (hT j hj) k2
  obtain ⟨-, q4⟩ := h _ (hT 0 (by omega)) k4
  rw [q2, q4]
  exact ⟨k1, q1, k3⟩
theorem cnt_ext {T : Nat} {m m' : Nat → Int32} {v : Int32} (h : ∀ t, t < T → (m' t = v ↔ m t = v)) : cnt T m' v = cnt T m v := by
  unfold cnt
  refine su_ext (fun t ht => ?_)
  by_cases c : m t = v
  · rw [if_pos c, if_pos ((h t ht).mpr c)]
  · rw [if_neg c, if_neg (fun e => c ((h t ht).mp e))]
theorem F_scatter {g : Hp} {r zb : Nat} {ρ ω : Nat → Nat} {τ : Nat → Nat → Nat} (hz : zb ≤ 8) (eb : pI g 2 r 2 = nI zb) (rb : pR g 2 r 1 = some r) (lb : pL g 14 r = 8) (hk : ∀ k, k < zb → pR g 14 r k = some (ρ k) ∧ RW g (ρ k) (ω k) (τ k)) :
    ∃ g', F_X2_scatter r g = some ((), g') ∧ Fr [2] [2, 6] g g' ∧ pI g' 2 = up2 (pI g 2) r 2 0 ∧ pR g' 2 = up2 (pR g 2) r 3 none ∧ ∀ t, ((∃ k, k < zb ∧ ∃ j, j < ω k ∧ τ k j = t) → lies (pR g 2 r 3) g g' t) ∧ (¬ (∃ k, k < zb ∧ ∃ j, j < ω k ∧ τ k j = t) → pR g' 6 t = pR g 6 t) := by
  obtain ⟨g', e, fr, ht⟩ := scat_l hz (fun h10 => cl (F_X2_end r h10) fun _ h12 => some ((), h12)) zb 0 FU g (by omega) (by unfold FU; omega) eb rb lb hk
  refine ⟨wR (wI g' 2 r 2 0) 2 r 3 none, ?_, (((fr.mono (by decide) (by decide)).wI (by decide)).wR (by decide)), ?_, ?_, fun t => ⟨fun ⟨k, k1, k2⟩ => ?_, fun hn => ?_⟩⟩
  · rw [F_X2_scatter]
    refine e.trans ?_
    rw [F_X2_end]
    simp only [e_nn, e_onnN, e_onnS, e_ck, e_lt, e_cl, F_within, F_in, isz0, isz1, i10, ↓reduceIte]
  · simp (disch := omega) only [sl_RI, sl_CI, sl_LI, sl_IR, sl_CR, sl_LR, sl_II, sl_Ie, sl_RR, sl_Re, sl_CN, sl_Ce, sl_LN, sl_Le, sl_IN, sl_INe, sl_RN, sl_RNe, up2_s, up2_n, up1_s, up1_n, upN_s, upN_n, ne_eq, not_false_eq_true, reduceCtorEq, fr.I (k := 2) (by decide)]
  · simp (disch := omega) only [sl_RI, sl_CI, sl_LI, sl_IR, sl_CR, sl_LR, sl_II, sl_Ie, sl_RR, sl_Re, sl_CN, sl_Ce, sl_LN, sl_Le, sl_IN, sl_INe, sl_RN, sl_RNe, up2_s, up2_n, up1_s, up1_n, upN_s, upN_n, ne_eq, not_false_eq_true, reduceCtorEq, fr.R (k := 2) (by decide)]
  · have := (ht t).1 ⟨k, by omega, k1, k2⟩
    unfold lies at this ⊢
    simpa (disch := omega) only [sl_RI, sl_CI, sl_LI, sl_IR, sl_CR, sl_LR, sl_II, sl_Ie, sl_RR, sl_Re, sl_CN, sl_Ce, sl_LN, sl_Le, sl_IN, sl_INe, sl_RN, sl_RNe, up2_s, up2_n, up1_s, up1_n, upN_s, upN_n, ne_eq, not_false_eq_true, reduceCtorEq] using this
  · have := (ht t).2 (fun ⟨k, _, k1, k2⟩ => hn ⟨k, k1, k2⟩)
    simpa (disch := omega) only [sl_RI, sl_CI, sl_LI, sl_IR, sl_CR, sl_LR, sl_II, sl_Ie, sl_RR, sl_Re, sl_CN, sl_Ce, sl_LN, sl_Le, sl_IN, sl_INe, sl_RN, sl_RNe, up2_s, up2_n, up1_s, up1_n, upN_s, upN_n, ne_eq, not_false_eq_true, reduceCtorEq] using this
section OPS
variable {nw : Nat} {z : Nat → Nat} {ro : Nat → Nat → Nat} {w : Nat → Nat} {tt : Nat → Nat → Nat} {q0 : Nat} {h : Hp}
theorem TL.fr {T : Nat} {g g' : Hp} {a : List Nat} (m : TL T g) (c : Fr a [] g g') (h8 : 8 ∉ a) : TL T g' := by
  obtain ⟨m1, m2, m3, m4⟩ := m
  exact ⟨by rw [c.I h8]; exact m1, m2, by rw [c.R (not_mem_nil' _)]; exact m3, fun q hq hm => by rw [c.L]; exact m4 q hq hm⟩
theorem SimG.rwA (I : SimG nw z ro w tt q0 h) {p : Nat} (hp : p < pC h 3) : RW h p (w p) (tt p) := by
  obtain ⟨b1, b2, b3, b4, b5, b6⟩ := I.rw.2.1 p hp
  exact ⟨b1, b2, b3, b4, fun j hj => (b6 j hj).1⟩
theorem SimG.rowA (I : SimG nw z ro w tt q0 h) {r : Nat} (hr : r < pC h 2) : ∀ k, k < z r → pR h 14 r k = some (ro r k) ∧ RW h (ro r k) (w (ro r k)) (tt (ro r k)) := fun k hk => ⟨((I.rw.1 r hr).2.2.2.2 k hk).1, I.rwA ((I.rw.1 r hr).2.2.2.2 k hk).2.1⟩
theorem SimG.of_iff (I : SimG nw z ro w tt q0 h) {r t : Nat} (hr : r < pC h 2) (ht : t < pC h 6) : (∃ k, k < z r ∧ ∃ j, j < w (ro r k) ∧ tt (ro r k) j = t) ↔ ofm h r t := ⟨fun ⟨_, k1, _, j1, e⟩ => e ▸ (I.of_m hr k1 j1).1, fun o => I.of_c hr ht o⟩
theorem unb_l {r T : Nat} {pv : Int32} (hr : r < 60) {β : Type} (ka : Hp → Option β) : ∀ n i f g, TL T g → pI g 46 0 r = pv → i + n = T → n < f → ∃ g', L_X8_unbind_13 0 (nI r) ka f (nI i) g = ka g' ∧ Fr [38, 39, 40] [] g g' ∧ ∀ t, ((i ≤ t ∧ t < T ∧ ofm g r t) → pI g' 38 0 t = 0 ∧ pI g' 39 0 t = pv ∧ pI g' 40 0 t = -1) ∧ (¬ (i ≤ t ∧ t < T ∧ ofm g r t) → pI g' 38 0 t = pI g 38 0 t ∧ pI g' 39 0 t = pI g 39 0 t ∧ pI g' 40 0 t = pI g 40 0 t) := by
  intro n
  induction n with
  | zero =>
    intro i f g m ep hi hf
    obtain ⟨f, rfl⟩ := fu_1 hf
    have hT := m.2.1
    refine ⟨g, ?_, Fr.refl _ _ _, fun t => ⟨fun ⟨k1, k2, _⟩ => by omega, fun _ => ⟨rfl, rfl, rfl⟩⟩⟩
    rw [L_X8_unbind_13, m.1, q_le (by omega) (by omega)]
  | succ n ih =>
    intro i f g m ep hi hf
    obtain ⟨f, rfl⟩ := fu_1 hf
    have hT := m.2.1
    rcases m.isOf (r := r) (t := i) (by omega) with ⟨c, e⟩ | ⟨c, e⟩
    · have f1 : Fr [38, 39, 40] [] g (wI (wI (wI g 38 0 i 0) 39 0 i pv) 40 0 i (-1)) := (((Fr.refl _ _ _).wI (by decide)).wI (by decide)).wI (by decide)
      obtain ⟨g', e', fr, ht⟩ := ih (i + 1) f (wI (wI (wI g 38 0 i 0) 39 0 i pv) 40 0 i (-1)) (m.fr f1 (by decide)) (by rw [f1.I (by decide)]; exact ep) (by omega) (by omega)
      refine ⟨g', ?_, f1.trans fr, fun t => ?_⟩
      · rw [L_X8_unbind_13, m.1, q_nle (by omega) (by omega), e, e_cl, if_neg (by decide), m.r 26 (by decide), e_nn, m.l 46 60 (by decide) (by decide), i_inb (by omega) (by omega), e_ck, i_cl (by omega), ep, F_X8_lays]
        simp (disch := omega) only [e_nn, e_onnN, e_onnS, e_ck, e_lt, e_cl, F_within, F_in, isz0, isz1, i10, ↓reduceIte, sl_RI, sl_CI, sl_LI, sl_IR, sl_CR, sl_LR, sl_II, sl_Ie, sl_RR, sl_Re, sl_CN, sl_Ce, sl_LN, sl_Le, sl_IN, sl_INe, sl_RN, sl_RNe, up2_s, up2_n, up1_s, up1_n, upN_s, upN_n, ne_eq, not_false_eq_true, reduceCtorEq, i_le, i_lt, i_eq, i_cl, i_inb, nI_add, nI_1, i_n1, i_1n, i_sub, m.r 16 (by decide), m.r 17 (by decide), m.r 18 (by decide), m.l 38 120 (by decide) (by decide), m.l 39 120 (by decide) (by decide), m.l 40 120 (by decide) (by decide)]
        exact e'
      · have := ht t
        by_cases et : t = i
        · subst et
          refine ⟨fun _ => ?_, fun hn => absurd ⟨Nat.le_refl _, by omega, c⟩ hn⟩
          obtain ⟨k1, k2, k3⟩ := this.2 (fun q => by omega)
          rw [k1, k2, k3]
          simp (disch := omega) only [sl_RI, sl_CI, sl_LI, sl_IR, sl_CR, sl_LR, sl_II, sl_Ie, sl_RR, sl_Re, sl_CN, sl_Ce, sl_LN, sl_Le, sl_IN, sl_INe, sl_RN, sl_RNe, up2_s, up2_n, up1_s, up1_n, upN_s, upN_n, ne_eq, not_false_eq_true, reduceCtorEq, and_self]
        · simp (disch := omega) only [sl_RI, sl_CI, sl_LI, sl_IR, sl_CR, sl_LR, sl_II, sl_Ie, sl_RR, sl_Re, sl_CN, sl_Ce, sl_LN, sl_Le, sl_IN, sl_INe, sl_RN, sl_RNe, up2_s, up2_n, up1_s, up1_n, upN_s, upN_n, ne_eq, not_false_eq_true, reduceCtorEq, ofm] at this
          refine ⟨fun q => this.1 ⟨by omega, q.2⟩, fun q => this.2 (fun q2 => q ⟨by omega, q2.2⟩)⟩
    · obtain ⟨g', e', fr, ht⟩ := ih (i + 1) f g m ep (by omega) (by omega)
      refine ⟨g', ?_, fr, fun t => ⟨fun q => ?_, fun q => (ht t).2 (fun q2 => q ⟨by omega, q2.2⟩)⟩⟩
      · rw [L_X8_unbind_13, m.1, q_nle (by omega) (by omega), e, e_cl, if_pos rfl, nI_1]
        exact e'
      · have : t ≠ i := fun e => c (e ▸ q.2.2)
        exact (ht t).1 ⟨by omega, q.2⟩
theorem F_ends {T : Nat} {g : Hp} (m : TL T g) {r : Nat} (hr : r < 60) : F_X8_ends 0 (nI r) g = some ((), wI (wI (wI (wI g 45 0 r 3) 47 0 r 0) 48 0 r (-1)) 49 0 r (-1)) := by
  rw [F_X8_ends]
  simp (disch := omega) only [e_nn, e_onnN, e_onnS, e_ck, e_lt, e_cl, F_within, F_in, isz0, isz1, i10, ↓reduceIte, sl_RI, sl_CI, sl_LI, sl_IR, sl_CR, sl_LR, sl_II, sl_Ie, sl_RR, sl_Re, sl_CN, sl_Ce, sl_LN, sl_Le, sl_IN, sl_INe, sl_RN, sl_RNe, up2_s, up2_n, up1_s, up1_n, upN_s, upN_n, ne_eq, not_false_eq_true, reduceCtorEq, i_le, i_lt, i_eq, i_cl, i_inb, nI_add, nI_1, i_n1, i_1n, i_sub, m.r 25 (by decide), m.r 27 (by decide), m.r 28 (by decide), m.r 29 (by decide), m.l 45 60 (by decide) (by decide), m.l 47 60 (by decide) (by decide), m.l 48 60 (by decide) (by decide), m.l 49 60 (by decide) (by decide)]
theorem op_unbind (I : SimG nw z ro w tt q0 h) (x : Int32) : OP (F_X7_unbind 0 x) (F_X8_unbind 0 x) h := by
  have hR := I.c_hR
  have hS := I.c_hS
  have hT := I.c_hT
  rcases wi_ix x (n := pC h 2) (by omega) with ⟨e1, e2⟩ | ⟨e1, r, hr, rfl, e2⟩
  · refine OP.same I (r := 0) ?_ ?_
    · rw [F_X7_unbind, I.tiedN e2, e_cl, e_onnN]
    · rw [F_X8_unbind, isRaftN I.c_j24 e1, e_cl, if_pos rfl]
  by_cases c0 : pI h 45 0 r = 0
  rotate_left
  · refine OP.same I (r := 0) ?_ ?_
    · rw [F_X7_unbind, I.tiedS hr e2, if_neg c0, e_cl, e_onnN]
    · rw [F_X8_unbind, isRaftS hR hr I.c_j24 I.r8_25 I.l45_0 e1, if_neg c0, e_cl, if_pos rfl]
  obtain ⟨⟨a1, a2, a3, zz, a4, a5⟩, hst⟩ := I.rf r hr
  obtain ⟨b2, ⟨p, p1, p2, p3⟩, b4, b5, b6⟩ : pI h 47 0 r ≠ 0 ∧ (∃ p, p < pC h 4 ∧ pR h 2 r 3 = some p ∧ pI h 46 0 r = nI p) ∧ pR h 2 r 4 = none ∧ pI h 48 0 r = -1 ∧ pI h 49 0 r = -1 := by
    rcases hst with ⟨b1, -⟩ | ⟨b1, b⟩ | ⟨b1, -⟩ | ⟨b1, -⟩
    · rw [c0] at b1; exact absurd b1 (by decide)
    · exact b
    · rw [c0] at b1; exact absurd b1 (by decide)
    · rw [c0] at b1; exact absurd b1 (by decide)
  obtain ⟨k1, k2, k3, k4, k5⟩ := I.rw.1 r hr
  obtain ⟨h1, ec, fc, u1, u2, u3⟩ := F_scatter (g := h) k2 k1 k3 k4 (I.rowA hr)
  have M : ME h h1 := fc.ME (by decide) (by decide)
  obtain ⟨g', em, fm, v3⟩ := unb_l (r := r) (T := pC h 6) (pv := nI p) (by omega) (fun h16 => cl (F_X8_ends 0 (nI r) h16) fun _ h18 => some ((1 : Int32), h18)) (pC h 6) 0 FU h1 (I.TL M) (by rw [M.I (by decide)]; exact p3) (by omega) (by unfold FU; omega)
  have m38 : pI h1 38 = pI h 38 := M.I (by decide)
  have m39 : pI h1 39 = pI h 39 := M.I (by decide)
  have m40 : pI h1 40 = pI h 40 := M.I (by decide)
  simp only [ofm, m38, m39, m40] at v3
  have of1 : ∀ t, t < pC h 6 → ofm h r t → pI g' 38 0 t = 0 ∧ pI g' 39 0 t = nI p ∧ pI g' 40 0 t = -1 := fun t ht o => (v3 t).1 ⟨by omega, ht, o⟩
  have of2 : ∀ t, ¬ ofm h r t → pI g' 38 0 t = pI h 38 0 t ∧ pI g' 39 0 t = pI h 39 0 t ∧ pI g' 40 0 t = pI h 40 0 t := fun t o => (v3 t).2 (fun q => o q.2.2)
  have of3 : ∀ t, t < pC h 6 → ofm h r t → pR h1 6 t 6 = none ∧ pR h1 6 t 5 = some p := fun t ht o => by
    obtain ⟨l1, l2, l3⟩ := (u3 t).1 ((I.of_iff hr ht).mpr o)
    refine ⟨l1, ?_⟩
    rw [l3, p2]
    rcases (I.tr.1 t ht).2.2 with ⟨q, -⟩ | ⟨-, -, ⟨r', -, q, -⟩, -⟩ | ⟨q, -⟩ | ⟨q, -⟩
    · rw [o.1] at q; exact absurd q (by decide)
    · rw [q]; simp
    · rw [o.1] at q; exact absurd q (by decide)
    · rw [o.1] at q; exact absurd q (by decide)
  have of4 : ∀ t, t < pC h 6 → ¬ ofm h r t → pR h1 6 t = pR h 6 t := fun t ht o => (u3 t).2 (fun q => o ((I.of_iff hr ht).mp q))
  refine ⟨1, h1, (wI (wI (wI (wI g' 45 0 r 3) 47 0 r 0) 48 0 r (-1)) 49 0 r (-1)), ?_, ?_, nw, up1 z r 0, ro, w, tt, q0, ?_⟩
  · rw [F_X7_unbind, I.tiedS hr e2, if_pos c0, e_cl, e_onnS, ec, e_cl]
  · rw [F_X8_unbind, isRaftS (R := pC h 2) hR hr (by rw [M.I (by decide)]; exact I.c_j24) (by rw [M.R (by decide)]; exact I.r8_25) (by rw [M.L (by decide)]; exact I.l45_0) e1, M.I (k := 45) (by decide), if_pos c0, e_cl, if_neg (by decide)]
    refine em.trans ?_
    rw [F_ends ((I.TL M).fr fm (by decide)) (by omega), e_cl]
  · unfold SimG
    simp (disch := omega) only [sl_RI, sl_CI, sl_LI, sl_IR, sl_CR, sl_LR, sl_II, sl_Ie, sl_RR, sl_Re, sl_CN, sl_Ce, sl_LN, sl_Le, sl_IN, sl_INe, sl_RN, sl_RNe, up2_s, up2_n, up1_s, up1_n, upN_s, upN_n, ne_eq, not_false_eq_true, reduceCtorEq]
    simp (disch := decide) only [fm.I, fm.R, fm.L, fm.C]
    simp (disch := decide) only [fc.I, fc.R, fc.L, fc.C, u1, u2]
    have nx1 : ∀ j, j < w q0 → tt q0 j < pC h 6 := fun j hj => ((I.rw.2.1 q0 I.nx.2.1).2.2.2.2.2 j hj).2
    have no0 : ∀ t, pI h 38 0 t = 0 → ¬ ofm h r t := fun t e o => by rw [o.1] at e; exact absurd e (by decide)
    refine ⟨I.w7, I.w1, I.w5, I.w8, I.ln, I.ct, I.a19, I.a20, I.a21, I.a22, I.st, I.sb, ?_, ?_, ?_, ?_, ?_, I.to, I.pr, I.gnw, I.tk, I.rg, I.ba, ?_⟩
    · refine I.tr.scat (r := r) p1 (fun t ht o => Or.inl ?_) (fun t ht o => ?_) (fun t ht => ?_)
      · obtain ⟨x1, x2, x3⟩ := of1 t ht o
        obtain ⟨y1, y2⟩ := of3 t ht o
        exact ⟨x1, x2, y2, y1⟩
      · obtain ⟨x1, x2, x3⟩ := of2 t o
        exact ⟨x1, x2, x3, of4 t ht o⟩
      · exact (of2 t (no0 t (I.tr.2 t ht))).1
    · intro r' hr'
      by_cases e : r' = r
      · subst e
        simp (disch := omega) only [sl_RI, sl_CI, sl_LI, sl_IR, sl_CR, sl_LR, sl_II, sl_Ie, sl_RR, sl_Re, sl_CN, sl_Ce, sl_LN, sl_Le, sl_IN, sl_INe, sl_RN, sl_RNe, up2_s, up2_n, up1_s, up1_n, upN_s, upN_n, ne_eq, not_false_eq_true, reduceCtorEq]
        exact ⟨⟨a1, trivial, a3.trans b6, 0, by omega, rfl⟩, Or.inl ⟨trivial, trivial, trivial, b4, trivial, trivial⟩⟩
      · have := I.rf r' hr'
        simpa (disch := omega) only [sl_RI, sl_CI, sl_LI, sl_IR, sl_CR, sl_LR, sl_II, sl_Ie, sl_RR, sl_Re, sl_CN, sl_Ce, sl_LN, sl_Le, sl_IN, sl_INe, sl_RN, sl_RNe, up2_s, up2_n, up1_s, up1_n, upN_s, upN_n, ne_eq, not_false_eq_true, reduceCtorEq] using this
    · refine ⟨fun c hc => ?_, I.cr.2⟩
      obtain ⟨q1, q2⟩ := I.cr.1 c hc
      refine ⟨q1, ?_⟩
      rcases q2 with q2 | ⟨d1, d2, ⟨d, d3, d4, d5, d6⟩, d7⟩ | q2
      · exact Or.inl q2
      · have : d ≠ r := by rintro rfl; rw [c0] at d6; rcases d6 with d6 | d6 <;> exact absurd d6 (by decide)
        exact Or.inr (Or.inl ⟨d1, d2, ⟨d, d3, d4, by simpa (disch := omega) only [sl_RI, sl_CI, sl_LI, sl_IR, sl_CR, sl_LR, sl_II, sl_Ie, sl_RR, sl_Re, sl_CN, sl_Ce, sl_LN, sl_Le, sl_IN, sl_INe, sl_RN, sl_RNe, up2_s, up2_n, up1_s, up1_n, upN_s, upN_n, ne_eq, not_false_eq_true, reduceCtorEq] using d5, by simpa (disch := omega) only [sl_RI, sl_CI, sl_LI, sl_IR, sl_CR, sl_LR, sl_II, sl_Ie, sl_RR, sl_Re, sl_CN, sl_Ce, sl_LN, sl_Le, sl_IN, sl_INe, sl_RN, sl_RNe, up2_s, up2_n, up1_s, up1_n, upN_s, upN_n, ne_eq, not_false_eq_true, reduceCtorEq] using d6⟩, d7⟩)
      · exact Or.inr (Or.inr q2)
    · refine I.rw.scat hr hR (fun r' e => ?_) ?_ (fun r' => ?_) (fun t ht o => ?_) (fun t ht o => ?_)
      · simp (disch := omega) only [sl_RI, sl_CI, sl_LI, sl_IR, sl_CR, sl_LR, sl_II, sl_Ie, sl_RR, sl_Re, sl_CN, sl_Ce, sl_LN, sl_Le, sl_IN, sl_INe, sl_RN, sl_RNe, up2_s, up2_n, up1_s, up1_n, upN_s, upN_n, ne_eq, not_false_eq_true, reduceCtorEq]
      · simp (disch := omega) only [sl_RI, sl_CI, sl_LI, sl_IR, sl_CR, sl_LR, sl_II, sl_Ie, sl_RR, sl_Re, sl_CN, sl_Ce, sl_LN, sl_Le, sl_IN, sl_INe, sl_RN, sl_RNe, up2_s, up2_n, up1_s, up1_n, upN_s, upN_n, ne_eq, not_false_eq_true, reduceCtorEq]
      · by_cases e : r' = r
        · subst e; simp (disch := omega) only [sl_RI, sl_CI, sl_LI, sl_IR, sl_CR, sl_LR, sl_II, sl_Ie, sl_RR, sl_Re, sl_CN, sl_Ce, sl_LN, sl_Le, sl_IN, sl_INe, sl_RN, sl_RNe, up2_s, up2_n, up1_s, up1_n, upN_s, upN_n, ne_eq, not_false_eq_true, reduceCtorEq]
        · simp (disch := omega) only [sl_RI, sl_CI, sl_LI, sl_IR, sl_CR, sl_LR, sl_II, sl_Ie, sl_RR, sl_Re, sl_CN, sl_Ce, sl_LN, sl_Le, sl_IN, sl_INe, sl_RN, sl_RNe, up2_s, up2_n, up1_s, up1_n, upN_s, upN_n, ne_eq, not_false_eq_true, reduceCtorEq]
      · rw [(of1 t ht o).1]; decide
      · exact ⟨(of2 t o).1, (of2 t o).2.2⟩
    · refine I.nx.scat nx1 (fun r' hr' => ?_) (fun t ht e => ?_)
      · by_cases e : r' = r
        · subst e; rw [up1_s]; omega
        · rw [up1_n _ _ e]; omega
      · obtain ⟨x1, x2, -⟩ := of2 t (no0 t e)
        exact ⟨x1.trans e, x2⟩
    · obtain ⟨s1, s2⟩ := I.so
      rw [s1, s2]
      constructor
      · refine (cnt_ext (fun t ht => ?_)).symm
        by_cases o : ofm h r t
        · rw [(of1 t ht o).1, o.1]; decide
        · rw [(of2 t o).1]
      · refine (cnt_ext (fun t ht => ?_)).symm
        by_cases o : ofm h r t
        · rw [(of1 t ht o).1, o.1]; decide
        · rw [(of2 t o).1]
end OPS
