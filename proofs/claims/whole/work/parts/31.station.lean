theorem GRo.mono {T T' R NR : Nat} {z : Nat → Nat} {ro : Nat → Nat → Nat} {w : Nat → Nat} {tt : Nat → Nat → Nat} {i2 : Nat → Nat → Int32} {r2 a14 : Nat → Nat → Option Nat} {l14 : Nat → Nat} {i3 : Nat → Nat → Int32} {r3 a15 : Nat → Nat → Option Nat} {l15 : Nat → Nat} {i6 i6' : Nat → Nat → Int32} {m38 m38' m40 m40' m41 m41' m42 m42' : Nat → Int32}
    (g : GRo T R NR z ro w tt i2 r2 a14 l14 i3 r3 a15 l15 i6 m38 m40 m41 m42) (hT : T ≤ T') (h6 : ∀ t, t < T → i6' t 4 = i6 t 4) (hm : ∀ t, t < T → m38' t = m38 t ∧ m40' t = m40 t ∧ m41' t = m41 t ∧ m42' t = m42 t) (hn : ∀ t, T ≤ t → t < T' → m38' t ≠ 1) : GRo T' R NR z ro w tt i2 r2 a14 l14 i3 r3 a15 l15 i6' m38' m40' m41' m42' := by
  obtain ⟨g1, g2, g3, g4⟩ := g
  refine ⟨g1, fun p hp => ?_, fun r hr i hi j hj => ?_, fun t ht h1 => ?_⟩
  · obtain ⟨a1, a2, a3, a4, a5, a6⟩ := g2 p hp
    refine ⟨a1, a2, a3, a4, ?_, fun j hj => ⟨(a6 j hj).1, by have := (a6 j hj).2; omega⟩⟩
    rw [a5]
    exact su_ext (fun j hj => (h6 _ (a6 j hj).2).symm)
  · have hlt := ((g2 _ ((g1 r hr).2.2.2.2 i hi).2.1).2.2.2.2.2 j hj).2
    obtain ⟨b1, b2, b3, b4⟩ := hm _ hlt
    rw [b1, b2, b3, b4]
    exact g3 r hr i hi j hj
  · by_cases c : t < T
    · rw [(hm t c).1] at h1
      exact g4 t c h1
    · exact absurd h1 (hn t (by omega) ht)
theorem GT.S {S S' T R : Nat} {i6 : Nat → Nat → Int32} {r6 : Nat → Nat → Option Nat} {m34 m35 m36 m37 m38 m39 m40 m43 : Nat → Int32} (g : GT S T R i6 r6 m34 m35 m36 m37 m38 m39 m40 m43) (h : S ≤ S') : GT S' T R i6 r6 m34 m35 m36 m37 m38 m39 m40 m43 := by
  refine ⟨fun t ht => ?_, g.2⟩
  obtain ⟨a, b, c⟩ := g.1 t ht
  refine ⟨a, b, ?_⟩
  rcases c with ⟨c1, ⟨p, p1, p2⟩, c2⟩ | c | c | c
  · exact Or.inl ⟨c1, ⟨p, by omega, p2⟩, c2⟩
  · exact Or.inr (Or.inl c)
  · exact Or.inr (Or.inr (Or.inl c))
  · exact Or.inr (Or.inr (Or.inr c))
theorem GR.S {S S' R C nw : Nat} {i2 : Nat → Nat → Int32} {r2 r0 : Nat → Nat → Option Nat} {m45 m46 m47 m48 m49 : Nat → Int32} (g : GR S R C nw i2 r2 r0 m45 m46 m47 m48 m49) (h : S ≤ S') : GR S' R C nw i2 r2 r0 m45 m46 m47 m48 m49 := by
  intro r hr
  obtain ⟨a, b⟩ := g r hr
  refine ⟨a, ?_⟩
  rcases b with b | ⟨b1, b2, ⟨p, p1, p2⟩, b3⟩ | ⟨b1, b2, ⟨p, p1, p2⟩, b3⟩ | ⟨b1, b2, ⟨p, p1, p2⟩, b3⟩
  · exact Or.inl b
  · exact Or.inr (Or.inl ⟨b1, b2, ⟨p, by omega, p2⟩, b3⟩)
  · exact Or.inr (Or.inr (Or.inl ⟨b1, b2, ⟨p, by omega, p2⟩, b3⟩))
  · exact Or.inr (Or.inr (Or.inr ⟨b1, b2, ⟨p, by omega, p2⟩, b3⟩))
theorem GC.S {S S' R C nw : Nat} {i0 : Nat → Nat → Int32} {r0 r2 : Nat → Nat → Option Nat} {m45 m50 m51 m52 m53 m54 : Nat → Int32} (g : GC S R C nw i0 r0 r2 m45 m50 m51 m52 m53 m54) (h : S ≤ S') : GC S' R C nw i0 r0 r2 m45 m50 m51 m52 m53 m54 := by
  refine ⟨fun c hc => ?_, g.2⟩
  obtain ⟨⟨a, hm, h1, h2⟩, b⟩ := g.1 c hc
  refine ⟨⟨a, hm, by omega, h2⟩, ?_⟩
  rcases b with ⟨b1, ⟨p, p1, p2⟩, b3⟩ | b | b
  · exact Or.inl ⟨b1, ⟨p, by omega, p2⟩, b3⟩
  · exact Or.inr (Or.inl b)
  · exact Or.inr (Or.inr b)
section OPS
variable {nw : Nat} {z : Nat → Nat} {ro : Nat → Nat → Nat} {w : Nat → Nat} {tt : Nat → Nat → Nat} {q0 : Nat} {h : Hp}
theorem wi_nat {a b v : Nat} (hb : b < 2147483648) (ha : a < 2147483648) (hv : v < 2147483648) : wi (nI v) (nI a) (nI b) = if a ≤ v ∧ v ≤ b then 1 else 0 := by
  unfold wi
  by_cases c1 : v < a
  · rw [q_lt c1 ha, if_neg (by omega)]
  · rw [q_nlt (by omega) hv]
    by_cases c2 : b < v
    · rw [q_lt c2 hv, if_neg (by omega)]
    · rw [q_nlt (by omega) hb, if_pos (by omega)]
theorem F_canBe4 {v : Nat} (hv : v < 2147483648) (x3 : Int32) : F_X4_canBe (nI v) x3 h = some (if (1 ≤ v / 100000 ∧ v / 100000 ≤ 20) ∧ (1 ≤ v / 1000 % 100 ∧ v / 1000 % 100 ≤ 60) ∧ v % 1000 ≤ 50 ∧ wi x3 0 1000 = 1 then 1 else 0, h) := by
  have d1 : nI v / (100000 : Int32) = nI (v / 100000) := i_div hv (by decide) (by decide)
  have d2 : nI v - nI v / (100000 : Int32) * (100000 : Int32) = nI (v % 100000) := i_rem hv (by decide) (by decide)
  have d3 : nI v - nI v / (1000 : Int32) * (1000 : Int32) = nI (v % 1000) := i_rem hv (by decide) (by decide)
  have d4 : nI (v % 100000) / (1000 : Int32) = nI (v / 1000 % 100) := by
    have := i_div (a := v % 100000) (d := 1000) (by omega) (by decide) (by decide)
    rw [show v % 100000 / 1000 = v / 1000 % 100 by omega] at this
    exact this
  have w1 : wi (nI (v / 100000)) 1 20 = if 1 ≤ v / 100000 ∧ v / 100000 ≤ 20 then 1 else 0 := wi_nat (a := 1) (b := 20) (by omega) (by omega) (by omega)
  have w2 : wi (nI (v / 1000 % 100)) 1 60 = if 1 ≤ v / 1000 % 100 ∧ v / 1000 % 100 ≤ 60 then 1 else 0 := wi_nat (a := 1) (b := 60) (by omega) (by omega) (by omega)
  have w3 : wi (nI (v % 1000)) 0 50 = if v % 1000 ≤ 50 then 1 else 0 := by
    have := wi_nat (a := 0) (b := 50) (v := v % 1000) (by omega) (by omega) (by omega)
    simp only [Nat.zero_le, true_and] at this
    exact this
  rw [F_X4_canBe, q_nltR 0 (by omega) (by omega), F_within, e_cl, d2, d1, d4, w1]
  by_cases c1 : 1 ≤ v / 100000 ∧ v / 100000 ≤ 20
  rotate_left
  · rw [if_neg c1, if_pos rfl, if_neg (fun e => c1 e.1)]
  rw [if_pos c1, if_neg (by decide), F_within, e_cl, w2]
  by_cases c2 : 1 ≤ v / 1000 % 100 ∧ v / 1000 % 100 ≤ 60
  rotate_left
  · rw [if_neg c2, if_pos rfl, if_neg (fun e => c2 e.2.1)]
  rw [if_pos c2, if_neg (by decide), F_within, e_cl, d3, w3]
  by_cases c3 : v % 1000 ≤ 50
  rotate_left
  · rw [if_neg c3, if_pos rfl, if_neg (fun e => c3 e.2.2.1)]
  rw [if_pos c3, if_neg (by decide), F_within, e_cl]
  rcases wi_01 x3 0 1000 with c4 | c4
  · rw [c4, if_pos rfl, if_neg (fun e => absurd e.2.2.2 (by decide))]
  · rw [c4, if_neg (by decide), if_pos ⟨c1, c2, c3, rfl⟩]
/-- what the reference asks of a new station -/
theorem st_m {v S : Nat} {x1 x3 x4 : Int32} (hS : 0 < S) (hS2 : S < 12) (hv : v < 2147483648) (e1 : pI h 8 0 1 = nI S) (hw : wi x1 0 (nI S - 1) = 1) (hno : ¬ ((1 ≤ v / 100000 ∧ v / 100000 ≤ 20) ∧ (1 ≤ v / 1000 % 100 ∧ v / 1000 % 100 ≤ 60) ∧ v % 1000 ≤ 50 ∧ wi x3 0 1000 = 1)) : F_X8_station 0 x1 (nI v) x3 x4 h = some (-1, h) := by
  have d1 : nI v / (100000 : Int32) = nI (v / 100000) := i_div hv (by decide) (by decide)
  have d0 : nI v / (1000 : Int32) = nI (v / 1000) := i_div hv (by decide) (by decide)
  have d2 : nI (v / 1000) - nI (v / 1000) / (100 : Int32) * (100 : Int32) = nI (v / 1000 % 100) := i_rem (by omega) (by decide) (by decide)
  have d3 : nI v - nI (v / 1000) * (1000 : Int32) = nI (v % 1000) := by rw [← d0]; exact i_rem hv (by decide) (by decide)
  have w1 : wi (nI (v / 100000)) 1 20 = if 1 ≤ v / 100000 ∧ v / 100000 ≤ 20 then 1 else 0 := wi_nat (a := 1) (b := 20) (by omega) (by omega) (by omega)
  have w2 : wi (nI (v / 1000 % 100)) 1 60 = if 1 ≤ v / 1000 % 100 ∧ v / 1000 % 100 ≤ 60 then 1 else 0 := wi_nat (a := 1) (b := 60) (by omega) (by omega) (by omega)
  rw [F_X8_station, e1, q_neR 12 (by omega) (by omega) (by omega), q_nleR 0 (by omega) (by omega), F_isStation e1, e_cl, hw, if_neg (by decide), q_nltR 0 (by omega) (by omega), F_in, e_cl, d1, w1]
  by_cases c1 : 1 ≤ v / 100000 ∧ v / 100000 ≤ 20
  rotate_left
  · rw [if_neg c1, if_pos rfl]
  rw [if_pos c1, if_neg (by decide), F_in, e_cl, d0, d2, w2]
  by_cases c2 : 1 ≤ v / 1000 % 100 ∧ v / 1000 % 100 ≤ 60
  rotate_left
  · rw [if_neg c2, if_pos rfl]
  rw [if_pos c2, if_neg (by decide), d3]
  by_cases c3 : v % 1000 ≤ 50
  rotate_left
  · rw [q_ltL 50 (by omega) (by omega)]
  rw [q_nltL 50 (by omega) (by omega), F_in, e_cl]
  rcases wi_01 x3 0 1000 with c4 | c4
  · rw [c4, if_pos rfl]
  · exact absurd ⟨c1, c2, c3, c4⟩ hno
theorem op_station (I : SimG nw z ro w tt q0 h) (x1 x2 x3 x4 : Int32) (hx4 : x4 = 0 ∨ x4 = 1) : OP (F_X7_station 0 x1 x2 x3 x4) (F_X8_station 0 x1 x2 x3 x4) h := by
  have hS := I.c_hS
  obtain ⟨n1, n2, n3⟩ := I.gnw
  have hct := I.ct
  obtain ⟨t1, t2, t3, t4, t5, t6, t7, t8, t9, t10, t11, t12, t13, t14⟩ := hct
  by_cases c12 : pC h 4 < 12
  rotate_left
  · refine OP.same I (r := -1) ?_ ?_
    · rw [F_X7_station, I.c_i1, q_nltR 12 (by omega) (by omega)]
    · rw [F_X8_station, I.c_j1, q_eqR 12 (by omega)]
  have iz : isz x4 = true := by rcases hx4 with rfl | rfl <;> decide
  have em : nI (pC h 4 + 1) - 1 = nI (pC h 4) := nI_pred _
  by_cases c0 : pC h 4 = 0
  · have z1 : (0 : Int32) / 100000 = 0 := by decide
    have z2 : ((0 : Int32) - 0 * 100000) / 1000 = 0 := by decide
    have z3 : (0 : Int32) - 0 * 1000 = 0 := by decide
    have z4 : (0 : Int32) / 1000 = 0 := by decide
    have z5 : (0 : Int32) + 1 = 1 := by decide
    have z6 : (1 : Int32) - 1 = 0 := by decide
    have z7 : (0 : Int32).toNatClampNeg = 0 := by decide
    have z8 : inb 0 12 = true := by decide
    have z9 : (0 : Int32) ≤ 0 := by decide
    have za : (0 : Int32) < 12 := by decide
    have zb : ¬ (0 : Int32) = 12 := by decide
    have k1 : pI h 7 0 1 = 0 := by rw [I.c_i1, c0]; rfl
    have k2 : pI h 8 0 1 = 0 := by rw [I.c_j1, c0]; rfl
    refine ⟨0, (wI (wR (wI (wI (wI (wI (wI (wI (wR (wI (wI (wI (wN h 4 0) 4 0 8 0) 4 0 9 0) 4 0 0 0) 4 0 1 none) 4 0 2 0) 4 0 3 0) 4 0 4 0) 4 0 5 0) 4 0 6 1) 4 0 7 0) 19 0 0 (some 0)) 7 0 1 1), (wI (wI (wI (wR (wI (wI (wI (wI (wI (wI (wR (wI (wI (wI (wN h 4 0) 4 0 8 0) 4 0 9 0) 4 0 0 0) 4 0 1 none) 4 0 2 0) 4 0 3 0) 4 0 4 0) 4 0 5 0) 4 0 6 1) 4 0 7 0) 19 0 0 (some 0)) 7 0 1 1) 31 0 0 1) 8 0 1 1), ?_, ?_, nw, z, ro, w, tt, q0, ?_⟩
    · rw [F_X7_station, k1, if_pos za, if_pos rfl, c0]
      simp (disch := omega) only [F_X4_init, e_nn, e_onnN, e_onnS, e_ck, e_lt, e_cl, F_within, F_in, isz0, isz1, i10, ↓reduceIte, sl_RI, sl_CI, sl_LI, sl_IR, sl_CR, sl_LR, sl_II, sl_Ie, sl_RR, sl_Re, sl_CN, sl_Ce, sl_LN, sl_Le, sl_IN, sl_INe, sl_RN, sl_RNe, up2_s, up2_n, up1_s, up1_n, upN_s, upN_n, ne_eq, not_false_eq_true, reduceCtorEq, z1, z2, z3, z4, z5, z7, z8, k1, I.r7_0, I.l19_0]
    · rw [F_X8_station]
      rcases hx4 with rfl | rfl
      · simp (disch := omega) only [e_nn, e_onnN, e_onnS, e_ck, e_lt, e_cl, F_within, F_in, isz0, isz1, i10, ↓reduceIte, sl_RI, sl_CI, sl_LI, sl_IR, sl_CR, sl_LR, sl_II, sl_Ie, sl_RR, sl_Re, sl_CN, sl_Ce, sl_LN, sl_Le, sl_IN, sl_INe, sl_RN, sl_RNe, up2_s, up2_n, up1_s, up1_n, upN_s, upN_n, ne_eq, not_false_eq_true, reduceCtorEq, z5, z6, z7, z8, z9, zb, k2, I.r8_8, I.l31_0]
      · simp (disch := omega) only [e_nn, e_onnN, e_onnS, e_ck, e_lt, e_cl, F_within, F_in, isz0, isz1, i10, ↓reduceIte, sl_RI, sl_CI, sl_LI, sl_IR, sl_CR, sl_LR, sl_II, sl_Ie, sl_RR, sl_Re, sl_CN, sl_Ce, sl_LN, sl_Le, sl_IN, sl_INe, sl_RN, sl_RNe, up2_s, up2_n, up1_s, up1_n, upN_s, upN_n, ne_eq, not_false_eq_true, reduceCtorEq, z5, z6, z7, z8, z9, zb, k2, I.r8_8, I.l31_0]
    · unfold SimG
      simp (disch := omega) only [sl_RI, sl_CI, sl_LI, sl_IR, sl_CR, sl_LR, sl_II, sl_Ie, sl_RR, sl_Re, sl_CN, sl_Ce, sl_LN, sl_Le, sl_IN, sl_INe, sl_RN, sl_RNe, up2_s, up2_n, up1_s, up1_n, upN_s, upN_n, ne_eq, not_false_eq_true, reduceCtorEq]
      rw [c0]
      have z0 := I.st.2 0 (by omega)
      refine ⟨I.w7, I.w1, I.w5, I.w8, I.ln.wN (by decide), ⟨by omega, t2, t3, t4, t5, t6, rfl, t8, t9, t10, rfl, t12, t13, t14⟩, ?_, I.a20, I.a21, I.a22, ?_, ?_, ?_, ?_, ?_, I.rw, I.nx, I.to, I.pr, I.gnw, I.tk, I.rg, I.ba, I.so⟩
      · intro i hi
        rw [show i = 0 by omega, up1_s]
      · obtain ⟨y0, y1, y2, y3, y4, y5, y6, y7, y8⟩ := z0
        refine ⟨fun n hn => ?_, fun n hn => ?_⟩
        · rw [show n = 0 by omega]
          simp (disch := omega) only [sl_RI, sl_CI, sl_LI, sl_IR, sl_CR, sl_LR, sl_II, sl_Ie, sl_RR, sl_Re, sl_CN, sl_Ce, sl_LN, sl_Le, sl_IN, sl_INe, sl_RN, sl_RNe, up2_s, up2_n, up1_s, up1_n, upN_s, upN_n, ne_eq, not_false_eq_true, reduceCtorEq, y1, y2, y3, y4, y5, y7, y8]
          exact ⟨rfl, trivial, trivial, trivial, trivial, trivial, trivial, trivial, trivial, Or.inr trivial, fun _ => trivial, fun e => absurd e (by omega)⟩
        · have := I.st.2 n (by omega)
          simpa (disch := omega) only [sl_RI, sl_CI, sl_LI, sl_IR, sl_CR, sl_LR, sl_II, sl_Ie, sl_RR, sl_Re, sl_CN, sl_Ce, sl_LN, sl_Le, sl_IN, sl_INe, sl_RN, sl_RNe, up2_s, up2_n, up1_s, up1_n, upN_s, upN_n, ne_eq, not_false_eq_true, reduceCtorEq] using this
      · obtain ⟨y0, y1, y2, y3, y4, y5, y6, y7, y8⟩ := z0
        intro n hn
        rw [show n = 0 by omega, y1, y2, y3, y4, y5, y7, y8]
        exact ⟨⟨0, 0, 0, 0, 0, rfl, rfl, rfl, rfl, rfl, by omega, by omega, by omega, by omega, by omega, fun e => absurd e (by omega)⟩, 0, 0, rfl, rfl, by omega, by omega⟩
      · refine I.tr.S (by omega)
      · refine I.rf.S (by omega)
      · refine I.cr.S (by omega)
  have hn0 : ¬ nI (pC h 4) = (0 : Int32) := by rw [i_eqL 0 (by omega) (by omega)]; exact c0
  rcases wi_ix x1 (n := pC h 4) (by omega) with ⟨e1, e2⟩ | ⟨e1, j, hj, rfl, e2⟩
  · refine OP.same I (r := -1) ?_ ?_
    · rw [F_X7_station, I.c_i1, q_ltR 12 c12 (by omega), if_neg hn0, I.stationAt, e_cl, e2, e_onnN]
    · rw [F_X8_station, I.c_j1, q_neR 12 (by omega) (by omega) (by omega), q_nleR 0 (by omega) (by omega), F_isStation I.c_j1, e_cl, e1, if_pos rfl]
  by_cases cv : x2 < 0
  · refine OP.same I (r := -1) ?_ ?_
    · rw [F_X7_station, I.c_i1, q_ltR 12 c12 (by omega), if_neg hn0, I.stationAt, e_cl, e2, e_onnS, F_X4_canBe, if_pos cv, e_cl, if_pos rfl]
    · rw [F_X8_station, I.c_j1, q_neR 12 (by omega) (by omega) (by omega), q_nleR 0 (by omega) (by omega), F_isStation I.c_j1, e_cl, e1, if_neg (by decide), if_pos cv]
  obtain ⟨v, hv, rfl⟩ := nI_of cv
  by_cases ok : (1 ≤ v / 100000 ∧ v / 100000 ≤ 20) ∧ (1 ≤ v / 1000 % 100 ∧ v / 1000 % 100 ≤ 60) ∧ v % 1000 ≤ 50 ∧ wi x3 0 1000 = 1
  rotate_left
  · refine OP.same I (r := -1) ?_ (st_m (by omega) c12 hv I.c_j1 e1 ok)
    rw [F_X7_station, I.c_i1, q_ltR 12 c12 (by omega), if_neg hn0, I.stationAt, e_cl, e2, e_onnS, F_canBe4 hv, if_neg ok, e_cl, if_pos rfl]
  obtain ⟨ok1, ok2, ok3, ok4⟩ := id ok
  obtain ⟨b, hb, rfl⟩ : ∃ b, b ≤ 1000 ∧ x3 = nI b := by
    rcases wi_k x3 1000 (by decide) with ⟨e, -⟩ | ⟨-, b, hb, e, -⟩
    · have e : wi x3 0 1000 = 0 := e
      rw [e] at ok4; exact absurd ok4 (by decide)
    · exact ⟨b, hb, e⟩
  have d1 : nI v / (100000 : Int32) = nI (v / 100000) := i_div hv (by decide) (by decide)
  have d2 : nI v - nI (v / 100000) * (100000 : Int32) = nI (v % 100000) := by rw [← d1]; exact i_rem hv (by decide) (by decide)
  have d0 : nI v / (1000 : Int32) = nI (v / 1000) := i_div hv (by decide) (by decide)
  have d3 : nI v - nI (v / 1000) * (1000 : Int32) = nI (v % 1000) := by rw [← d0]; exact i_rem hv (by decide) (by decide)
  have d4 : nI (v % 100000) / (1000 : Int32) = nI (v / 1000 % 100) := by
    have := i_div (a := v % 100000) (d := 1000) (by omega) (by decide) (by decide)
    rw [show v % 100000 / 1000 = v / 1000 % 100 by omega] at this
    exact this
  have d5 : nI (v / 1000) / (100 : Int32) = nI (v / 1000 / 100) := i_div (by omega) (by decide) (by decide)
  have d6 : nI (v / 1000) - nI (v / 1000 / 100) * (100 : Int32) = nI (v / 1000 % 100) := by rw [← d5]; exact i_rem (by omega) (by decide) (by decide)
  have w1 : wi (nI (v / 100000)) 1 20 = 1 := (wi_nat (a := 1) (b := 20) (by omega) (by omega) (by omega)).trans (if_pos ok1)
  have w2 : wi (nI (v / 1000 % 100)) 1 60 = 1 := (wi_nat (a := 1) (b := 60) (by omega) (by omega) (by omega)).trans (if_pos ok2)
  have w3 : ¬ (50 : Int32) < nI (v % 1000) := by rw [i_ltL 50 (by omega) (by omega)]; omega
  have nq : ¬ nI (pC h 4) = (12 : Int32) := by rw [i_eqL 12 (by omega) (by omega)]; omega
  have nz : ¬ nI (pC h 4) ≤ (0 : Int32) := by rw [i_leR 0 (by omega) (by omega)]; omega
  have nv : ¬ nI v < (0 : Int32) := cv
  refine ⟨nI (pC h 4), (wI (wR (wI (wI (wI (wI (wI (wI (wR (wI (wI (wI (wN h 4 0) 4 (pC h 4) 8 0) 4 (pC h 4) 9 0) 4 (pC h 4) 0 (nI (pC h 4))) 4 (pC h 4) 1 (some j)) 4 (pC h 4) 2 (nI (v / 100000))) 4 (pC h 4) 3 (nI (v / 1000 % 100))) 4 (pC h 4) 4 (nI (v % 1000))) 4 (pC h 4) 5 (nI b)) 4 (pC h 4) 6 x4) 4 (pC h 4) 7 (nI b)) 19 0 (pC h 4) (some (pC h 4))) 7 0 1 (nI (pC h 4 + 1))), (wI (wI (wI (wI (wI (wI (wI (wI (wI (wR (wI (wI (wI (wI (wI (wI (wR (wI (wI (wI (wN h 4 0) 4 (pC h 4) 8 0) 4 (pC h 4) 9 0) 4 (pC h 4) 0 (nI (pC h 4))) 4 (pC h 4) 1 (some j)) 4 (pC h 4) 2 (nI (v / 100000))) 4 (pC h 4) 3 (nI (v / 1000 % 100))) 4 (pC h 4) 4 (nI (v % 1000))) 4 (pC h 4) 5 (nI b)) 4 (pC h 4) 6 x4) 4 (pC h 4) 7 (nI b)) 19 0 (pC h 4) (some (pC h 4))) 7 0 1 (nI (pC h 4 + 1))) 25 0 (pC h 4) (nI j)) 26 0 (pC h 4) (nI (v / 100000))) 27 0 (pC h 4) (nI (v / 1000 % 100))) 28 0 (pC h 4) (nI (v % 1000))) 29 0 (pC h 4) (nI b)) 30 0 (pC h 4) (nI b)) 31 0 (pC h 4) x4) 8 0 1 (nI (pC h 4 + 1))), ?_, ?_, nw, z, ro, w, tt, q0, ?_⟩
  · rw [F_X7_station, I.c_i1, q_ltR 12 c12 (by omega), if_neg hn0, I.stationAt, e_cl, e2, e_onnS, F_canBe4 hv, if_pos ok, e_cl, if_neg (by decide)]
    simp (disch := omega) only [F_X4_init, e_nn, e_onnN, e_onnS, e_ck, e_lt, e_cl, F_within, F_in, isz0, isz1, i10, ↓reduceIte, sl_RI, sl_CI, sl_LI, sl_IR, sl_CR, sl_LR, sl_II, sl_Ie, sl_RR, sl_Re, sl_CN, sl_Ce, sl_LN, sl_Le, sl_IN, sl_INe, sl_RN, sl_RNe, up2_s, up2_n, up1_s, up1_n, upN_s, upN_n, ne_eq, not_false_eq_true, reduceCtorEq, i_le, i_lt, i_eq, i_cl, i_inb, nI_add, nI_1, i_n1, i_1n, i_sub, d1, d2, d4, d0, d3, iz, I.c_i1, I.r7_0, I.l19_0]
  · rw [F_X8_station, F_isStation (S := pC h 4) (by simp (disch := omega) only [sl_RI, sl_CI, sl_LI, sl_IR, sl_CR, sl_LR, sl_II, sl_Ie, sl_RR, sl_Re, sl_CN, sl_Ce, sl_LN, sl_Le, sl_IN, sl_INe, sl_RN, sl_RNe, up2_s, up2_n, up1_s, up1_n, upN_s, upN_n, ne_eq, not_false_eq_true, reduceCtorEq, I.c_j1])]
    rcases hx4 with rfl | rfl
    · simp (disch := omega) only [e_nn, e_onnN, e_onnS, e_ck, e_lt, e_cl, F_within, F_in, isz0, isz1, i10, ↓reduceIte, sl_RI, sl_CI, sl_LI, sl_IR, sl_CR, sl_LR, sl_II, sl_Ie, sl_RR, sl_Re, sl_CN, sl_Ce, sl_LN, sl_Le, sl_IN, sl_INe, sl_RN, sl_RNe, up2_s, up2_n, up1_s, up1_n, upN_s, upN_n, ne_eq, not_false_eq_true, reduceCtorEq, i_le, i_lt, i_eq, i_cl, i_inb, nI_add, nI_1, i_n1, i_1n, i_sub, I.c_j1, nq, nz, e1, nv, d1, d0, d5, d6, d3, w1, w2, w3, ok4, hn0, em, I.r8_2, I.r8_3, I.r8_4, I.r8_5, I.r8_6, I.r8_7, I.r8_8, I.l25_0, I.l26_0, I.l27_0, I.l28_0, I.l29_0, I.l30_0, I.l31_0]
    · simp (disch := omega) only [e_nn, e_onnN, e_onnS, e_ck, e_lt, e_cl, F_within, F_in, isz0, isz1, i10, ↓reduceIte, sl_RI, sl_CI, sl_LI, sl_IR, sl_CR, sl_LR, sl_II, sl_Ie, sl_RR, sl_Re, sl_CN, sl_Ce, sl_LN, sl_Le, sl_IN, sl_INe, sl_RN, sl_RNe, up2_s, up2_n, up1_s, up1_n, upN_s, upN_n, ne_eq, not_false_eq_true, reduceCtorEq, i_le, i_lt, i_eq, i_cl, i_inb, nI_add, nI_1, i_n1, i_1n, i_sub, I.c_j1, nq, nz, e1, nv, d1, d0, d5, d6, d3, w1, w2, w3, ok4, hn0, em, I.r8_2, I.r8_3, I.r8_4, I.r8_5, I.r8_6, I.r8_7, I.r8_8, I.l25_0, I.l26_0, I.l27_0, I.l28_0, I.l29_0, I.l30_0, I.l31_0]
  · unfold SimG
    simp (disch := omega) only [sl_RI, sl_CI, sl_LI, sl_IR, sl_CR, sl_LR, sl_II, sl_Ie, sl_RR, sl_Re, sl_CN, sl_Ce, sl_LN, sl_Le, sl_IN, sl_INe, sl_RN, sl_RNe, up2_s, up2_n, up1_s, up1_n, upN_s, upN_n, ne_eq, not_false_eq_true, reduceCtorEq]
    have z0 := I.st.2 (pC h 4) (Nat.le_refl _)
    obtain ⟨y0, y1, y2, y3, y4, y5, y6, y7, y8⟩ := z0
    refine ⟨I.w7, I.w1, I.w5, I.w8, I.ln.wN (by decide), ⟨by omega, t2, t3, t4, t5, t6, rfl, t8, t9, t10, rfl, t12, t13, t14⟩, ?_, I.a20, I.a21, I.a22, ?_, ?_, I.tr.S (by omega), I.rf.S (by omega), I.cr.S (by omega), I.rw, I.nx, I.to, I.pr, I.gnw, I.tk, I.rg, I.ba, I.so⟩
    · intro i hi
      by_cases e : i = pC h 4
      · subst e; rw [up1_s]
      · rw [up1_n _ _ e]; exact I.a19 i (by omega)
    · refine ⟨fun n hn => ?_, fun n hn => ?_⟩
      · by_cases e : n = pC h 4
        · subst e
          simp (disch := omega) only [sl_RI, sl_CI, sl_LI, sl_IR, sl_CR, sl_LR, sl_II, sl_Ie, sl_RR, sl_Re, sl_CN, sl_Ce, sl_LN, sl_Le, sl_IN, sl_INe, sl_RN, sl_RNe, up2_s, up2_n, up1_s, up1_n, upN_s, upN_n, ne_eq, not_false_eq_true, reduceCtorEq, y7, y8]
          exact ⟨trivial, trivial, trivial, trivial, trivial, trivial, trivial, trivial, trivial, hx4, fun e => absurd e c0, fun _ => ⟨j, hj, rfl, rfl⟩⟩
        · have := I.st.1 n (by omega)
          simpa (disch := omega) only [sl_RI, sl_CI, sl_LI, sl_IR, sl_CR, sl_LR, sl_II, sl_Ie, sl_RR, sl_Re, sl_CN, sl_Ce, sl_LN, sl_Le, sl_IN, sl_INe, sl_RN, sl_RNe, up2_s, up2_n, up1_s, up1_n, upN_s, upN_n, ne_eq, not_false_eq_true, reduceCtorEq] using this
      · have := I.st.2 n (by omega)
        simpa (disch := omega) only [sl_RI, sl_CI, sl_LI, sl_IR, sl_CR, sl_LR, sl_II, sl_Ie, sl_RR, sl_Re, sl_CN, sl_Ce, sl_LN, sl_Le, sl_IN, sl_INe, sl_RN, sl_RNe, up2_s, up2_n, up1_s, up1_n, upN_s, upN_n, ne_eq, not_false_eq_true, reduceCtorEq] using this
    · intro n hn
      by_cases e : n = pC h 4
      · subst e
        simp (disch := omega) only [sl_RI, sl_CI, sl_LI, sl_IR, sl_CR, sl_LR, sl_II, sl_Ie, sl_RR, sl_Re, sl_CN, sl_Ce, sl_LN, sl_Le, sl_IN, sl_INe, sl_RN, sl_RNe, up2_s, up2_n, up1_s, up1_n, upN_s, upN_n, ne_eq, not_false_eq_true, reduceCtorEq, y7, y8]
        exact ⟨⟨v / 100000, v / 1000 % 100, v % 1000, b, b, rfl, rfl, rfl, rfl, rfl, by omega, by omega, by omega, by omega, by omega, fun _ => ok1.1⟩, 0, 0, rfl, rfl, by omega, by omega⟩
      · have := I.sb n (by omega)
        simpa (disch := omega) only [sl_RI, sl_CI, sl_LI, sl_IR, sl_CR, sl_LR, sl_II, sl_Ie, sl_RR, sl_Re, sl_CN, sl_Ce, sl_LN, sl_Le, sl_IN, sl_INe, sl_RN, sl_RNe, up2_s, up2_n, up1_s, up1_n, upN_s, upN_n, ne_eq, not_false_eq_true, reduceCtorEq] using this
end OPS
