def MB (T n s fl hd pd nw : Nat) (rf zf : Nat → Nat) (g : Hp) : Prop := TL T g ∧ pI g 28 0 s = nI fl ∧ pI g 29 0 s = nI hd ∧ pI g 30 0 s = nI pd ∧ pI g 8 0 0 = nI nw ∧ ∀ j, j < n → pI g 63 0 j = nI (rf j) ∧ rf j < 60 ∧ pI g 47 0 (rf j) = nI (zf j)
def vB (b : Option (Nat × List Nat)) : Int32 := match b with
  | none => -1
  | some q => nI (sumL q.2)
def BM (n : Nat) (rf : Nat → Nat) (b : Option (Nat × List Nat)) (g : Hp) : Prop := ∀ q, b = some q → ∀ k, k < n → pI g 66 0 k = nI (rf (prm n q.1 k)) ∧ pI g 67 0 k = nI (q.2.getD k 0)
section TRI
variable {β : Type} {T n s fl hd pd nw : Nat} {rf zf : Nat → Nat}
theorem MB.fr {a : List Nat} {g g' : Hp} (c : MB T n s fl hd pd nw rf zf g) (f : Fr a [] g g') (h8 : 8 ∉ a) (h28 : 28 ∉ a) (h29 : 29 ∉ a) (h30 : 30 ∉ a) (h63 : 63 ∉ a) (h47 : 47 ∉ a) : MB T n s fl hd pd nw rf zf g' := by
  obtain ⟨a1, a2, a3, a4, a5, a6⟩ := c
  refine ⟨a1.fr2 f h8 (by decide), by rw [f.I h28]; exact a2, by rw [f.I h29]; exact a3, by rw [f.I h30]; exact a4, by rw [f.I h8]; exact a5, fun j hj => by rw [f.I h63, f.I h47]; exact a6 j hj⟩
theorem BM.fr {a : List Nat} {g g' : Hp} {b : Option (Nat × List Nat)} (c : BM n rf b g) (f : Fr a [] g g') (h66 : 66 ∉ a) (h67 : 67 ∉ a) : BM n rf b g' := by
  intro q hq k hk
  rw [f.I h66, f.I h67]
  exact c q hq k hk
theorem save_l (hn : n ≤ 5) {o : Nat → Nat} (ho : ∀ k, k < n → o k < n) {v1 v3 v4 v5 : Int32} (ka : Hp → Option β) : ∀ m i f g, i + m = n → m < f → TL T g → (∀ k, k < n → pI g 64 0 k = nI (o k)) → ∃ g', L_X8_tries_191 0 v1 (nI n) v3 v4 v5 ka f (nI i) g = ka g' ∧ Fr [66, 67] [] g g' ∧ (∀ k, k < i → pI g' 66 0 k = pI g 66 0 k ∧ pI g' 67 0 k = pI g 67 0 k) ∧ ∀ k, i ≤ k → k < n → pI g' 66 0 k = pI g 63 0 (o k) ∧ pI g' 67 0 k = pI g 65 0 k := by
  intro m
  induction m with
  | zero =>
    intro i f g hi hf TG h64
    obtain ⟨f, rfl⟩ := fu_1 hf
    refine ⟨g, ?_, Fr.refl _ _ _, fun _ _ => ⟨rfl, rfl⟩, fun k h1 h2 => by omega⟩
    rw [L_X8_tries_191, q_le (by omega) (by omega)]
  | succ m ih =>
    intro i f g hi hf TG h64
    obtain ⟨f, rfl⟩ := fu_1 hf
    have oi := ho i (by omega)
    have f1 : Fr [66, 67] [] g (wI (wI g 66 0 i (pI g 63 0 (o i))) 67 0 i (pI g 65 0 i)) := ((Fr.refl _ _ _).wI (by decide)).wI (by decide)
    obtain ⟨g', e, fr, d1, d2⟩ := ih (i + 1) f (wI (wI g 66 0 i (pI g 63 0 (o i))) 67 0 i (pI g 65 0 i)) (by omega) (by omega) (TG.fr2 f1 (by decide) (by decide)) (fun k hk => by rw [f1.I (by decide)]; exact h64 k hk)
    refine ⟨g', ?_, f1.trans fr, fun k hk => ?_, fun k h1 h2 => ?_⟩
    · rw [L_X8_tries_191, q_nle (by omega) (by omega), TG.r 48 (by decide), e_nn, TG.l 64 5 (by decide) (by decide), i_inb (by omega) (by omega), e_ck, TG.r 47 (by decide), e_nn, i_cl (by omega), h64 i (by omega), TG.l 63 5 (by decide) (by decide), i_inb (by omega) (by omega), e_ck, TG.r 50 (by decide), e_nn, TG.l 66 5 (by decide) (by decide), i_inb (by omega) (by omega), e_ck, i_cl (by omega), e_lt, sl_RI, sl_LI, TG.r 49 (by decide), e_nn, TG.l 65 5 (by decide) (by decide), i_inb (by omega) (by omega), e_ck, TG.r 51 (by decide), e_nn, TG.l 67 5 (by decide) (by decide), i_inb (by omega) (by omega), e_ck, e_lt, sl_II (by omega), nI_1]
      exact e
    · obtain ⟨k1, k2⟩ := d1 k (by omega)
      rw [k1, k2]
      simp (disch := omega) only [sl_RI, sl_CI, sl_LI, sl_IR, sl_CR, sl_LR, sl_II, sl_Ie, sl_RR, sl_Re, sl_CN, sl_Ce, sl_LN, sl_Le, sl_IN, sl_INe, sl_RN, sl_RNe, up2_s, up2_n, up1_s, up1_n, upN_s, upN_n, ne_eq, not_false_eq_true, reduceCtorEq, and_self]
    · by_cases c : k = i
      · subst c
        obtain ⟨k1, k2⟩ := d1 k (by omega)
        rw [k1, k2]
        simp (disch := omega) only [sl_RI, sl_CI, sl_LI, sl_IR, sl_CR, sl_LR, sl_II, sl_Ie, sl_RR, sl_Re, sl_CN, sl_Ce, sl_LN, sl_Le, sl_IN, sl_INe, sl_RN, sl_RNe, up2_s, up2_n, up1_s, up1_n, upN_s, upN_n, ne_eq, not_false_eq_true, reduceCtorEq, and_self]
      · obtain ⟨k1, k2⟩ := d2 k (by omega) h2
        rw [k1, k2]
        simp (disch := omega) only [sl_RI, sl_CI, sl_LI, sl_IR, sl_CR, sl_LR, sl_II, sl_Ie, sl_RR, sl_Re, sl_CN, sl_Ce, sl_LN, sl_Le, sl_IN, sl_INe, sl_RN, sl_RNe, up2_s, up2_n, up1_s, up1_n, upN_s, upN_n, ne_eq, not_false_eq_true, reduceCtorEq, and_self]
theorem tries_1 (hn : n ≤ 5) (hs : s < 12) (hnw : nw ≤ 20000) (hfl : fl ≤ 50) (hhd : hd ≤ 1000) (hpd : pd ≤ hd) (hzf : ∀ j, j < n → zf j ≤ 8 ∧ 5 * zf j ≤ hd) (ka : Int32 → Hp → Option β) {p f : Nat} {g : Hp} (hp : p < fct n) (mb : MB T n s fl hd pd nw rf zf g) (bm : BM n rf (upB (EV1 n fl hd pd nw zf) p) g) :
    ∃ g1, L_X8_tries_141 0 (nI s) (nI n) (nI (fct n)) ka (f + 1) (vB (upB (EV1 n fl hd pd nw zf) p)) (nI p) g = L_X8_tries_141 0 (nI s) (nI n) (nI (fct n)) ka f (vB (upB (EV1 n fl hd pd nw zf) (p + 1))) (nI (p + 1)) g1 ∧ MB T n s fl hd pd nw rf zf g1 ∧ BM n rf (upB (EV1 n fl hd pd nw zf) (p + 1)) g1 ∧ Fr [64, 65, 66, 67] [] g g1 := by
  have h120 := fct_le hn
  obtain ⟨g2, e2, f2, d2⟩ := the_ord hn hp (mb.1.r 48 (by decide)) (mb.1.l 64 5 (by decide) (by decide))
  have mb2 : MB T n s fl hd pd nw rf zf g2 := mb.fr f2 (by decide) (by decide) (by decide) (by decide) (by decide) (by decide)
  obtain ⟨TG, a4, a5, a6, a8, a7⟩ := id mb2
  have sm : SM T n s fl hd (prm n p) (fun k => rf (prm n p k)) (fun k => zf (prm n p k)) g2 := ⟨TG, a4, a5, fun k hk => by
    have := prm_lt hn hp hk
    exact ⟨d2 k hk, this, a7 _ this⟩⟩
  obtain ⟨g3, e3, f3, -, d3⟩ := sum_m hn hs hfl hhd (fun k hk => hzf _ (prm_lt hn hp hk)) (fun k44 h45 => some (k44, h45)) (fun h46 => some ((-1 : Int32), h46)) n 0 FU 0 nw pd g2 (by omega) (by unfold FU; omega) hpd (by omega) (by omega) sm
  have mb3 : MB T n s fl hd pd nw rf zf g3 := mb2.fr f3 (by decide) (by decide) (by decide) (by decide) (by decide) (by decide)
  have bm3 : BM n rf (upB (EV1 n fl hd pd nw zf) p) g3 := (bm.fr f2 (by decide) (by decide)).fr f3 (by decide) (by decide)
  have f23 : Fr [64, 65, 66, 67] [] g g3 := (f2.mono (by decide) (by decide)).trans (f3.mono (by decide) (by decide))
  have es : F_X8_sumOf 0 (nI s) (nI n) g2 = match EV1 n fl hd pd nw zf p with | none => some ((-1 : Int32), g3) | some l => some (nI (0 + sumL l), g3) := by
    rw [F_X8_sumOf, TG.r 7 (by decide), e_nn, TG.l 30 12 (by decide) (by decide), i_inb (by omega) (by omega), e_ck, i_cl (by omega), a6, a8]
    exact e3
  have head : ∀ v4 : Int32, L_X8_tries_141 0 (nI s) (nI n) (nI (fct n)) ka (f + 1) v4 (nI p) g = cl (F_X8_sumOf 0 (nI s) (nI n) g2) fun r44 h45 =>
      if r44 = (-1 : Int32) then L_X8_tries_141 0 (nI s) (nI n) (nI (fct n)) ka f v4 (nI (p + 1)) h45
      else if v4 = (-1 : Int32) then L_X8_tries_191 0 (nI s) (nI n) (nI (fct n)) r44 (nI p) (fun h69 => L_X8_tries_141 0 (nI s) (nI n) (nI (fct n)) ka f r44 (nI (p + 1)) h69) FU (nI 0) h45
      else if r44 < v4 then L_X8_tries_191 0 (nI s) (nI n) (nI (fct n)) r44 (nI p) (fun h71 => L_X8_tries_141 0 (nI s) (nI n) (nI (fct n)) ka f r44 (nI (p + 1)) h71) FU (nI 0) h45
      else L_X8_tries_141 0 (nI s) (nI n) (nI (fct n)) ka f v4 (nI (p + 1)) h45 := by
    intro v4
    rw [L_X8_tries_141, q_nle (by omega) (by omega), e2, e_cl, nI_1]
    rfl
  cases ev : EV1 n fl hd pd nw zf p with
  | none =>
    rw [ev] at es
    refine ⟨g3, ?_, mb3, by rw [upB_0 ev]; exact bm3, f23⟩
    rw [head, es, e_cl, if_pos rfl, upB_0 ev]
  | some l =>
    rw [ev] at es
    simp only [Nat.zero_add] at es
    have hl := EV1_le hn hp hnw (fun j hj => (hzf j hj).1) ev
    have dk : ∀ k, k < n → pI g3 65 0 k = nI (l.getD k 0) := fun k hk => by
      have := d3 l ev k hk
      rw [Nat.zero_add] at this
      exact this
    obtain ⟨g4, e4, f4, -, d4⟩ := save_l (T := T) (n := n) (o := prm n p) (v1 := nI s) (v3 := nI (fct n)) (v4 := nI (sumL l)) (v5 := nI p) hn (fun k hk => prm_lt hn hp hk) (fun h69 => L_X8_tries_141 0 (nI s) (nI n) (nI (fct n)) ka f (nI (sumL l)) (nI (p + 1)) h69) n 0 FU g3 (by omega) (by unfold FU; omega) mb3.1 (fun k hk => by rw [f3.I (by decide)]; exact d2 k hk)
    have mb4 : MB T n s fl hd pd nw rf zf g4 := mb3.fr f4 (by decide) (by decide) (by decide) (by decide) (by decide) (by decide)
    have bm4 : BM n rf (some (p, l)) g4 := by
      intro q hq k hk
      cases hq
      obtain ⟨k1, k2⟩ := d4 k (by omega) hk
      rw [k1, k2, dk k hk, (mb3.2.2.2.2.2 _ (prm_lt hn hp hk)).1]
      exact ⟨rfl, rfl⟩
    have f24 : Fr [64, 65, 66, 67] [] g g4 := f23.trans (f4.mono (by decide) (by decide))
    cases eb : upB (EV1 n fl hd pd nw zf) p with
    | none =>
      refine ⟨g4, ?_, mb4, by rw [upB_1 ev eb]; exact bm4, f24⟩
      rw [head, es, e_cl, q_m1 (by omega), show vB none = -1 from rfl, if_pos rfl, upB_1 ev eb]
      exact e4
    | some q =>
      have hq := EV1_le hn (show q.1 < fct n by have := (upB_lt eb).1; omega) hnw (fun j hj => (hzf j hj).1) (upB_lt eb).2
      by_cases c : sumL l < sumL q.2
      · refine ⟨g4, ?_, mb4, by rw [upB_2 ev eb c]; exact bm4, f24⟩
        rw [head, es, e_cl, q_m1 (by omega), show vB (some q) = nI (sumL q.2) from rfl, q_m1 (by omega), q_lt c (by omega), upB_2 ev eb c]
        exact e4
      · refine ⟨g3, ?_, mb3, by rw [upB_3 ev eb c, ← eb]; exact bm3, f23⟩
        rw [head, es, e_cl, q_m1 (by omega), show vB (some q) = nI (sumL q.2) from rfl, q_m1 (by omega), q_nlt (by omega) (by omega), upB_3 ev eb c]
        rfl
theorem tries_l (hn : n ≤ 5) (hs : s < 12) (hnw : nw ≤ 20000) (hfl : fl ≤ 50) (hhd : hd ≤ 1000) (hpd : pd ≤ hd) (hzf : ∀ j, j < n → zf j ≤ 8 ∧ 5 * zf j ≤ hd) (ka : Int32 → Hp → Option β) : ∀ m p f g, p + m = fct n → m < f → MB T n s fl hd pd nw rf zf g → BM n rf (upB (EV1 n fl hd pd nw zf) p) g → ∃ g', L_X8_tries_141 0 (nI s) (nI n) (nI (fct n)) ka f (vB (upB (EV1 n fl hd pd nw zf) p)) (nI p) g = ka (vB (upB (EV1 n fl hd pd nw zf) (fct n))) g' ∧ BM n rf (upB (EV1 n fl hd pd nw zf) (fct n)) g' ∧ Fr [64, 65, 66, 67] [] g g' := by
  have h120 := fct_le hn
  intro m
  induction m with
  | zero =>
    intro p f g hp hf mb bm
    obtain ⟨f, rfl⟩ := fu_1 hf
    have : p = fct n := by omega
    subst this
    refine ⟨g, ?_, bm, Fr.refl _ _ _⟩
    rw [L_X8_tries_141, q_le (Nat.le_refl _) (by omega)]
  | succ m ih =>
    intro p f g hp hf mb bm
    obtain ⟨f, rfl⟩ := fu_1 hf
    obtain ⟨g1, e, q1, q2, q3⟩ := tries_1 hn hs hnw hfl hhd hpd hzf ka (p := p) (f := f) (by omega) mb bm
    obtain ⟨g', e', w1, w2⟩ := ih (p + 1) f g1 (by omega) (by omega) q1 q2
    exact ⟨g', e.trans e', w1, q3.trans w2⟩
end TRI
theorem fac_m {β : Type} {n : Nat} (hn : n ≤ 5) (v1 : Int32) (ka : Int32 → Hp → Option β) (g : Hp) : L_X8_tries_118 0 v1 (nI n) ka FU 1 2 g = ka (nI (fct n)) g := by
  have e : FU = 4992 + 8 := rfl
  rw [e]
  match n, hn with
  | 0, _ => rw [L_X8_tries_118, if_pos (by decide)]; rfl
  | 1, _ => rw [L_X8_tries_118, if_pos (by decide)]; rfl
  | 2, _ => rw [L_X8_tries_118, if_neg (by decide), L_X8_tries_118, if_pos (by decide)]; rfl
  | 3, _ => rw [L_X8_tries_118, if_neg (by decide), L_X8_tries_118, if_neg (by decide), L_X8_tries_118, if_pos (by decide)]; rfl
  | 4, _ => rw [L_X8_tries_118, if_neg (by decide), L_X8_tries_118, if_neg (by decide), L_X8_tries_118, if_neg (by decide), L_X8_tries_118, if_pos (by decide)]; rfl
  | 5, _ => rw [L_X8_tries_118, if_neg (by decide), L_X8_tries_118, if_neg (by decide), L_X8_tries_118, if_neg (by decide), L_X8_tries_118, if_neg (by decide), L_X8_tries_118, if_pos (by decide)]; rfl
  | n + 6, h => exact absurd h (by omega)
