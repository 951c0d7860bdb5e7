/-! the best order -/
def upB (E : Nat → Option (List Nat)) : Nat → Option (Nat × List Nat)
  | 0 => none
  | p + 1 => match E p with
    | none => upB E p
    | some l => match upB E p with
      | none => some (p, l)
      | some q => if sumL l < sumL q.2 then some (p, l) else some q
section UPB
variable {E : Nat → Option (List Nat)} {p : Nat} {l : List Nat} {q : Nat × List Nat}
theorem upB_0 (h : E p = none) : upB E (p + 1) = upB E p := by rw [upB, h]
theorem upB_1 (h : E p = some l) (h2 : upB E p = none) : upB E (p + 1) = some (p, l) := by rw [upB, h]; simp only [h2]
theorem upB_2 (h : E p = some l) (h2 : upB E p = some q) (h3 : sumL l < sumL q.2) : upB E (p + 1) = some (p, l) := by rw [upB, h]; simp only [h2, if_pos h3]
theorem upB_3 (h : E p = some l) (h2 : upB E p = some q) (h3 : ¬ sumL l < sumL q.2) : upB E (p + 1) = some q := by rw [upB, h]; simp only [h2, if_neg h3]
end UPB
theorem upB_lt {E : Nat → Option (List Nat)} : ∀ {p : Nat} {q : Nat × List Nat}, upB E p = some q → q.1 < p ∧ E q.1 = some q.2
  | 0, q, h => by cases h
  | p + 1, q, h => by
    cases e : E p with
    | none => rw [upB_0 e] at h; have := upB_lt h; exact ⟨by omega, this.2⟩
    | some l =>
      cases e2 : upB E p with
      | none => rw [upB_1 e e2] at h; cases h; exact ⟨by simp, e⟩
      | some q' =>
        by_cases c : sumL l < sumL q'.2
        · rw [upB_2 e e2 c] at h; cases h; exact ⟨by simp, e⟩
        · rw [upB_3 e e2 c] at h; cases h; have := upB_lt e2; exact ⟨by omega, this.2⟩
def PB (n s fl hd pd : Nat) (rf zf : Nat → Nat) (g : Hp) : Prop := pI g 1 0 5 = nI n ∧ (pR g 1 0 0 = some 0 ∧ pR g 1 0 1 = some 0 ∧ pR g 1 0 2 = some 0 ∧ pR g 1 0 3 = some 0 ∧ pR g 1 0 4 = some 0) ∧ (pL g 9 0 = 5 ∧ pL g 10 0 = 5 ∧ pL g 11 0 = 5 ∧ pL g 12 0 = 5 ∧ pL g 13 0 = 5) ∧ pI g 4 s 4 = nI fl ∧ pI g 4 s 5 = nI hd ∧ pI g 4 s 7 = nI pd ∧ ∀ j, j < n → pR g 9 0 j = some (rf j) ∧ pI g 2 (rf j) 2 = nI (zf j)
def BC (n : Nat) (b : Option (Nat × List Nat)) (g : Hp) : Prop := match b with
  | none => pI g 1 0 7 = -1 ∧ pI g 1 0 6 = 0
  | some q => pI g 1 0 7 = nI (sumL q.2) ∧ pI g 1 0 6 = nI n ∧ ∀ k, k < n → pI g 12 0 k = nI (prm n q.1 k) ∧ pI g 13 0 k = nI (q.2.getD k 0)
section WORK
variable {β : Type} {n s fl hd pd nw : Nat} {rf zf : Nat → Nat}
theorem PB.fr {a : List Nat} {g g' : Hp} (c : PB n s fl hd pd rf zf g) (f : Fr a [] g g') (h1 : pI g' 1 0 5 = pI g 1 0 5) (h2 : 2 ∉ a) (h4 : 4 ∉ a) : PB n s fl hd pd rf zf g' := by
  obtain ⟨a1, a2, a3, a4, a5, a6, a7⟩ := c
  refine ⟨h1.trans a1, by rw [f.R (by decide)]; exact a2, by rw [f.L]; exact a3, by rw [f.I h4]; exact a4, by rw [f.I h4]; exact a5, by rw [f.I h4]; exact a6, fun j hj => by rw [f.R (by decide), f.I h2]; exact a7 j hj⟩
theorem BC.fr {a : List Nat} {g g' : Hp} {b : Option (Nat × List Nat)} (c : BC n b g) (f : Fr a [] g g') (h1 : 1 ∉ a) (h2 : 12 ∉ a) (h4 : 13 ∉ a) : BC n b g' := by
  cases b with
  | none => unfold BC at c ⊢; rw [f.I h1]; exact c
  | some q => unfold BC at c ⊢; rw [f.I h1, f.I h2, f.I h4]; exact c
theorem keep_l (hn : n ≤ 5) (ka : Hp → Option β) : ∀ m i f g, i + m = n → m < f → PB n s fl hd pd rf zf g → ∃ g', L_X1_keep_15 0 ka f (nI i) g = ka g' ∧ Fr [12, 13] [] g g' ∧ (∀ k, k < i → pI g' 12 0 k = pI g 12 0 k ∧ pI g' 13 0 k = pI g 13 0 k) ∧ ∀ k, i ≤ k → k < n → pI g' 12 0 k = pI g 10 0 k ∧ pI g' 13 0 k = pI g 11 0 k := by
  intro m
  induction m with
  | zero =>
    intro i f g hi hf pb
    obtain ⟨f, rfl⟩ := fu_1 hf
    refine ⟨g, ?_, Fr.refl _ _ _, fun _ _ => ⟨rfl, rfl⟩, fun k h1 h2 => by omega⟩
    rw [L_X1_keep_15, pb.1, q_le (by omega) (by omega)]
  | succ m ih =>
    intro i f g hi hf pb
    obtain ⟨f, rfl⟩ := fu_1 hf
    obtain ⟨a1, ⟨b0, b1, b2, b3, b4⟩, ⟨l9, l10, l11, l12, l13⟩, -⟩ := id pb
    have f1 : Fr [12, 13] [] g (wI (wI g 12 0 i (pI g 10 0 i)) 13 0 i (pI g 11 0 i)) := ((Fr.refl _ _ _).wI (by decide)).wI (by decide)
    obtain ⟨g', e, fr, d1, d2⟩ := ih (i + 1) f (wI (wI g 12 0 i (pI g 10 0 i)) 13 0 i (pI g 11 0 i)) (by omega) (by omega) (pb.fr f1 (by rw [f1.I (by decide)]) (by decide) (by decide))
    refine ⟨g', ?_, f1.trans fr, fun k hk => ?_, fun k h1 h2 => ?_⟩
    · rw [L_X1_keep_15, a1, q_nle (by omega) (by omega)]
      simp (disch := omega) only [e_nn, e_onnN, e_onnS, e_ck, e_lt, e_cl, F_within, F_in, isz0, isz1, i10, ↓reduceIte, sl_RI, sl_CI, sl_LI, sl_IR, sl_CR, sl_LR, sl_II, sl_Ie, sl_RR, sl_Re, sl_CN, sl_Ce, sl_LN, sl_Le, sl_IN, sl_INe, sl_RN, sl_RNe, up2_s, up2_n, up1_s, up1_n, upN_s, upN_n, ne_eq, not_false_eq_true, reduceCtorEq, i_le, i_lt, i_eq, i_cl, i_inb, nI_add, nI_1, i_n1, i_1n, i_sub, b1, b2, b3, b4, l10, l11, l12, l13]
      exact e
    · obtain ⟨k1, k2⟩ := d1 k (by omega)
      rw [k1, k2]
      simp (disch := omega) only [sl_RI, sl_CI, sl_LI, sl_IR, sl_CR, sl_LR, sl_II, sl_Ie, sl_RR, sl_Re, sl_CN, sl_Ce, sl_LN, sl_Le, sl_IN, sl_INe, sl_RN, sl_RNe, up2_s, up2_n, up1_s, up1_n, upN_s, upN_n, ne_eq, not_false_eq_true, reduceCtorEq, and_self]
    · by_cases c : k = i
      · subst c
        obtain ⟨k1, k2⟩ := d1 k (by omega)
        rw [k1, k2]
        simp (disch := omega) only [sl_RI, sl_CI, sl_LI, sl_IR, sl_CR, sl_LR, sl_II, sl_Ie, sl_RR, sl_Re, sl_CN, sl_Ce, sl_LN, sl_Le, sl_IN, sl_INe, sl_RN, sl_RNe, up2_s, up2_n, up1_s, up1_n, upN_s, upN_n, ne_eq, not_false_eq_true, reduceCtorEq, and_self]
      · obtain ⟨k1, k2⟩ := d2 k (by omega) h2
        rw [k1, k2]
        simp (disch := omega) only [sl_RI, sl_CI, sl_LI, sl_IR, sl_CR, sl_LR, sl_II, sl_Ie, sl_RR, sl_Re, sl_CN, sl_Ce, sl_LN, sl_Le, sl_IN, sl_INe, sl_RN, sl_RNe, up2_s, up2_n, up1_s, up1_n, upN_s, upN_n, ne_eq, not_false_eq_true, reduceCtorEq, and_self]
theorem keep_c (hn : n ≤ 5) {g : Hp} {v : Int32} (pb : PB n s fl hd pd rf zf g) : ∃ g', F_X1_keep 0 v g = some ((), g') ∧ Fr [1, 12, 13] [] g g' ∧ PB n s fl hd pd rf zf g' ∧ pI g' 1 0 7 = v ∧ pI g' 1 0 6 = nI n ∧ ∀ k, k < n → pI g' 12 0 k = pI g 10 0 k ∧ pI g' 13 0 k = pI g 11 0 k := by
  have f1 : Fr [1, 12, 13] [] g (wI (wI g 1 0 7 v) 1 0 6 (nI n)) := ((Fr.refl _ _ _).wI (by decide)).wI (by decide)
  have pb1 : PB n s fl hd pd rf zf (wI (wI g 1 0 7 v) 1 0 6 (nI n)) := pb.fr f1 (by simp (disch := omega) only [sl_RI, sl_CI, sl_LI, sl_IR, sl_CR, sl_LR, sl_II, sl_Ie, sl_RR, sl_Re, sl_CN, sl_Ce, sl_LN, sl_Le, sl_IN, sl_INe, sl_RN, sl_RNe, up2_s, up2_n, up1_s, up1_n, upN_s, upN_n, ne_eq, not_false_eq_true, reduceCtorEq]) (by decide) (by decide)
  obtain ⟨g', e, fr, d1, d2⟩ := keep_l hn (fun h22 => some ((), h22)) n 0 FU (wI (wI g 1 0 7 v) 1 0 6 (nI n)) (by omega) (by unfold FU; omega) pb1
  refine ⟨g', ?_, f1.trans (fr.mono (by decide) (by decide)), pb1.fr fr (by rw [fr.I (by decide)]) (by decide) (by decide), ?_, ?_, fun k hk => ?_⟩
  · rw [F_X1_keep, e_lt, show pI (wI g 1 0 7 v) 1 0 5 = nI n from by simp (disch := omega) only [sl_RI, sl_CI, sl_LI, sl_IR, sl_CR, sl_LR, sl_II, sl_Ie, sl_RR, sl_Re, sl_CN, sl_Ce, sl_LN, sl_Le, sl_IN, sl_INe, sl_RN, sl_RNe, up2_s, up2_n, up1_s, up1_n, upN_s, upN_n, ne_eq, not_false_eq_true, reduceCtorEq]; exact pb.1, e_lt]
    exact e
  · rw [fr.I (by decide)]; simp (disch := omega) only [sl_RI, sl_CI, sl_LI, sl_IR, sl_CR, sl_LR, sl_II, sl_Ie, sl_RR, sl_Re, sl_CN, sl_Ce, sl_LN, sl_Le, sl_IN, sl_INe, sl_RN, sl_RNe, up2_s, up2_n, up1_s, up1_n, upN_s, upN_n, ne_eq, not_false_eq_true, reduceCtorEq]
  · rw [fr.I (by decide)]; simp (disch := omega) only [sl_RI, sl_CI, sl_LI, sl_IR, sl_CR, sl_LR, sl_II, sl_Ie, sl_RR, sl_Re, sl_CN, sl_Ce, sl_LN, sl_Le, sl_IN, sl_INe, sl_RN, sl_RNe, up2_s, up2_n, up1_s, up1_n, upN_s, upN_n, ne_eq, not_false_eq_true, reduceCtorEq]
  · obtain ⟨k1, k2⟩ := d2 k (by omega) hk
    rw [k1, k2]
    simp (disch := omega) only [sl_RI, sl_CI, sl_LI, sl_IR, sl_CR, sl_LR, sl_II, sl_Ie, sl_RR, sl_Re, sl_CN, sl_Ce, sl_LN, sl_Le, sl_IN, sl_INe, sl_RN, sl_RNe, up2_s, up2_n, up1_s, up1_n, upN_s, upN_n, ne_eq, not_false_eq_true, reduceCtorEq, and_self]
def EV1 (n fl hd pd nw : Nat) (zf : Nat → Nat) (p : Nat) : Option (List Nat) := evl (fun k => 5 * zf (prm n p k)) fl hd n 0 nw pd
theorem EV1_le {p : Nat} {l : List Nat} (hn : n ≤ 5) (hp : p < fct n) (hnw : nw ≤ 20000) (hzf : ∀ j, j < n → zf j ≤ 8) (h : EV1 n fl hd pd nw zf p = some l) : sumL l ≤ 150000 := by
  have key : ∀ (nd nd' : Nat → Nat) (m i hr pd : Nat), (∀ k, i ≤ k → k < i + m → nd k = nd' k) → evl nd fl hd m i hr pd = evl nd' fl hd m i hr pd := by
    intro nd nd' m
    induction m with
    | zero => intro i hr pd _; rfl
    | succ m ih =>
      intro i hr pd hk
      rw [evl, evl, hk i (by omega) (by omega), ih (i + 1) _ _ (fun k h1 h2 => hk k (by omega) (by omega))]
  have h' : evl (fun k => if k < n then 5 * zf (prm n p k) else 0) fl hd n 0 nw pd = some l := by
    rw [← h]
    exact key _ _ _ _ _ _ (fun k _ hk => by rw [if_pos (by omega)])
  have := evl_sum (nd := fun k => if k < n then 5 * zf (prm n p k) else 0) (fun i _ => by
    show (if i < n then 5 * zf (prm n p i) else 0) ≤ 40
    split
    · have := hzf _ (prm_lt hn hp (by assumption)); omega
    · omega) (by omega) (by omega) h'
  omega
theorem work_1 (hn : n ≤ 5) (hnw : nw ≤ 20000) (hfl : fl ≤ 50) (hhd : hd ≤ 1000) (hpd : pd ≤ hd) (hzf : ∀ j, j < n → zf j ≤ 8 ∧ 5 * zf j ≤ hd) (ka : Hp → Option β) {p f : Nat} {g : Hp} (hp : p < fct n) (pb : PB n s fl hd pd rf zf g) (ho : ∀ k, k < n → pI g 10 0 k = nI (prm n p k)) (bc : BC n (upB (EV1 n fl hd pd nw zf) p) g) :
    ∃ g1, L_X1_work_21 0 (some s) (nI nw) ka (f + 1) 1 (nI p) g = L_X1_work_21 0 (some s) (nI nw) ka f (if p + 1 < fct n then 1 else 0) (nI (p + 1)) g1 ∧ PB n s fl hd pd rf zf g1 ∧ (p + 1 < fct n → ∀ k, k < n → pI g1 10 0 k = nI (prm n (p + 1) k)) ∧ BC n (upB (EV1 n fl hd pd nw zf) (p + 1)) g1 ∧ Fr [1, 10, 11, 12, 13] [] g g1 := by
  have h120 := fct_le hn
  obtain ⟨a1, ⟨b0, b1, b2, b3, b4⟩, ⟨l9, l10, l11, l12, l13⟩, a4, a5, a6, a7⟩ := id pb
  have sc : SC n s fl hd (prm n p) (fun k => rf (prm n p k)) (fun k => zf (prm n p k)) g := ⟨a1, ⟨b0, b1, b2⟩, ⟨l9, l10, l11⟩, a4, a5, fun k hk => by
    have := prm_lt hn hp hk
    exact ⟨ho k hk, this, a7 _ this⟩⟩
  obtain ⟨g2, e2, f2, -, d2⟩ := sum_c hn hfl hhd (fun k hk => hzf _ (prm_lt hn hp hk)) (fun k28 h29 => some (k28, h29)) (fun h30 => some ((-1 : Int32), h30)) n 0 FU 0 nw pd g (by omega) (by unfold FU; omega) hpd (by omega) (by omega) sc
  have pb2 : PB n s fl hd pd rf zf g2 := pb.fr f2 (by rw [f2.I (by decide)]) (by decide) (by decide)
  have bc2 := bc.fr f2 (by decide) (by decide) (by decide)
  have ho2 : ∀ k, k < n → pI g2 10 0 k = nI (prm n p k) := fun k hk => by rw [f2.I (by decide)]; exact ho k hk
  have fin : ∀ g3, PB n s fl hd pd rf zf g3 → (∀ k, k < n → pI g3 10 0 k = nI (prm n p k)) → BC n (upB (EV1 n fl hd pd nw zf) (p + 1)) g3 → Fr [1, 10, 11, 12, 13] [] g g3 → L_X1_work_21 0 (some s) (nI nw) ka (f + 1) 1 (nI p) g = (cl (F_X1_nextOrder 0 g3) fun r9 h10 => L_X1_work_21 0 (some s) (nI nw) ka f r9 (nI p + (1 : Int32)) h10) → ∃ g1, L_X1_work_21 0 (some s) (nI nw) ka (f + 1) 1 (nI p) g = L_X1_work_21 0 (some s) (nI nw) ka f (if p + 1 < fct n then 1 else 0) (nI (p + 1)) g1 ∧ PB n s fl hd pd rf zf g1 ∧ (p + 1 < fct n → ∀ k, k < n → pI g1 10 0 k = nI (prm n (p + 1) k)) ∧ BC n (upB (EV1 n fl hd pd nw zf) (p + 1)) g1 ∧ Fr [1, 10, 11, 12, 13] [] g g1 := by
    intro g3 pb3 ho3 bc3 f3 e3
    obtain ⟨g4, e4, f4, d4⟩ := next_ord hn hp pb3.1 pb3.2.1.2.1 pb3.2.2.1.2.1 ho3
    refine ⟨g4, ?_, pb3.fr f4 (by rw [f4.I (by decide)]) (by decide) (by decide), d4, bc3.fr f4 (by decide) (by decide) (by decide), f3.trans (f4.mono (by decide) (by decide))⟩
    rw [e3, e4, e_cl, nI_1]
  have es : F_X1_sumOfHours 0 (some s) (nI nw) g = match EV1 n fl hd pd nw zf p with | none => some ((-1 : Int32), g2) | some l => some (nI (0 + sumL l), g2) := by
    rw [F_X1_sumOfHours, e_nn, a6]
    exact e2
  have head : L_X1_work_21 0 (some s) (nI nw) ka (f + 1) 1 (nI p) g = cl (F_X1_sumOfHours 0 (some s) (nI nw) g) fun r5 h6 =>
      if r5 = (-1 : Int32) then cl (F_X1_nextOrder 0 h6) fun r9 h10 => L_X1_work_21 0 (some s) (nI nw) ka f r9 (nI p + (1 : Int32)) h10
      else if (pI h6 1 0 7) = (-1 : Int32) then cl (F_X1_keep 0 r5 h6) fun _ h14 => cl (F_X1_nextOrder 0 h14) fun r16 h17 => L_X1_work_21 0 (some s) (nI nw) ka f r16 (nI p + (1 : Int32)) h17
      else if (pI h6 1 0 7) ≤ r5 then cl (F_X1_nextOrder 0 h6) fun r20 h21 => L_X1_work_21 0 (some s) (nI nw) ka f r20 (nI p + (1 : Int32)) h21
      else cl (F_X1_keep 0 r5 h6) fun _ h24 => cl (F_X1_nextOrder 0 h24) fun r26 h27 => L_X1_work_21 0 (some s) (nI nw) ka f r26 (nI p + (1 : Int32)) h27 := by
    rw [L_X1_work_21, q_nleL 120 (by omega) (by omega), if_neg (by decide)]
  cases ev : EV1 n fl hd pd nw zf p with
  | none =>
    rw [ev] at es
    refine fin g2 pb2 ho2 (by rw [upB_0 ev]; exact bc2) (f2.mono (by decide) (by decide)) ?_
    rw [head, es, e_cl, if_pos rfl]
  | some l =>
    rw [ev] at es
    simp only [Nat.zero_add] at es
    have hl := EV1_le hn hp hnw (fun j hj => (hzf j hj).1) ev
    have dk : ∀ k, k < n → pI g2 11 0 k = nI (l.getD k 0) := fun k hk => by
      have := d2 l ev k hk
      rw [Nat.zero_add] at this
      exact this
    have kp : ∀ g3, F_X1_keep 0 (nI (sumL l)) g2 = some ((), g3) ∧ Fr [1, 12, 13] [] g2 g3 ∧ PB n s fl hd pd rf zf g3 ∧ pI g3 1 0 7 = nI (sumL l) ∧ pI g3 1 0 6 = nI n ∧ (∀ k, k < n → pI g3 12 0 k = pI g2 10 0 k ∧ pI g3 13 0 k = pI g2 11 0 k) → BC n (some (p, l)) g3 ∧ (∀ k, k < n → pI g3 10 0 k = nI (prm n p k)) ∧ Fr [1, 10, 11, 12, 13] [] g g3 := by
      rintro g3 ⟨k1, k2, k3, k4, k5, k6⟩
      refine ⟨⟨k4, k5, fun k hk => ?_⟩, fun k hk => by rw [k2.I (by decide)]; exact ho2 k hk, (f2.mono (by decide) (by decide)).trans (k2.mono (by decide) (by decide))⟩
      rw [(k6 k hk).1, (k6 k hk).2, ho2 k hk, dk k hk]
      exact ⟨rfl, rfl⟩
    obtain ⟨g3, hk⟩ := keep_c (v := nI (sumL l)) hn pb2
    obtain ⟨q1, q2, q3⟩ := kp g3 hk
    cases eb : upB (EV1 n fl hd pd nw zf) p with
    | none =>
      rw [eb] at bc2
      refine fin g3 hk.2.2.1 q2 (by rw [upB_1 ev eb]; exact q1) q3 ?_
      rw [head, es, e_cl, q_m1 (by omega), if_pos bc2.1, hk.1, e_cl]
    | some q =>
      rw [eb] at bc2
      have hq := EV1_le hn (show q.1 < fct n by have := (upB_lt eb).1; omega) hnw (fun j hj => (hzf j hj).1) (upB_lt eb).2
      have b1 : pI g2 1 0 7 = nI (sumL q.2) := bc2.1
      by_cases c : sumL l < sumL q.2
      · refine fin g3 hk.2.2.1 q2 (by rw [upB_2 ev eb c]; exact q1) q3 ?_
        rw [head, es, e_cl, q_m1 (by omega), b1, q_m1 (by omega), q_nle c (by omega), hk.1, e_cl]
      · refine fin g2 pb2 ho2 (by rw [upB_3 ev eb c]; exact bc2) (f2.mono (by decide) (by decide)) ?_
        rw [head, es, e_cl, q_m1 (by omega), b1, q_m1 (by omega), q_le (by omega) (by omega)]
theorem work_l (hn : n ≤ 5) (hnw : nw ≤ 20000) (hfl : fl ≤ 50) (hhd : hd ≤ 1000) (hpd : pd ≤ hd) (hzf : ∀ j, j < n → zf j ≤ 8 ∧ 5 * zf j ≤ hd) (ka : Hp → Option β) : ∀ m p f g, p + (m + 1) = fct n → m + 1 < f → PB n s fl hd pd rf zf g → (∀ k, k < n → pI g 10 0 k = nI (prm n p k)) → BC n (upB (EV1 n fl hd pd nw zf) p) g → ∃ g', L_X1_work_21 0 (some s) (nI nw) ka f 1 (nI p) g = ka g' ∧ PB n s fl hd pd rf zf g' ∧ BC n (upB (EV1 n fl hd pd nw zf) (fct n)) g' ∧ Fr [1, 10, 11, 12, 13] [] g g' := by
  intro m
  induction m with
  | zero =>
    intro p f g hp hf pb ho bc
    obtain ⟨f, rfl⟩ := fu_1 hf
    obtain ⟨f, rfl⟩ := fu_1 (show 0 < f by omega)
    obtain ⟨g1, e, q1, q2, q3, q4⟩ := work_1 hn hnw hfl hhd hpd hzf ka (p := p) (f := f + 1) (by omega) pb ho bc
    refine ⟨g1, ?_, q1, by rw [show fct n = p + 1 by omega]; exact q3, q4⟩
    rw [e, if_neg (by omega), L_X1_work_21]
    split
    · rfl
    · rw [if_pos rfl]
  | succ m ih =>
    intro p f g hp hf pb ho bc
    obtain ⟨f, rfl⟩ := fu_1 hf
    obtain ⟨g1, e, q1, q2, q3, q4⟩ := work_1 hn hnw hfl hhd hpd hzf ka (p := p) (f := f) (by omega) pb ho bc
    obtain ⟨g', e', w1, w2, w3⟩ := ih (p + 1) f g1 (by omega) (by omega) q1 (q2 (by omega)) q3
    refine ⟨g', ?_, w1, w2, q4.trans w3⟩
    rw [e, if_pos (by omega)]
    exact e'
end WORK
