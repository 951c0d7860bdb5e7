/-! the hours in which rafts pass, by an order -/
def wt (need pd fl : Nat) : Nat := if need ≤ pd then 0 else (need - pd + fl - 1) / fl
def mn (a b : Nat) : Nat := if a < b then a else b
def evl (nd : Nat → Nat) (fl hd : Nat) : Nat → Nat → Nat → Nat → Option (List Nat)
  | 0, _, _, _ => some []
  | m + 1, i, hr, pd => if pd < nd i ∧ fl = 0 then none else
    match evl nd fl hd m (i + 1) (hr + wt (nd i) pd fl + 1) (mn (mn (pd + wt (nd i) pd fl * fl) hd - nd i + fl) hd) with
    | none => none
    | some l => some ((hr + wt (nd i) pd fl) :: l)
def sumL : List Nat → Nat
  | [] => 0
  | a :: l => a + sumL l
theorem mn_le (a b : Nat) : mn a b ≤ b := by unfold mn; split <;> omega
theorem wt_0 {need pd fl : Nat} (h : need ≤ pd) : wt need pd fl = 0 := by unfold wt; rw [if_pos h]
theorem wt_s {need pd fl : Nat} (h : pd < need) (hf : 0 < fl) : wt need pd fl = wt need (pd + fl) fl + 1 := by
  unfold wt
  rw [if_neg (by omega)]
  by_cases c : need ≤ pd + fl
  · rw [if_pos c]
    exact Nat.div_eq_of_lt_le (k := 1) (by omega) (by omega)
  · rw [if_neg c, show need - pd + fl - 1 = (need - (pd + fl) + fl - 1) + fl by omega, Nat.add_div_right _ hf]
theorem wt_le {need fl : Nat} (hf : 0 < fl) : ∀ m pd, need - pd ≤ m → wt need pd fl ≤ need - pd
  | 0, pd, h => by rw [wt_0 (by omega)]; omega
  | m + 1, pd, h => by
    by_cases c : need ≤ pd
    · rw [wt_0 c]; omega
    · rw [wt_s (by omega) hf]
      have := wt_le (need := need) hf m (pd + fl) (by omega)
      omega
theorem wt_mul {need fl : Nat} (hf : 0 < fl) : ∀ m pd, need - pd ≤ m → need ≤ pd + wt need pd fl * fl
  | 0, pd, h => by rw [wt_0 (by omega)]; omega
  | m + 1, pd, h => by
    by_cases c : need ≤ pd
    · rw [wt_0 c]; omega
    · rw [wt_s (by omega) hf, Nat.succ_mul]
      have := wt_mul (need := need) hf m (pd + fl) (by omega)
      omega
theorem wt_le' {need pd fl : Nat} (hf : pd < need → 0 < fl) : wt need pd fl ≤ need := by
  by_cases c : need ≤ pd
  · rw [wt_0 c]; omega
  · have := wt_le (hf (by omega)) (need - pd) pd (Nat.le_refl _)
    omega
theorem wt_mul' {need pd fl : Nat} (hf : pd < need → 0 < fl) : need ≤ pd + wt need pd fl * fl := by
  by_cases c : need ≤ pd
  · omega
  · exact wt_mul (hf (by omega)) (need - pd) pd (Nat.le_refl _)
theorem mn_I {a b : Nat} (ha : a < 2147483648) (hb : b < 2147483648) : (if nI a < nI b then nI a else nI b) = nI (mn a b) := by
  unfold mn
  by_cases c : a < b
  · rw [q_lt c hb, if_pos c]
  · rw [q_nlt (by omega) ha, if_neg c]
theorem i_subZ {a b : Nat} (ha : a < 2147483648) (hb : b < 2147483648) : (0 < nI a - nI b) = (b < a) := by
  apply propext
  rw [Int32.lt_iff_toInt_lt, i_subT ha hb, show (0 : Int32).toInt = 0 from by decide]
  omega
theorem evl_N {nd : Nat → Nat} {fl hd m i hr pd : Nat} (h : pd < nd i ∧ fl = 0) : evl nd fl hd (m + 1) i hr pd = none := by rw [evl, if_pos h]
/-- what the class's loop finds in the heap -/
def SC (n s fl hd : Nat) (o ρ zz : Nat → Nat) (g : Hp) : Prop := pI g 1 0 5 = nI n ∧ (pR g 1 0 0 = some 0 ∧ pR g 1 0 1 = some 0 ∧ pR g 1 0 2 = some 0) ∧ (pL g 9 0 = 5 ∧ pL g 10 0 = 5 ∧ pL g 11 0 = 5) ∧ pI g 4 s 4 = nI fl ∧ pI g 4 s 5 = nI hd ∧ ∀ k, k < n → pI g 10 0 k = nI (o k) ∧ o k < n ∧ pR g 9 0 (o k) = some (ρ k) ∧ pI g 2 (ρ k) 2 = nI (zz k)
theorem SC.fr {n s fl hd : Nat} {o ρ zz : Nat → Nat} {a b : List Nat} {g g' : Hp} (c : SC n s fl hd o ρ zz g) (f : Fr a b g g') (h1 : 1 ∉ a) (h2 : 2 ∉ a) (h4 : 4 ∉ a) (h10 : 10 ∉ a) (k1 : 1 ∉ b) (k9 : 9 ∉ b) : SC n s fl hd o ρ zz g' := by
  obtain ⟨a1, a2, a3, a4, a5, a6⟩ := c
  refine ⟨by rw [f.I h1]; exact a1, by rw [f.R k1]; exact a2, by rw [f.L]; exact a3, by rw [f.I h4]; exact a4, by rw [f.I h4]; exact a5, fun k hk => ?_⟩
  rw [f.I h10, f.R k9, f.I h2]
  exact a6 k hk
section SUM
variable {β : Type} {n s fl hd : Nat} {o ρ zz : Nat → Nat}
theorem sum_c (hn : n ≤ 5) (hfl : fl ≤ 50) (hhd : hd ≤ 1000) (hzz : ∀ k, k < n → zz k ≤ 8 ∧ 5 * zz k ≤ hd) (ka : Int32 → Hp → Option β) (kb : Hp → Option β) : ∀ m i f acc hr pd g, i + m = n → m < f → pd ≤ hd → hr ≤ 20000 + 50 * i → acc ≤ 30000 * i → SC n s fl hd o ρ zz g →
    ∃ g', (L_X1_sumOfHours_14 0 s ka kb f (nI acc) (nI hr) (nI pd) (nI i) g = match evl (fun k => 5 * zz k) fl hd m i hr pd with | none => kb g' | some l => ka (nI (acc + sumL l)) g') ∧ Fr [11] [] g g' ∧ (∀ k, k < i → pI g' 11 0 k = pI g 11 0 k) ∧ ∀ l, evl (fun k => 5 * zz k) fl hd m i hr pd = some l → ∀ k, k < m → pI g' 11 0 (i + k) = nI (l.getD k 0) := by
  intro m
  induction m with
  | zero =>
    intro i f acc hr pd g hi hf hpd hhr hac sc
    obtain ⟨f, rfl⟩ := fu_1 hf
    refine ⟨g, ?_, Fr.refl _ _ _, fun _ _ => rfl, fun l _ k hk => by omega⟩
    rw [L_X1_sumOfHours_14, sc.1, q_le (by omega) (by omega)]
    rfl
  | succ m ih =>
    intro i f acc hr pd g hi hf hpd hhr hac sc
    obtain ⟨f, rfl⟩ := fu_1 hf
    obtain ⟨a1, ⟨b1, b2, b3⟩, ⟨l1, l2, l3⟩, a4, a5, a6⟩ := id sc
    obtain ⟨o1, o2, o3, o4⟩ := a6 i (by omega)
    obtain ⟨z1, z2⟩ := hzz i (by omega)
    have head : L_X1_sumOfHours_14 0 s ka kb (f + 1) (nI acc) (nI hr) (nI pd) (nI i) g = cl (F_X1_hoursToFill (nI (5 * zz i) - nI pd) (nI fl) g) fun r15 h16 =>
        if r15 = (-1 : Int32) then kb h16 else
        nn (pR h16 1 0 2) fun n19 => ck (inb (nI i) (pL h16 11 n19)) <|
        lt (wI h16 11 n19 (nI i).toNatClampNeg (nI hr + r15)) fun h22 =>
        nn (pR h22 1 0 2) fun n24 => ck (inb (nI i) (pL h22 11 n24)) <| ck (inb (nI i) (pL h22 11 n24)) <|
        L_X1_sumOfHours_14 0 s ka kb f (nI acc + (pI h22 11 n24 (nI i).toNatClampNeg)) ((pI h22 11 n24 (nI i).toNatClampNeg) + (1 : Int32)) (if (((if (nI pd + (r15 * (pI h22 4 s 4))) < (pI h22 4 s 5) then (nI pd + (r15 * (pI h22 4 s 4))) else (pI h22 4 s 5)) - nI (5 * zz i)) + (pI h22 4 s 4)) < (pI h22 4 s 5) then (((if (nI pd + (r15 * (pI h22 4 s 4))) < (pI h22 4 s 5) then (nI pd + (r15 * (pI h22 4 s 4))) else (pI h22 4 s 5)) - nI (5 * zz i)) + (pI h22 4 s 4)) else (pI h22 4 s 5)) (nI i + (1 : Int32)) h22 := by
      rw [L_X1_sumOfHours_14, a1, q_nle (by omega) (by omega), b2, e_nn, l2, i_inb (by omega) (by omega), e_ck, b1, e_nn, i_cl (by omega), o1, l1, i_inb (by omega) (by omega), e_ck, i_cl (by omega), o3, e_nn, F_X2_need, o4, show (5 : Int32) = nI 5 from rfl, pk_mul, e_cl, a4]
    rw [head]
    by_cases c0 : pd < 5 * zz i ∧ fl = 0
    · obtain ⟨c1, rfl⟩ := c0
      refine ⟨g, ?_, Fr.refl _ _ _, fun _ _ => rfl, fun l hl => by rw [evl_N (nd := fun k => 5 * zz k) ⟨c1, rfl⟩] at hl; cases hl⟩
      rw [evl_N (nd := fun k => 5 * zz k) ⟨c1, rfl⟩, F_X1_hoursToFill, if_pos (by rw [i_subZ (by omega) (by omega)]; exact c1), if_neg (show ¬ (0 : Int32) < nI 0 by decide), e_cl, if_pos rfl]
    have hfp : pd < 5 * zz i → 0 < fl := fun q => Nat.pos_of_ne_zero (fun e => c0 ⟨q, e⟩)
    have hw := wt_le' hfp
    have hw2 := wt_mul' hfp
    obtain ⟨W, hW⟩ : ∃ W, W = wt (5 * zz i) pd fl := ⟨_, rfl⟩
    have ew : F_X1_hoursToFill (nI (5 * zz i) - nI pd) (nI fl) g = some (nI W, g) := by
      rw [F_X1_hoursToFill]
      by_cases c1 : pd < 5 * zz i
      · have hf0 := hfp c1
        have nzf : nz (nI fl) = true := by
          rw [nz, decide_eq_true_eq]
          intro e
          have := (i_eqL 0 (by omega) (by omega)).mp e
          omega
        rw [if_pos (by rw [i_subZ (by omega) (by omega)]; exact c1), q_ltL 0 hf0 (by omega), nzf, e_ck, i_sub (by omega), nI_add, show (1 : Int32) = nI 1 from rfl, i_sub (by omega), i_div (by omega) hf0 (by omega), hW, wt, if_neg (by omega)]
      · rw [if_neg (by rw [i_subZ (by omega) (by omega)]; exact c1), hW, wt_0 (by omega)]
        rfl
    rw [← hW] at hw hw2
    have hWf : W * fl ≤ 40 * 50 := Nat.mul_le_mul (by omega) hfl
    have hnm : 5 * zz i ≤ mn (pd + W * fl) hd := by unfold mn; split <;> omega
    have hml := mn_le (pd + W * fl) hd
    rw [ew, e_cl, q_m1 (by omega), b3, e_nn, l3, i_inb (by omega) (by omega), e_ck, i_cl (by omega), nI_add, e_lt, sl_RI, b3, e_nn, sl_LI, l3, i_inb (by omega) (by omega), e_ck, e_ck]
    have p11 : pI (wI g 11 0 i (nI (hr + W))) 11 0 i = nI (hr + W) := by simp (disch := omega) only [sl_RI, sl_CI, sl_LI, sl_IR, sl_CR, sl_LR, sl_II, sl_Ie, sl_RR, sl_Re, sl_CN, sl_Ce, sl_LN, sl_Le, sl_IN, sl_INe, sl_RN, sl_RNe, up2_s, up2_n, up1_s, up1_n, upN_s, upN_n, ne_eq, not_false_eq_true, reduceCtorEq]
    have p4 : pI (wI g 11 0 i (nI (hr + W))) 4 = pI g 4 := by simp (disch := omega) only [sl_RI, sl_CI, sl_LI, sl_IR, sl_CR, sl_LR, sl_II, sl_Ie, sl_RR, sl_Re, sl_CN, sl_Ce, sl_LN, sl_Le, sl_IN, sl_INe, sl_RN, sl_RNe, up2_s, up2_n, up1_s, up1_n, upN_s, upN_n, ne_eq, not_false_eq_true, reduceCtorEq]
    rw [p11, p4, a4, a5, pk_mul, nI_add, nI_add, mn_I (by omega) (by omega), i_sub hnm, nI_add, mn_I (by omega) (by omega), nI_1, nI_1]
    have f1 : Fr [11] [] g (wI g 11 0 i (nI (hr + W))) := (Fr.refl _ _ _).wI (by decide)
    obtain ⟨g', e, fr, d1, d2⟩ := ih (i + 1) f (acc + (hr + W)) (hr + W + 1) (mn (mn (pd + W * fl) hd - 5 * zz i + fl) hd) _ (by omega) (by omega) (mn_le _ _) (by omega) (by omega) (sc.fr f1 (by decide) (by decide) (by decide) (by decide) (by decide) (by decide))
    have ev : evl (fun k => 5 * zz k) fl hd (m + 1) i hr pd = match evl (fun k => 5 * zz k) fl hd m (i + 1) (hr + W + 1) (mn (mn (pd + W * fl) hd - 5 * zz i + fl) hd) with | none => none | some l => some ((hr + W) :: l) := by
      rw [evl, if_neg c0, ← hW]
    refine ⟨g', ?_, f1.trans fr, fun k hk => ?_, fun l hl k hk => ?_⟩
    · rw [e, ev]
      cases evl (fun k => 5 * zz k) fl hd m (i + 1) (hr + W + 1) (mn (mn (pd + W * fl) hd - 5 * zz i + fl) hd) with
      | none => rfl
      | some l => show ka (nI (acc + (hr + W) + sumL l)) g' = ka (nI (acc + ((hr + W) + sumL l))) g'; rw [Nat.add_assoc]
    · rw [d1 k (by omega)]
      simp (disch := omega) only [sl_RI, sl_CI, sl_LI, sl_IR, sl_CR, sl_LR, sl_II, sl_Ie, sl_RR, sl_Re, sl_CN, sl_Ce, sl_LN, sl_Le, sl_IN, sl_INe, sl_RN, sl_RNe, up2_s, up2_n, up1_s, up1_n, upN_s, upN_n, ne_eq, not_false_eq_true, reduceCtorEq]
    · rw [ev] at hl
      cases eq : evl (fun k => 5 * zz k) fl hd m (i + 1) (hr + W + 1) (mn (mn (pd + W * fl) hd - 5 * zz i + fl) hd) with
      | none => rw [eq] at hl; cases hl
      | some l' =>
        rw [eq] at hl
        injection hl with hl
        subst hl
        cases k with
        | zero => rw [Nat.add_zero, d1 i (by omega), p11]; rfl
        | succ k => rw [show i + (k + 1) = i + 1 + k by omega, d2 l' eq k (by omega)]; rfl
end SUM
theorem evl_len {nd : Nat → Nat} {fl hd : Nat} : ∀ {m i hr pd : Nat} {l : List Nat}, evl nd fl hd m i hr pd = some l → l.length = m
  | 0, _, _, _, l, h => by injection h with h; subst h; rfl
  | m + 1, i, hr, pd, l, h => by
    rw [evl] at h
    split at h
    · cases h
    · split at h
      · cases h
      · injection h with h
        subst h
        rename_i e
        rw [List.length_cons, evl_len e]
