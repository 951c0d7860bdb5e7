theorem TL.fr2 {T : Nat} {a b : List Nat} {g g' : Hp} (m : TL T g) (f : Fr a b g g') (h8 : 8 ∉ a) (k8 : 8 ∉ b) : TL T g' := by
  obtain ⟨m1, m2, m3, m4⟩ := m
  refine ⟨by rw [f.I h8]; exact m1, m2, by rw [f.R k8]; exact m3, fun q hq c => by rw [f.L]; exact m4 q hq c⟩
theorem mn_J {a b : Nat} (ha : a < 2147483648) (hb : b < 2147483648) : (if nI a ≤ nI b then nI a else nI b) = nI (mn a b) := by
  unfold mn
  by_cases c : a < b
  · rw [q_le (by omega) hb, if_pos c]
  · rw [if_neg c]
    by_cases d : a = b
    · rw [d]; split <;> rfl
    · rw [q_nle (by omega) ha]
/-- what the reference's loop finds in the heap -/
def SM (T n s fl hd : Nat) (o ρ zz : Nat → Nat) (g : Hp) : Prop := TL T g ∧ pI g 28 0 s = nI fl ∧ pI g 29 0 s = nI hd ∧ ∀ k, k < n → pI g 64 0 k = nI (o k) ∧ o k < n ∧ pI g 63 0 (o k) = nI (ρ k) ∧ ρ k < 60 ∧ pI g 47 0 (ρ k) = nI (zz k)
theorem SM.fr {T n s fl hd : Nat} {o ρ zz : Nat → Nat} {a b : List Nat} {g g' : Hp} (c : SM T n s fl hd o ρ zz g) (f : Fr a b g g') (h8 : 8 ∉ a) (h28 : 28 ∉ a) (h29 : 29 ∉ a) (h64 : 64 ∉ a) (h63 : 63 ∉ a) (h47 : 47 ∉ a) (k8 : 8 ∉ b) : SM T n s fl hd o ρ zz g' := by
  obtain ⟨a1, a4, a5, a6⟩ := c
  refine ⟨a1.fr2 f h8 k8, by rw [f.I h28]; exact a4, by rw [f.I h29]; exact a5, fun k hk => ?_⟩
  rw [f.I h64, f.I h63, f.I h47]
  exact a6 k hk
section SUM
variable {β : Type} {T n s fl hd : Nat} {o ρ zz : Nat → Nat}
theorem fill_m {g : Hp} (TG : TL T g) (hs : s < 12) (e28 : pI g 28 0 s = nI fl) (e29 : pI g 29 0 s = nI hd) (hfl : fl ≤ 50) (hhd : hd ≤ 1000) {need : Nat} (hnd : need ≤ hd) (v2 v5 v6 : Int32) (ka : Int32 → Int32 → Hp → Option β) (kb : Hp → Option β) : ∀ m f pd hr, need - pd ≤ m → m < f → (pd < need → 0 < fl) → pd ≤ hd →
    L_X8_sumOf_46 0 (nI s) v2 v5 v6 (nI need) ka kb f (nI pd) (nI hr) g = ka (nI (mn (pd + wt need pd fl * fl) hd)) (nI (hr + wt need pd fl)) g := by
  have stop : ∀ f pd hr, need ≤ pd → pd ≤ hd → L_X8_sumOf_46 0 (nI s) v2 v5 v6 (nI need) ka kb (f + 1) (nI pd) (nI hr) g = ka (nI (mn (pd + wt need pd fl * fl) hd)) (nI (hr + wt need pd fl)) g := by
    intro f pd hr c c2
    rw [L_X8_sumOf_46, q_le c (by omega), wt_0 c, Nat.zero_mul, Nat.add_zero, Nat.add_zero]
    congr 2
    unfold mn; split <;> omega
  intro m
  induction m with
  | zero =>
    intro f pd hr h1 hf h2 h3
    obtain ⟨f, rfl⟩ := fu_1 hf
    exact stop f pd hr (by omega) h3
  | succ m ih =>
    intro f pd hr h1 hf h2 h3
    obtain ⟨f, rfl⟩ := fu_1 hf
    by_cases c : need ≤ pd
    · exact stop f pd hr c h3
    have hf0 := h2 (by omega)
    have nz : ¬ nI fl = (0 : Int32) := by rw [i_eqL 0 (by omega) (by omega)]; omega
    rw [L_X8_sumOf_46, q_nle (by omega) (by omega), TG.r 5 (by decide), e_nn, TG.l 28 12 (by decide) (by decide), i_inb (by omega) (by omega), e_ck, i_cl (by omega), e28, if_neg nz, e_ck, TG.r 6 (by decide), e_nn, TG.l 29 12 (by decide) (by decide), i_inb (by omega) (by omega), e_ck, e29, nI_add, nI_1, e_ck, e_ck]
    have ws := wt_s (need := need) (pd := pd) (fl := fl) (by omega) hf0
    by_cases d : pd + fl ≤ hd
    · rw [q_le d (by omega)]
      rw [ih f (pd + fl) (hr + 1) (by omega) (by omega) (fun _ => hf0) d, ws, Nat.succ_mul, show pd + fl + wt need (pd + fl) fl * fl = pd + (wt need (pd + fl) fl * fl + fl) by omega, show hr + 1 + wt need (pd + fl) fl = hr + (wt need (pd + fl) fl + 1) by omega]
    · rw [q_nle (by omega) (by omega)]
      rw [ih f hd (hr + 1) (by omega) (by omega) (fun _ => hf0) (Nat.le_refl _), wt_0 hnd, ws, wt_0 (show need ≤ pd + fl by omega)]
      have e1 : mn (hd + 0 * fl) hd = mn (pd + (0 + 1) * fl) hd := by unfold mn; rw [if_neg (by omega), if_neg (by omega)]
      rw [e1]
theorem fill_0 {g : Hp} (TG : TL T g) (hs : s < 12) (e28 : pI g 28 0 s = nI 0) {need pd : Nat} (hnd : need ≤ 1000) (hp : pd < need) (v2 v5 v6 hr : Int32) (ka : Int32 → Int32 → Hp → Option β) (kb : Hp → Option β) (f : Nat) : L_X8_sumOf_46 0 (nI s) v2 v5 v6 (nI need) ka kb (f + 1) (nI pd) hr g = kb g := by
  rw [L_X8_sumOf_46, q_nle (by omega) (by omega), TG.r 5 (by decide), e_nn, TG.l 28 12 (by decide) (by decide), i_inb (by omega) (by omega), e_ck, i_cl (by omega), e28, if_pos (show nI 0 = (0 : Int32) from rfl)]
theorem sum_m (hn : n ≤ 5) (hs : s < 12) (hfl : fl ≤ 50) (hhd : hd ≤ 1000) (hzz : ∀ k, k < n → zz k ≤ 8 ∧ 5 * zz k ≤ hd) (ka : Int32 → Hp → Option β) (kb : Hp → Option β) : ∀ m i f acc hr pd g, i + m = n → m < f → pd ≤ hd → hr ≤ 20000 + 50 * i → acc ≤ 30000 * i → SM T n s fl hd o ρ zz g →
    ∃ g', (L_X8_sumOf_19 0 (nI s) (nI n) ka kb f (nI pd) (nI hr) (nI acc) (nI i) g = match evl (fun k => 5 * zz k) fl hd m i hr pd with | none => kb g' | some l => ka (nI (acc + sumL l)) g') ∧ Fr [65] [] g g' ∧ (∀ k, k < i → pI g' 65 0 k = pI g 65 0 k) ∧ ∀ l, evl (fun k => 5 * zz k) fl hd m i hr pd = some l → ∀ k, k < m → pI g' 65 0 (i + k) = nI (l.getD k 0) := by
  intro m
  induction m with
  | zero =>
    intro i f acc hr pd g hi hf hpd hhr hac sc
    obtain ⟨f, rfl⟩ := fu_1 hf
    refine ⟨g, ?_, Fr.refl _ _ _, fun _ _ => rfl, fun l _ k hk => by omega⟩
    rw [L_X8_sumOf_19, q_le (by omega) (by omega)]
    rfl
  | succ m ih =>
    intro i f acc hr pd g hi hf hpd hhr hac sc
    obtain ⟨f, rfl⟩ := fu_1 hf
    obtain ⟨TG, a4, a5, a6⟩ := id sc
    obtain ⟨o1, o2, o3, o5, o4⟩ := a6 i (by omega)
    obtain ⟨z1, z2⟩ := hzz i (by omega)
    rw [L_X8_sumOf_19, q_nle (by omega) (by omega), TG.r 48 (by decide), e_nn, TG.l 64 5 (by decide) (by decide), i_inb (by omega) (by omega), e_ck, TG.r 47 (by decide), e_nn, i_cl (by omega), o1, TG.l 63 5 (by decide) (by decide), i_inb (by omega) (by omega), e_ck, TG.r 27 (by decide), e_nn, i_cl (by omega), o3, TG.l 47 60 (by decide) (by decide), i_inb (by omega) (by omega), e_ck, i_cl (by omega), o4, show (5 : Int32) = nI 5 from rfl, pk_mul]
    by_cases c0 : pd < 5 * zz i ∧ fl = 0
    · obtain ⟨c1, rfl⟩ := c0
      refine ⟨g, ?_, Fr.refl _ _ _, fun _ _ => rfl, fun l hl => by rw [evl_N (nd := fun k => 5 * zz k) ⟨c1, rfl⟩] at hl; cases hl⟩
      rw [evl_N (nd := fun k => 5 * zz k) ⟨c1, rfl⟩]
      exact fill_0 TG hs a4 (by omega) c1 _ _ _ _ _ _ _
    have hfp : pd < 5 * zz i → 0 < fl := fun q => Nat.pos_of_ne_zero (fun e => c0 ⟨q, e⟩)
    have hw := wt_le' hfp
    have hw2 := wt_mul' hfp
    have fm := fun v2 v5 v6 ka' kb' => fill_m (β := β) TG hs a4 a5 hfl hhd z2 v2 v5 v6 ka' kb' (5 * zz i) FU pd hr (by omega) (by unfold FU; omega) hfp hpd
    obtain ⟨W, hW⟩ : ∃ W, W = wt (5 * zz i) pd fl := ⟨_, rfl⟩
    rw [← hW] at hw hw2 fm
    have hWf : W * fl ≤ 40 * 50 := Nat.mul_le_mul (by omega) hfl
    have hnm : 5 * zz i ≤ mn (pd + W * fl) hd := by unfold mn; split <;> omega
    have hml := mn_le (pd + W * fl) hd
    rw [fm]
    have f1 : Fr [65] [] g (wI g 65 0 i (nI (hr + W))) := (Fr.refl _ _ _).wI (by decide)
    have TG1 : TL T (wI g 65 0 i (nI (hr + W))) := TG.fr2 f1 (by decide) (by decide)
    have p65 : pI (wI g 65 0 i (nI (hr + W))) 65 0 i = nI (hr + W) := by simp (disch := omega) only [sl_RI, sl_CI, sl_LI, sl_IR, sl_CR, sl_LR, sl_II, sl_Ie, sl_RR, sl_Re, sl_CN, sl_Ce, sl_LN, sl_Le, sl_IN, sl_INe, sl_RN, sl_RNe, up2_s, up2_n, up1_s, up1_n, upN_s, upN_n, ne_eq, not_false_eq_true, reduceCtorEq]
    have p28 : pI (wI g 65 0 i (nI (hr + W))) 28 0 s = nI fl := by simp (disch := omega) only [sl_RI, sl_CI, sl_LI, sl_IR, sl_CR, sl_LR, sl_II, sl_Ie, sl_RR, sl_Re, sl_CN, sl_Ce, sl_LN, sl_Le, sl_IN, sl_INe, sl_RN, sl_RNe, up2_s, up2_n, up1_s, up1_n, upN_s, upN_n, ne_eq, not_false_eq_true, reduceCtorEq]; exact a4
    have p29 : pI (wI g 65 0 i (nI (hr + W))) 29 0 s = nI hd := by simp (disch := omega) only [sl_RI, sl_CI, sl_LI, sl_IR, sl_CR, sl_LR, sl_II, sl_Ie, sl_RR, sl_Re, sl_CN, sl_Ce, sl_LN, sl_Le, sl_IN, sl_INe, sl_RN, sl_RNe, up2_s, up2_n, up1_s, up1_n, upN_s, upN_n, ne_eq, not_false_eq_true, reduceCtorEq]; exact a5
    rw [TG.r 49 (by decide), e_nn, TG.l 65 5 (by decide) (by decide), i_inb (by omega) (by omega), e_ck, i_cl (by omega), e_lt, TG1.r 5 (by decide), e_nn, TG1.l 28 12 (by decide) (by decide), i_inb (by omega) (by omega), e_ck, TG1.r 6 (by decide), e_nn, TG1.l 29 12 (by decide) (by decide), i_inb (by omega) (by omega), e_ck, p28, p29, e_ck, e_ck, i_sub hnm, nI_add, nI_add, nI_1, nI_1]
    obtain ⟨g', e, fr, d1, d2⟩ := ih (i + 1) f (acc + (hr + W)) (hr + W + 1) (mn (mn (pd + W * fl) hd - 5 * zz i + fl) hd) _ (by omega) (by omega) (mn_le _ _) (by omega) (by omega) (sc.fr f1 (by decide) (by decide) (by decide) (by decide) (by decide) (by decide) (by decide))
    rw [← mn_J (by omega) (by omega)] at e
    have ev : evl (fun k => 5 * zz k) fl hd (m + 1) i hr pd = match evl (fun k => 5 * zz k) fl hd m (i + 1) (hr + W + 1) (mn (mn (pd + W * fl) hd - 5 * zz i + fl) hd) with | none => none | some l => some ((hr + W) :: l) := by
      rw [evl, if_neg c0, ← hW]
      rfl
    refine ⟨g', ?_, f1.trans fr, fun k hk => ?_, fun l hl k hk => ?_⟩
    · rw [ev]
      refine Eq.trans ?_ (e.trans ?_)
      · split <;> rfl
      · cases evl (fun k => 5 * zz k) fl hd m (i + 1) (hr + W + 1) (mn (mn (pd + W * fl) hd - 5 * zz i + fl) hd) with
        | none => rfl
        | some l => show ka (nI (acc + (hr + W) + sumL l)) g' = ka (nI (acc + ((hr + W) + sumL l))) g'; rw [Nat.add_assoc]
    · rw [d1 k (by omega)]
      simp (disch := omega) only [sl_RI, sl_CI, sl_LI, sl_IR, sl_CR, sl_LR, sl_II, sl_Ie, sl_RR, sl_Re, sl_CN, sl_Ce, sl_LN, sl_Le, sl_IN, sl_INe, sl_RN, sl_RNe, up2_s, up2_n, up1_s, up1_n, upN_s, upN_n, ne_eq, not_false_eq_true, reduceCtorEq]
    · rw [ev] at hl
      cases eq : evl (fun k => 5 * zz k) fl hd m (i + 1) (hr + W + 1) (mn (mn (pd + W * fl) hd - 5 * zz i + fl) hd) with
      | none => rw [eq] at hl; cases hl
      | some l' =>
        rw [eq] at hl
        injection hl with hl
        subst hl
        cases k with
        | zero => rw [Nat.add_zero, d1 i (by omega), p65]; rfl
        | succ k => rw [show i + (k + 1) = i + 1 + k by omega, d2 l' eq k (by omega)]; rfl
end SUM
theorem evl_sum {nd : Nat → Nat} {fl hd : Nat} (hnd : ∀ i, i < 5 → nd i ≤ 40) : ∀ {m i hr pd : Nat} {l : List Nat}, i + m ≤ 5 → hr ≤ 20000 + 50 * i → evl nd fl hd m i hr pd = some l → sumL l ≤ 30000 * m
  | 0, _, _, _, l, _, _, h => by injection h with h; subst h; exact Nat.zero_le _
  | m + 1, i, hr, pd, l, h1, h2, h => by
    rw [evl] at h
    split at h
    · cases h
    · rename_i c0
      have hw : wt (nd i) pd fl ≤ nd i := wt_le' (fun q => Nat.pos_of_ne_zero (fun e => c0 ⟨q, e⟩))
      have hn := hnd i (by omega)
      split at h
      · cases h
      · injection h with h
        subst h
        rename_i l' e
        have := evl_sum hnd (by omega) (by omega) e
        show hr + wt (nd i) pd fl + sumL l' ≤ _
        omega
