theorem g_5 {L i : Nat} (hL : L ≤ 2560) (hi : i ≤ 2560) : (Int32.ofNat L - 5 < nI i) = (L < i + 5) := by
  apply propext
  rw [show Int32.ofNat L - 5 = nI L - nI 5 from rfl, Int32.lt_iff_toInt_lt, i_subT (by omega) (by omega), nI_toInt (by omega)]
  omega
set_option maxRecDepth 100000 in
set_option maxHeartbeats 4000000 in
theorem law_l (xs : Nat → Int32) (L : Nat) (hL : L ≤ 2560) {β : Type} (κ : Hp → Option β) : ∀ m i f h, Sim h → i ≤ L → L < i + 5 * (m + 1) → m < f → ∃ h', L_L_law_18 xs L 0 0 κ f (nI i) h = κ h' := by
  have stop : ∀ i f h, i ≤ L → L < i + 5 → ∃ h', L_L_law_18 xs L 0 0 κ (f + 1) (nI i) h = κ h' := by
    intro i f h hi c
    refine ⟨h, ?_⟩
    rw [L_L_law_18, if_pos (by rw [g_5 hL (by omega)]; exact c)]
  intro m
  induction m with
  | zero =>
    intro i f h S hi hm hf
    obtain ⟨f, rfl⟩ := fu_1 hf
    exact stop i f h hi (by omega)
  | succ m ih =>
    intro i f h S hi hm hf
    obtain ⟨f, rfl⟩ := fu_1 hf
    by_cases c : L < i + 5
    · exact stop i f h hi c
    obtain ⟨nw, z, ro, w, tt, q0, I⟩ := id S
    have next : ∀ g, Sim g → ∃ h', L_L_law_18 xs L 0 0 κ f (nI i + 5) g = κ h' := by
      intro g S'
      rw [show nI i + 5 = nI (i + 5) from nI_add i 5]
      exact ih (i + 5) f g S' (by omega) (by omega) (by omega)
    have j0 : inb (nI i) L = true := i_inb (by omega) (by omega)
    have j1 : inb (nI i + 1) L = true := by rw [show nI i + 1 = nI (i + 1) from nI_add i 1]; exact i_inb (by omega) (by omega)
    have j2 : inb (nI i + 2) L = true := by rw [show nI i + 2 = nI (i + 2) from nI_add i 2]; exact i_inb (by omega) (by omega)
    have j3 : inb (nI i + 3) L = true := by rw [show nI i + 3 = nI (i + 3) from nI_add i 3]; exact i_inb (by omega) (by omega)
    have j4 : inb (nI i + 4) L = true := by rw [show nI i + 4 = nI (i + 4) from nI_add i 4]; exact i_inb (by omega) (by omega)
    rw [L_L_law_18, if_neg (by rw [g_5 hL (by omega)]; exact c), j0, e_ck]
    by_cases c0 : (xs (nI i).toNatClampNeg &&& 31) = 0
    · rw [if_pos c0, j1, j2, j3, j4, e_ck, e_ck, e_ck, e_ck]
      by_cases b : xs (nI i + 4).toNatClampNeg = 0
      · obtain ⟨r, g1, g2, e1, e2, S2⟩ := op_station I (xs (nI i + 1).toNatClampNeg) (xs (nI i + 2).toNatClampNeg) (xs (nI i + 3).toNatClampNeg) (0) (Or.inl rfl)
        rw [if_pos b, e1, e_cl, e_ck, e_ck, e_ck, e_ck, if_pos b, e2, e_cl, if_pos rfl]
        exact next g2 S2
      · obtain ⟨r, g1, g2, e1, e2, S2⟩ := op_station I (xs (nI i + 1).toNatClampNeg) (xs (nI i + 2).toNatClampNeg) (xs (nI i + 3).toNatClampNeg) (1) (Or.inr rfl)
        rw [if_neg b, e1, e_cl, e_ck, e_ck, e_ck, e_ck, if_neg b, e2, e_cl, if_pos rfl]
        exact next g2 S2
    rw [if_neg c0]
    by_cases c1 : (xs (nI i).toNatClampNeg &&& 31) = 1
    · obtain ⟨r, g1, g2, e1, e2, S2⟩ := op_trunk I (xs (nI i + 1).toNatClampNeg) (xs (nI i + 2).toNatClampNeg) (xs (nI i + 3).toNatClampNeg)
      rw [if_pos c1, j1, j2, j3, e_ck, e_ck, e_ck, e1, e_cl, e_ck, e_ck, e_ck, e2, e_cl, if_pos rfl]
      exact next g2 S2
    rw [if_neg c1]
    by_cases c2 : (xs (nI i).toNatClampNeg &&& 31) = 2
    · obtain ⟨r, g1, g2, e1, e2, S2⟩ := op_find I (xs (nI i + 1).toNatClampNeg)
      rw [if_pos c2, j1, e_ck, e1, e_cl, e_ck, e2, e_cl, if_pos rfl]
      exact next g2 S2
    rw [if_neg c2]
    by_cases c3 : (xs (nI i).toNatClampNeg &&& 31) = 3
    · obtain ⟨r, g1, g2, e1, e2, S2⟩ := op_put I (xs (nI i + 1).toNatClampNeg)
      rw [if_pos c3, j1, e_ck, e1, e_cl, e_ck, e2, e_cl, if_pos rfl]
      exact next g2 S2
    rw [if_neg c3]
    by_cases c4 : (xs (nI i).toNatClampNeg &&& 31) = 4
    · obtain ⟨r, g1, g2, e1, e2, S2⟩ := op_bind I 
      rw [if_pos c4, e1, e_cl, e2, e_cl, if_pos rfl]
      exact next g2 S2
    rw [if_neg c4]
    by_cases c5 : (xs (nI i).toNatClampNeg &&& 31) = 5
    · obtain ⟨r, g1, g2, e1, e2, S2⟩ := op_join I (xs (nI i + 1).toNatClampNeg) (xs (nI i + 2).toNatClampNeg)
      rw [if_pos c5, j1, j2, e_ck, e_ck, e1, e_cl, e_ck, e_ck, e2, e_cl, if_pos rfl]
      exact next g2 S2
    rw [if_neg c5]
    by_cases c6 : (xs (nI i).toNatClampNeg &&& 31) = 6
    · obtain ⟨r, g1, g2, e1, e2, S2⟩ := op_part I (xs (nI i + 1).toNatClampNeg) (xs (nI i + 2).toNatClampNeg)
      rw [if_pos c6, j1, j2, e_ck, e_ck, e1, e_cl, e_ck, e_ck, e2, e_cl, if_pos rfl]
      exact next g2 S2
    rw [if_neg c6]
    by_cases c7 : (xs (nI i).toNatClampNeg &&& 31) = 7
    · obtain ⟨r, g1, g2, e1, e2, S2⟩ := op_unbind I (xs (nI i + 1).toNatClampNeg)
      rw [if_pos c7, j1, e_ck, e1, e_cl, e_ck, e2, e_cl, if_pos rfl]
      exact next g2 S2
    rw [if_neg c7]
    by_cases c8 : (xs (nI i).toNatClampNeg &&& 31) = 8
    · obtain ⟨r, g1, g2, e1, e2, S2⟩ := op_crew I (xs (nI i + 1).toNatClampNeg)
      rw [if_pos c8, j1, e_ck, e1, e_cl, e_ck, e2, e_cl, if_pos rfl]
      exact next g2 S2
    rw [if_neg c8]
    by_cases c9 : (xs (nI i).toNatClampNeg &&& 31) = 9
    · obtain ⟨r, g1, g2, e1, e2, S2⟩ := op_ready I (xs (nI i + 1).toNatClampNeg) (xs (nI i + 2).toNatClampNeg)
      rw [if_pos c9, j1, j2, e_ck, e_ck, e1, e_cl, e_ck, e_ck, e2, e_cl, if_pos rfl]
      exact next g2 S2
    rw [if_neg c9]
    by_cases c10 : (xs (nI i).toNatClampNeg &&& 31) = 10
    · obtain ⟨r, g1, g2, e1, e2, S2⟩ := op_tie I (xs (nI i + 1).toNatClampNeg)
      rw [if_pos c10, j1, e_ck, e1, e_cl, e_ck, e2, e_cl, if_pos rfl]
      exact next g2 S2
    rw [if_neg c10]
    by_cases c11 : (xs (nI i).toNatClampNeg &&& 31) = 11
    · obtain ⟨r, g1, g2, e1, e2, S2⟩ := op_walk I (xs (nI i + 1).toNatClampNeg)
      rw [if_pos c11, j1, e_ck, e1, e_cl, e_ck, e2, e_cl, if_pos rfl]
      exact next g2 S2
    rw [if_neg c11]
    by_cases c12 : (xs (nI i).toNatClampNeg &&& 31) = 12
    · obtain ⟨r, g1, g2, e1, e2, S2⟩ := op_go I (xs (nI i + 1).toNatClampNeg)
      rw [if_pos c12, j1, e_ck, e1, e_cl, e_ck, e2, e_cl, if_pos rfl]
      exact next g2 S2
    rw [if_neg c12]
    by_cases c13 : (xs (nI i).toNatClampNeg &&& 31) = 13
    · obtain ⟨r, g1, g2, e1, e2, S2⟩ := op_storm I (xs (nI i + 1).toNatClampNeg) (xs (nI i + 2).toNatClampNeg) (xs (nI i + 3).toNatClampNeg)
      rw [if_pos c13, j1, j2, j3, e_ck, e_ck, e_ck, e1, e_cl, e_ck, e_ck, e_ck, e2, e_cl, if_pos rfl]
      exact next g2 S2
    rw [if_neg c13]
    by_cases c14 : (xs (nI i).toNatClampNeg &&& 31) = 14
    · rw [if_pos c14, j1, j2, e_ck, e_ck]
      by_cases b : xs (nI i + 2).toNatClampNeg = 0
      · obtain ⟨r, g1, g2, e1, e2, S2⟩ := op_breaks I (xs (nI i + 1).toNatClampNeg) (0)
        rw [if_pos b, e1, e_cl, e_ck, e_ck, if_pos b, e2, e_cl, if_pos rfl]
        exact next g2 S2
      · obtain ⟨r, g1, g2, e1, e2, S2⟩ := op_breaks I (xs (nI i + 1).toNatClampNeg) (1)
        rw [if_neg b, e1, e_cl, e_ck, e_ck, if_neg b, e2, e_cl, if_pos rfl]
        exact next g2 S2
    rw [if_neg c14]
    by_cases c15 : (xs (nI i).toNatClampNeg &&& 31) = 15
    · obtain ⟨r, g1, g2, e1, e2, S2⟩ := op_right I (xs (nI i + 1).toNatClampNeg) (xs (nI i + 2).toNatClampNeg)
      rw [if_pos c15, j1, j2, e_ck, e_ck, e1, e_cl, e_ck, e_ck, e2, e_cl, if_pos rfl]
      exact next g2 S2
    rw [if_neg c15]
    by_cases c16 : (xs (nI i).toNatClampNeg &&& 31) = 16
    · obtain ⟨r, g1, g2, e1, e2, S2⟩ := op_toll I (xs (nI i + 1).toNatClampNeg) (xs (nI i + 2).toNatClampNeg)
      rw [if_pos c16, j1, j2, e_ck, e_ck, e1, e_cl, e_ck, e_ck, e2, e_cl, if_pos rfl]
      exact next g2 S2
    rw [if_neg c16]
    by_cases c17 : (xs (nI i).toNatClampNeg &&& 31) = 17
    · obtain ⟨r, g1, g2, e1, e2, S2⟩ := op_price I (xs (nI i + 1).toNatClampNeg) (xs (nI i + 2).toNatClampNeg) (xs (nI i + 3).toNatClampNeg) (xs (nI i + 4).toNatClampNeg)
      rw [if_pos c17, j1, j2, j3, j4, e_ck, e_ck, e_ck, e_ck, e1, e_cl, e_ck, e_ck, e_ck, e_ck, e2, e_cl, if_pos rfl]
      exact next g2 S2
    rw [if_neg c17]
    by_cases c18 : (xs (nI i).toNatClampNeg &&& 31) = 18
    · obtain ⟨r, g1, g2, e1, e2, S2⟩ := op_sell I (xs (nI i + 1).toNatClampNeg)
      rw [if_pos c18, j1, e_ck, e1, e_cl, e_ck, e2, e_cl, if_pos rfl]
      exact next g2 S2
    rw [if_neg c18]
    by_cases c19 : (xs (nI i).toNatClampNeg &&& 31) = 19
    · obtain ⟨r, g1, g2, e1, e2, S2⟩ := op_advance I (xs (nI i + 1).toNatClampNeg) (xs (nI i + 2).toNatClampNeg)
      rw [if_pos c19, j1, j2, e_ck, e_ck, e1, e_cl, e_ck, e_ck, e2, e_cl, if_pos rfl]
      exact next g2 S2
    rw [if_neg c19]
    by_cases c20 : (xs (nI i).toNatClampNeg &&& 31) = 20
    · obtain ⟨r, g1, g2, e1, e2, S2⟩ := op_balance I (xs (nI i + 1).toNatClampNeg)
      rw [if_pos c20, j1, e_ck, e1, e_cl, e_ck, e2, e_cl, if_pos rfl]
      exact next g2 S2
    rw [if_neg c20]
    by_cases c21 : (xs (nI i).toNatClampNeg &&& 31) = 21
    · obtain ⟨r, g1, g2, e1, e2, S2⟩ := op_best I (xs (nI i + 1).toNatClampNeg) (xs (nI i + 2).toNatClampNeg)
      rw [if_pos c21, j1, j2, e_ck, e_ck, e1, e_cl, e_ck, e_ck, e2, e_cl, if_pos rfl]
      exact next g2 S2
    rw [if_neg c21]
    by_cases c22 : (xs (nI i).toNatClampNeg &&& 31) = 22
    · obtain ⟨r, g1, g2, e1, e2, S2⟩ := op_passes I (xs (nI i + 1).toNatClampNeg) (xs (nI i + 2).toNatClampNeg)
      rw [if_pos c22, j1, j2, e_ck, e_ck, e1, e_cl, e_ck, e_ck, e2, e_cl, if_pos rfl]
      exact next g2 S2
    rw [if_neg c22]
    by_cases c23 : (xs (nI i).toNatClampNeg &&& 31) = 23
    · obtain ⟨r, g1, g2, e1, e2, S2⟩ := op_told I (xs (nI i + 1).toNatClampNeg) (xs (nI i + 2).toNatClampNeg)
      rw [if_pos c23, j1, j2, e_ck, e_ck, e1, e_cl, e_ck, e_ck, e2, e_cl, if_pos rfl]
      exact next g2 S2
    rw [if_neg c23]
    by_cases c24 : (xs (nI i).toNatClampNeg &&& 31) = 24
    · obtain ⟨r, g1, g2, e1, e2, S2⟩ := op_raft I (xs (nI i + 1).toNatClampNeg) (xs (nI i + 2).toNatClampNeg)
      rw [if_pos c24, j1, j2, e_ck, e_ck, e1, e_cl, e_ck, e_ck, e2, e_cl, if_pos rfl]
      exact next g2 S2
    rw [if_neg c24]
    by_cases c25 : (xs (nI i).toNatClampNeg &&& 31) = 25
    · obtain ⟨r, g1, g2, e1, e2, S2⟩ := op_crewed I (xs (nI i + 1).toNatClampNeg) (xs (nI i + 2).toNatClampNeg)
      rw [if_pos c25, j1, j2, e_ck, e_ck, e1, e_cl, e_ck, e_ck, e2, e_cl, if_pos rfl]
      exact next g2 S2
    rw [if_neg c25]
    by_cases c26 : (xs (nI i).toNatClampNeg &&& 31) = 26
    · obtain ⟨r, g1, g2, e1, e2, S2⟩ := op_count I (xs (nI i + 1).toNatClampNeg)
      rw [if_pos c26, j1, e_ck, e1, e_cl, e_ck, e2, e_cl, if_pos rfl]
      exact next g2 S2
    rw [if_neg c26]
    exact next h S
theorem law_ok (xs : Nat → Int32) (L : Nat) (hL : L ≤ 2560) : ∃ hh, F_law xs L h00 = some (1, hh) := by
  obtain ⟨h', e⟩ := law_l xs L hL (fun h367 => some ((1 : Int32), h367)) 520 0 FL h9s st_sim (by omega) (by omega) (by unfold FL; omega)
  refine ⟨h', ?_⟩
  rw [F_law, e_lt, show pC h00 7 = 0 from rfl, st_7, e_cl, e_lt, st_C, st_8, e_cl]
  exact e
