/-! which heaps agree where -/
def isM (k : Nat) : Bool := k == 8 || decide (25 ≤ k)
def CE (h g : Hp) : Prop := ∀ k, isM k = false → pI g k = pI h k ∧ pR g k = pR h k ∧ pL g k = pL h k ∧ pC g k = pC h k
def ME (h g : Hp) : Prop := ∀ k, isM k = true → pI g k = pI h k ∧ pR g k = pR h k ∧ pL g k = pL h k ∧ pC g k = pC h k
theorem CE.refl (h : Hp) : CE h h := fun _ _ => ⟨rfl, rfl, rfl, rfl⟩
theorem ME.refl (h : Hp) : ME h h := fun _ _ => ⟨rfl, rfl, rfl, rfl⟩
section CEME
variable {h g : Hp}
theorem CE.I (c : CE h g) {k : Nat} (hk : isM k = false) : pI g k = pI h k := (c k hk).1
theorem CE.R (c : CE h g) {k : Nat} (hk : isM k = false) : pR g k = pR h k := (c k hk).2.1
theorem CE.L (c : CE h g) {k : Nat} (hk : isM k = false) : pL g k = pL h k := (c k hk).2.2.1
theorem CE.C (c : CE h g) {k : Nat} (hk : isM k = false) : pC g k = pC h k := (c k hk).2.2.2
theorem ME.I (c : ME h g) {k : Nat} (hk : isM k = true) : pI g k = pI h k := (c k hk).1
theorem ME.R (c : ME h g) {k : Nat} (hk : isM k = true) : pR g k = pR h k := (c k hk).2.1
theorem ME.L (c : ME h g) {k : Nat} (hk : isM k = true) : pL g k = pL h k := (c k hk).2.2.1
theorem ME.C (c : ME h g) {k : Nat} (hk : isM k = true) : pC g k = pC h k := (c k hk).2.2.2
end CEME
def Fr (a b : List Nat) (h g : Hp) : Prop := (∀ k, k ∉ a → pI g k = pI h k) ∧ (∀ k, k ∉ b → pR g k = pR h k) ∧ pL g = pL h ∧ pC g = pC h
section FR
variable {a b : List Nat} {h g g' : Hp}
theorem Fr.refl (a b : List Nat) (h : Hp) : Fr a b h h := ⟨fun _ _ => rfl, fun _ _ => rfl, rfl, rfl⟩
theorem Fr.I (c : Fr a b h g) {k : Nat} (hk : k ∉ a) : pI g k = pI h k := c.1 k hk
theorem Fr.R (c : Fr a b h g) {k : Nat} (hk : k ∉ b) : pR g k = pR h k := c.2.1 k hk
theorem Fr.L (c : Fr a b h g) : pL g = pL h := c.2.2.1
theorem Fr.C (c : Fr a b h g) : pC g = pC h := c.2.2.2
theorem Fr.trans (c : Fr a b h g) (d : Fr a b g g') : Fr a b h g' := ⟨fun k hk => (d.I hk).trans (c.I hk), fun k hk => (d.R hk).trans (c.R hk), d.L.trans c.L, d.C.trans c.C⟩
theorem Fr.mono {a' b' : List Nat} (c : Fr a b h g) (ha : ∀ k, k ∈ a → k ∈ a') (hb : ∀ k, k ∈ b → k ∈ b') : Fr a' b' h g := ⟨fun k hk => c.I (fun e => hk (ha k e)), fun k hk => c.R (fun e => hk (hb k e)), c.L, c.C⟩
theorem Fr.wI (c : Fr a b h g) {k n i : Nat} {v : Int32} (hk : k ∈ a) : Fr a b h (wI g k n i v) := ⟨fun k' hk' => by rw [sl_II (fun e => hk' (by rw [e]; exact hk))]; exact c.I hk', c.2.1, c.2.2.1, c.2.2.2⟩
theorem Fr.wR (c : Fr a b h g) {k n i : Nat} {v : Option Nat} (hk : k ∈ b) : Fr a b h (wR g k n i v) := ⟨c.1, fun k' hk' => by rw [sl_RR (fun e => hk' (by rw [e]; exact hk))]; exact c.R hk', c.2.2.1, c.2.2.2⟩
theorem Fr.ME (c : Fr a b h g) (ha : (a.all fun k => !isM k) = true) (hb : (b.all fun k => !isM k) = true) : ME h g := by
  intro k hk
  refine ⟨c.I (fun e => ?_), c.R (fun e => ?_), by rw [c.L], by rw [c.C]⟩
  · have := List.all_eq_true.mp ha k e
    rw [hk] at this; exact absurd this (by decide)
  · have := List.all_eq_true.mp hb k e
    rw [hk] at this; exact absurd this (by decide)
theorem Fr.CE (c : Fr a b h g) (ha : (a.all fun k => isM k) = true) (hb : (b.all fun k => isM k) = true) : CE h g := by
  intro k hk
  refine ⟨c.I (fun e => ?_), c.R (fun e => ?_), by rw [c.L], by rw [c.C]⟩
  · have := List.all_eq_true.mp ha k e
    rw [hk] at this; exact absurd this (by decide)
  · have := List.all_eq_true.mp hb k e
    rw [hk] at this; exact absurd this (by decide)
theorem CE.trans (c : CE h g) (d : CE g g') : CE h g' := fun k hk => ⟨(d.I hk).trans (c.I hk), (d.R hk).trans (c.R hk), (d.L hk).trans (c.L hk), (d.C hk).trans (c.C hk)⟩
theorem ME.trans (c : ME h g) (d : ME g g') : ME h g' := fun k hk => ⟨(d.I hk).trans (c.I hk), (d.R hk).trans (c.R hk), (d.L hk).trans (c.L hk), (d.C hk).trans (c.C hk)⟩
end FR
/-! sums over what is of a raft -/
theorem su_one {f : Nat → Int32} {k : Nat} : ∀ {n : Nat}, k < n → (∀ i, i < n → i ≠ k → f i = 0) → su f n = f k
  | 0, h, _ => by omega
  | n + 1, h, hz => by
    rw [su]
    by_cases e : k = n
    · subst e
      rw [su_zero (fun i hi => hz i (by omega) (by omega)), Int32.zero_add]
    · rw [su_one (n := n) (by omega) (fun i hi => hz i (by omega)), hz n (by omega) (by omega), Int32.add_zero]
theorem su_swap (f : Nat → Nat → Int32) (m : Nat) : ∀ n, su (fun i => su (fun j => f i j) m) n = su (fun j => su (fun i => f i j) n) m
  | 0 => by rw [su]; exact (su_zero (fun k hk => rfl)).symm
  | n + 1 => by
    rw [su, su_swap f m n, ← su_add]
    rfl
/-- f summed over the trunks of a row, or over the trunks -/
theorem su_row {T n : Nat} {τ : Nat → Nat} {of : Nat → Prop} [DecidablePred of] (f : Nat → Int32) (h1 : ∀ j, j < n → τ j < T) (h2 : ∀ j, j < n → of (τ j)) (h3 : ∀ t, t < T → of t → ∃ j, j < n ∧ τ j = t) (h4 : ∀ j j', j < n → j' < n → τ j = τ j' → j = j') :
    su (fun j => f (τ j)) n = su (fun t => if of t then f t else 0) T := by
  have e1 : su (fun j => f (τ j)) n = su (fun j => su (fun t => if τ j = t then f t else 0) T) n := by
    refine su_ext (fun j hj => ?_)
    rw [su_one (k := τ j) (h1 j hj) (fun i _ hi => if_neg (fun e => hi e.symm)), if_pos rfl]
  rw [e1, su_swap]
  refine su_ext (fun t ht => ?_)
  by_cases c : of t
  · rw [if_pos c]
    obtain ⟨j, hj, e⟩ := h3 t ht c
    rw [su_one (k := j) hj (fun i hi hn => if_neg (fun e2 => hn (h4 i j hi hj (e2.trans e.symm)))), if_pos e]
  · rw [if_neg c]
    exact su_zero (fun j hj => if_neg (fun (e : τ j = t) => c (e ▸ h2 j hj)))
theorem su_raft {T m : Nat} {n : Nat → Nat} {τ : Nat → Nat → Nat} {of : Nat → Prop} [DecidablePred of] (f : Nat → Int32) (h1 : ∀ i, i < m → ∀ j, j < n i → τ i j < T) (h2 : ∀ i, i < m → ∀ j, j < n i → of (τ i j)) (h3 : ∀ t, t < T → of t → ∃ i, i < m ∧ ∃ j, j < n i ∧ τ i j = t) (h4 : ∀ i, i < m → ∀ j, j < n i → ∀ i', i' < m → ∀ j', j' < n i' → τ i j = τ i' j' → i = i' ∧ j = j') :
    su (fun i => su (fun j => f (τ i j)) (n i)) m = su (fun t => if of t then f t else 0) T := by
  have e1 : su (fun i => su (fun j => f (τ i j)) (n i)) m = su (fun i => su (fun t => su (fun j => if τ i j = t then f t else 0) (n i)) T) m := by
    refine su_ext (fun i hi => ?_)
    rw [su_swap]
    refine su_ext (fun j hj => ?_)
    rw [su_one (k := τ i j) (h1 i hi j hj) (fun t _ ht => if_neg (fun e => ht e.symm)), if_pos rfl]
  rw [e1, su_swap]
  refine su_ext (fun t ht => ?_)
  by_cases c : of t
  · rw [if_pos c]
    obtain ⟨i, hi, j, hj, e⟩ := h3 t ht c
    rw [su_one (k := i) hi (fun i' hi' hn => su_zero (fun j' hj' => if_neg (fun e2 => hn (h4 i' hi' j' hj' i hi j hj (e2.trans e.symm)).1)))]
    rw [su_one (k := j) hj (fun j' hj' hn => if_neg (fun e2 => hn (h4 i hi j' hj' i hi j hj (e2.trans e.symm)).2)), if_pos e]
  · rw [if_neg c]
    exact su_zero (fun i hi => su_zero (fun j hj => if_neg (fun (e : τ i j = t) => c (e ▸ h2 i hi j hj))))
/-- the number of trunks of n rows -/
def sN (f : Nat → Nat) : Nat → Nat
  | 0 => 0
  | n + 1 => sN f n + f n
theorem su_sN (f : Nat → Nat) : ∀ n, su (fun i => nI (f i)) n = nI (sN f n)
  | 0 => rfl
  | n + 1 => by rw [su, su_sN f n, sN, nI_add]
theorem sN_le {f : Nat → Nat} {k : Nat} : ∀ {n : Nat}, (∀ i, i < n → f i ≤ k) → sN f n ≤ k * n
  | 0, _ => Nat.zero_le _
  | n + 1, h => by
    rw [sN, Nat.mul_succ]
    have a := sN_le (f := f) (k := k) (n := n) (fun i hi => h i (by omega))
    have b := h n (by omega)
    omega
/-- the greatest -/
def mx (f : Nat → Int32) : Nat → Nat → Int32 → Int32
  | 0, _, a => a
  | m + 1, i, a => mx f m (i + 1) (if a < f i then f i else a)
theorem mx_ext {f g : Nat → Int32} : ∀ {m i : Nat} {a : Int32}, (∀ k, i ≤ k → k < i + m → f k = g k) → mx f m i a = mx g m i a
  | 0, _, _, _ => rfl
  | m + 1, i, a, h => by
    rw [mx, mx, h i (by omega) (by omega)]
    exact mx_ext (fun k h1 h2 => h k (by omega) (by omega))
theorem su_off (f : Nat → Int32) (i m : Nat) : su (fun k => f (i + k)) (m + 1) = f i + su (fun k => f (i + 1 + k)) m := by
  rw [su_peel]
  congr 1
  exact su_ext (fun k _ => by rw [show i + (k + 1) = i + 1 + k by omega])
section OPS
variable {nw : Nat} {z : Nat → Nat} {ro : Nat → Nat → Nat} {w : Nat → Nat} {tt : Nat → Nat → Nat} {q0 : Nat} {h : Hp}
/-- t is of raft r, by the reference's rows -/
abbrev ofm (h : Hp) (r t : Nat) : Prop := pI h 38 0 t = 1 ∧ pI h 40 0 t = nI r
theorem SimG.of_m (I : SimG nw z ro w tt q0 h) {r i j : Nat} (hr : r < pC h 2) (hi : i < z r) (hj : j < w (ro r i)) : ofm h r (tt (ro r i) j) ∧ tt (ro r i) j < pC h 6 ∧ pI h 41 0 (tt (ro r i) j) = nI i ∧ pI h 42 0 (tt (ro r i) j) = nI j := by
  obtain ⟨f1, f2, f3, f4⟩ := I.rw
  obtain ⟨k1, k2, k3, k4⟩ := f3 r hr i hi j hj
  exact ⟨⟨k1, k2⟩, ((f2 _ ((f1 r hr).2.2.2.2 i hi).2.1).2.2.2.2.2 j hj).2, k3, k4⟩
theorem SimG.of_c (I : SimG nw z ro w tt q0 h) {r t : Nat} (hr : r < pC h 2) (ht : t < pC h 6) (ho : ofm h r t) : ∃ i, i < z r ∧ ∃ j, j < w (ro r i) ∧ tt (ro r i) j = t := by
  have hR := I.c_hR
  obtain ⟨f1, f2, f3, f4⟩ := I.rw
  obtain ⟨r', hr', i, hi, j, hj, e⟩ := f4 t ht ho.1
  have k := (f3 r' hr' i hi j hj).2.1
  rw [e, ho.2, i_eq (by omega) (by omega)] at k
  subst k
  exact ⟨i, hi, j, hj, e⟩
theorem SimG.of_u (I : SimG nw z ro w tt q0 h) {r i j r' i' j' : Nat} (hr : r < pC h 2) (hi : i < z r) (hj : j < w (ro r i)) (hr' : r' < pC h 2) (hi' : i' < z r') (hj' : j' < w (ro r' i')) (e : tt (ro r i) j = tt (ro r' i') j') : r = r' ∧ i = i' ∧ j = j' := by
  have hR := I.c_hR
  have z1 := (I.rw.1 r hr).2.1
  have z2 := (I.rw.1 r' hr').2.1
  have w1 := (I.rw.2.1 _ ((I.rw.1 r hr).2.2.2.2 i hi).2.1).2.1
  have w2 := (I.rw.2.1 _ ((I.rw.1 r' hr').2.2.2.2 i' hi').2.1).2.1
  obtain ⟨a1, a2, a3, a4⟩ := I.of_m hr hi hj
  obtain ⟨b1, b2, b3, b4⟩ := I.of_m hr' hi' hj'
  rw [e] at a1 a3 a4
  have k1 := a1.2.symm.trans b1.2
  have k2 := a3.symm.trans b3
  have k3 := a4.symm.trans b4
  rw [i_eq (by omega) (by omega)] at k1 k2 k3
  exact ⟨k1, k2, k3⟩
theorem F_isOf {g : Hp} {r t : Nat} (ht : t < 120) (r16 : pR g 8 0 16 = some 0) (r18 : pR g 8 0 18 = some 0) (l38 : pL g 38 0 = 120) (l40 : pL g 40 0 = 120) : (ofm g r t ∧ F_X8_isOf 0 (nI t) (nI r) g = some (1, g)) ∨ (¬ ofm g r t ∧ F_X8_isOf 0 (nI t) (nI r) g = some (0, g)) := by
  rw [F_X8_isOf, r16, e_nn, l38, i_inb (by omega) (by omega), e_ck, i_cl (by omega), r18, e_nn, l40, i_inb (by omega) (by omega), e_ck]
  by_cases c1 : pI g 38 0 t = 1
  · rw [if_pos c1]
    by_cases c2 : pI g 40 0 t = nI r
    · rw [if_pos c2]; exact Or.inl ⟨⟨c1, c2⟩, rfl⟩
    · rw [if_neg c2]; exact Or.inr ⟨fun e => c2 e.2, rfl⟩
  · rw [if_neg c1]; exact Or.inr ⟨fun e => c1 e.1, rfl⟩
/-- what the loops over the trunks of the reference need -/
def TL (T : Nat) (g : Hp) : Prop := pI g 8 0 11 = nI T ∧ T ≤ 120 ∧ Gw8 (pR g 8 0) ∧ ∀ q ∈ lenT, isM q.1 = true → pL g q.1 q.2.1 = q.2.2
theorem TL.r {T : Nat} {g : Hp} (m : TL T g) (i : Nat) (hi : i < 52 ∧ i ≠ 0 ∧ i ≠ 1 ∧ i ≠ 11 ∧ i ≠ 22 ∧ i ≠ 24 ∧ i ≠ 30 ∧ i ≠ 38 ∧ i ≠ 41 ∧ i ≠ 46) : pR g 8 0 i = some 0 := m.2.2.1 i hi
theorem TL.l {T : Nat} {g : Hp} (m : TL T g) (k n : Nat) (hk : (k, 0, n) ∈ lenT) (hm : isM k = true) : pL g k 0 = n := m.2.2.2 (k, 0, n) hk hm
theorem SimG.TL (I : SimG nw z ro w tt q0 h) {g : Hp} (m : ME h g) : TL (pC h 6) g := ⟨by rw [m.I (by decide)]; exact I.c_j11, I.c_hT, by rw [m.R (by decide)]; exact I.w8, fun q hq c => by rw [m.L c]; exact I.ln q hq⟩
variable {g : Hp} {T : Nat}
theorem TL.isOf (m : TL T g) {r t : Nat} (ht : t < 120) : (ofm g r t ∧ F_X8_isOf 0 (nI t) (nI r) g = some (1, g)) ∨ (¬ ofm g r t ∧ F_X8_isOf 0 (nI t) (nI r) g = some (0, g)) := F_isOf ht (m.r 16 (by decide)) (m.r 18 (by decide)) (m.l 38 120 (by decide) (by decide)) (m.l 40 120 (by decide) (by decide))
theorem many_l (m : TL T g) {r : Nat} {β : Type} (ka : Int32 → Hp → Option β) : ∀ n i f acc, i + n = T → n < f → L_X8_many_4 0 (nI r) ka f acc (nI i) g = ka (acc + su (fun k => if ofm g r (i + k) then 1 else 0) n) g := by
  have hT := m.2.1
  intro n
  induction n with
  | zero =>
    intro i f acc hi hf
    obtain ⟨f, rfl⟩ := fu_1 hf
    rw [L_X8_many_4, m.1, q_le (by omega) (by omega), su, Int32.add_zero]
  | succ n ih =>
    intro i f acc hi hf
    obtain ⟨f, rfl⟩ := fu_1 hf
    rw [L_X8_many_4, m.1, q_nle (by omega) (by omega), nI_1, su_off (fun k => if ofm g r k then (1 : Int32) else 0), ← Int32.add_assoc]
    rcases m.isOf (r := r) (t := i) (by omega) with ⟨c, e⟩ | ⟨c, e⟩
    · rw [e, e_cl, if_neg (by decide), if_pos c, ih (i + 1) f _ (by omega) (by omega)]
    · rw [e, e_cl, if_pos rfl, if_neg c, ih (i + 1) f _ (by omega) (by omega)]
theorem wid_l (m : TL T g) {r rw : Nat} {v2 : Int32} {β : Type} (ka : Int32 → Hp → Option β) : ∀ n i f acc, i + n = T → n < f → L_X8_width_20 0 (nI r) v2 (nI rw) ka f acc (nI i) g = ka (acc + su (fun k => if ofm g r (i + k) ∧ pI g 41 0 (i + k) = nI rw then pI g 37 0 (i + k) else 0) n) g := by
  have hT := m.2.1
  intro n
  induction n with
  | zero =>
    intro i f acc hi hf
    obtain ⟨f, rfl⟩ := fu_1 hf
    rw [L_X8_width_20, m.1, q_le (by omega) (by omega), su, Int32.add_zero]
  | succ n ih =>
    intro i f acc hi hf
    obtain ⟨f, rfl⟩ := fu_1 hf
    rw [L_X8_width_20, m.1, q_nle (by omega) (by omega), nI_1, su_off (fun k => if ofm g r k ∧ pI g 41 0 k = nI rw then pI g 37 0 k else 0), ← Int32.add_assoc]
    rcases m.isOf (r := r) (t := i) (by omega) with ⟨c, e⟩ | ⟨c, e⟩
    · rw [e, e_cl, if_neg (by decide), m.r 19 (by decide), e_nn, m.l 41 120 (by decide) (by decide), i_inb (by omega) (by omega), e_ck, i_cl (by omega), m.r 15 (by decide), e_nn, m.l 37 120 (by decide) (by decide), i_inb (by omega) (by omega), e_ck]
      by_cases c2 : pI g 41 0 i = nI rw
      · rw [if_pos c2, if_pos ⟨c, c2⟩, ih (i + 1) f _ (by omega) (by omega)]
      · rw [if_neg c2, if_neg (fun e => c2 e.2), ih (i + 1) f _ (by omega) (by omega)]
    · rw [e, e_cl, if_pos rfl, if_neg (fun e => c e.1), ih (i + 1) f _ (by omega) (by omega)]
theorem i_nle {a b : Int32} : ¬ b ≤ a ↔ a < b := by
  rw [Int32.lt_iff_toInt_lt, Int32.le_iff_toInt_le]; omega
theorem wid_m (m : TL T g) {r zz : Nat} (hr : r < 60) (hz : zz ≤ 8) (e47 : pI g 47 0 r = nI zz) {β : Type} (ka : Int32 → Hp → Option β) : ∀ n i f a, i + n = zz → n < f → L_X8_width_4 0 (nI r) ka f a (nI i) g = ka (mx (fun i => su (fun t => if ofm g r t ∧ pI g 41 0 t = nI i then pI g 37 0 t else 0) T) n i a) g := by
  have hT := m.2.1
  intro n
  induction n with
  | zero =>
    intro i f a hi hf
    obtain ⟨f, rfl⟩ := fu_1 hf
    rw [L_X8_width_4, m.r 27 (by decide), e_nn, m.l 47 60 (by decide) (by decide), i_inb (by omega) (by omega), e_ck, i_cl (by omega), e47, q_le (by omega) (by omega), mx]
  | succ n ih =>
    intro i f a hi hf
    obtain ⟨f, rfl⟩ := fu_1 hf
    rw [L_X8_width_4, m.r 27 (by decide), e_nn, m.l 47 60 (by decide) (by decide), i_inb (by omega) (by omega), e_ck, i_cl (by omega), e47, q_nle (by omega) (by omega), mx, nI_1]
    have e := wid_l m (r := r) (rw := i) (v2 := a) (fun k17 h18 => if k17 ≤ a then L_X8_width_4 0 (nI r) ka f a (nI (i + 1)) h18 else L_X8_width_4 0 (nI r) ka f k17 (nI (i + 1)) h18) T 0 FU 0 (by omega) (by unfold FU; omega)
    refine e.trans ?_
    simp only [Nat.zero_add, Int32.zero_add]
    by_cases c : su (fun t => if ofm g r t ∧ pI g 41 0 t = nI i then pI g 37 0 t else 0) T ≤ a
    · rw [if_pos c, if_neg (fun e => i_nle.mpr e c), ih (i + 1) f _ (by omega) (by omega)]
    · rw [if_neg c, if_pos (i_nle.mp c), ih (i + 1) f _ (by omega) (by omega)]
theorem first_l (m : TL T g) {r t0 : Nat} (h0 : t0 < T) (h1 : ofm g r t0) (h2 : pI g 41 0 t0 = 0) (h3 : pI g 42 0 t0 = 0) (hu : ∀ t, t < T → ofm g r t → pI g 41 0 t = 0 → pI g 42 0 t = 0 → t = t0) {β : Type} (ka : Hp → Option β) (kb : Int32 → Hp → Option β) : ∀ n i f, i + n = t0 → n < f → L_X8_first_2 0 (nI r) ka kb f (nI i) g = kb (nI t0) g := by
  have hT := m.2.1
  intro n
  induction n with
  | zero =>
    intro i f hi hf
    obtain ⟨f, rfl⟩ := fu_1 hf
    have : i = t0 := by omega
    subst this
    rw [L_X8_first_2, m.1, q_nle (by omega) (by omega)]
    rcases m.isOf (r := r) (t := i) (by omega) with ⟨c, e⟩ | ⟨c, e⟩
    · rw [e, e_cl, if_neg (by decide), m.r 19 (by decide), e_nn, m.l 41 120 (by decide) (by decide), i_inb (by omega) (by omega), e_ck, i_cl (by omega), if_pos h2, m.r 20 (by decide), e_nn, m.l 42 120 (by decide) (by decide), i_inb (by omega) (by omega), e_ck, if_pos h3]
    · exact absurd h1 c
  | succ n ih =>
    intro i f hi hf
    obtain ⟨f, rfl⟩ := fu_1 hf
    rw [L_X8_first_2, m.1, q_nle (by omega) (by omega), nI_1]
    rcases m.isOf (r := r) (t := i) (by omega) with ⟨c, e⟩ | ⟨c, e⟩
    · rw [e, e_cl, if_neg (by decide), m.r 19 (by decide), e_nn, m.l 41 120 (by decide) (by decide), i_inb (by omega) (by omega), e_ck, i_cl (by omega), m.r 20 (by decide), e_nn, m.l 42 120 (by decide) (by decide), i_inb (by omega) (by omega), e_ck]
      by_cases c2 : pI g 41 0 i = 0
      · rw [if_pos c2]
        by_cases c3 : pI g 42 0 i = 0
        · have := hu i (by omega) c c2 c3; omega
        · rw [if_neg c3, ih (i + 1) f (by omega) (by omega)]
      · rw [if_neg c2, ih (i + 1) f (by omega) (by omega)]
    · rw [e, e_cl, if_pos rfl, ih (i + 1) f (by omega) (by omega)]
/-- the class's side of a raft -/
theorem cnt_c {r zz : Nat} {ρ ω : Nat → Nat} (hz : zz ≤ 8) (e2 : pI g 2 r 2 = nI zz) (r1 : pR g 2 r 1 = some r) (l : pL g 14 r = 8) (ha : ∀ i, i < zz → pR g 14 r i = some (ρ i) ∧ pI g 3 (ρ i) 1 = nI (ω i)) {β : Type} (ka : Int32 → Hp → Option β) : ∀ n i f acc, i + n = zz → n < f → L_X2_trunkCount_4 r ka f acc (nI i) g = ka (acc + su (fun k => nI (ω (i + k))) n) g := by
  intro n
  induction n with
  | zero =>
    intro i f acc hi hf
    obtain ⟨f, rfl⟩ := fu_1 hf
    rw [L_X2_trunkCount_4, e2, q_le (by omega) (by omega), su, Int32.add_zero]
  | succ n ih =>
    intro i f acc hi hf
    obtain ⟨f, rfl⟩ := fu_1 hf
    obtain ⟨a1, a2⟩ := ha i (by omega)
    rw [L_X2_trunkCount_4, e2, q_nle (by omega) (by omega), r1, e_nn, l, i_inb (by omega) (by omega), e_ck, i_cl (by omega), a1, e_nn, a2, nI_1, su_off (fun k => nI (ω k)), ← Int32.add_assoc, ih (i + 1) f _ (by omega) (by omega)]
theorem wid_c {r zz : Nat} {ρ : Nat → Nat} (hz : zz ≤ 8) (e2 : pI g 2 r 2 = nI zz) (r1 : pR g 2 r 1 = some r) (l : pL g 14 r = 8) (ha : ∀ i, i < zz → pR g 14 r i = some (ρ i)) {β : Type} (ka : Int32 → Hp → Option β) : ∀ n i f a, i + n = zz → n < f → L_X2_width_4 r ka f a (nI i) g = ka (mx (fun i => pI g 3 (ρ i) 2) n i a) g := by
  intro n
  induction n with
  | zero =>
    intro i f a hi hf
    obtain ⟨f, rfl⟩ := fu_1 hf
    rw [L_X2_width_4, e2, q_le (by omega) (by omega), mx]
  | succ n ih =>
    intro i f a hi hf
    obtain ⟨f, rfl⟩ := fu_1 hf
    rw [L_X2_width_4, e2, q_nle (by omega) (by omega), r1, e_nn, l, i_inb (by omega) (by omega), e_ck, i_cl (by omega), ha i (by omega), e_nn, nI_1, mx, ih (i + 1) f _ (by omega) (by omega)]
/-- how many trunks a raft has -/
def mny (z : Nat → Nat) (ro : Nat → Nat → Nat) (w : Nat → Nat) (r : Nat) : Nat := sN (fun i => w (ro r i)) (z r)
theorem SimG.wle (I : SimG nw z ro w tt q0 h) {r i : Nat} (hr : r < pC h 2) (hi : i < z r) : w (ro r i) ≤ 9 := (I.rw.2.1 _ ((I.rw.1 r hr).2.2.2.2 i hi).2.1).2.1
theorem SimG.mny_le (I : SimG nw z ro w tt q0 h) {r : Nat} (hr : r < pC h 2) : mny z ro w r ≤ 72 := by
  have a := sN_le (f := fun i => w (ro r i)) (k := 9) (n := z r) (fun i hi => I.wle hr hi)
  have b := (I.rw.1 r hr).2.1
  unfold mny
  omega
theorem SimG.count2 (I : SimG nw z ro w tt q0 h) (c : CE h g) {r : Nat} (hr : r < pC h 2) : F_X2_trunkCount r g = some (nI (mny z ro w r), g) := by
  obtain ⟨k1, k2, k3, k4, k5⟩ := I.rw.1 r hr
  have e := cnt_c (g := g) (r := r) (zz := z r) (ρ := ro r) (ω := fun i => w (ro r i)) k2 (by rw [c.I (by decide)]; exact k1) (by rw [c.R (by decide)]; exact k3) (by rw [c.L (by decide)]; exact k4) (fun i hi => ⟨by rw [c.R (by decide)]; exact (k5 i hi).1, by rw [c.I (by decide)]; exact (I.rw.2.1 _ (k5 i hi).2.1).1⟩) (fun k7 h8 => some (k7, h8)) (z r) 0 FU 0 (by omega) (by unfold FU; omega)
  rw [F_X2_trunkCount]
  refine e.trans ?_
  simp only [Nat.zero_add, Int32.zero_add]
  rw [su_sN (fun i => w (ro r i))]
  rfl
theorem SimG.su_of (I : SimG nw z ro w tt q0 h) {r : Nat} (hr : r < pC h 2) (f : Nat → Int32) : su (fun i => su (fun j => f (tt (ro r i) j)) (w (ro r i))) (z r) = su (fun t => if ofm h r t then f t else 0) (pC h 6) :=
  su_raft (n := fun i => w (ro r i)) (τ := fun i j => tt (ro r i) j) (of := fun t => ofm h r t) f (fun _ hi _ hj => (I.of_m hr hi hj).2.1) (fun _ hi _ hj => (I.of_m hr hi hj).1) (fun _ ht ho => I.of_c hr ht ho) (fun _ hi _ hj _ hi' _ hj' e => (I.of_u hr hi hj hr hi' hj' e).2)
theorem su_1 : ∀ n, su (fun _ => (1 : Int32)) n = nI n
  | 0 => rfl
  | n + 1 => by rw [su, su_1 n, nI_1]
theorem SimG.manyE (I : SimG nw z ro w tt q0 h) {r : Nat} (hr : r < pC h 2) : su (fun t => if ofm h r t then (1 : Int32) else 0) (pC h 6) = nI (mny z ro w r) := by
  rw [← I.su_of hr (fun _ => 1), mny, ← su_sN]
  exact su_ext (fun i _ => su_1 _)
theorem SimG.many (I : SimG nw z ro w tt q0 h) (m : ME h g) {r : Nat} (hr : r < pC h 2) : F_X8_many 0 (nI r) g = some (nI (mny z ro w r), g) := by
  have hT := I.c_hT
  have e := many_l (I.TL m) (r := r) (fun k6 h7 => some (k6, h7)) (pC h 6) 0 FU 0 (by omega) (by unfold FU; omega)
  rw [F_X8_many]
  refine e.trans ?_
  simp only [Nat.zero_add, Int32.zero_add, ofm, m.I (k := 38) (by decide), m.I (k := 40) (by decide)]
  rw [I.manyE hr]
/-- how wide a raft is -/
def wdt (h : Hp) (z : Nat → Nat) (ro : Nat → Nat → Nat) (r : Nat) : Int32 := mx (fun i => pI h 3 (ro r i) 2) (z r) 0 0
theorem SimG.width2 (I : SimG nw z ro w tt q0 h) (c : CE h g) {r : Nat} (hr : r < pC h 2) : F_X2_width r g = some (wdt h z ro r, g) := by
  obtain ⟨k1, k2, k3, k4, k5⟩ := I.rw.1 r hr
  have e := wid_c (g := g) (r := r) (zz := z r) (ρ := ro r) k2 (by rw [c.I (by decide)]; exact k1) (by rw [c.R (by decide)]; exact k3) (by rw [c.L (by decide)]; exact k4) (fun i hi => by rw [c.R (by decide)]; exact (k5 i hi).1) (fun k7 h8 => some (k7, h8)) (z r) 0 FU 0 (by omega) (by unfold FU; omega)
  rw [F_X2_width]
  refine e.trans ?_
  rw [c.I (k := 3) (by decide)]
  rfl
theorem SimG.rowE (I : SimG nw z ro w tt q0 h) {r i : Nat} (hr : r < pC h 2) (hi : i < z r) : su (fun t => if ofm h r t ∧ pI h 41 0 t = nI i then pI h 37 0 t else 0) (pC h 6) = pI h 3 (ro r i) 2 := by
  have hz := (I.rw.1 r hr).2.1
  rw [(I.rw.2.1 _ ((I.rw.1 r hr).2.2.2.2 i hi).2.1).2.2.2.2.1]
  rw [← su_row (n := w (ro r i)) (τ := tt (ro r i)) (of := fun t => ofm h r t ∧ pI h 41 0 t = nI i) (fun t => pI h 37 0 t) (fun j hj => (I.of_m hr hi hj).2.1) (fun j hj => ⟨(I.of_m hr hi hj).1, (I.of_m hr hi hj).2.2.1⟩) (fun t ht ho => ?_) (fun j j' hj hj' e => (I.of_u hr hi hj hr hi hj' e).2.2)]
  · exact su_ext (fun j hj => (I.tr.1 _ (I.of_m hr hi hj).2.1).1.2.2.2.2.1.symm)
  · obtain ⟨i', hi', j, hj, e⟩ := I.of_c hr ht ho.1
    have k := (I.of_m hr hi' hj).2.2.1
    rw [e, ho.2, i_eq (by omega) (by omega)] at k
    subst k
    exact ⟨j, hj, e⟩
theorem SimG.z47 (I : SimG nw z ro w tt q0 h) {r : Nat} (hr : r < pC h 2) : pI h 47 0 r = nI (z r) := ((I.rf r hr).1.2.1.symm.trans (I.rw.1 r hr).1)
theorem SimG.widthM (I : SimG nw z ro w tt q0 h) (m : ME h g) {r : Nat} (hr : r < pC h 2) : F_X8_width 0 (nI r) g = some (wdt h z ro r, g) := by
  have hR := I.c_hR
  have hz := (I.rw.1 r hr).2.1
  have e := wid_m (I.TL m) (r := r) (zz := z r) (by omega) hz (by rw [m.I (by decide)]; exact I.z47 hr) (fun k6 h7 => some (k6, h7)) (z r) 0 FU 0 (by omega) (by unfold FU; omega)
  rw [F_X8_width]
  refine e.trans ?_
  simp only [ofm, m.I (k := 38) (by decide), m.I (k := 40) (by decide), m.I (k := 41) (by decide), m.I (k := 37) (by decide)]
  unfold wdt
  rw [mx_ext (g := fun i => pI h 3 (ro r i) 2) (fun k _ hk => I.rowE hr (by omega))]
theorem SimG.firstM (I : SimG nw z ro w tt q0 h) (m : ME h g) {r : Nat} (hr : r < pC h 2) (hz : 0 < z r) : F_X8_first 0 (nI r) g = some (nI (tt (ro r 0) 0), g) := by
  have hT := I.c_hT
  have z8 := (I.rw.1 r hr).2.1
  have w1 := ((I.rw.1 r hr).2.2.2.2 0 hz).2.2
  obtain ⟨a1, a2, a3, a4⟩ := I.of_m (j := 0) hr hz (by omega)
  rw [F_X8_first]
  refine first_l (I.TL m) (r := r) (t0 := tt (ro r 0) 0) a2 ?_ ?_ ?_ (fun t ht ho k1 k2 => ?_) _ _ (tt (ro r 0) 0) 0 FU (by omega) (by unfold FU; omega)
  · simp only [ofm, m.I (k := 38) (by decide), m.I (k := 40) (by decide)]; exact a1
  · rw [m.I (by decide)]; exact a3
  · rw [m.I (by decide)]; exact a4
  · simp only [ofm, m.I (k := 38) (by decide), m.I (k := 40) (by decide)] at ho
    rw [m.I (by decide)] at k1 k2
    obtain ⟨i, hi, j, hj, e⟩ := I.of_c hr ht ho
    have := I.wle hr hi
    obtain ⟨-, -, b3, b4⟩ := I.of_m hr hi hj
    rw [e] at b3 b4
    have q1 := b3.symm.trans (k1.trans nI_0e.symm)
    have q2 := b4.symm.trans (k2.trans nI_0e.symm)
    rw [i_eq (by omega) (by omega)] at q1 q2
    subst q1 q2
    exact e.symm
theorem SimG.firstC (I : SimG nw z ro w tt q0 h) (c : CE h g) {r : Nat} (hr : r < pC h 2) (hz : 0 < z r) : F_X2_firstTrunk r g = some (some (tt (ro r 0) 0), g) := by
  obtain ⟨k1, k2, k3, k4, k5⟩ := I.rw.1 r hr
  obtain ⟨j1, j2, j3⟩ := k5 0 hz
  obtain ⟨b1, b2, b3, b4, b5, b6⟩ := I.rw.2.1 _ j2
  rw [F_X2_firstTrunk, c.I (k := 2) (by decide), k1, q_nleR 0 (by omega) (by omega), c.R (k := 2) (by decide), k3, e_nn, c.L (k := 14) (by decide), k4, show inb (0 : Int32) 8 = true from by decide, e_ck, show ((0 : Int32)).toNatClampNeg = 0 from by decide, c.R (k := 14) (by decide), j1, e_nn,
    c.I (k := 3) (by decide), b1, q_nleR 0 (by omega) (by omega), e_ck, e_nn, c.R (k := 3) (by decide), b3, e_nn, c.L (k := 15) (by decide), b4, show inb (0 : Int32) 9 = true from by decide, e_ck, c.R (k := 15) (by decide), (b6 0 (by omega)).1]
theorem op_raft (I : SimG nw z ro w tt q0 h) (x y : Int32) : OP (F_X7_raft 0 x y) (F_X8_raft 0 x y) h := by
  have hR := I.c_hR
  rcases wi_ix x (n := pC h 2) (by omega) with ⟨e1, e2⟩ | ⟨e1, r, hr, rfl, e2⟩
  · refine OP.same I (r := -1) ?_ ?_
    · rw [F_X7_raft, I.raftAt, e_cl, e2, e_onnN]
    · rw [F_X8_raft, F_in, e_cl, I.c_j24, e1, if_pos rfl]
  have key : ∃ B : Int32, F_X8_raft 0 (nI r) y h = some (B, h) ∧ F_X7_raft 0 (nI r) y h = some (B, h) := by
    rw [F_X8_raft, F_in, e_cl, I.c_j24, e1, if_neg (by decide), F_X7_raft, I.raftAt, e_cl, e2, e_onnS]
    obtain ⟨⟨a0, a2, a5, -⟩, hst⟩ := I.rf r hr
    by_cases c0 : y = 0
    · rw [if_pos c0, if_pos c0, I.r8_25, e_nn, I.l45_0, i_inb (by omega) (by omega), e_ck, i_cl (by omega), I.state2 hr, e_cl]
      exact ⟨_, rfl, rfl⟩
    rw [if_neg c0, if_neg c0]
    by_cases c1 : y = 1
    · rw [if_pos c1, if_pos c1, I.r8_25, e_nn, I.l45_0, i_inb (by omega) (by omega), e_ck, i_cl (by omega), I.r8_26, e_nn, I.l46_0, i_inb (by omega) (by omega), e_ck, F_X7_numberOf]
      rcases hst with ⟨b1, -, b3, -⟩ | ⟨b1, -, ⟨p, p1, p2, p3⟩, -⟩ | ⟨b1, -, ⟨p, p1, p0, p2, p3⟩, -⟩ | ⟨b1, -, ⟨p, p1, p2, p3⟩, -⟩
      · rw [if_pos b1, b3, e_onnN, e_cl]; exact ⟨_, rfl, rfl⟩
      · rw [if_neg (by rw [b1]; decide), p2, p3, e_onnS, (I.st.1 p p1).1, e_cl]; exact ⟨_, rfl, rfl⟩
      · rw [if_neg (by rw [b1]; decide), p2, p3, e_onnS, (I.st.1 p p1).1, e_cl]; exact ⟨_, rfl, rfl⟩
      · rw [if_neg (by rw [b1]; decide), p2, p3, e_onnS, (I.st.1 p p1).1, e_cl]; exact ⟨_, rfl, rfl⟩
    rw [if_neg c1, if_neg c1]
    by_cases c2 : y = 2
    · rw [if_pos c2, if_pos c2, I.r8_27, e_nn, I.l47_0, i_inb (by omega) (by omega), e_ck, i_cl (by omega), a2]
      exact ⟨_, rfl, rfl⟩
    rw [if_neg c2, if_neg c2]
    by_cases c3 : y = 3
    · rw [if_pos c3, if_pos c3, I.many (ME.refl h) hr, e_cl, I.count2 (CE.refl h) hr, e_cl]
      exact ⟨_, rfl, rfl⟩
    rw [if_neg c3, if_neg c3]
    by_cases c4 : y = 4
    · rw [if_pos c4, if_pos c4, I.widthM (ME.refl h) hr, e_cl, I.width2 (CE.refl h) hr, e_cl]
      exact ⟨_, rfl, rfl⟩
    rw [if_neg c4, if_neg c4]
    by_cases c5 : y = 5
    · rw [if_pos c5, if_pos c5, I.r8_28, e_nn, I.l48_0, i_inb (by omega) (by omega), e_ck, i_cl (by omega)]
      rcases hst with ⟨-, -, -, b4, b5, -⟩ | ⟨-, -, -, b4, b5, -⟩ | ⟨-, -, -, ⟨c, k1, k2, k3, -⟩, -⟩ | ⟨-, -, -, ⟨c, k1, k2, k3, -⟩, -⟩
      · rw [b4, b5, e_onnN]; exact ⟨_, rfl, rfl⟩
      · rw [b4, b5, e_onnN]; exact ⟨_, rfl, rfl⟩
      · rw [k2, k3, e_onnS, (I.cr.1 c k1).1.1]; exact ⟨_, rfl, rfl⟩
      · rw [k2, k3, e_onnS, (I.cr.1 c k1).1.1]; exact ⟨_, rfl, rfl⟩
    rw [if_neg c5, if_neg c5]
    by_cases c6 : y = 6
    · rw [if_pos c6, if_pos c6, I.r8_29, e_nn, I.l49_0, i_inb (by omega) (by omega), e_ck, i_cl (by omega), a5]
      exact ⟨_, rfl, rfl⟩
    rw [if_neg c6, if_neg c6]
    exact ⟨_, rfl, rfl⟩
  obtain ⟨B, k1, k2⟩ := key
  exact OP.same I k2 k1
end OPS
