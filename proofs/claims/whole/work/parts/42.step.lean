/-! steps of one side; heaps with a kind set anew -/
def sI (h : Hp) (k : Nat) (f : Nat → Nat → Int32) : Hp := (h.1, h.2.1, fun k' => if k' = k then f else h.2.2.1 k', h.2.2.2)
def sR (h : Hp) (k : Nat) (f : Nat → Nat → Option Nat) : Hp := (h.1, h.2.1, h.2.2.1, fun k' => if k' = k then f else h.2.2.2 k')
theorem ss_II {h : Hp} {k k' : Nat} {f : Nat → Nat → Int32} (hk : k' ≠ k) : pI (sI h k f) k' = pI h k' := by
  funext n i
  show (if k' = k then f else h.2.2.1 k') n i = _
  rw [if_neg hk]; rfl
theorem ss_Ie (h : Hp) (k : Nat) (f : Nat → Nat → Int32) : pI (sI h k f) k = f := by
  funext n i
  show (if k = k then f else h.2.2.1 k) n i = _
  rw [if_pos rfl]
theorem ss_RI (h : Hp) (k : Nat) (f : Nat → Nat → Int32) : pR (sI h k f) = pR h := rfl
theorem ss_LI (h : Hp) (k : Nat) (f : Nat → Nat → Int32) : pL (sI h k f) = pL h := rfl
theorem ss_CI (h : Hp) (k : Nat) (f : Nat → Nat → Int32) : pC (sI h k f) = pC h := rfl
theorem ss_RR {h : Hp} {k k' : Nat} {f : Nat → Nat → Option Nat} (hk : k' ≠ k) : pR (sR h k f) k' = pR h k' := by
  funext n i
  show (if k' = k then f else h.2.2.2 k') n i = _
  rw [if_neg hk]; rfl
theorem ss_Re (h : Hp) (k : Nat) (f : Nat → Nat → Option Nat) : pR (sR h k f) k = f := by
  funext n i
  show (if k = k then f else h.2.2.2 k) n i = _
  rw [if_pos rfl]
theorem ss_IR (h : Hp) (k : Nat) (f : Nat → Nat → Option Nat) : pI (sR h k f) = pI h := rfl
theorem ss_LR (h : Hp) (k : Nat) (f : Nat → Nat → Option Nat) : pL (sR h k f) = pL h := rfl
theorem ss_CR (h : Hp) (k : Nat) (f : Nat → Nat → Option Nat) : pC (sR h k f) = pC h := rfl
theorem Hp_ext {h g : Hp} (c : CE h g) (m : ME h g) : g = h := by
  have a : ∀ k, pI g k = pI h k ∧ pR g k = pR h k ∧ pL g k = pL h k ∧ pC g k = pC h k := by
    intro k
    cases e : isM k with
    | false => exact c k e
    | true => exact m k e
  obtain ⟨g1, g2, g3, g4⟩ := g
  obtain ⟨h1, h2, h3, h4⟩ := h
  have e1 : g1 = h1 := funext fun k => (a k).2.2.2
  have e2 : g2 = h2 := funext fun k => funext fun n => congrFun (a k).2.2.1 n
  have e3 : g3 = h3 := funext fun k => funext fun n => funext fun i => congrFun (congrFun (a k).1 n) i
  have e4 : g4 = h4 := funext fun k => funext fun n => funext fun i => congrFun (congrFun (a k).2.1 n) i
  rw [e1, e2, e3, e4]
section EW
variable {h g : Hp} {k n i : Nat} {v : Int32} {x : Option Nat}
theorem CE.wI2 (c : CE h g) : CE (wI h k n i v) (wI g k n i v) := by
  intro k' hk'
  refine ⟨?_, c.R hk', c.L hk', c.C hk'⟩
  by_cases e : k' = k
  · subst e; rw [sl_Ie, sl_Ie, c.I hk']
  · rw [sl_II e, sl_II e, c.I hk']
theorem ME.wI2 (c : ME h g) : ME (wI h k n i v) (wI g k n i v) := by
  intro k' hk'
  refine ⟨?_, c.R hk', c.L hk', c.C hk'⟩
  by_cases e : k' = k
  · subst e; rw [sl_Ie, sl_Ie, c.I hk']
  · rw [sl_II e, sl_II e, c.I hk']
theorem CE.wR2 (c : CE h g) : CE (wR h k n i x) (wR g k n i x) := by
  intro k' hk'
  refine ⟨c.I hk', ?_, c.L hk', c.C hk'⟩
  by_cases e : k' = k
  · subst e; rw [sl_Re, sl_Re, c.R hk']
  · rw [sl_RR e, sl_RR e, c.R hk']
theorem CE.wIl (c : CE h g) (hk : isM k = true) : CE (wI h k n i v) g := by
  intro k' hk'
  refine ⟨?_, c.R hk', c.L hk', c.C hk'⟩
  rw [sl_II (fun e => by rw [e, hk] at hk'; cases hk'), c.I hk']
theorem CE.wIr (c : CE h g) (hk : isM k = true) : CE h (wI g k n i v) := by
  intro k' hk'
  refine ⟨?_, c.R hk', c.L hk', c.C hk'⟩
  rw [sl_II (fun e => by rw [e, hk] at hk'; cases hk'), c.I hk']
theorem ME.wIl (c : ME h g) (hk : isM k = false) : ME (wI h k n i v) g := by
  intro k' hk'
  refine ⟨?_, c.R hk', c.L hk', c.C hk'⟩
  rw [sl_II (fun e => by rw [e, hk] at hk'; cases hk'), c.I hk']
theorem ME.wIr (c : ME h g) (hk : isM k = false) : ME h (wI g k n i v) := by
  intro k' hk'
  refine ⟨?_, c.R hk', c.L hk', c.C hk'⟩
  rw [sl_II (fun e => by rw [e, hk] at hk'; cases hk'), c.I hk']
theorem ME.wRl (c : ME h g) (hk : isM k = false) : ME (wR h k n i x) g := by
  intro k' hk'
  refine ⟨c.I hk', ?_, c.L hk', c.C hk'⟩
  rw [sl_RR (fun e => by rw [e, hk] at hk'; cases hk'), c.R hk']
theorem ME.wRr (c : ME h g) (hk : isM k = false) : ME h (wR g k n i x) := by
  intro k' hk'
  refine ⟨c.I hk', ?_, c.L hk', c.C hk'⟩
  rw [sl_RR (fun e => by rw [e, hk] at hk'; cases hk'), c.R hk']
theorem CE.sIl {f : Nat → Nat → Int32} (c : CE h g) (hk : isM k = true) : CE (sI h k f) g := by
  intro k' hk'
  refine ⟨?_, c.R hk', c.L hk', c.C hk'⟩
  rw [ss_II (fun e => by rw [e, hk] at hk'; cases hk'), c.I hk']
theorem ME.sIl {f : Nat → Nat → Int32} (c : ME h g) (hk : isM k = false) : ME (sI h k f) g := by
  intro k' hk'
  refine ⟨?_, c.R hk', c.L hk', c.C hk'⟩
  rw [ss_II (fun e => by rw [e, hk] at hk'; cases hk'), c.I hk']
theorem ME.sRl {f : Nat → Nat → Option Nat} (c : ME h g) (hk : isM k = false) : ME (sR h k f) g := by
  intro k' hk'
  refine ⟨c.I hk', ?_, c.L hk', c.C hk'⟩
  rw [ss_RR (fun e => by rw [e, hk] at hk'; cases hk'), c.R hk']
end EW
/-- row 0 of a kind set anew -/
def rw0 {α : Type} (f : Nat → Nat → α) (F : Nat → α) : Nat → Nat → α := fun n => if n = 0 then F else f n
theorem rw0_0 {α : Type} (f : Nat → Nat → α) (F : Nat → α) : rw0 f F 0 = F := rfl
theorem rw0_up {α : Type} (f : Nat → Nat → α) (F : Nat → α) (i : Nat) (v : α) : up2 (rw0 f F) 0 i v = rw0 f (up1 F i v) := by
  funext m
  by_cases e : m = 0
  · subst e; rw [up2_s]; rfl
  · rw [up2_n _ _ _ e]; simp only [rw0, if_neg e]
theorem rw0_id {α : Type} (f : Nat → Nat → α) : rw0 f (f 0) = f := by
  funext m
  by_cases e : m = 0
  · subst e; rfl
  · simp only [rw0, if_neg e]
theorem up2_up1 {α : Type} (f : Nat → Nat → α) (n i : Nat) (v : α) : up2 f n i v = up1 f n (up1 (f n) i v) := by
  funext m
  by_cases e : m = n
  · subst e; rw [up2_s, up1_s]
  · rw [up2_n _ _ _ e, up1_n _ _ e]
theorem up1_up1 {α : Type} (f : Nat → α) (n : Nat) (u v : α) : up1 (up1 f n u) n v = up1 f n v := by
  funext m
  by_cases e : m = n
  · subst e; rw [up1_s, up1_s]
  · rw [up1_n _ _ e, up1_n _ _ e, up1_n _ _ e]
/-- those that fit and whose place is ahead of i are done -/
def upk {α : Type} (κ : Nat → Nat) (P : Nat → Bool) (a b : Nat → α) (i : Nat) : Nat → α := fun r => if κ r < i ∧ P r = true then a r else b r
section UPK
variable {α : Type} {κ : Nat → Nat} {P : Nat → Bool} {a b : Nat → α} {i r : Nat}
theorem upk_0 : upk κ P a b 0 = b := by funext r; simp [upk]
theorem upk_at (h : ¬ κ r < i) : upk κ P a b i r = b r := by simp only [upk, if_neg (fun e : κ r < i ∧ P r = true => h e.1)]
theorem upk_y (h1 : P r = true) (h2 : κ r < i) : upk κ P a b i r = a r := by simp only [upk, if_pos (And.intro h2 h1)]
theorem upk_n (h1 : P r = false) : upk κ P a b i r = b r := by simp only [upk, if_neg (fun e : κ r < i ∧ P r = true => by rw [h1] at e; cases e.2)]
theorem upk_f (h : ∀ r, P r = true → κ r ≠ i) : upk κ P a b (i + 1) = upk κ P a b i := by
  funext r
  cases e : P r with
  | false => rw [upk_n e, upk_n e]
  | true =>
    have := h r e
    by_cases c : κ r < i
    · rw [upk_y e c, upk_y e (by omega)]
    · rw [upk_at c, upk_at (by omega)]
theorem upk_s (h0 : P r = true) (h1 : κ r = i) (h : ∀ r', P r' = true → κ r' = i → r' = r) : upk κ P a b (i + 1) = up1 (upk κ P a b i) r (a r) := by
  funext r'
  by_cases d : r' = r
  · subst d; rw [up1_s, upk_y h0 (by omega)]
  · rw [up1_n _ _ d]
    cases e : P r' with
    | false => rw [upk_n e, upk_n e]
    | true =>
      have : κ r' ≠ i := fun q => d (h r' e q)
      by_cases c : κ r' < i
      · rw [upk_y e c, upk_y e (by omega)]
      · rw [upk_at c, upk_at (by omega)]
theorem upk_b {v : α} (h : ¬ κ r < i) : upk κ P a (up1 b r v) i = up1 (upk κ P a b i) r v := by
  funext r'
  by_cases d : r' = r
  · subst d; rw [up1_s, upk_at h, up1_s]
  · rw [up1_n _ _ d]
    simp only [upk, up1_n _ _ d]
end UPK
