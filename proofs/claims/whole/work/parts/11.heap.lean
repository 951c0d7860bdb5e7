/-! the heap as numbers and places of kinds; what the machine's heap holds of it -/
abbrev Hp : Type := (Nat → Nat) × (Nat → Nat → Nat) × (Nat → Nat → Nat → Int32) × (Nat → Nat → Nat → Option Nat)
def pC (h : Hp) (k : Nat) : Nat := h.1 k
def pL (h : Hp) (k n : Nat) : Nat := h.2.1 k n
def pI (h : Hp) (k n i : Nat) : Int32 := h.2.2.1 k n i
def pR (h : Hp) (k n i : Nat) : Option Nat := h.2.2.2 k n i
def wI (h : Hp) (k n i : Nat) (v : Int32) : Hp := (h.1, h.2.1, fun k' n' i' => if k' = k ∧ n' = n ∧ i' = i then v else h.2.2.1 k' n' i', h.2.2.2)
def wR (h : Hp) (k n i : Nat) (v : Option Nat) : Hp := (h.1, h.2.1, h.2.2.1, fun k' n' i' => if k' = k ∧ n' = n ∧ i' = i then v else h.2.2.2 k' n' i')
def wN (h : Hp) (k len : Nat) : Hp := (fun k' => if k' = k then h.1 k + 1 else h.1 k', fun k' n' => if k' = k ∧ n' = h.1 k then len else h.2.1 k' n', fun k' n' i' => if k' = k ∧ n' = h.1 k then 0 else h.2.2.1 k' n' i', fun k' n' i' => if k' = k ∧ n' = h.1 k then none else h.2.2.2 k' n' i')
theorem pC_wI (h : Hp) (k n i : Nat) (v : Int32) (k' : Nat) : pC (wI h k n i v) k' = pC h k' := rfl
theorem pL_wI (h : Hp) (k n i : Nat) (v : Int32) (k' n' : Nat) : pL (wI h k n i v) k' n' = pL h k' n' := rfl
theorem pR_wI (h : Hp) (k n i : Nat) (v : Int32) (k' n' i' : Nat) : pR (wI h k n i v) k' n' i' = pR h k' n' i' := rfl
theorem pI_wI (h : Hp) (k n i : Nat) (v : Int32) (k' n' i' : Nat) : pI (wI h k n i v) k' n' i' = if k' = k ∧ n' = n ∧ i' = i then v else pI h k' n' i' := rfl
theorem pC_wR (h : Hp) (k n i : Nat) (v : Option Nat) (k' : Nat) : pC (wR h k n i v) k' = pC h k' := rfl
theorem pL_wR (h : Hp) (k n i : Nat) (v : Option Nat) (k' n' : Nat) : pL (wR h k n i v) k' n' = pL h k' n' := rfl
theorem pI_wR (h : Hp) (k n i : Nat) (v : Option Nat) (k' n' i' : Nat) : pI (wR h k n i v) k' n' i' = pI h k' n' i' := rfl
theorem pR_wR (h : Hp) (k n i : Nat) (v : Option Nat) (k' n' i' : Nat) : pR (wR h k n i v) k' n' i' = if k' = k ∧ n' = n ∧ i' = i then v else pR h k' n' i' := rfl
theorem pC_wN (h : Hp) (k len k' : Nat) : pC (wN h k len) k' = if k' = k then pC h k + 1 else pC h k' := rfl
theorem pL_wN (h : Hp) (k len k' n' : Nat) : pL (wN h k len) k' n' = if k' = k ∧ n' = pC h k then len else pL h k' n' := rfl
theorem pI_wN (h : Hp) (k len k' n' i' : Nat) : pI (wN h k len) k' n' i' = if k' = k ∧ n' = pC h k then 0 else pI h k' n' i' := rfl
theorem pR_wN (h : Hp) (k len k' n' i' : Nat) : pR (wN h k len) k' n' i' = if k' = k ∧ n' = pC h k then none else pR h k' n' i' := rfl
abbrev AV : Type := Int32 ⊕ (Nat × Option Nat)
def cv (al : Nat → Nat → Nat) (v : AV) : Value := match v with
  | .inl x => .int x
  | .inr q => va_rf (q.2.map (al q.1))
def okV (h : Hp) (v : AV) : Prop := match v with
  | .inl _ => True
  | .inr q => ∀ n, q.2 = some n → n < pC h q.1
def fV (al : Nat → Nat → Nat) (h : Hp) (k n i : Nat) : Value := match fty k i with
  | none => .int (pI h k n i)
  | some k' => va_rf ((pR h k n i).map (al k'))
def cE (cA : Nat → ClassId) (al : Nat → Nat → Nat) (h : Hp) (k n : Nat) : va_E :=
  if k < 9 then .inr (k, (List.range (nf k)).map (fV al h k n)) else .inl (cA (atx k), pL h k n, match ael k with
    | none => .inl (fun i => pI h k n i)
    | some k' => .inr (.inr (.inr (.inr (fun i => (pR h k n i).map (al k'))))))
def wl (cA : Nat → ClassId) (al : Nat → Nat → Nat) (h : Hp) (L : List (Nat × Nat)) : va_W := L.map (fun q => (al q.1 q.2, cE cA al h q.1 q.2))
def Clo (h : Hp) : Prop := ∀ k n i j, pR h k n i = some j → j < pC h (rk k i)
def Rep (D : va_G) (cA : Nat → ClassId) (A : Nat → Prop) (al : Nat → Nat → Nat) (h : Hp) (H : Heap) : Prop :=
  Clo h ∧ ∃ L : List (Nat × Nat), L.Nodup ∧ (∀ q, q ∈ L ↔ q.2 < pC h q.1 ∧ q.1 < 99) ∧ va_P D vwCl (wl cA al h L) H ∧ va_D A (wl cA al h L)
def EV (D : va_G) (cA : Nat → ClassId) (U : State) : Prop := va_K D vwCl (tysL cA) U ∧ (∀ w ∈ nestW, va_Nw w U) ∧ ∀ C ∈ aoW, va_AO C U
theorem EV.warm {D : va_G} {cA : Nat → ClassId} {s U : State} (hW : s.WarmedH U.vm) (h : EV D cA s) : EV D cA U := by
  refine ⟨va_K.moved hW.alike h.1, fun w hw => ?_, fun C hC => (h.2.2 C hC).moved hW.alike⟩
  have h1 := h.2.1 w hw
  simp only [nestW, List.mem_cons, List.not_mem_nil, or_false] at hw
  rcases hw with rfl | rfl | rfl | rfl | rfl | rfl <;> exact va_Nw.warmM hW h1
theorem EV.same {D : va_G} {cA : Nat → ClassId} {s U : State} (hv : s.vm = U.vm) (h : EV D cA s) : EV D cA U := by
  refine ⟨va_K.moved (by rw [hv]; exact Vm.Alike.refl _) h.1, fun w hw => ?_, fun C hC => (h.2.2 C hC).moved (by rw [hv]; exact Vm.Alike.refl _)⟩
  have h1 := h.2.1 w hw
  simp only [nestW, List.mem_cons, List.not_mem_nil, or_false] at hw
  rcases hw with rfl | rfl | rfl | rfl | rfl | rfl <;> exact va_Nw.same rfl hv h1
theorem wl_get {cA : Nat → ClassId} {al : Nat → Nat → Nat} {h : Hp} {L : List (Nat × Nat)} {k n : Nat} (hm : (k, n) ∈ L) : ∃ q0 : Nat, L[q0]? = some (k, n) ∧ (wl cA al h L)[q0]? = some (al k n, cE cA al h k n) := by
  obtain ⟨q0, hq⟩ := List.getElem?_of_mem hm
  exact ⟨q0, hq, by simp [wl, hq]⟩
theorem nodup_get {L : List (Nat × Nat)} (hn : L.Nodup) {i j : Nat} {q : Nat × Nat} (hi : L[i]? = some q) (hj : L[j]? = some q) : i = j := by
  obtain ⟨hi1, hi2⟩ := List.getElem?_eq_some_iff.mp hi
  obtain ⟨hj1, hj2⟩ := List.getElem?_eq_some_iff.mp hj
  rcases Nat.lt_trichotomy i j with g | g | g
  · exact absurd (hi2.trans hj2.symm) (List.pairwise_iff_getElem.mp hn i j hi1 hj1 g)
  · exact g
  · exact absurd (hj2.trans hi2.symm) (List.pairwise_iff_getElem.mp hn j i hj1 hi1 g)
theorem wl_set {cA : Nat → ClassId} {al : Nat → Nat → Nat} {h h' : Hp} {L : List (Nat × Nat)} (hn : L.Nodup) {q0 k n : Nat} (hq : L[q0]? = some (k, n)) (hs : ∀ k' n', ¬ (k' = k ∧ n' = n) → cE cA al h' k' n' = cE cA al h k' n') :
    (wl cA al h L).set q0 (al k n, cE cA al h' k n) = wl cA al h' L := by
  apply List.ext_getElem?
  intro i
  by_cases hi : i = q0
  · subst hi
    have hl : i < (wl cA al h L).length := by simp [wl]; exact (List.getElem?_eq_some_iff.mp hq).1
    rw [List.getElem?_set_self hl]
    simp [wl, hq]
  · rw [List.getElem?_set_ne (Ne.symm hi)]
    simp only [wl, List.getElem?_map]
    cases hL : L[i]? with
    | none => rfl
    | some q =>
      obtain ⟨a, b⟩ := q
      simp only [Option.map_some]
      rw [hs a b (fun e => hi (nodup_get hn hL (by rw [hq, e.1, e.2])))]
theorem cE_obj {cA : Nat → ClassId} {al : Nat → Nat → Nat} {h : Hp} {k n : Nat} (hk : k < 9) : cE cA al h k n = .inr (k, (List.range (nf k)).map (fV al h k n)) := by simp [cE, hk]
theorem cE_arrI {cA : Nat → ClassId} {al : Nat → Nat → Nat} {h : Hp} {k n : Nat} (hk : ¬ k < 9) (he : ael k = none) : cE cA al h k n = .inl (cA (atx k), pL h k n, .inl (fun i => pI h k n i)) := by simp [cE, hk, he]
theorem cE_arrR {cA : Nat → ClassId} {al : Nat → Nat → Nat} {h : Hp} {k n k' : Nat} (hk : ¬ k < 9) (he : ael k = some k') : cE cA al h k n = .inl (cA (atx k), pL h k n, .inr (.inr (.inr (.inr (fun i => (pR h k n i).map (al k')))))) := by simp [cE, hk, he]
theorem cE_wI {cA : Nat → ClassId} {al : Nat → Nat → Nat} {h : Hp} {k n i : Nat} {v : Int32} {k' n' : Nat} (hne : ¬ (k' = k ∧ n' = n)) : cE cA al (wI h k n i v) k' n' = cE cA al h k' n' := by
  have e : ∀ i', pI (wI h k n i v) k' n' i' = pI h k' n' i' := fun i' => by rw [pI_wI, if_neg (fun q => hne ⟨q.1, q.2.1⟩)]
  have f : fV al (wI h k n i v) k' n' = fV al h k' n' := by funext i'; simp only [fV, e, pR_wI]
  simp only [cE, f, e, pL_wI, pR_wI]
theorem cE_wR {cA : Nat → ClassId} {al : Nat → Nat → Nat} {h : Hp} {k n i : Nat} {v : Option Nat} {k' n' : Nat} (hne : ¬ (k' = k ∧ n' = n)) : cE cA al (wR h k n i v) k' n' = cE cA al h k' n' := by
  have e : ∀ i', pR (wR h k n i v) k' n' i' = pR h k' n' i' := fun i' => by rw [pR_wR, if_neg (fun q => hne ⟨q.1, q.2.1⟩)]
  have f : fV al (wR h k n i v) k' n' = fV al h k' n' := by funext i'; simp only [fV, e, pI_wR]
  simp only [cE, f, e, pL_wR, pI_wR]
theorem range_set {α : Type} (f g : Nat → α) {N i : Nat} {v : α} (hi : i < N) (hg : g i = v) (ho : ∀ j, j ≠ i → g j = f j) : ((List.range N).map f).set i v = (List.range N).map g := by
  apply List.ext_getElem?
  intro j
  by_cases hj : j = i
  · subst hj
    rw [List.getElem?_set_self (by simp; exact hi)]
    simp [hi, hg]
  · rw [List.getElem?_set_ne (Ne.symm hj)]
    simp only [List.getElem?_map]
    cases hL : (List.range N)[j]? with
    | none => rfl
    | some q =>
      have : q = j := by
        have := (List.getElem?_eq_some_iff.mp hL).2
        simpa using this.symm
      subst this
      simp [ho q hj]
theorem fV_int {al : Nat → Nat → Nat} {h : Hp} {k n i : Nat} (he : fty k i = none) : fV al h k n i = .int (pI h k n i) := by simp [fV, he]
theorem fV_ref {al : Nat → Nat → Nat} {h : Hp} {k n i k' : Nat} (he : fty k i = some k') : fV al h k n i = va_rf ((pR h k n i).map (al k')) := by simp [fV, he]
theorem fs_wI {al : Nat → Nat → Nat} {h : Hp} {k n i N : Nat} {v : Int32} (he : fty k i = none) (hi : i < N) : ((List.range N).map (fV al h k n)).set i (.int v) = (List.range N).map (fV al (wI h k n i v) k n) := by
  refine range_set _ _ hi ?_ (fun j hj => ?_)
  · rw [fV_int he, pI_wI, if_pos ⟨rfl, rfl, rfl⟩]
  · simp only [fV, pR_wI, pI_wI, hj, and_false, if_false]
theorem fs_wR {al : Nat → Nat → Nat} {h : Hp} {k n i N k' : Nat} {v : Option Nat} (he : fty k i = some k') (hi : i < N) : ((List.range N).map (fV al h k n)).set i (va_rf (v.map (al k'))) = (List.range N).map (fV al (wR h k n i v) k n) := by
  refine range_set _ _ hi ?_ (fun j hj => ?_)
  · rw [fV_ref he, pR_wR, if_pos ⟨rfl, rfl, rfl⟩]
  · simp only [fV, pR_wR, pI_wR, hj, and_false, if_false]
theorem Clo.wI {h : Hp} (hc : Clo h) (k n i : Nat) (v : Int32) : Clo (wI h k n i v) := hc
theorem Clo.wR {h : Hp} (hc : Clo h) (k n i : Nat) (v : Option Nat) (hv : ∀ j, v = some j → j < pC h (rk k i)) : Clo (wR h k n i v) := by
  intro k' n' i' j hj
  rw [pR_wR] at hj
  rw [pC_wR]
  by_cases e : k' = k ∧ n' = n ∧ i' = i
  · rw [if_pos e] at hj
    obtain ⟨rfl, rfl, rfl⟩ := e
    exact hv j hj
  · rw [if_neg e] at hj
    exact hc k' n' i' j hj
theorem Clo.wN {h : Hp} (hc : Clo h) (k len : Nat) : Clo (wN h k len) := by
  intro k' n' i' j hj
  rw [pR_wN] at hj
  rw [pC_wN]
  by_cases e : k' = k ∧ n' = pC h k
  · rw [if_pos e] at hj; cases hj
  · rw [if_neg e] at hj
    have := hc k' n' i' j hj
    split
    · rename_i e2; rw [e2] at this; omega
    · exact this
/-- a new object's place -/
def alN (al : Nat → Nat → Nat) (h : Hp) (k q : Nat) : Nat → Nat → Nat := fun k' n' => if k' = k ∧ n' = pC h k then q else al k' n'
theorem alN_old {al : Nat → Nat → Nat} {h : Hp} {k q k' n' : Nat} (hn : n' < pC h k') : alN al h k q k' n' = al k' n' := by
  unfold alN
  rw [if_neg]
  rintro ⟨rfl, rfl⟩
  omega
theorem alN_new {al : Nat → Nat → Nat} {h : Hp} {k q : Nat} : alN al h k q k (pC h k) = q := by simp [alN]
theorem map_al {al al' : Nat → Nat → Nat} {h : Hp} (hal : ∀ k n, n < pC h k → al' k n = al k n) {o : Option Nat} {k : Nat} (ho : ∀ j, o = some j → j < pC h k) : o.map (al' k) = o.map (al k) := by
  cases o with
  | none => rfl
  | some j => simp [hal k j (ho j rfl)]
theorem cv_al {al al' : Nat → Nat → Nat} {h : Hp} (hal : ∀ k n, n < pC h k → al' k n = al k n) {v : AV} (hv : okV h v) : cv al' v = cv al v := by
  cases v with
  | inl x => rfl
  | inr q => simp only [cv]; rw [map_al hal hv]
theorem cE_wN {cA : Nat → ClassId} {al al' : Nat → Nat → Nat} {h : Hp} (hc : Clo h) {k len k' n' : Nat} (hal : ∀ k n, n < pC h k → al' k n = al k n) (hn : n' < pC h k') : cE cA al' (wN h k len) k' n' = cE cA al h k' n' := by
  have hne : ¬ (k' = k ∧ n' = pC h k) := by rintro ⟨rfl, rfl⟩; omega
  have e1 : ∀ i', pI (wN h k len) k' n' i' = pI h k' n' i' := fun i' => by rw [pI_wN, if_neg hne]
  have e2 : ∀ i', pR (wN h k len) k' n' i' = pR h k' n' i' := fun i' => by rw [pR_wN, if_neg hne]
  have e3 : pL (wN h k len) k' n' = pL h k' n' := by rw [pL_wN, if_neg hne]
  by_cases hk : k' < 9
  · rw [cE_obj hk, cE_obj hk]
    have f : ∀ i', fV al' (wN h k len) k' n' i' = fV al h k' n' i' := by
      intro i'
      cases he : fty k' i' with
      | none => rw [fV_int he, fV_int he, e1]
      | some k'' =>
        rw [fV_ref he, fV_ref he, e2]
        rw [map_al hal (fun j hj => by have := hc k' n' i' j hj; simpa [rk, hk, he] using this)]
    rw [funext f]
  · cases he : ael k' with
    | none => rw [cE_arrI hk he, cE_arrI hk he, e3, funext e1]
    | some k'' =>
      rw [cE_arrR hk he, cE_arrR hk he, e3]
      have f : (fun i => (pR (wN h k len) k' n' i).map (al' k'')) = fun i => (pR h k' n' i).map (al k'') := by
        funext i'
        rw [e2, map_al hal (fun j hj => by have := hc k' n' i' j hj; simpa [rk, hk, he] using this)]
      rw [f]
