theorem lg_len (al : Nat → Nat → Nat) (as : List AV) : (lg_sl (as.map (cv al))).length = as.length := by
  induction as with
  | nil => rfl
  | cons v as ih =>
    simp only [List.map_cons, lg_sl, List.flatMap_cons] at ih ⊢
    rw [if_neg (by rw [cv_cat]; decide)]
    simp only [List.length_append, List.length_cons, List.length_nil, ih]
    omega
theorem lv_args_mem (al : Nat → Nat → Nat) (as : List AV) : ∀ (j i : Nat) (v : AV), as[i]? = some v → (j + i, cv al v) ∈ lv_args j (as.map (cv al)) := by
  induction as with
  | nil => intro j i v h; simp at h
  | cons w as ih =>
    intro j i v h
    simp only [List.map_cons, lv_args]
    rw [if_neg (by rw [cv_cat]; decide)]
    cases i with
    | zero =>
      simp only [List.getElem?_cons_zero, Option.some.injEq] at h
      subst h
      exact List.mem_cons_self
    | succ i =>
      simp only [List.getElem?_cons_succ] at h
      have := ih (j + 1) i v h
      rw [show j + 1 + i = j + (i + 1) by omega] at this
      exact List.mem_cons_of_mem _ this
theorem ls0_get {as : List AV} {n i : Nat} {v : AV} (h : (as.map some ++ List.replicate n none : List (Option AV))[i]? = some (some v)) : as[i]? = some v := by
  by_cases hi : i < as.length
  · rw [List.getElem?_append_left (by simpa using hi)] at h
    simpa using h
  · rw [List.getElem?_append_right (by simpa using Nat.not_lt.mp hi)] at h
    have := List.eq_of_mem_replicate (List.mem_of_getElem? h)
    cases this
section CTR
variable {y : MethodName} {cc : ByteArray} {own : String} {nL d mc ms : Nat} {ini : Prop} {as : List AV} {h hh : Hp} {ls0 : List (Option AV)}
theorem Ctr_of {rt : Option FieldType} {r : Option AV} (hy : plainName y.cls = true) (hown : y.cls = own) (hl : as.length ≤ nL) (hini : ini → y.name = "<init>") (hls : as.map some ++ List.replicate (nL - as.length) none = ls0)
    (body : ∀ (p : Program) (l : Launch) (e : Env) (R : Room) (s : State) (m : MethodId) (args : Array Value) (below : List Frame) (meth : Method) (c : Code) (D : va_G) (cA : Nat → ClassId) (A : Nat → Prop) (al : Nat → Nat → Nat), Cx p R s m args meth c cc own nL d mc ms ini D cA A → meth.sig.returnType = rt → meth.locks = false →
      JW p l e R s m args below meth c nL D cA A al h (MQ below (cQ D cA A al h r hh) args s mc ms A) 0 ls0 [] h 0 0) : Ctr y cc nL rt d mc ms as h r hh := by
  intro l D cA A al hok
  refine Met.ofW (cc := cc) (maxL := nL) (ret := rt) hy rfl ?_
  intro p e s m args below meth c s₁ B hml hv
  obtain ⟨rfl, hA, hR, hE⟩ := hv
  have hts := atoms_spec (ws := Cond.code y cc nL rt :: gws) B.pre
  have X : Cx p { frames := d, cells := mc, slots := ms, locals := 32 * d } s m (as.map (cv al)).toArray meth c cc own nL d mc ms ini D cA A :=
    ⟨B.exec, B.bytes, hml, hown ▸ findClass_of_methodNamed B.named, fun w hw => hts w (List.mem_cons_of_mem _ hw), hE, hA, Nat.le_refl _, Nat.le_refl _, Nat.le_refl _, Nat.le_refl _, fun h => (name_of_methodNamed B.named B.method).1.trans (hini h)⟩
  rw [lg_entry_eq]
  have hlv := lv_entry (as.map (cv al)) (n := nL) (by rw [lg_len]; exact hl)
  subst hls
  exact body p l e _ s m _ below meth c D cA A al X B.returns B.notSynchronized al s.heap [] _ (fun _ _ _ => rfl) (fun _ => Nat.le_refl _) hR va_S.rf (fun i v hv => hok v (List.mem_of_getElem? (ls0_get hv))) (fun v hv => by cases hv) ⟨hlv.1, hlv.2.1, fun q hq => by
    obtain ⟨w, hw, e⟩ := la_mem.mp hq
    obtain ⟨i, u⟩ := q
    dsimp only at hw e
    subst e
    have := lv_args_mem al as 0 i w (ls0_get hw)
    rw [Nat.zero_add] at this
    exact hlv.2.2 _ this⟩
theorem Ctr_i {x : Int32} (hy : plainName y.cls = true) (hown : y.cls = own) (hl : as.length ≤ nL) (hini : ini → y.name = "<init>") (hls : as.map some ++ List.replicate (nL - as.length) none = ls0)
    (body : ∀ J : JT, Rules cc own nL d mc ms ini J → (∀ {pc a b : Nat} {ls : List (Option AV)}, decode cc pc = .ok (.ireturn, 1) → a ≤ mc → b ≤ ms → J pc ls [.inl x] hh a b) → J 0 ls0 [] h 0 0) : Ctr y cc nL (some .int) d mc ms as h (some (.inl x)) hh := by
  refine Ctr_of hy hown hl hini hls ?_
  intro p l e R s m args below meth c D cA A al X hr hlk
  refine body _ (JW_rules X) ?_
  intro pc a b ls hd ha hb al' H locs lsA g1 g2 g3 g4 g5 g6 g7
  refine W.widen ha hb ?_
  exact W.iret X.1 X.2.1 hr (fun t ht hW => ⟨⟨al', rfl, g1, g2, fun v e => by cases e; trivial, by rw [ht]; exact g3⟩, g4.F ht⟩) g4.2.2 hd hlk
theorem Ctr_z {x : Int32} (hy : plainName y.cls = true) (hown : y.cls = own) (hl : as.length ≤ nL) (hini : ini → y.name = "<init>") (hls : as.map some ++ List.replicate (nL - as.length) none = ls0)
    (body : ∀ J : JT, Rules cc own nL d mc ms ini J → (∀ {pc a b : Nat} {ls : List (Option AV)}, decode cc pc = .ok (.ireturn, 1) → (x = 0 ∨ x = 1) → a ≤ mc → b ≤ ms → J pc ls [.inl x] hh a b) → J 0 ls0 [] h 0 0) : Ctr y cc nL (some .boolean) d mc ms as h (some (.inl x)) hh := by
  refine Ctr_of hy hown hl hini hls ?_
  intro p l e R s m args below meth c D cA A al X hr hlk
  refine body _ (JW_rules X) ?_
  intro pc a b ls hd hx ha hb al' H locs lsA g1 g2 g3 g4 g5 g6 g7
  refine W.widen ha hb ?_
  exact W.zret X.1 X.2.1 hr (nar_z hx).1 (fun t ht hW => ⟨⟨al', rfl, g1, g2, fun v e => by cases e; trivial, by rw [ht]; exact g3⟩, g4.F ht⟩) g4.2.2 hd hlk
theorem Ctr_a {k : Nat} {o : Option Nat} {C : String} (hy : plainName y.cls = true) (hown : y.cls = own) (hl : as.length ≤ nL) (hini : ini → y.name = "<init>") (hls : as.map some ++ List.replicate (nL - as.length) none = ls0)
    (body : ∀ J : JT, Rules cc own nL d mc ms ini J → (∀ {pc a b k2 : Nat} {ls : List (Option AV)}, decode cc pc = .ok (.areturn, 1) → (o = none ∨ k2 = k) → a ≤ mc → b ≤ ms → J pc ls [.inr (k2, o)] hh a b) → J 0 ls0 [] h 0 0) : Ctr y cc nL (some (.object C)) d mc ms as h (some (.inr (k, o))) hh := by
  refine Ctr_of hy hown hl hini hls ?_
  intro p l e R s m args below meth c D cA A al X hr hlk
  refine body _ (JW_rules X) ?_
  intro pc a b k2 ls hd hk ha hb al' H locs lsA g1 g2 g3 g4 g5 g6 g7
  refine W.widen ha hb ?_
  have hov : okV hh (.inr (k, o)) := by
    rcases hk with rfl | rfl
    · intro n e; cases e
    · exact okS_h g6
  have hcv : cv al' (.inr (k2, o)) = cv al' (.inr (k, o)) := by
    rcases hk with rfl | rfl <;> rfl
  rw [List.map_cons, hcv]
  exact W.aret X.1 X.2.1 hr (Or.inl ⟨C, rfl⟩) (va_rf_or _) (fun t ht hW => ⟨⟨al', rfl, g1, g2, fun v e => by cases e; exact hov, by rw [ht]; exact g3⟩, g4.F ht⟩) g4.2.2 hd hlk
theorem Ctr_v (hy : plainName y.cls = true) (hown : y.cls = own) (hl : as.length ≤ nL) (hini : ini → y.name = "<init>") (hls : as.map some ++ List.replicate (nL - as.length) none = ls0)
    (body : ∀ J : JT, Rules cc own nL d mc ms ini J → (∀ {pc a b : Nat} {ls : List (Option AV)}, decode cc pc = .ok (.return_, 1) → a ≤ mc → b ≤ ms → J pc ls [] hh a b) → J 0 ls0 [] h 0 0) : Ctr y cc nL none d mc ms as h none hh := by
  refine Ctr_of hy hown hl hini hls ?_
  intro p l e R s m args below meth c D cA A al X hr hlk
  refine body _ (JW_rules X) ?_
  intro pc a b ls hd ha hb al' H locs lsA g1 g2 g3 g4 g5 g6 g7
  refine W.widen ha hb ?_
  exact W.vret X.1 X.2.1 hr (fun t ht hW => ⟨⟨al', rfl, g1, g2, fun v e => (by cases e), by rw [ht]; exact g3⟩, g4.F ht⟩) g4.2.2 hd hlk
end CTR
/-! how a method's function is written -/
def nn {β : Type} (r : Option Nat) (f : Nat → Option β) : Option β := match r with
  | none => none
  | some n => f n
def onn {β : Type} (r : Option Nat) (f : Option β) (g : Nat → Option β) : Option β := match r with
  | none => f
  | some n => g n
def ck {β : Type} (c : Bool) (f : Option β) : Option β := match c with
  | true => f
  | false => none
def lt {γ β : Type} (x : γ) (f : γ → β) : β := f x
def cl {γ β : Type} (c : Option (γ × Hp)) (f : γ → Hp → Option β) : Option β := match c with
  | none => none
  | some q => f q.1 q.2
theorem nn_S {β : Type} {r : Option Nat} {f : Nat → Option β} {o : β} (h : nn r f = some o) : ∃ n, r = some n ∧ f n = some o := by
  cases r with
  | none => cases h
  | some n => exact ⟨n, rfl, h⟩
theorem onn_N {β : Type} {r : Option Nat} {f : Option β} {g : Nat → Option β} {o : Option β} (e : r = none) (h : onn r f g = o) : f = o := by subst e; exact h
theorem onn_J {β : Type} {r : Option Nat} {f : Option β} {g : Nat → Option β} {o : Option β} {n : Nat} (e : r = some n) (h : onn r f g = o) : g n = o := by subst e; exact h
theorem ck_S {β : Type} {c : Bool} {f : Option β} {o : β} (h : ck c f = some o) : c = true ∧ f = some o := by
  cases c with
  | true => exact ⟨rfl, h⟩
  | false => cases h
theorem lt_S {γ β : Type} {x : γ} {f : γ → β} {o : β} (h : lt x f = o) : ∃ y, y = x ∧ f y = o := ⟨x, rfl, h⟩
theorem cl_S {γ β : Type} {c : Option (γ × Hp)} {f : γ → Hp → Option β} {o : β} (h : cl c f = some o) : ∃ r h1, c = some (r, h1) ∧ f r h1 = some o := by
  cases c with
  | none => cases h
  | some q => exact ⟨q.1, q.2, rfl, h⟩
theorem ite_T {β : Type} {c : Prop} {hd : Decidable c} {f g o : β} (hc : c) (h : (@ite _ c hd f g) = o) : f = o := by rw [if_pos hc] at h; exact h
theorem ite_F {β : Type} {c : Prop} {hd : Decidable c} {f g o : β} (hc : ¬ c) (h : (@ite _ c hd f g) = o) : g = o := by rw [if_neg hc] at h; exact h
def isz (x : Int32) : Bool := decide (x = 0 ∨ x = 1)
theorem isz_S {x : Int32} (h : isz x = true) : x = 0 ∨ x = 1 := by simpa [isz] using h
theorem addI {x : Int32} {n : Int} {k : Int32} (h : Int32.ofInt n = k) : x + Int32.ofInt n = x + k := by rw [h]
def nz (y : Int32) : Bool := decide (¬ y = 0)
theorem nz_S {y : Int32} (h : nz y = true) : ¬ y = 0 := by simpa [nz] using h
def lnok (n : Int32) (N : Nat) : Bool := decide (¬ n < 0) && decide (n.toNatClampNeg ≤ N)
theorem lnok_S {n : Int32} {N : Nat} (h : lnok n N = true) : ¬ n < 0 ∧ n.toNatClampNeg ≤ N := by simpa [lnok] using h
theorem ret_S {γ : Type} {x x2 : γ} {h h2 : Hp} (e : some (x, h) = some (x2, h2)) : x = x2 ∧ h = h2 := by
  injection e with e
  injection e with e1 e2
  exact ⟨e1, e2⟩
def FU : Nat := 5000
theorem i32_ne {x k : Int32} (h : ¬ x = k) : x.toInt ≠ k.toInt := fun e => h (Int32.toInt_inj.mp e)
