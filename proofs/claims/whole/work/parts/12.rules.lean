/-! the judgement over kinds -/
abbrev JT : Type := Nat → List (Option AV) → List AV → Hp → Nat → Nat → Prop
def inb (x : Int32) (n : Nat) : Bool := decide (¬ x < 0) && decide (x.toNatClampNeg < n)
theorem inb_in {x : Int32} {n : Nat} (h : inb x n = true) : vp_in x n := by
  simp only [inb, Bool.and_eq_true, decide_eq_true_eq] at h
  intro q
  rcases q with q | q
  · exact h.1 q
  · omega
theorem cv_cat (al : Nat → Nat → Nat) (v : AV) : (cv al v).category = 1 := by
  cases v with
  | inl x => rfl
  | inr q => cases q with
    | mk k r => cases r <;> rfl
theorem cat_sum {al : Nat → Nat → Nat} {st : List AV} : ((st.map (cv al)).map fun v => v.category).sum = st.length := by
  induction st with
  | nil => rfl
  | cons v st ih =>
    simp only [List.map_cons, List.sum_cons, List.length_cons, cv_cat, ih]
    omega
theorem okS_c {h : Hp} {v : AV} {st : List AV} (hv : okV h v) (hs : ∀ w ∈ st, okV h w) : ∀ w ∈ v :: st, okV h w := fun w hw => by
  rcases List.mem_cons.mp hw with rfl | hw
  · exact hv
  · exact hs w hw
theorem okS_i {h : Hp} {x : Int32} {st : List AV} (hs : ∀ w ∈ st, okV h w) : ∀ w ∈ (.inl x :: st : List AV), okV h w := okS_c trivial hs
theorem okS_t {h : Hp} {v : AV} {st : List AV} (hs : ∀ w ∈ v :: st, okV h w) : ∀ w ∈ st, okV h w := fun w hw => hs w (List.mem_cons_of_mem _ hw)
theorem okS_h {h : Hp} {v : AV} {st : List AV} (hs : ∀ w ∈ v :: st, okV h w) : okV h v := hs v List.mem_cons_self
theorem okL_set {h : Hp} {ls : List (Option AV)} {i : Nat} {v : AV} (hs : ∀ (i : Nat) (v : AV), ls[i]? = some (some v) → okV h v) (hv : okV h v) : ∀ (j : Nat) (w : AV), (ls.set i (some v))[j]? = some (some w) → okV h w := by
  intro j w hw
  by_cases hj : i = j
  · subst hj
    rw [List.getElem?_set] at hw
    simp only [if_true] at hw
    split at hw
    · cases hw; exact hv
    · cases hw
  · rw [List.getElem?_set_ne hj] at hw
    exact hs j w hw
def la (al : Nat → Nat → Nat) (ls : List (Option AV)) : List (Nat × Value) := (List.range ls.length).filterMap (fun j => match ls[j]? with
  | some (some w) => some (j, cv al w)
  | _ => none)
theorem la_mem {al : Nat → Nat → Nat} {ls : List (Option AV)} {q : Nat × Value} : q ∈ la al ls ↔ ∃ w, ls[q.1]? = some (some w) ∧ q.2 = cv al w := by
  unfold la
  rw [List.mem_filterMap]
  constructor
  · rintro ⟨j, hj, hq⟩
    split at hq
    · rename_i w hw
      cases hq
      exact ⟨w, hw, rfl⟩
    · cases hq
  · rintro ⟨w, hw, e⟩
    refine ⟨q.1, List.mem_range.mpr (List.getElem?_eq_some_iff.mp hw).1, ?_⟩
    rw [hw]
    simp [← e]
theorem la_at {al : Nat → Nat → Nat} {ls : List (Option AV)} {lsA : Array Slot} {nL i : Nat} {v : AV} (h : lv_has lsA nL (la al ls)) (hl : ls[i]? = some (some v)) : lsA[i]? = some (.val (cv al v)) := h.2.2 (i, cv al v) (la_mem.mpr ⟨v, hl, rfl⟩)
theorem la_set {al : Nat → Nat → Nat} {ls : List (Option AV)} {lsA : Array Slot} {nL i : Nat} {v : AV} (h : lv_has lsA nL ((i, cv al v) :: (la al ls).filter (fun q => !(q.1 == i) && !(q.1 + 1 == i && q.2.category == 2)))) : lv_has lsA nL (la al (ls.set i (some v))) := by
  refine ⟨h.1, h.2.1, fun q hq => ?_⟩
  obtain ⟨w, hw, e⟩ := la_mem.mp hq
  obtain ⟨j, u⟩ := q
  dsimp only at hw e
  subst e
  by_cases hj : i = j
  · subst hj
    rw [List.getElem?_set] at hw
    simp only [if_true] at hw
    split at hw
    · cases hw; exact h.2.2 _ List.mem_cons_self
    · cases hw
  · rw [List.getElem?_set_ne hj] at hw
    refine h.2.2 _ (List.mem_cons_of_mem _ (List.mem_filter.mpr ⟨la_mem.mpr ⟨w, hw, rfl⟩, ?_⟩))
    simp [cv_cat, Ne.symm hj]
theorem la_al {al al' : Nat → Nat → Nat} {h : Hp} {ls : List (Option AV)} {lsA : Array Slot} {nL : Nat} (hal : ∀ k n, n < pC h k → al' k n = al k n) (hs : ∀ (i : Nat) (v : AV), ls[i]? = some (some v) → okV h v) (hl : lv_has lsA nL (la al ls)) : lv_has lsA nL (la al' ls) := by
  refine ⟨hl.1, hl.2.1, fun q hq => ?_⟩
  obtain ⟨w, hw, e⟩ := la_mem.mp hq
  rw [cv_al hal (hs _ _ hw)] at e
  exact hl.2.2 q (la_mem.mpr ⟨w, hw, e⟩)
theorem map_cv {al al' : Nat → Nat → Nat} {h : Hp} {st : List AV} (hal : ∀ k n, n < pC h k → al' k n = al k n) (hs : ∀ v ∈ st, okV h v) : st.map (cv al') = st.map (cv al) := List.map_congr_left (fun v hv => cv_al hal (hs v hv))
theorem pC_grow (h : Hp) (k len k' : Nat) : pC h k' ≤ pC (wN h k len) k' := by
  rw [pC_wN]
  split
  · rename_i e; rw [e]; omega
  · exact Nat.le_refl _
theorem okV_mono {h h' : Hp} (hm : ∀ k, pC h k ≤ pC h' k) {v : AV} (hv : okV h v) : okV h' v := by
  cases v with
  | inl x => trivial
  | inr q => exact fun n e => Nat.lt_of_lt_of_le (hv n e) (hm _)
theorem okV_grow {h : Hp} {k len : Nat} {v : AV} (hv : okV h v) : okV (wN h k len) v := okV_mono (pC_grow h k len) hv
theorem okV_new (h : Hp) (k len : Nat) : okV (wN h k len) (.inr (k, some (pC h k))) := by
  intro n e
  cases e
  show pC h k < pC (wN h k len) k
  rw [pC_wN, if_pos rfl]
  omega
theorem al_inj {D : va_G} {cA : Nat → ClassId} {A : Nat → Prop} {al : Nat → Nat → Nat} {h : Hp} {H : Heap} (g3 : Rep D cA A al h H) {k : Nat} (hk : k < 99) {r1 r2 : Option Nat} (h1 : okV h (.inr (k, r1))) (h2 : okV h (.inr (k, r2))) : (r1.map (al k) = r2.map (al k)) ↔ r1 = r2 := by
  refine ⟨fun e => ?_, fun e => by rw [e]⟩
  cases r1 with
  | none => cases r2 with
    | none => rfl
    | some y => cases e
  | some x => cases r2 with
    | none => cases e
    | some y =>
      obtain ⟨L, l1, l2, l3, l4⟩ := g3.2
      obtain ⟨q0, p1, p2⟩ := wl_get (cA := cA) (al := al) (h := h) ((l2 (k, x)).mpr ⟨h1 x rfl, hk⟩)
      obtain ⟨q1, s1, s2⟩ := wl_get (cA := cA) (al := al) (h := h) ((l2 (k, y)).mpr ⟨h2 y rfl, hk⟩)
      have := l4.1 q0 q1 _ _ p2 s2 (Option.some.inj e)
      subst this
      rw [p1] at s1
      cases s1
      rfl
theorem rep_new {D : va_G} {cA : Nat → ClassId} {A : Nat → Prop} {al : Nat → Nat → Nat} {h : Hp} {H H1 : Heap} {k len q : Nat} {e : va_E} {L : List (Nat × Nat)} (hk : k < 99) (g3 : Rep D cA A al h H) (l1 : L.Nodup) (l2 : ∀ q, q ∈ L ↔ q.2 < pC h q.1 ∧ q.1 < 99)
    (he : cE cA (alN al h k q) (wN h k len) k (pC h k) = e) (r1 : va_P D vwCl (wl cA al h L ++ [(q, e)]) H1) (r2 : va_D A (wl cA al h L ++ [(q, e)])) : Rep D cA A (alN al h k q) (wN h k len) H1 := by
  have hal : ∀ k' n', n' < pC h k' → alN al h k q k' n' = al k' n' := fun k' n' hn => alN_old hn
  have ew : wl cA (alN al h k q) (wN h k len) (L ++ [(k, pC h k)]) = wl cA al h L ++ [(q, e)] := by
    unfold wl
    rw [List.map_append]
    congr 1
    · refine List.map_congr_left (fun x hx => ?_)
      have hx' := ((l2 x).mp hx).1
      rw [hal _ _ hx', cE_wN g3.1 hal hx']
    · simp only [List.map_cons, List.map_nil, alN_new, he]
  refine ⟨g3.1.wN k len, L ++ [(k, pC h k)], ?_, fun x => ?_, by rw [ew]; exact r1, by rw [ew]; exact r2⟩
  · rw [List.nodup_append]
    refine ⟨l1, by simp, fun a ha b hb => ?_⟩
    simp only [List.mem_singleton] at hb
    subst hb
    rintro rfl
    have := ((l2 _).mp ha).1
    dsimp only at this
    omega
  · rw [List.mem_append, List.mem_singleton, l2, pC_wN]
    obtain ⟨x1, x2⟩ := x
    simp only [Prod.mk.injEq]
    split
    · rename_i e1
      subst e1
      constructor
      · rintro (z | z) <;> omega
      · intro z
        rcases Nat.lt_or_eq_of_le (Nat.le_of_lt_succ z.1) with w | w
        · exact Or.inl ⟨w, z.2⟩
        · exact Or.inr ⟨rfl, w⟩
    · rename_i e1
      constructor
      · rintro (z | z)
        · exact z
        · exact absurd z.1 e1
      · exact Or.inl
theorem rf_ok {ty : FieldType} {o : Option Nat} (ht : isRT ty = true) : narrow ty (va_rf o) = va_rf o ∧ fits ty (va_rf o) = true := by
  cases ty <;> first | (cases o <;> exact ⟨rfl, rfl⟩) | (simp [isRT] at ht)
theorem nar_bool {v : Int32} (hv : v = 0 ∨ v = 1) : vp_nar .boolean v = v := by
  rcases hv with rfl | rfl <;> decide
theorem nar_i {v : Int32} : narrow .int (.int v) = .int v ∧ fits .int (.int v) = true := ⟨rfl, rfl⟩
theorem nar_z {v : Int32} (hv : v = 0 ∨ v = 1) : narrow .boolean (.int v) = .int v ∧ fits .boolean (.int v) = true := by
  rcases hv with rfl | rfl <;> decide
theorem dflt_ok {k j : Nat} (hk : k < 9) (hj : j < nf k) : defaultValue (kY k j) = vp_V ((List.range (nf k)).map (fun i => match fty k i with | none => Value.int 0 | some _ => .null)) j := by
  have h1 := kft k hk j hj
  simp only [vp_V, List.getD_eq_getElem?_getD, List.getElem?_map, List.getElem?_range hj, Option.map_some, Option.getD_some]
  cases he : fty k j with
  | none =>
    rw [he] at h1
    rcases h1.2 h1.1 with e | e <;> rw [e] <;> rfl
  | some k2 =>
    rw [he] at h1
    have h2 := h1.1
    revert h2
    cases kY k j <;> simp [isRT, defaultValue]
/-! what the tables say of one instruction -/
def FI (own : String) (ix k i : Nat) : Prop := k < 9 ∧ i < nf k ∧ fty k i = none ∧ Cond.fieldLink own ix (kT k i).1 (kT k i).2.1 (kT k i).2.2.1 ∈ gws
def FR (own : String) (ix k i k2 : Nat) : Prop := k < 9 ∧ i < nf k ∧ fty k i = some k2 ∧ Cond.fieldLink own ix (kT k i).1 (kT k i).2.1 (kT k i).2.2.1 ∈ gws
def AI (k : Nat) : Prop := ¬ k < 9 ∧ ael k = none ∧ atx k = 0 ∧ k < 99
def AZ (k : Nat) : Prop := ¬ k < 9 ∧ ael k = none ∧ atx k = 1 ∧ k < 99
def AR (k k2 : Nat) : Prop := ¬ k < 9 ∧ ael k = some k2 ∧ k2 < 9 ∧ k < 99 ∧ ∀ cA : Nat → ClassId, (tysL cA)[atx k]? = some (cA (atx k), .object (kR k2))
def NO (own : String) (ix k : Nat) : Prop := k < 9 ∧ Cond.classLink own ix (kR k) ∈ gws ∧ Cond.instantiable (kR k) (nf k) ∈ gws ∧ Cond.initialized (kR k) ∈ gws
def yOK (y : MethodName) (np ml : Nat) : Prop := (y.cls ≠ "java/lang/invoke/MethodHandle" ∧ y.cls ≠ "java/lang/invoke/VarHandle") ∧ (parseMethodDescriptor y.desc).map (fun d => d.parameters.length) = some np ∧ ml ≤ 13
def CV (own : String) (ix : Nat) (y : MethodName) (cy : ByteArray) (ml : Nat) (rt : Option FieldType) (np : Nat) : Prop := Cond.methodLink own ix y ∈ gws ∧ Cond.instanceMethod y ∈ gws ∧ Cond.selects y.cls y y ∈ gws ∧ Cond.initialized y.cls ∈ gws ∧ Cond.code y cy ml rt ∈ gws ∧ yOK y np ml
def CS (own : String) (ix : Nat) (y : MethodName) (cy : ByteArray) (ml : Nat) (rt : Option FieldType) (np : Nat) : Prop := Cond.methodLink own ix y ∈ gws ∧ Cond.static y ∈ gws ∧ Cond.initialized y.cls ∈ gws ∧ Cond.code y cy ml rt ∈ gws ∧ yOK y np ml
def CSN (own : String) (ix : Nat) (y : MethodName) (cy : ByteArray) (ml : Nat) (rt : Option FieldType) (np : Nat) (host : String) : Prop := Cond.methodLinkNest own ix y host ∈ nestW ∧ Cond.static y ∈ gws ∧ Cond.initialized y.cls ∈ gws ∧ Cond.code y cy ml rt ∈ gws ∧ yOK y np ml
def CI (own : String) (ix : Nat) (y : MethodName) (cy : ByteArray) (ml : Nat) (np : Nat) : Prop := Cond.methodLink own ix y ∈ gws ∧ Cond.instanceMethod y ∈ gws ∧ Cond.initialized y.cls ∈ gws ∧ Cond.code y cy ml none ∈ gws ∧ (y.cls ≠ "java/lang/invoke/MethodHandle" ∧ y.cls ≠ "java/lang/invoke/VarHandle") ∧ (parseMethodDescriptor y.desc).map (fun d => d.parameters.length) = some np ∧ ml ≤ 13 ∧ y.name = "<init>"
def CIN (own : String) (ix : Nat) (y : MethodName) (cy : ByteArray) (ml : Nat) (np : Nat) (host : String) : Prop := Cond.methodLinkNest own ix y host ∈ nestW ∧ Cond.instanceMethod y ∈ gws ∧ Cond.initialized y.cls ∈ gws ∧ Cond.code y cy ml none ∈ gws ∧ (y.cls ≠ "java/lang/invoke/MethodHandle" ∧ y.cls ≠ "java/lang/invoke/VarHandle") ∧ (parseMethodDescriptor y.desc).map (fun d => d.parameters.length) = some np ∧ ml ≤ 13 ∧ y.name = "<init>"
/-! a method's contract: from h with the arguments as it answers r, and the heap is h' -/
def cP (D : va_G) (cA : Nat → ClassId) (A : Nat → Prop) (al : Nat → Nat → Nat) (as : List AV) (h : Hp) : Array Value → State → Prop := va_Pc (as.map (cv al)) (fun U => (∀ q, U.heap.size ≤ q → A q) ∧ Rep D cA A al h U.heap ∧ EV D cA U)
def cQ (D : va_G) (cA : Nat → ClassId) (A : Nat → Prop) (al : Nat → Nat → Nat) (h : Hp) (r : Option AV) (h2 : Hp) : Array Value → State → Outcome → State → Prop := fun _ st oc t => (∃ al', oc = .returned (r.map (cv al')) ∧ (∀ k n, n < pC h k → al' k n = al k n) ∧ (∀ k, pC h k ≤ pC h2 k) ∧ (∀ v, r = some v → okV h2 v) ∧ Rep D cA A al' h2 t.heap) ∧ va_F A st t
def Ctr (y : MethodName) (cy : ByteArray) (ml : Nat) (rt : Option FieldType) (d mc ms : Nat) (as : List AV) (h : Hp) (r : Option AV) (h2 : Hp) : Prop := ∀ (l : Launch) (D : va_G) (cA : Nat → ClassId) (A : Nat → Prop) (al : Nat → Nat → Nat), (∀ v ∈ as, okV h v) → Met l y (Cond.code y cy ml rt :: gws) { frames := d, cells := mc, slots := ms, locals := 32 * d } (cP D cA A al as h) (cQ D cA A al h r h2) mc ms A
theorem cQ_blind {D : va_G} {cA : Nat → ClassId} {A : Nat → Prop} {al : Nat → Nat → Nat} {as : List AV} {h : Hp} : FrameBlind (cP D cA A al as h) := fun a U g mk q => ⟨q.1, q.2.1, q.2.2.1, EV.same (s := U) rfl q.2.2.2⟩
def Cx (p : Program) (R : Room) (s : State) (m : MethodId) (args : Array Value) (meth : Method) (c : Code) (cc : ByteArray) (own : String) (nL d mc ms : Nat) (ini : Prop) (D : va_G) (cA : Nat → ClassId) (A : Nat → Prop) : Prop :=
  p.tables.exec = Jvm.exec ∧ c.code = cc ∧ c.maxLocals = nL ∧ s.vm.findClass own = some m.cls ∧ (∀ w ∈ gws, w.before args s = true) ∧ EV D cA s ∧ (∀ q, s.heap.size ≤ q → A q) ∧ d ≤ R.frames ∧ mc ≤ R.cells ∧ ms ≤ R.slots ∧ 32 * d ≤ R.locals ∧ (ini → meth.name = "<init>")
def JW (p : Program) (l : Launch) (e : Env) (R : Room) (s : State) (m : MethodId) (args : Array Value) (below : List Frame) (meth : Method) (c : Code) (nL : Nat) (D : va_G) (cA : Nat → ClassId) (A : Nat → Prop) (al0 : Nat → Nat → Nat) (h0 : Hp) (Q : State → Prop) : JT := fun pc ls st h a b =>
  ∀ (al : Nat → Nat → Nat) (H : Heap) (locs : List Loc) (lsA : Array Slot), (∀ k n, n < pC h0 k → al k n = al0 k n) → (∀ k, pC h0 k ≤ pC h k) → Rep D cA A al h H → va_S A s.heap H locs → (∀ (i : Nat) (v : AV), ls[i]? = some (some v) → okV h v) → (∀ v ∈ st, okV h v) → lv_has lsA nL (la al ls) → W p l e R s m args below meth c H locs a b Q (F0 m pc lsA (st.map (cv al)))
theorem gw_oi : Cond.instanceMethod objectInit ∈ gws := gw 57 (by decide +kernel) rfl
theorem gw_oc : Cond.code objectInit ⟨#[0xb1]⟩ 1 none ∈ gws := gw 58 (by decide +kernel) rfl
theorem gw_maxs : Cond.static Lib.Math.max.name ∈ gws := gw 96 (by decide +kernel) rfl
theorem gw_maxc : Cond.code Lib.Math.max.name Lib.Math.max.code 2 (some .int) ∈ gws := gw 97 (by decide +kernel) rfl
theorem gw_mins : Cond.static Lib.Math.min.name ∈ gws := gw 422 (by decide +kernel) rfl
theorem gw_minc : Cond.code Lib.Math.min.name Lib.Math.min.code 2 (some .int) ∈ gws := gw 423 (by decide +kernel) rfl
theorem gw_math : Cond.initialized "java/lang/Math" ∈ gws := gw 44 (by decide +kernel) rfl
theorem gw_int : Cond.arrayClass (newarray.typeOf .int) ∈ gws := gw 111 (by decide +kernel) rfl
theorem gw_boolean : Cond.arrayClass (newarray.typeOf .boolean) ∈ gws := gw 889 (by decide +kernel) rfl
def subL : List (Option AV) → List (Option AV) → Prop
  | [], _ => True
  | none :: l2, l1 => subL l2 l1.tail
  | some v :: l2, l1 => l1.head? = some (some v) ∧ subL l2 l1.tail
theorem subL_get : ∀ (l2 l1 : List (Option AV)), subL l2 l1 → ∀ (i : Nat) (v : AV), l2[i]? = some (some v) → l1[i]? = some (some v)
  | [], _, _, i, v, h => by simp at h
  | none :: l2, l1, hs, i, v, h => by
    cases i with
    | zero => simp at h
    | succ i =>
      rw [List.getElem?_cons_succ] at h
      have := subL_get l2 l1.tail hs i v h
      rwa [List.getElem?_tail] at this
  | some w :: l2, l1, hs, i, v, h => by
    cases i with
    | zero =>
      rw [List.getElem?_cons_zero] at h
      cases h
      rw [← List.head?_eq_getElem?]
      exact hs.1
    | succ i =>
      rw [List.getElem?_cons_succ] at h
      have := subL_get l2 l1.tail hs.2 i v h
      rwa [List.getElem?_tail] at this

abbrev rl_iconst (cc : ByteArray) (own : String) (nL d mc ms : Nat) (ini : Prop) (J : JT) : Prop := ∀ {pc a b : Nat} {ls : List (Option AV)} {st : List AV} {h : Hp} {n : Int} {v : Int32}, decode cc pc = .ok (.iconst n, 1) → Int32.ofInt n = v → J (pc + 1) ls (.inl v :: st) h a b → J pc ls st h a b
abbrev rl_bipush (cc : ByteArray) (own : String) (nL d mc ms : Nat) (ini : Prop) (J : JT) : Prop := ∀ {pc a b : Nat} {ls : List (Option AV)} {st : List AV} {h : Hp} {n : Int} {v : Int32}, decode cc pc = .ok (.bipush n, 2) → (Int8.ofInt n).toInt32 = v → J (pc + 2) ls (.inl v :: st) h a b → J pc ls st h a b
abbrev rl_sipush (cc : ByteArray) (own : String) (nL d mc ms : Nat) (ini : Prop) (J : JT) : Prop := ∀ {pc a b : Nat} {ls : List (Option AV)} {st : List AV} {h : Hp} {n : Int} {v : Int32}, decode cc pc = .ok (.sipush n, 3) → (Int16.ofInt n).toInt32 = v → J (pc + 3) ls (.inl v :: st) h a b → J pc ls st h a b
abbrev rl_ldc (cc : ByteArray) (own : String) (nL d mc ms : Nat) (ini : Prop) (J : JT) : Prop := ∀ {pc a b : Nat} {ls : List (Option AV)} {st : List AV} {h : Hp} {ix : Nat} {v : Int32}, decode cc pc = .ok (.ldc ix, 2) → Cond.constant own ix v ∈ gws → J (pc + 2) ls (.inl v :: st) h a b → J pc ls st h a b
abbrev rl_ldc_w (cc : ByteArray) (own : String) (nL d mc ms : Nat) (ini : Prop) (J : JT) : Prop := ∀ {pc a b : Nat} {ls : List (Option AV)} {st : List AV} {h : Hp} {ix : Nat} {v : Int32}, decode cc pc = .ok (.ldc_w ix, 3) → Cond.constant own ix v ∈ gws → J (pc + 3) ls (.inl v :: st) h a b → J pc ls st h a b
abbrev rl_iload_n (cc : ByteArray) (own : String) (nL d mc ms : Nat) (ini : Prop) (J : JT) : Prop := ∀ {pc a b : Nat} {ls : List (Option AV)} {st : List AV} {h : Hp} {q : Fin 4} {i : Nat} {x : Int32}, decode cc pc = .ok (.iload_n q, 1) → (q : Nat) = i → ls[i]? = some (some (.inl x)) → J (pc + 1) ls (.inl x :: st) h a b → J pc ls st h a b
abbrev rl_iload (cc : ByteArray) (own : String) (nL d mc ms : Nat) (ini : Prop) (J : JT) : Prop := ∀ {pc a b : Nat} {ls : List (Option AV)} {st : List AV} {h : Hp} {i : Nat} {x : Int32}, decode cc pc = .ok (.iload i, 2) → ls[i]? = some (some (.inl x)) → J (pc + 2) ls (.inl x :: st) h a b → J pc ls st h a b
abbrev rl_aload_n (cc : ByteArray) (own : String) (nL d mc ms : Nat) (ini : Prop) (J : JT) : Prop := ∀ {pc a b : Nat} {ls : List (Option AV)} {st : List AV} {h : Hp} {q : Fin 4} {i kk : Nat} {r : Option Nat}, decode cc pc = .ok (.aload_n q, 1) → (q : Nat) = i → ls[i]? = some (some (.inr (kk, r))) → J (pc + 1) ls (.inr (kk, r) :: st) h a b → J pc ls st h a b
abbrev rl_aload (cc : ByteArray) (own : String) (nL d mc ms : Nat) (ini : Prop) (J : JT) : Prop := ∀ {pc a b : Nat} {ls : List (Option AV)} {st : List AV} {h : Hp} {i kk : Nat} {r : Option Nat}, decode cc pc = .ok (.aload i, 2) → ls[i]? = some (some (.inr (kk, r))) → J (pc + 2) ls (.inr (kk, r) :: st) h a b → J pc ls st h a b
abbrev rl_istore_n (cc : ByteArray) (own : String) (nL d mc ms : Nat) (ini : Prop) (J : JT) : Prop := ∀ {pc a b : Nat} {ls : List (Option AV)} {st : List AV} {h : Hp} {q : Fin 4} {i : Nat} {x : Int32} {ls2 : List (Option AV)}, decode cc pc = .ok (.istore_n q, 1) → (q : Nat) = i → i < nL → ls.set i (some (.inl x)) = ls2 → J (pc + 1) ls2 st h a b → J pc ls (.inl x :: st) h a b
abbrev rl_istore (cc : ByteArray) (own : String) (nL d mc ms : Nat) (ini : Prop) (J : JT) : Prop := ∀ {pc a b : Nat} {ls : List (Option AV)} {st : List AV} {h : Hp} {i : Nat} {x : Int32} {ls2 : List (Option AV)}, decode cc pc = .ok (.istore i, 2) → i < nL → ls.set i (some (.inl x)) = ls2 → J (pc + 2) ls2 st h a b → J pc ls (.inl x :: st) h a b
abbrev rl_astore_n (cc : ByteArray) (own : String) (nL d mc ms : Nat) (ini : Prop) (J : JT) : Prop := ∀ {pc a b : Nat} {ls : List (Option AV)} {st : List AV} {h : Hp} {q : Fin 4} {i kk : Nat} {r : Option Nat} {ls2 : List (Option AV)}, decode cc pc = .ok (.astore_n q, 1) → (q : Nat) = i → i < nL → ls.set i (some (.inr (kk, r))) = ls2 → J (pc + 1) ls2 st h a b → J pc ls (.inr (kk, r) :: st) h a b
abbrev rl_astore (cc : ByteArray) (own : String) (nL d mc ms : Nat) (ini : Prop) (J : JT) : Prop := ∀ {pc a b : Nat} {ls : List (Option AV)} {st : List AV} {h : Hp} {i kk : Nat} {r : Option Nat} {ls2 : List (Option AV)}, decode cc pc = .ok (.astore i, 2) → i < nL → ls.set i (some (.inr (kk, r))) = ls2 → J (pc + 2) ls2 st h a b → J pc ls (.inr (kk, r) :: st) h a b
abbrev rl_iinc (cc : ByteArray) (own : String) (nL d mc ms : Nat) (ini : Prop) (J : JT) : Prop := ∀ {pc a b : Nat} {ls : List (Option AV)} {st : List AV} {h : Hp} {i : Nat} {n : Int} {x v : Int32} {ls2 : List (Option AV)}, decode cc pc = .ok (.iinc i n, 3) → ls[i]? = some (some (.inl x)) → x + Int32.ofInt n = v → i < nL → ls.set i (some (.inl v)) = ls2 → J (pc + 3) ls2 st h a b → J pc ls st h a b
abbrev rl_iadd (cc : ByteArray) (own : String) (nL d mc ms : Nat) (ini : Prop) (J : JT) : Prop := ∀ {pc a b : Nat} {ls : List (Option AV)} {st : List AV} {h : Hp} {x y : Int32}, decode cc pc = .ok (.iadd, 1) → J (pc + 1) ls (.inl (x + y) :: st) h a b → J pc ls (.inl y :: .inl x :: st) h a b
abbrev rl_isub (cc : ByteArray) (own : String) (nL d mc ms : Nat) (ini : Prop) (J : JT) : Prop := ∀ {pc a b : Nat} {ls : List (Option AV)} {st : List AV} {h : Hp} {x y : Int32}, decode cc pc = .ok (.isub, 1) → J (pc + 1) ls (.inl (x - y) :: st) h a b → J pc ls (.inl y :: .inl x :: st) h a b
abbrev rl_imul (cc : ByteArray) (own : String) (nL d mc ms : Nat) (ini : Prop) (J : JT) : Prop := ∀ {pc a b : Nat} {ls : List (Option AV)} {st : List AV} {h : Hp} {x y : Int32}, decode cc pc = .ok (.imul, 1) → J (pc + 1) ls (.inl (x * y) :: st) h a b → J pc ls (.inl y :: .inl x :: st) h a b
abbrev rl_iand (cc : ByteArray) (own : String) (nL d mc ms : Nat) (ini : Prop) (J : JT) : Prop := ∀ {pc a b : Nat} {ls : List (Option AV)} {st : List AV} {h : Hp} {x y : Int32}, decode cc pc = .ok (.iand, 1) → J (pc + 1) ls (.inl (x &&& y) :: st) h a b → J pc ls (.inl y :: .inl x :: st) h a b
abbrev rl_ior (cc : ByteArray) (own : String) (nL d mc ms : Nat) (ini : Prop) (J : JT) : Prop := ∀ {pc a b : Nat} {ls : List (Option AV)} {st : List AV} {h : Hp} {x y : Int32}, decode cc pc = .ok (.ior, 1) → J (pc + 1) ls (.inl (x ||| y) :: st) h a b → J pc ls (.inl y :: .inl x :: st) h a b
abbrev rl_ishl (cc : ByteArray) (own : String) (nL d mc ms : Nat) (ini : Prop) (J : JT) : Prop := ∀ {pc a b : Nat} {ls : List (Option AV)} {st : List AV} {h : Hp} {x y : Int32}, decode cc pc = .ok (.ishl, 1) → J (pc + 1) ls (.inl (x <<< (y &&& 31)) :: st) h a b → J pc ls (.inl y :: .inl x :: st) h a b
abbrev rl_ishr (cc : ByteArray) (own : String) (nL d mc ms : Nat) (ini : Prop) (J : JT) : Prop := ∀ {pc a b : Nat} {ls : List (Option AV)} {st : List AV} {h : Hp} {x y : Int32}, decode cc pc = .ok (.ishr, 1) → J (pc + 1) ls (.inl (x >>> (y &&& 31)) :: st) h a b → J pc ls (.inl y :: .inl x :: st) h a b
abbrev rl_idiv (cc : ByteArray) (own : String) (nL d mc ms : Nat) (ini : Prop) (J : JT) : Prop := ∀ {pc a b : Nat} {ls : List (Option AV)} {st : List AV} {h : Hp} {x y : Int32}, decode cc pc = .ok (.idiv, 1) → ¬ y = 0 → J (pc + 1) ls (.inl (x / y) :: st) h a b → J pc ls (.inl y :: .inl x :: st) h a b
abbrev rl_irem (cc : ByteArray) (own : String) (nL d mc ms : Nat) (ini : Prop) (J : JT) : Prop := ∀ {pc a b : Nat} {ls : List (Option AV)} {st : List AV} {h : Hp} {x y : Int32}, decode cc pc = .ok (.irem, 1) → ¬ y = 0 → J (pc + 1) ls (.inl (x - x / y * y) :: st) h a b → J pc ls (.inl y :: .inl x :: st) h a b
abbrev rl_dup (cc : ByteArray) (own : String) (nL d mc ms : Nat) (ini : Prop) (J : JT) : Prop := ∀ {pc a b : Nat} {ls : List (Option AV)} {st : List AV} {h : Hp} {v : AV}, decode cc pc = .ok (.dup, 1) → J (pc + 1) ls (v :: v :: st) h a b → J pc ls (v :: st) h a b
abbrev rl_dup2 (cc : ByteArray) (own : String) (nL d mc ms : Nat) (ini : Prop) (J : JT) : Prop := ∀ {pc a b : Nat} {ls : List (Option AV)} {st : List AV} {h : Hp} {v w : AV}, decode cc pc = .ok (.dup2, 1) → J (pc + 1) ls (v :: w :: v :: w :: st) h a b → J pc ls (v :: w :: st) h a b
abbrev rl_pop (cc : ByteArray) (own : String) (nL d mc ms : Nat) (ini : Prop) (J : JT) : Prop := ∀ {pc a b : Nat} {ls : List (Option AV)} {st : List AV} {h : Hp} {v : AV}, decode cc pc = .ok (.pop, 1) → J (pc + 1) ls st h a b → J pc ls (v :: st) h a b
abbrev rl_if_eq (cc : ByteArray) (own : String) (nL d mc ms : Nat) (ini : Prop) (J : JT) : Prop := ∀ {pc a b : Nat} {ls : List (Option AV)} {st : List AV} {h : Hp} {x : Int32} {off : Int} {tgt : Nat}, decode cc pc = .ok (.ifCond .eq off, 3) → (pc : Int) + off = (tgt : Int) → (x = 0 → J tgt ls st h a b) → (¬ x = 0 → J (pc + 3) ls st h a b) → J pc ls (.inl x :: st) h a b
abbrev rl_icmp_eq (cc : ByteArray) (own : String) (nL d mc ms : Nat) (ini : Prop) (J : JT) : Prop := ∀ {pc a b : Nat} {ls : List (Option AV)} {st : List AV} {h : Hp} {x y : Int32} {off : Int} {tgt : Nat}, decode cc pc = .ok (.if_icmp .eq off, 3) → (pc : Int) + off = (tgt : Int) → (x = y → J tgt ls st h a b) → (¬ x = y → J (pc + 3) ls st h a b) → J pc ls (.inl y :: .inl x :: st) h a b
abbrev rl_if_ne (cc : ByteArray) (own : String) (nL d mc ms : Nat) (ini : Prop) (J : JT) : Prop := ∀ {pc a b : Nat} {ls : List (Option AV)} {st : List AV} {h : Hp} {x : Int32} {off : Int} {tgt : Nat}, decode cc pc = .ok (.ifCond .ne off, 3) → (pc : Int) + off = (tgt : Int) → (¬ x = 0 → J tgt ls st h a b) → (x = 0 → J (pc + 3) ls st h a b) → J pc ls (.inl x :: st) h a b
abbrev rl_icmp_ne (cc : ByteArray) (own : String) (nL d mc ms : Nat) (ini : Prop) (J : JT) : Prop := ∀ {pc a b : Nat} {ls : List (Option AV)} {st : List AV} {h : Hp} {x y : Int32} {off : Int} {tgt : Nat}, decode cc pc = .ok (.if_icmp .ne off, 3) → (pc : Int) + off = (tgt : Int) → (¬ x = y → J tgt ls st h a b) → (x = y → J (pc + 3) ls st h a b) → J pc ls (.inl y :: .inl x :: st) h a b
abbrev rl_if_lt (cc : ByteArray) (own : String) (nL d mc ms : Nat) (ini : Prop) (J : JT) : Prop := ∀ {pc a b : Nat} {ls : List (Option AV)} {st : List AV} {h : Hp} {x : Int32} {off : Int} {tgt : Nat}, decode cc pc = .ok (.ifCond .lt off, 3) → (pc : Int) + off = (tgt : Int) → (x < 0 → J tgt ls st h a b) → (¬ x < 0 → J (pc + 3) ls st h a b) → J pc ls (.inl x :: st) h a b
abbrev rl_icmp_lt (cc : ByteArray) (own : String) (nL d mc ms : Nat) (ini : Prop) (J : JT) : Prop := ∀ {pc a b : Nat} {ls : List (Option AV)} {st : List AV} {h : Hp} {x y : Int32} {off : Int} {tgt : Nat}, decode cc pc = .ok (.if_icmp .lt off, 3) → (pc : Int) + off = (tgt : Int) → (x < y → J tgt ls st h a b) → (¬ x < y → J (pc + 3) ls st h a b) → J pc ls (.inl y :: .inl x :: st) h a b
abbrev rl_if_ge (cc : ByteArray) (own : String) (nL d mc ms : Nat) (ini : Prop) (J : JT) : Prop := ∀ {pc a b : Nat} {ls : List (Option AV)} {st : List AV} {h : Hp} {x : Int32} {off : Int} {tgt : Nat}, decode cc pc = .ok (.ifCond .ge off, 3) → (pc : Int) + off = (tgt : Int) → (0 ≤ x → J tgt ls st h a b) → (¬ 0 ≤ x → J (pc + 3) ls st h a b) → J pc ls (.inl x :: st) h a b
abbrev rl_icmp_ge (cc : ByteArray) (own : String) (nL d mc ms : Nat) (ini : Prop) (J : JT) : Prop := ∀ {pc a b : Nat} {ls : List (Option AV)} {st : List AV} {h : Hp} {x y : Int32} {off : Int} {tgt : Nat}, decode cc pc = .ok (.if_icmp .ge off, 3) → (pc : Int) + off = (tgt : Int) → (y ≤ x → J tgt ls st h a b) → (¬ y ≤ x → J (pc + 3) ls st h a b) → J pc ls (.inl y :: .inl x :: st) h a b
abbrev rl_if_gt (cc : ByteArray) (own : String) (nL d mc ms : Nat) (ini : Prop) (J : JT) : Prop := ∀ {pc a b : Nat} {ls : List (Option AV)} {st : List AV} {h : Hp} {x : Int32} {off : Int} {tgt : Nat}, decode cc pc = .ok (.ifCond .gt off, 3) → (pc : Int) + off = (tgt : Int) → (0 < x → J tgt ls st h a b) → (¬ 0 < x → J (pc + 3) ls st h a b) → J pc ls (.inl x :: st) h a b
abbrev rl_icmp_gt (cc : ByteArray) (own : String) (nL d mc ms : Nat) (ini : Prop) (J : JT) : Prop := ∀ {pc a b : Nat} {ls : List (Option AV)} {st : List AV} {h : Hp} {x y : Int32} {off : Int} {tgt : Nat}, decode cc pc = .ok (.if_icmp .gt off, 3) → (pc : Int) + off = (tgt : Int) → (y < x → J tgt ls st h a b) → (¬ y < x → J (pc + 3) ls st h a b) → J pc ls (.inl y :: .inl x :: st) h a b
abbrev rl_if_le (cc : ByteArray) (own : String) (nL d mc ms : Nat) (ini : Prop) (J : JT) : Prop := ∀ {pc a b : Nat} {ls : List (Option AV)} {st : List AV} {h : Hp} {x : Int32} {off : Int} {tgt : Nat}, decode cc pc = .ok (.ifCond .le off, 3) → (pc : Int) + off = (tgt : Int) → (x ≤ 0 → J tgt ls st h a b) → (¬ x ≤ 0 → J (pc + 3) ls st h a b) → J pc ls (.inl x :: st) h a b
abbrev rl_icmp_le (cc : ByteArray) (own : String) (nL d mc ms : Nat) (ini : Prop) (J : JT) : Prop := ∀ {pc a b : Nat} {ls : List (Option AV)} {st : List AV} {h : Hp} {x y : Int32} {off : Int} {tgt : Nat}, decode cc pc = .ok (.if_icmp .le off, 3) → (pc : Int) + off = (tgt : Int) → (x ≤ y → J tgt ls st h a b) → (¬ x ≤ y → J (pc + 3) ls st h a b) → J pc ls (.inl y :: .inl x :: st) h a b
abbrev rl_goto (cc : ByteArray) (own : String) (nL d mc ms : Nat) (ini : Prop) (J : JT) : Prop := ∀ {pc a b : Nat} {ls : List (Option AV)} {st : List AV} {h : Hp} {off : Int} {tgt : Nat}, decode cc pc = .ok (.goto off, 3) → (pc : Int) + off = (tgt : Int) → J tgt ls st h a b → J pc ls st h a b
abbrev rl_forget (cc : ByteArray) (own : String) (nL d mc ms : Nat) (ini : Prop) (J : JT) : Prop := ∀ {pc a b : Nat} {ls : List (Option AV)} {st : List AV} {h : Hp} {ls2 : List (Option AV)}, subL ls2 ls → J pc ls2 st h a b → J pc ls st h a b
abbrev rl_null (cc : ByteArray) (own : String) (nL d mc ms : Nat) (ini : Prop) (J : JT) : Prop := ∀ {pc a b : Nat} {ls : List (Option AV)} {st : List AV} {h : Hp} {kk : Nat}, decode cc pc = .ok (.aconst_null, 1) → J (pc + 1) ls (.inr (kk, none) :: st) h a b → J pc ls st h a b
abbrev rl_ifnull (cc : ByteArray) (own : String) (nL d mc ms : Nat) (ini : Prop) (J : JT) : Prop := ∀ {pc a b : Nat} {ls : List (Option AV)} {st : List AV} {h : Hp} {kk : Nat} {r : Option Nat} {off : Int} {tgt : Nat}, decode cc pc = .ok (.ifnull off, 3) → (pc : Int) + off = (tgt : Int) → (r = none → J tgt ls st h a b) → (∀ n, r = some n → J (pc + 3) ls st h a b) → J pc ls (.inr (kk, r) :: st) h a b
abbrev rl_ifnonnull (cc : ByteArray) (own : String) (nL d mc ms : Nat) (ini : Prop) (J : JT) : Prop := ∀ {pc a b : Nat} {ls : List (Option AV)} {st : List AV} {h : Hp} {kk : Nat} {r : Option Nat} {off : Int} {tgt : Nat}, decode cc pc = .ok (.ifnonnull off, 3) → (pc : Int) + off = (tgt : Int) → (∀ n, r = some n → J tgt ls st h a b) → (r = none → J (pc + 3) ls st h a b) → J pc ls (.inr (kk, r) :: st) h a b
abbrev rl_acmp_eq (cc : ByteArray) (own : String) (nL d mc ms : Nat) (ini : Prop) (J : JT) : Prop := ∀ {pc a b : Nat} {ls : List (Option AV)} {st : List AV} {h : Hp} {kk : Nat} {r1 r2 : Option Nat} {off : Int} {tgt : Nat}, decode cc pc = .ok (.if_acmp .eq off, 3) → kk < 99 → (pc : Int) + off = (tgt : Int) → (r1 = r2 → J tgt ls st h a b) → (¬ r1 = r2 → J (pc + 3) ls st h a b) → J pc ls (.inr (kk, r2) :: .inr (kk, r1) :: st) h a b
abbrev rl_acmp_ne (cc : ByteArray) (own : String) (nL d mc ms : Nat) (ini : Prop) (J : JT) : Prop := ∀ {pc a b : Nat} {ls : List (Option AV)} {st : List AV} {h : Hp} {kk : Nat} {r1 r2 : Option Nat} {off : Int} {tgt : Nat}, decode cc pc = .ok (.if_acmp .ne off, 3) → kk < 99 → (pc : Int) + off = (tgt : Int) → (¬ r1 = r2 → J tgt ls st h a b) → (r1 = r2 → J (pc + 3) ls st h a b) → J pc ls (.inr (kk, r2) :: .inr (kk, r1) :: st) h a b
abbrev rl_tabIn (cc : ByteArray) (own : String) (nL d mc ms : Nat) (ini : Prop) (J : JT) : Prop := ∀ {pc a b : Nat} {ls : List (Option AV)} {st : List AV} {h : Hp} {dflt lo hi : Int} {offs : Array Int} {len : Nat} {x : Int32} {off : Int} {tgt : Nat}, decode cc pc = .ok (.tableswitch dflt lo hi offs, len) → ¬ x.toInt < lo → ¬ hi < x.toInt → offs[(x.toInt - lo).toNat]? = some off → (pc : Int) + off = (tgt : Int) → J tgt ls st h a b → J pc ls (.inl x :: st) h a b
abbrev rl_tabOut (cc : ByteArray) (own : String) (nL d mc ms : Nat) (ini : Prop) (J : JT) : Prop := ∀ {pc a b : Nat} {ls : List (Option AV)} {st : List AV} {h : Hp} {dflt lo hi : Int} {offs : Array Int} {len : Nat} {x : Int32} {tgt : Nat}, decode cc pc = .ok (.tableswitch dflt lo hi offs, len) → (x.toInt < lo ∨ hi < x.toInt) → (pc : Int) + dflt = (tgt : Int) → J tgt ls st h a b → J pc ls (.inl x :: st) h a b
abbrev rl_getI (cc : ByteArray) (own : String) (nL d mc ms : Nat) (ini : Prop) (J : JT) : Prop := ∀ {pc a b : Nat} {ls : List (Option AV)} {st : List AV} {h : Hp} {ix kk i n : Nat} {r : Option Nat}, decode cc pc = .ok (.getfield ix, 3) → FI own ix kk i → r = some n → J (pc + 3) ls (.inl (pI h kk n i) :: st) h a b → J pc ls (.inr (kk, r) :: st) h a b
abbrev rl_getR (cc : ByteArray) (own : String) (nL d mc ms : Nat) (ini : Prop) (J : JT) : Prop := ∀ {pc a b : Nat} {ls : List (Option AV)} {st : List AV} {h : Hp} {ix kk i n k2 : Nat} {r : Option Nat}, decode cc pc = .ok (.getfield ix, 3) → FR own ix kk i k2 → r = some n → J (pc + 3) ls (.inr (k2, pR h kk n i) :: st) h a b → J pc ls (.inr (kk, r) :: st) h a b
abbrev rl_putI (cc : ByteArray) (own : String) (nL d mc ms : Nat) (ini : Prop) (J : JT) : Prop := ∀ {pc a b : Nat} {ls : List (Option AV)} {st : List AV} {h : Hp} {ix kk i n : Nat} {r : Option Nat} {v : Int32}, decode cc pc = .ok (.putfield ix, 3) → FI own ix kk i → (kT kk i).2.2.2 = false → (narrow (kY kk i) (.int v) = .int v ∧ fits (kY kk i) (.int v) = true) → r = some n → J (pc + 3) ls st (wI h kk n i v) a b → J pc ls (.inl v :: .inr (kk, r) :: st) h a b
abbrev rl_putIF (cc : ByteArray) (own : String) (nL d mc ms : Nat) (ini : Prop) (J : JT) : Prop := ∀ {pc a b : Nat} {ls : List (Option AV)} {st : List AV} {h : Hp} {ix kk i n : Nat} {r : Option Nat} {v : Int32}, decode cc pc = .ok (.putfield ix, 3) → FI own ix kk i → (kT kk i).2.2.2 = true → kR kk = own → ini → (narrow (kY kk i) (.int v) = .int v ∧ fits (kY kk i) (.int v) = true) → r = some n → J (pc + 3) ls st (wI h kk n i v) a b → J pc ls (.inl v :: .inr (kk, r) :: st) h a b
abbrev rl_putR (cc : ByteArray) (own : String) (nL d mc ms : Nat) (ini : Prop) (J : JT) : Prop := ∀ {pc a b : Nat} {ls : List (Option AV)} {st : List AV} {h : Hp} {ix kk i n k2 k3 : Nat} {r o : Option Nat}, decode cc pc = .ok (.putfield ix, 3) → FR own ix kk i k2 → (kT kk i).2.2.2 = false → (o = none ∨ k3 = k2) → r = some n → J (pc + 3) ls st (wR h kk n i o) a b → J pc ls (.inr (k3, o) :: .inr (kk, r) :: st) h a b
abbrev rl_putRF (cc : ByteArray) (own : String) (nL d mc ms : Nat) (ini : Prop) (J : JT) : Prop := ∀ {pc a b : Nat} {ls : List (Option AV)} {st : List AV} {h : Hp} {ix kk i n k2 k3 : Nat} {r o : Option Nat}, decode cc pc = .ok (.putfield ix, 3) → FR own ix kk i k2 → (kT kk i).2.2.2 = true → kR kk = own → ini → (o = none ∨ k3 = k2) → r = some n → J (pc + 3) ls st (wR h kk n i o) a b → J pc ls (.inr (k3, o) :: .inr (kk, r) :: st) h a b
abbrev rl_iald (cc : ByteArray) (own : String) (nL d mc ms : Nat) (ini : Prop) (J : JT) : Prop := ∀ {pc a b : Nat} {ls : List (Option AV)} {st : List AV} {h : Hp} {kk n : Nat} {r : Option Nat} {x : Int32}, decode cc pc = .ok (.iaload, 1) → AI kk → r = some n → inb x (pL h kk n) = true → J (pc + 1) ls (.inl (pI h kk n x.toNatClampNeg) :: st) h a b → J pc ls (.inl x :: .inr (kk, r) :: st) h a b
abbrev rl_zald (cc : ByteArray) (own : String) (nL d mc ms : Nat) (ini : Prop) (J : JT) : Prop := ∀ {pc a b : Nat} {ls : List (Option AV)} {st : List AV} {h : Hp} {kk n : Nat} {r : Option Nat} {x : Int32}, decode cc pc = .ok (.baload, 1) → AZ kk → r = some n → inb x (pL h kk n) = true → J (pc + 1) ls (.inl (pI h kk n x.toNatClampNeg) :: st) h a b → J pc ls (.inl x :: .inr (kk, r) :: st) h a b
abbrev rl_alen (cc : ByteArray) (own : String) (nL d mc ms : Nat) (ini : Prop) (J : JT) : Prop := ∀ {pc a b : Nat} {ls : List (Option AV)} {st : List AV} {h : Hp} {kk n : Nat} {r : Option Nat}, decode cc pc = .ok (.arraylength, 1) → AI kk → r = some n → J (pc + 1) ls (.inl (nI (pL h kk n)) :: st) h a b → J pc ls (.inr (kk, r) :: st) h a b
abbrev rl_aald (cc : ByteArray) (own : String) (nL d mc ms : Nat) (ini : Prop) (J : JT) : Prop := ∀ {pc a b : Nat} {ls : List (Option AV)} {st : List AV} {h : Hp} {kk n k2 : Nat} {r : Option Nat} {x : Int32}, decode cc pc = .ok (.aaload, 1) → AR kk k2 → r = some n → inb x (pL h kk n) = true → J (pc + 1) ls (.inr (k2, pR h kk n x.toNatClampNeg) :: st) h a b → J pc ls (.inl x :: .inr (kk, r) :: st) h a b
abbrev rl_iast (cc : ByteArray) (own : String) (nL d mc ms : Nat) (ini : Prop) (J : JT) : Prop := ∀ {pc a b : Nat} {ls : List (Option AV)} {st : List AV} {h : Hp} {kk n : Nat} {r : Option Nat} {x v : Int32}, decode cc pc = .ok (.iastore, 1) → AI kk → r = some n → inb x (pL h kk n) = true → J (pc + 1) ls st (wI h kk n x.toNatClampNeg v) a b → J pc ls (.inl v :: .inl x :: .inr (kk, r) :: st) h a b
abbrev rl_zast (cc : ByteArray) (own : String) (nL d mc ms : Nat) (ini : Prop) (J : JT) : Prop := ∀ {pc a b : Nat} {ls : List (Option AV)} {st : List AV} {h : Hp} {kk n : Nat} {r : Option Nat} {x v : Int32}, decode cc pc = .ok (.bastore, 1) → AZ kk → r = some n → inb x (pL h kk n) = true → (v = 0 ∨ v = 1) → J (pc + 1) ls st (wI h kk n x.toNatClampNeg v) a b → J pc ls (.inl v :: .inl x :: .inr (kk, r) :: st) h a b
abbrev rl_aast (cc : ByteArray) (own : String) (nL d mc ms : Nat) (ini : Prop) (J : JT) : Prop := ∀ {pc a b : Nat} {ls : List (Option AV)} {st : List AV} {h : Hp} {kk n k2 : Nat} {r o : Option Nat} {x : Int32}, decode cc pc = .ok (.aastore, 1) → AR kk k2 → r = some n → inb x (pL h kk n) = true → J (pc + 1) ls st (wR h kk n x.toNatClampNeg o) a b → J pc ls (.inr (k2, o) :: .inl x :: .inr (kk, r) :: st) h a b
abbrev rl_new (cc : ByteArray) (own : String) (nL d mc ms : Nat) (ini : Prop) (J : JT) : Prop := ∀ {pc a b : Nat} {ls : List (Option AV)} {st : List AV} {h : Hp} {ix kk : Nat}, decode cc pc = .ok (.new ix, 3) → NO own ix kk → a + 1 ≤ mc → b + nf kk ≤ ms → J (pc + 3) ls (.inr (kk, some (pC h kk)) :: st) (wN h kk 0) (a + 1) (b + nf kk) → J pc ls st h a b
abbrev rl_newa_int (cc : ByteArray) (own : String) (nL d mc ms : Nat) (ini : Prop) (J : JT) : Prop := ∀ {pc a b : Nat} {ls : List (Option AV)} {st : List AV} {h : Hp} {kk N : Nat} {n : Int32}, decode cc pc = .ok (.newarray .int, 2) → AI kk → ¬ n < 0 → n.toNatClampNeg ≤ N → N ≤ 1000 → a + 1 ≤ mc → b + N ≤ ms → J (pc + 2) ls (.inr (kk, some (pC h kk)) :: st) (wN h kk n.toNatClampNeg) (a + 1) (b + N) → J pc ls (.inl n :: st) h a b
abbrev rl_newa_boolean (cc : ByteArray) (own : String) (nL d mc ms : Nat) (ini : Prop) (J : JT) : Prop := ∀ {pc a b : Nat} {ls : List (Option AV)} {st : List AV} {h : Hp} {kk N : Nat} {n : Int32}, decode cc pc = .ok (.newarray .boolean, 2) → AZ kk → ¬ n < 0 → n.toNatClampNeg ≤ N → N ≤ 1000 → a + 1 ≤ mc → b + N ≤ ms → J (pc + 2) ls (.inr (kk, some (pC h kk)) :: st) (wN h kk n.toNatClampNeg) (a + 1) (b + N) → J pc ls (.inl n :: st) h a b
abbrev rl_newq (cc : ByteArray) (own : String) (nL d mc ms : Nat) (ini : Prop) (J : JT) : Prop := ∀ {pc a b : Nat} {ls : List (Option AV)} {st : List AV} {h : Hp} {kk k2 ix N : Nat} {n : Int32}, decode cc pc = .ok (.anewarray ix, 3) → AR kk k2 → (Cond.classLink own ix (kR k2) ∈ gws ∧ kR k2 ∈ aoW) → ¬ n < 0 → n.toNatClampNeg ≤ N → N ≤ 1000 → a + 1 ≤ mc → b + N ≤ ms → J (pc + 3) ls (.inr (kk, some (pC h kk)) :: st) (wN h kk n.toNatClampNeg) (a + 1) (b + N) → J pc ls (.inl n :: st) h a b
abbrev rl_objInit (cc : ByteArray) (own : String) (nL d mc ms : Nat) (ini : Prop) (J : JT) : Prop := ∀ {pc a b : Nat} {ls : List (Option AV)} {st : List AV} {h : Hp} {ix kk n : Nat} {r : Option Nat}, decode cc pc = .ok (.invokespecial ix, 3) → Cond.methodLink own ix objectInit ∈ gws → r = some n → 1 ≤ d → st.length ≤ 8 → J (pc + 3) ls st h a b → J pc ls (.inr (kk, r) :: st) h a b
abbrev rl_mmax (cc : ByteArray) (own : String) (nL d mc ms : Nat) (ini : Prop) (J : JT) : Prop := ∀ {pc a b : Nat} {ls : List (Option AV)} {st : List AV} {h : Hp} {ix : Nat} {x y : Int32}, decode cc pc = .ok (.invokestatic ix, 3) → Cond.methodLink own ix Lib.Math.max.name ∈ gws → 1 ≤ d → st.length ≤ 8 → a ≤ mc → b ≤ ms → J (pc + 3) ls (.inl (if x < y then y else x) :: st) h a b → J pc ls (.inl y :: .inl x :: st) h a b
abbrev rl_mmin (cc : ByteArray) (own : String) (nL d mc ms : Nat) (ini : Prop) (J : JT) : Prop := ∀ {pc a b : Nat} {ls : List (Option AV)} {st : List AV} {h : Hp} {ix : Nat} {x y : Int32}, decode cc pc = .ok (.invokestatic ix, 3) → Cond.methodLink own ix Lib.Math.min.name ∈ gws → 1 ≤ d → st.length ≤ 8 → a ≤ mc → b ≤ ms → J (pc + 3) ls (.inl (if y < x then y else x) :: st) h a b → J pc ls (.inl y :: .inl x :: st) h a b
abbrev rl_callV (cc : ByteArray) (own : String) (nL d mc ms : Nat) (ini : Prop) (J : JT) : Prop := ∀ {pc a b : Nat} {ls : List (Option AV)} {st : List AV} {h : Hp} {ix ml np d2 mc2 ms2 : Nat} {y : MethodName} {cy : ByteArray} {rt : Option FieldType} {as : List AV} {h2 : Hp} {stk : List AV} {kk n : Nat} {ro : Option Nat} {v : AV}, decode cc pc = .ok (.invokevirtual ix, 3) → CV own ix y cy ml rt np → (kk < 9 ∧ kR kk = y.cls) → ro = some n → Ctr y cy ml rt d2 mc2 ms2 (.inr (kk, some n) :: as) h (some v) h2 → d2 + 1 ≤ d → a + mc2 ≤ mc → b + ms2 ≤ ms → as.length = np → st.length ≤ 8 → as.reverse ++ .inr (kk, ro) :: st = stk → J (pc + 3) ls (v :: st) h2 (a + mc2) (b + ms2) → J pc ls stk h a b
abbrev rl_callS (cc : ByteArray) (own : String) (nL d mc ms : Nat) (ini : Prop) (J : JT) : Prop := ∀ {pc a b : Nat} {ls : List (Option AV)} {st : List AV} {h : Hp} {ix ml np d2 mc2 ms2 : Nat} {y : MethodName} {cy : ByteArray} {rt : Option FieldType} {as : List AV} {h2 : Hp} {stk : List AV} {v : AV}, decode cc pc = .ok (.invokestatic ix, 3) → CS own ix y cy ml rt np → Ctr y cy ml rt d2 mc2 ms2 as h (some v) h2 → d2 + 1 ≤ d → a + mc2 ≤ mc → b + ms2 ≤ ms → as.length = np → st.length ≤ 8 → as.reverse ++ st = stk → J (pc + 3) ls (v :: st) h2 (a + mc2) (b + ms2) → J pc ls stk h a b
abbrev rl_callSN (cc : ByteArray) (own : String) (nL d mc ms : Nat) (ini : Prop) (J : JT) : Prop := ∀ {pc a b : Nat} {ls : List (Option AV)} {st : List AV} {h : Hp} {ix ml np d2 mc2 ms2 : Nat} {y : MethodName} {cy : ByteArray} {rt : Option FieldType} {as : List AV} {h2 : Hp} {stk : List AV} {host : String} {v : AV}, decode cc pc = .ok (.invokestatic ix, 3) → CSN own ix y cy ml rt np host → Ctr y cy ml rt d2 mc2 ms2 as h (some v) h2 → d2 + 1 ≤ d → a + mc2 ≤ mc → b + ms2 ≤ ms → as.length = np → st.length ≤ 8 → as.reverse ++ st = stk → J (pc + 3) ls (v :: st) h2 (a + mc2) (b + ms2) → J pc ls stk h a b
abbrev rl_callV0 (cc : ByteArray) (own : String) (nL d mc ms : Nat) (ini : Prop) (J : JT) : Prop := ∀ {pc a b : Nat} {ls : List (Option AV)} {st : List AV} {h : Hp} {ix ml np d2 mc2 ms2 : Nat} {y : MethodName} {cy : ByteArray} {rt : Option FieldType} {as : List AV} {h2 : Hp} {stk : List AV} {kk n : Nat} {ro : Option Nat}, decode cc pc = .ok (.invokevirtual ix, 3) → CV own ix y cy ml rt np → (kk < 9 ∧ kR kk = y.cls) → ro = some n → Ctr y cy ml rt d2 mc2 ms2 (.inr (kk, some n) :: as) h none h2 → d2 + 1 ≤ d → a + mc2 ≤ mc → b + ms2 ≤ ms → as.length = np → st.length ≤ 8 → as.reverse ++ .inr (kk, ro) :: st = stk → J (pc + 3) ls st h2 (a + mc2) (b + ms2) → J pc ls stk h a b
abbrev rl_callS0 (cc : ByteArray) (own : String) (nL d mc ms : Nat) (ini : Prop) (J : JT) : Prop := ∀ {pc a b : Nat} {ls : List (Option AV)} {st : List AV} {h : Hp} {ix ml np d2 mc2 ms2 : Nat} {y : MethodName} {cy : ByteArray} {rt : Option FieldType} {as : List AV} {h2 : Hp} {stk : List AV}, decode cc pc = .ok (.invokestatic ix, 3) → CS own ix y cy ml rt np → Ctr y cy ml rt d2 mc2 ms2 as h none h2 → d2 + 1 ≤ d → a + mc2 ≤ mc → b + ms2 ≤ ms → as.length = np → st.length ≤ 8 → as.reverse ++ st = stk → J (pc + 3) ls st h2 (a + mc2) (b + ms2) → J pc ls stk h a b
abbrev rl_callSN0 (cc : ByteArray) (own : String) (nL d mc ms : Nat) (ini : Prop) (J : JT) : Prop := ∀ {pc a b : Nat} {ls : List (Option AV)} {st : List AV} {h : Hp} {ix ml np d2 mc2 ms2 : Nat} {y : MethodName} {cy : ByteArray} {rt : Option FieldType} {as : List AV} {h2 : Hp} {stk : List AV} {host : String}, decode cc pc = .ok (.invokestatic ix, 3) → CSN own ix y cy ml rt np host → Ctr y cy ml rt d2 mc2 ms2 as h none h2 → d2 + 1 ≤ d → a + mc2 ≤ mc → b + ms2 ≤ ms → as.length = np → st.length ≤ 8 → as.reverse ++ st = stk → J (pc + 3) ls st h2 (a + mc2) (b + ms2) → J pc ls stk h a b
abbrev rl_callI (cc : ByteArray) (own : String) (nL d mc ms : Nat) (ini : Prop) (J : JT) : Prop := ∀ {pc a b : Nat} {ls : List (Option AV)} {st : List AV} {h : Hp} {ix ml np d2 mc2 ms2 : Nat} {y : MethodName} {cy : ByteArray} {as : List AV} {h2 : Hp} {stk : List AV} {kk n : Nat} {ro : Option Nat}, decode cc pc = .ok (.invokespecial ix, 3) → CI own ix y cy ml np → ro = some n → Ctr y cy ml none d2 mc2 ms2 (.inr (kk, some n) :: as) h none h2 → d2 + 1 ≤ d → a + mc2 ≤ mc → b + ms2 ≤ ms → as.length = np → st.length ≤ 8 → as.reverse ++ .inr (kk, ro) :: st = stk → J (pc + 3) ls st h2 (a + mc2) (b + ms2) → J pc ls stk h a b
abbrev rl_callIN (cc : ByteArray) (own : String) (nL d mc ms : Nat) (ini : Prop) (J : JT) : Prop := ∀ {pc a b : Nat} {ls : List (Option AV)} {st : List AV} {h : Hp} {ix ml np d2 mc2 ms2 : Nat} {y : MethodName} {cy : ByteArray} {as : List AV} {h2 : Hp} {stk : List AV} {kk n : Nat} {ro : Option Nat} {host : String}, decode cc pc = .ok (.invokespecial ix, 3) → CIN own ix y cy ml np host → ro = some n → Ctr y cy ml none d2 mc2 ms2 (.inr (kk, some n) :: as) h none h2 → d2 + 1 ≤ d → a + mc2 ≤ mc → b + ms2 ≤ ms → as.length = np → st.length ≤ 8 → as.reverse ++ .inr (kk, ro) :: st = stk → J (pc + 3) ls st h2 (a + mc2) (b + ms2) → J pc ls stk h a b
def Rules (cc : ByteArray) (own : String) (nL d mc ms : Nat) (ini : Prop) (J : JT) : Prop := rl_iconst cc own nL d mc ms ini J ∧ rl_bipush cc own nL d mc ms ini J ∧ rl_sipush cc own nL d mc ms ini J ∧ rl_ldc cc own nL d mc ms ini J ∧ rl_ldc_w cc own nL d mc ms ini J ∧ rl_iload_n cc own nL d mc ms ini J ∧ rl_iload cc own nL d mc ms ini J ∧ rl_aload_n cc own nL d mc ms ini J ∧ rl_aload cc own nL d mc ms ini J ∧ rl_istore_n cc own nL d mc ms ini J ∧ rl_istore cc own nL d mc ms ini J ∧ rl_astore_n cc own nL d mc ms ini J ∧ rl_astore cc own nL d mc ms ini J ∧ rl_iinc cc own nL d mc ms ini J ∧ rl_iadd cc own nL d mc ms ini J ∧ rl_isub cc own nL d mc ms ini J ∧ rl_imul cc own nL d mc ms ini J ∧ rl_iand cc own nL d mc ms ini J ∧ rl_ior cc own nL d mc ms ini J ∧ rl_ishl cc own nL d mc ms ini J ∧ rl_ishr cc own nL d mc ms ini J ∧ rl_idiv cc own nL d mc ms ini J ∧ rl_irem cc own nL d mc ms ini J ∧ rl_dup cc own nL d mc ms ini J ∧ rl_dup2 cc own nL d mc ms ini J ∧ rl_pop cc own nL d mc ms ini J ∧ rl_if_eq cc own nL d mc ms ini J ∧ rl_icmp_eq cc own nL d mc ms ini J ∧ rl_if_ne cc own nL d mc ms ini J ∧ rl_icmp_ne cc own nL d mc ms ini J ∧ rl_if_lt cc own nL d mc ms ini J ∧ rl_icmp_lt cc own nL d mc ms ini J ∧ rl_if_ge cc own nL d mc ms ini J ∧ rl_icmp_ge cc own nL d mc ms ini J ∧ rl_if_gt cc own nL d mc ms ini J ∧ rl_icmp_gt cc own nL d mc ms ini J ∧ rl_if_le cc own nL d mc ms ini J ∧ rl_icmp_le cc own nL d mc ms ini J ∧ rl_goto cc own nL d mc ms ini J ∧ rl_forget cc own nL d mc ms ini J ∧ rl_null cc own nL d mc ms ini J ∧ rl_ifnull cc own nL d mc ms ini J ∧ rl_ifnonnull cc own nL d mc ms ini J ∧ rl_acmp_eq cc own nL d mc ms ini J ∧ rl_acmp_ne cc own nL d mc ms ini J ∧ rl_tabIn cc own nL d mc ms ini J ∧ rl_tabOut cc own nL d mc ms ini J ∧ rl_getI cc own nL d mc ms ini J ∧ rl_getR cc own nL d mc ms ini J ∧ rl_putI cc own nL d mc ms ini J ∧ rl_putIF cc own nL d mc ms ini J ∧ rl_putR cc own nL d mc ms ini J ∧ rl_putRF cc own nL d mc ms ini J ∧ rl_iald cc own nL d mc ms ini J ∧ rl_zald cc own nL d mc ms ini J ∧ rl_alen cc own nL d mc ms ini J ∧ rl_aald cc own nL d mc ms ini J ∧ rl_iast cc own nL d mc ms ini J ∧ rl_zast cc own nL d mc ms ini J ∧ rl_aast cc own nL d mc ms ini J ∧ rl_new cc own nL d mc ms ini J ∧ rl_newa_int cc own nL d mc ms ini J ∧ rl_newa_boolean cc own nL d mc ms ini J ∧ rl_newq cc own nL d mc ms ini J ∧ rl_objInit cc own nL d mc ms ini J ∧ rl_mmax cc own nL d mc ms ini J ∧ rl_mmin cc own nL d mc ms ini J ∧ rl_callV cc own nL d mc ms ini J ∧ rl_callS cc own nL d mc ms ini J ∧ rl_callSN cc own nL d mc ms ini J ∧ rl_callV0 cc own nL d mc ms ini J ∧ rl_callS0 cc own nL d mc ms ini J ∧ rl_callSN0 cc own nL d mc ms ini J ∧ rl_callI cc own nL d mc ms ini J ∧ rl_callIN cc own nL d mc ms ini J
section RU
variable {cc : ByteArray} {own : String} {nL d mc ms : Nat} {ini : Prop} {J : JT}
theorem Rules.iconst (hJ : Rules cc own nL d mc ms ini J) : ∀ {pc a b : Nat} {ls : List (Option AV)} {st : List AV} {h : Hp} {n : Int} {v : Int32}, decode cc pc = .ok (.iconst n, 1) → Int32.ofInt n = v → J (pc + 1) ls (.inl v :: st) h a b → J pc ls st h a b := hJ.1
theorem Rules.bipush (hJ : Rules cc own nL d mc ms ini J) : ∀ {pc a b : Nat} {ls : List (Option AV)} {st : List AV} {h : Hp} {n : Int} {v : Int32}, decode cc pc = .ok (.bipush n, 2) → (Int8.ofInt n).toInt32 = v → J (pc + 2) ls (.inl v :: st) h a b → J pc ls st h a b := hJ.2.1
theorem Rules.sipush (hJ : Rules cc own nL d mc ms ini J) : ∀ {pc a b : Nat} {ls : List (Option AV)} {st : List AV} {h : Hp} {n : Int} {v : Int32}, decode cc pc = .ok (.sipush n, 3) → (Int16.ofInt n).toInt32 = v → J (pc + 3) ls (.inl v :: st) h a b → J pc ls st h a b := hJ.2.2.1
theorem Rules.ldc (hJ : Rules cc own nL d mc ms ini J) : ∀ {pc a b : Nat} {ls : List (Option AV)} {st : List AV} {h : Hp} {ix : Nat} {v : Int32}, decode cc pc = .ok (.ldc ix, 2) → Cond.constant own ix v ∈ gws → J (pc + 2) ls (.inl v :: st) h a b → J pc ls st h a b := hJ.2.2.2.1
theorem Rules.ldc_w (hJ : Rules cc own nL d mc ms ini J) : ∀ {pc a b : Nat} {ls : List (Option AV)} {st : List AV} {h : Hp} {ix : Nat} {v : Int32}, decode cc pc = .ok (.ldc_w ix, 3) → Cond.constant own ix v ∈ gws → J (pc + 3) ls (.inl v :: st) h a b → J pc ls st h a b := hJ.2.2.2.2.1
theorem Rules.iload_n (hJ : Rules cc own nL d mc ms ini J) : ∀ {pc a b : Nat} {ls : List (Option AV)} {st : List AV} {h : Hp} {q : Fin 4} {i : Nat} {x : Int32}, decode cc pc = .ok (.iload_n q, 1) → (q : Nat) = i → ls[i]? = some (some (.inl x)) → J (pc + 1) ls (.inl x :: st) h a b → J pc ls st h a b := hJ.2.2.2.2.2.1
theorem Rules.iload (hJ : Rules cc own nL d mc ms ini J) : ∀ {pc a b : Nat} {ls : List (Option AV)} {st : List AV} {h : Hp} {i : Nat} {x : Int32}, decode cc pc = .ok (.iload i, 2) → ls[i]? = some (some (.inl x)) → J (pc + 2) ls (.inl x :: st) h a b → J pc ls st h a b := hJ.2.2.2.2.2.2.1
theorem Rules.aload_n (hJ : Rules cc own nL d mc ms ini J) : ∀ {pc a b : Nat} {ls : List (Option AV)} {st : List AV} {h : Hp} {q : Fin 4} {i kk : Nat} {r : Option Nat}, decode cc pc = .ok (.aload_n q, 1) → (q : Nat) = i → ls[i]? = some (some (.inr (kk, r))) → J (pc + 1) ls (.inr (kk, r) :: st) h a b → J pc ls st h a b := hJ.2.2.2.2.2.2.2.1
theorem Rules.aload (hJ : Rules cc own nL d mc ms ini J) : ∀ {pc a b : Nat} {ls : List (Option AV)} {st : List AV} {h : Hp} {i kk : Nat} {r : Option Nat}, decode cc pc = .ok (.aload i, 2) → ls[i]? = some (some (.inr (kk, r))) → J (pc + 2) ls (.inr (kk, r) :: st) h a b → J pc ls st h a b := hJ.2.2.2.2.2.2.2.2.1
theorem Rules.istore_n (hJ : Rules cc own nL d mc ms ini J) : ∀ {pc a b : Nat} {ls : List (Option AV)} {st : List AV} {h : Hp} {q : Fin 4} {i : Nat} {x : Int32} {ls2 : List (Option AV)}, decode cc pc = .ok (.istore_n q, 1) → (q : Nat) = i → i < nL → ls.set i (some (.inl x)) = ls2 → J (pc + 1) ls2 st h a b → J pc ls (.inl x :: st) h a b := hJ.2.2.2.2.2.2.2.2.2.1
theorem Rules.istore (hJ : Rules cc own nL d mc ms ini J) : ∀ {pc a b : Nat} {ls : List (Option AV)} {st : List AV} {h : Hp} {i : Nat} {x : Int32} {ls2 : List (Option AV)}, decode cc pc = .ok (.istore i, 2) → i < nL → ls.set i (some (.inl x)) = ls2 → J (pc + 2) ls2 st h a b → J pc ls (.inl x :: st) h a b := hJ.2.2.2.2.2.2.2.2.2.2.1
theorem Rules.astore_n (hJ : Rules cc own nL d mc ms ini J) : ∀ {pc a b : Nat} {ls : List (Option AV)} {st : List AV} {h : Hp} {q : Fin 4} {i kk : Nat} {r : Option Nat} {ls2 : List (Option AV)}, decode cc pc = .ok (.astore_n q, 1) → (q : Nat) = i → i < nL → ls.set i (some (.inr (kk, r))) = ls2 → J (pc + 1) ls2 st h a b → J pc ls (.inr (kk, r) :: st) h a b := hJ.2.2.2.2.2.2.2.2.2.2.2.1
theorem Rules.astore (hJ : Rules cc own nL d mc ms ini J) : ∀ {pc a b : Nat} {ls : List (Option AV)} {st : List AV} {h : Hp} {i kk : Nat} {r : Option Nat} {ls2 : List (Option AV)}, decode cc pc = .ok (.astore i, 2) → i < nL → ls.set i (some (.inr (kk, r))) = ls2 → J (pc + 2) ls2 st h a b → J pc ls (.inr (kk, r) :: st) h a b := hJ.2.2.2.2.2.2.2.2.2.2.2.2.1
theorem Rules.iinc (hJ : Rules cc own nL d mc ms ini J) : ∀ {pc a b : Nat} {ls : List (Option AV)} {st : List AV} {h : Hp} {i : Nat} {n : Int} {x v : Int32} {ls2 : List (Option AV)}, decode cc pc = .ok (.iinc i n, 3) → ls[i]? = some (some (.inl x)) → x + Int32.ofInt n = v → i < nL → ls.set i (some (.inl v)) = ls2 → J (pc + 3) ls2 st h a b → J pc ls st h a b := hJ.2.2.2.2.2.2.2.2.2.2.2.2.2.1
theorem Rules.iadd (hJ : Rules cc own nL d mc ms ini J) : ∀ {pc a b : Nat} {ls : List (Option AV)} {st : List AV} {h : Hp} {x y : Int32}, decode cc pc = .ok (.iadd, 1) → J (pc + 1) ls (.inl (x + y) :: st) h a b → J pc ls (.inl y :: .inl x :: st) h a b := hJ.2.2.2.2.2.2.2.2.2.2.2.2.2.2.1
theorem Rules.isub (hJ : Rules cc own nL d mc ms ini J) : ∀ {pc a b : Nat} {ls : List (Option AV)} {st : List AV} {h : Hp} {x y : Int32}, decode cc pc = .ok (.isub, 1) → J (pc + 1) ls (.inl (x - y) :: st) h a b → J pc ls (.inl y :: .inl x :: st) h a b := hJ.2.2.2.2.2.2.2.2.2.2.2.2.2.2.2.1
theorem Rules.imul (hJ : Rules cc own nL d mc ms ini J) : ∀ {pc a b : Nat} {ls : List (Option AV)} {st : List AV} {h : Hp} {x y : Int32}, decode cc pc = .ok (.imul, 1) → J (pc + 1) ls (.inl (x * y) :: st) h a b → J pc ls (.inl y :: .inl x :: st) h a b := hJ.2.2.2.2.2.2.2.2.2.2.2.2.2.2.2.2.1
theorem Rules.iand (hJ : Rules cc own nL d mc ms ini J) : ∀ {pc a b : Nat} {ls : List (Option AV)} {st : List AV} {h : Hp} {x y : Int32}, decode cc pc = .ok (.iand, 1) → J (pc + 1) ls (.inl (x &&& y) :: st) h a b → J pc ls (.inl y :: .inl x :: st) h a b := hJ.2.2.2.2.2.2.2.2.2.2.2.2.2.2.2.2.2.1
theorem Rules.ior (hJ : Rules cc own nL d mc ms ini J) : ∀ {pc a b : Nat} {ls : List (Option AV)} {st : List AV} {h : Hp} {x y : Int32}, decode cc pc = .ok (.ior, 1) → J (pc + 1) ls (.inl (x ||| y) :: st) h a b → J pc ls (.inl y :: .inl x :: st) h a b := hJ.2.2.2.2.2.2.2.2.2.2.2.2.2.2.2.2.2.2.1
theorem Rules.ishl (hJ : Rules cc own nL d mc ms ini J) : ∀ {pc a b : Nat} {ls : List (Option AV)} {st : List AV} {h : Hp} {x y : Int32}, decode cc pc = .ok (.ishl, 1) → J (pc + 1) ls (.inl (x <<< (y &&& 31)) :: st) h a b → J pc ls (.inl y :: .inl x :: st) h a b := hJ.2.2.2.2.2.2.2.2.2.2.2.2.2.2.2.2.2.2.2.1
theorem Rules.ishr (hJ : Rules cc own nL d mc ms ini J) : ∀ {pc a b : Nat} {ls : List (Option AV)} {st : List AV} {h : Hp} {x y : Int32}, decode cc pc = .ok (.ishr, 1) → J (pc + 1) ls (.inl (x >>> (y &&& 31)) :: st) h a b → J pc ls (.inl y :: .inl x :: st) h a b := hJ.2.2.2.2.2.2.2.2.2.2.2.2.2.2.2.2.2.2.2.2.1
theorem Rules.idiv (hJ : Rules cc own nL d mc ms ini J) : ∀ {pc a b : Nat} {ls : List (Option AV)} {st : List AV} {h : Hp} {x y : Int32}, decode cc pc = .ok (.idiv, 1) → ¬ y = 0 → J (pc + 1) ls (.inl (x / y) :: st) h a b → J pc ls (.inl y :: .inl x :: st) h a b := hJ.2.2.2.2.2.2.2.2.2.2.2.2.2.2.2.2.2.2.2.2.2.1
theorem Rules.irem (hJ : Rules cc own nL d mc ms ini J) : ∀ {pc a b : Nat} {ls : List (Option AV)} {st : List AV} {h : Hp} {x y : Int32}, decode cc pc = .ok (.irem, 1) → ¬ y = 0 → J (pc + 1) ls (.inl (x - x / y * y) :: st) h a b → J pc ls (.inl y :: .inl x :: st) h a b := hJ.2.2.2.2.2.2.2.2.2.2.2.2.2.2.2.2.2.2.2.2.2.2.1
theorem Rules.dup (hJ : Rules cc own nL d mc ms ini J) : ∀ {pc a b : Nat} {ls : List (Option AV)} {st : List AV} {h : Hp} {v : AV}, decode cc pc = .ok (.dup, 1) → J (pc + 1) ls (v :: v :: st) h a b → J pc ls (v :: st) h a b := hJ.2.2.2.2.2.2.2.2.2.2.2.2.2.2.2.2.2.2.2.2.2.2.2.1
theorem Rules.dup2 (hJ : Rules cc own nL d mc ms ini J) : ∀ {pc a b : Nat} {ls : List (Option AV)} {st : List AV} {h : Hp} {v w : AV}, decode cc pc = .ok (.dup2, 1) → J (pc + 1) ls (v :: w :: v :: w :: st) h a b → J pc ls (v :: w :: st) h a b := hJ.2.2.2.2.2.2.2.2.2.2.2.2.2.2.2.2.2.2.2.2.2.2.2.2.1
theorem Rules.pop (hJ : Rules cc own nL d mc ms ini J) : ∀ {pc a b : Nat} {ls : List (Option AV)} {st : List AV} {h : Hp} {v : AV}, decode cc pc = .ok (.pop, 1) → J (pc + 1) ls st h a b → J pc ls (v :: st) h a b := hJ.2.2.2.2.2.2.2.2.2.2.2.2.2.2.2.2.2.2.2.2.2.2.2.2.2.1
theorem Rules.if_eq (hJ : Rules cc own nL d mc ms ini J) : ∀ {pc a b : Nat} {ls : List (Option AV)} {st : List AV} {h : Hp} {x : Int32} {off : Int} {tgt : Nat}, decode cc pc = .ok (.ifCond .eq off, 3) → (pc : Int) + off = (tgt : Int) → (x = 0 → J tgt ls st h a b) → (¬ x = 0 → J (pc + 3) ls st h a b) → J pc ls (.inl x :: st) h a b := hJ.2.2.2.2.2.2.2.2.2.2.2.2.2.2.2.2.2.2.2.2.2.2.2.2.2.2.1
theorem Rules.icmp_eq (hJ : Rules cc own nL d mc ms ini J) : ∀ {pc a b : Nat} {ls : List (Option AV)} {st : List AV} {h : Hp} {x y : Int32} {off : Int} {tgt : Nat}, decode cc pc = .ok (.if_icmp .eq off, 3) → (pc : Int) + off = (tgt : Int) → (x = y → J tgt ls st h a b) → (¬ x = y → J (pc + 3) ls st h a b) → J pc ls (.inl y :: .inl x :: st) h a b := hJ.2.2.2.2.2.2.2.2.2.2.2.2.2.2.2.2.2.2.2.2.2.2.2.2.2.2.2.1
theorem Rules.if_ne (hJ : Rules cc own nL d mc ms ini J) : ∀ {pc a b : Nat} {ls : List (Option AV)} {st : List AV} {h : Hp} {x : Int32} {off : Int} {tgt : Nat}, decode cc pc = .ok (.ifCond .ne off, 3) → (pc : Int) + off = (tgt : Int) → (¬ x = 0 → J tgt ls st h a b) → (x = 0 → J (pc + 3) ls st h a b) → J pc ls (.inl x :: st) h a b := hJ.2.2.2.2.2.2.2.2.2.2.2.2.2.2.2.2.2.2.2.2.2.2.2.2.2.2.2.2.1
theorem Rules.icmp_ne (hJ : Rules cc own nL d mc ms ini J) : ∀ {pc a b : Nat} {ls : List (Option AV)} {st : List AV} {h : Hp} {x y : Int32} {off : Int} {tgt : Nat}, decode cc pc = .ok (.if_icmp .ne off, 3) → (pc : Int) + off = (tgt : Int) → (¬ x = y → J tgt ls st h a b) → (x = y → J (pc + 3) ls st h a b) → J pc ls (.inl y :: .inl x :: st) h a b := hJ.2.2.2.2.2.2.2.2.2.2.2.2.2.2.2.2.2.2.2.2.2.2.2.2.2.2.2.2.2.1
theorem Rules.if_lt (hJ : Rules cc own nL d mc ms ini J) : ∀ {pc a b : Nat} {ls : List (Option AV)} {st : List AV} {h : Hp} {x : Int32} {off : Int} {tgt : Nat}, decode cc pc = .ok (.ifCond .lt off, 3) → (pc : Int) + off = (tgt : Int) → (x < 0 → J tgt ls st h a b) → (¬ x < 0 → J (pc + 3) ls st h a b) → J pc ls (.inl x :: st) h a b := hJ.2.2.2.2.2.2.2.2.2.2.2.2.2.2.2.2.2.2.2.2.2.2.2.2.2.2.2.2.2.2.1
theorem Rules.icmp_lt (hJ : Rules cc own nL d mc ms ini J) : ∀ {pc a b : Nat} {ls : List (Option AV)} {st : List AV} {h : Hp} {x y : Int32} {off : Int} {tgt : Nat}, decode cc pc = .ok (.if_icmp .lt off, 3) → (pc : Int) + off = (tgt : Int) → (x < y → J tgt ls st h a b) → (¬ x < y → J (pc + 3) ls st h a b) → J pc ls (.inl y :: .inl x :: st) h a b := hJ.2.2.2.2.2.2.2.2.2.2.2.2.2.2.2.2.2.2.2.2.2.2.2.2.2.2.2.2.2.2.2.1
theorem Rules.if_ge (hJ : Rules cc own nL d mc ms ini J) : ∀ {pc a b : Nat} {ls : List (Option AV)} {st : List AV} {h : Hp} {x : Int32} {off : Int} {tgt : Nat}, decode cc pc = .ok (.ifCond .ge off, 3) → (pc : Int) + off = (tgt : Int) → (0 ≤ x → J tgt ls st h a b) → (¬ 0 ≤ x → J (pc + 3) ls st h a b) → J pc ls (.inl x :: st) h a b := hJ.2.2.2.2.2.2.2.2.2.2.2.2.2.2.2.2.2.2.2.2.2.2.2.2.2.2.2.2.2.2.2.2.1
theorem Rules.icmp_ge (hJ : Rules cc own nL d mc ms ini J) : ∀ {pc a b : Nat} {ls : List (Option AV)} {st : List AV} {h : Hp} {x y : Int32} {off : Int} {tgt : Nat}, decode cc pc = .ok (.if_icmp .ge off, 3) → (pc : Int) + off = (tgt : Int) → (y ≤ x → J tgt ls st h a b) → (¬ y ≤ x → J (pc + 3) ls st h a b) → J pc ls (.inl y :: .inl x :: st) h a b := hJ.2.2.2.2.2.2.2.2.2.2.2.2.2.2.2.2.2.2.2.2.2.2.2.2.2.2.2.2.2.2.2.2.2.1
theorem Rules.if_gt (hJ : Rules cc own nL d mc ms ini J) : ∀ {pc a b : Nat} {ls : List (Option AV)} {st : List AV} {h : Hp} {x : Int32} {off : Int} {tgt : Nat}, decode cc pc = .ok (.ifCond .gt off, 3) → (pc : Int) + off = (tgt : Int) → (0 < x → J tgt ls st h a b) → (¬ 0 < x → J (pc + 3) ls st h a b) → J pc ls (.inl x :: st) h a b := hJ.2.2.2.2.2.2.2.2.2.2.2.2.2.2.2.2.2.2.2.2.2.2.2.2.2.2.2.2.2.2.2.2.2.2.1
theorem Rules.icmp_gt (hJ : Rules cc own nL d mc ms ini J) : ∀ {pc a b : Nat} {ls : List (Option AV)} {st : List AV} {h : Hp} {x y : Int32} {off : Int} {tgt : Nat}, decode cc pc = .ok (.if_icmp .gt off, 3) → (pc : Int) + off = (tgt : Int) → (y < x → J tgt ls st h a b) → (¬ y < x → J (pc + 3) ls st h a b) → J pc ls (.inl y :: .inl x :: st) h a b := hJ.2.2.2.2.2.2.2.2.2.2.2.2.2.2.2.2.2.2.2.2.2.2.2.2.2.2.2.2.2.2.2.2.2.2.2.1
theorem Rules.if_le (hJ : Rules cc own nL d mc ms ini J) : ∀ {pc a b : Nat} {ls : List (Option AV)} {st : List AV} {h : Hp} {x : Int32} {off : Int} {tgt : Nat}, decode cc pc = .ok (.ifCond .le off, 3) → (pc : Int) + off = (tgt : Int) → (x ≤ 0 → J tgt ls st h a b) → (¬ x ≤ 0 → J (pc + 3) ls st h a b) → J pc ls (.inl x :: st) h a b := hJ.2.2.2.2.2.2.2.2.2.2.2.2.2.2.2.2.2.2.2.2.2.2.2.2.2.2.2.2.2.2.2.2.2.2.2.2.1
theorem Rules.icmp_le (hJ : Rules cc own nL d mc ms ini J) : ∀ {pc a b : Nat} {ls : List (Option AV)} {st : List AV} {h : Hp} {x y : Int32} {off : Int} {tgt : Nat}, decode cc pc = .ok (.if_icmp .le off, 3) → (pc : Int) + off = (tgt : Int) → (x ≤ y → J tgt ls st h a b) → (¬ x ≤ y → J (pc + 3) ls st h a b) → J pc ls (.inl y :: .inl x :: st) h a b := hJ.2.2.2.2.2.2.2.2.2.2.2.2.2.2.2.2.2.2.2.2.2.2.2.2.2.2.2.2.2.2.2.2.2.2.2.2.2.1
theorem Rules.goto (hJ : Rules cc own nL d mc ms ini J) : ∀ {pc a b : Nat} {ls : List (Option AV)} {st : List AV} {h : Hp} {off : Int} {tgt : Nat}, decode cc pc = .ok (.goto off, 3) → (pc : Int) + off = (tgt : Int) → J tgt ls st h a b → J pc ls st h a b := hJ.2.2.2.2.2.2.2.2.2.2.2.2.2.2.2.2.2.2.2.2.2.2.2.2.2.2.2.2.2.2.2.2.2.2.2.2.2.2.1
theorem Rules.forget (hJ : Rules cc own nL d mc ms ini J) : ∀ {pc a b : Nat} {ls : List (Option AV)} {st : List AV} {h : Hp} {ls2 : List (Option AV)}, subL ls2 ls → J pc ls2 st h a b → J pc ls st h a b := hJ.2.2.2.2.2.2.2.2.2.2.2.2.2.2.2.2.2.2.2.2.2.2.2.2.2.2.2.2.2.2.2.2.2.2.2.2.2.2.2.1
theorem Rules.null (hJ : Rules cc own nL d mc ms ini J) : ∀ {pc a b : Nat} {ls : List (Option AV)} {st : List AV} {h : Hp} {kk : Nat}, decode cc pc = .ok (.aconst_null, 1) → J (pc + 1) ls (.inr (kk, none) :: st) h a b → J pc ls st h a b := hJ.2.2.2.2.2.2.2.2.2.2.2.2.2.2.2.2.2.2.2.2.2.2.2.2.2.2.2.2.2.2.2.2.2.2.2.2.2.2.2.2.1
theorem Rules.ifnull (hJ : Rules cc own nL d mc ms ini J) : ∀ {pc a b : Nat} {ls : List (Option AV)} {st : List AV} {h : Hp} {kk : Nat} {r : Option Nat} {off : Int} {tgt : Nat}, decode cc pc = .ok (.ifnull off, 3) → (pc : Int) + off = (tgt : Int) → (r = none → J tgt ls st h a b) → (∀ n, r = some n → J (pc + 3) ls st h a b) → J pc ls (.inr (kk, r) :: st) h a b := hJ.2.2.2.2.2.2.2.2.2.2.2.2.2.2.2.2.2.2.2.2.2.2.2.2.2.2.2.2.2.2.2.2.2.2.2.2.2.2.2.2.2.1
theorem Rules.ifnonnull (hJ : Rules cc own nL d mc ms ini J) : ∀ {pc a b : Nat} {ls : List (Option AV)} {st : List AV} {h : Hp} {kk : Nat} {r : Option Nat} {off : Int} {tgt : Nat}, decode cc pc = .ok (.ifnonnull off, 3) → (pc : Int) + off = (tgt : Int) → (∀ n, r = some n → J tgt ls st h a b) → (r = none → J (pc + 3) ls st h a b) → J pc ls (.inr (kk, r) :: st) h a b := hJ.2.2.2.2.2.2.2.2.2.2.2.2.2.2.2.2.2.2.2.2.2.2.2.2.2.2.2.2.2.2.2.2.2.2.2.2.2.2.2.2.2.2.1
theorem Rules.acmp_eq (hJ : Rules cc own nL d mc ms ini J) : ∀ {pc a b : Nat} {ls : List (Option AV)} {st : List AV} {h : Hp} {kk : Nat} {r1 r2 : Option Nat} {off : Int} {tgt : Nat}, decode cc pc = .ok (.if_acmp .eq off, 3) → kk < 99 → (pc : Int) + off = (tgt : Int) → (r1 = r2 → J tgt ls st h a b) → (¬ r1 = r2 → J (pc + 3) ls st h a b) → J pc ls (.inr (kk, r2) :: .inr (kk, r1) :: st) h a b := hJ.2.2.2.2.2.2.2.2.2.2.2.2.2.2.2.2.2.2.2.2.2.2.2.2.2.2.2.2.2.2.2.2.2.2.2.2.2.2.2.2.2.2.2.1
theorem Rules.acmp_ne (hJ : Rules cc own nL d mc ms ini J) : ∀ {pc a b : Nat} {ls : List (Option AV)} {st : List AV} {h : Hp} {kk : Nat} {r1 r2 : Option Nat} {off : Int} {tgt : Nat}, decode cc pc = .ok (.if_acmp .ne off, 3) → kk < 99 → (pc : Int) + off = (tgt : Int) → (¬ r1 = r2 → J tgt ls st h a b) → (r1 = r2 → J (pc + 3) ls st h a b) → J pc ls (.inr (kk, r2) :: .inr (kk, r1) :: st) h a b := hJ.2.2.2.2.2.2.2.2.2.2.2.2.2.2.2.2.2.2.2.2.2.2.2.2.2.2.2.2.2.2.2.2.2.2.2.2.2.2.2.2.2.2.2.2.1
theorem Rules.tabIn (hJ : Rules cc own nL d mc ms ini J) : ∀ {pc a b : Nat} {ls : List (Option AV)} {st : List AV} {h : Hp} {dflt lo hi : Int} {offs : Array Int} {len : Nat} {x : Int32} {off : Int} {tgt : Nat}, decode cc pc = .ok (.tableswitch dflt lo hi offs, len) → ¬ x.toInt < lo → ¬ hi < x.toInt → offs[(x.toInt - lo).toNat]? = some off → (pc : Int) + off = (tgt : Int) → J tgt ls st h a b → J pc ls (.inl x :: st) h a b := hJ.2.2.2.2.2.2.2.2.2.2.2.2.2.2.2.2.2.2.2.2.2.2.2.2.2.2.2.2.2.2.2.2.2.2.2.2.2.2.2.2.2.2.2.2.2.1
theorem Rules.tabOut (hJ : Rules cc own nL d mc ms ini J) : ∀ {pc a b : Nat} {ls : List (Option AV)} {st : List AV} {h : Hp} {dflt lo hi : Int} {offs : Array Int} {len : Nat} {x : Int32} {tgt : Nat}, decode cc pc = .ok (.tableswitch dflt lo hi offs, len) → (x.toInt < lo ∨ hi < x.toInt) → (pc : Int) + dflt = (tgt : Int) → J tgt ls st h a b → J pc ls (.inl x :: st) h a b := hJ.2.2.2.2.2.2.2.2.2.2.2.2.2.2.2.2.2.2.2.2.2.2.2.2.2.2.2.2.2.2.2.2.2.2.2.2.2.2.2.2.2.2.2.2.2.2.1
theorem Rules.getI (hJ : Rules cc own nL d mc ms ini J) : ∀ {pc a b : Nat} {ls : List (Option AV)} {st : List AV} {h : Hp} {ix kk i n : Nat} {r : Option Nat}, decode cc pc = .ok (.getfield ix, 3) → FI own ix kk i → r = some n → J (pc + 3) ls (.inl (pI h kk n i) :: st) h a b → J pc ls (.inr (kk, r) :: st) h a b := hJ.2.2.2.2.2.2.2.2.2.2.2.2.2.2.2.2.2.2.2.2.2.2.2.2.2.2.2.2.2.2.2.2.2.2.2.2.2.2.2.2.2.2.2.2.2.2.2.1
theorem Rules.getR (hJ : Rules cc own nL d mc ms ini J) : ∀ {pc a b : Nat} {ls : List (Option AV)} {st : List AV} {h : Hp} {ix kk i n k2 : Nat} {r : Option Nat}, decode cc pc = .ok (.getfield ix, 3) → FR own ix kk i k2 → r = some n → J (pc + 3) ls (.inr (k2, pR h kk n i) :: st) h a b → J pc ls (.inr (kk, r) :: st) h a b := hJ.2.2.2.2.2.2.2.2.2.2.2.2.2.2.2.2.2.2.2.2.2.2.2.2.2.2.2.2.2.2.2.2.2.2.2.2.2.2.2.2.2.2.2.2.2.2.2.2.1
theorem Rules.putI (hJ : Rules cc own nL d mc ms ini J) : ∀ {pc a b : Nat} {ls : List (Option AV)} {st : List AV} {h : Hp} {ix kk i n : Nat} {r : Option Nat} {v : Int32}, decode cc pc = .ok (.putfield ix, 3) → FI own ix kk i → (kT kk i).2.2.2 = false → (narrow (kY kk i) (.int v) = .int v ∧ fits (kY kk i) (.int v) = true) → r = some n → J (pc + 3) ls st (wI h kk n i v) a b → J pc ls (.inl v :: .inr (kk, r) :: st) h a b := hJ.2.2.2.2.2.2.2.2.2.2.2.2.2.2.2.2.2.2.2.2.2.2.2.2.2.2.2.2.2.2.2.2.2.2.2.2.2.2.2.2.2.2.2.2.2.2.2.2.2.1
theorem Rules.putIF (hJ : Rules cc own nL d mc ms ini J) : ∀ {pc a b : Nat} {ls : List (Option AV)} {st : List AV} {h : Hp} {ix kk i n : Nat} {r : Option Nat} {v : Int32}, decode cc pc = .ok (.putfield ix, 3) → FI own ix kk i → (kT kk i).2.2.2 = true → kR kk = own → ini → (narrow (kY kk i) (.int v) = .int v ∧ fits (kY kk i) (.int v) = true) → r = some n → J (pc + 3) ls st (wI h kk n i v) a b → J pc ls (.inl v :: .inr (kk, r) :: st) h a b := hJ.2.2.2.2.2.2.2.2.2.2.2.2.2.2.2.2.2.2.2.2.2.2.2.2.2.2.2.2.2.2.2.2.2.2.2.2.2.2.2.2.2.2.2.2.2.2.2.2.2.2.1
theorem Rules.putR (hJ : Rules cc own nL d mc ms ini J) : ∀ {pc a b : Nat} {ls : List (Option AV)} {st : List AV} {h : Hp} {ix kk i n k2 k3 : Nat} {r o : Option Nat}, decode cc pc = .ok (.putfield ix, 3) → FR own ix kk i k2 → (kT kk i).2.2.2 = false → (o = none ∨ k3 = k2) → r = some n → J (pc + 3) ls st (wR h kk n i o) a b → J pc ls (.inr (k3, o) :: .inr (kk, r) :: st) h a b := hJ.2.2.2.2.2.2.2.2.2.2.2.2.2.2.2.2.2.2.2.2.2.2.2.2.2.2.2.2.2.2.2.2.2.2.2.2.2.2.2.2.2.2.2.2.2.2.2.2.2.2.2.1
theorem Rules.putRF (hJ : Rules cc own nL d mc ms ini J) : ∀ {pc a b : Nat} {ls : List (Option AV)} {st : List AV} {h : Hp} {ix kk i n k2 k3 : Nat} {r o : Option Nat}, decode cc pc = .ok (.putfield ix, 3) → FR own ix kk i k2 → (kT kk i).2.2.2 = true → kR kk = own → ini → (o = none ∨ k3 = k2) → r = some n → J (pc + 3) ls st (wR h kk n i o) a b → J pc ls (.inr (k3, o) :: .inr (kk, r) :: st) h a b := hJ.2.2.2.2.2.2.2.2.2.2.2.2.2.2.2.2.2.2.2.2.2.2.2.2.2.2.2.2.2.2.2.2.2.2.2.2.2.2.2.2.2.2.2.2.2.2.2.2.2.2.2.2.1
theorem Rules.iald (hJ : Rules cc own nL d mc ms ini J) : ∀ {pc a b : Nat} {ls : List (Option AV)} {st : List AV} {h : Hp} {kk n : Nat} {r : Option Nat} {x : Int32}, decode cc pc = .ok (.iaload, 1) → AI kk → r = some n → inb x (pL h kk n) = true → J (pc + 1) ls (.inl (pI h kk n x.toNatClampNeg) :: st) h a b → J pc ls (.inl x :: .inr (kk, r) :: st) h a b := hJ.2.2.2.2.2.2.2.2.2.2.2.2.2.2.2.2.2.2.2.2.2.2.2.2.2.2.2.2.2.2.2.2.2.2.2.2.2.2.2.2.2.2.2.2.2.2.2.2.2.2.2.2.2.1
theorem Rules.zald (hJ : Rules cc own nL d mc ms ini J) : ∀ {pc a b : Nat} {ls : List (Option AV)} {st : List AV} {h : Hp} {kk n : Nat} {r : Option Nat} {x : Int32}, decode cc pc = .ok (.baload, 1) → AZ kk → r = some n → inb x (pL h kk n) = true → J (pc + 1) ls (.inl (pI h kk n x.toNatClampNeg) :: st) h a b → J pc ls (.inl x :: .inr (kk, r) :: st) h a b := hJ.2.2.2.2.2.2.2.2.2.2.2.2.2.2.2.2.2.2.2.2.2.2.2.2.2.2.2.2.2.2.2.2.2.2.2.2.2.2.2.2.2.2.2.2.2.2.2.2.2.2.2.2.2.2.1
theorem Rules.alen (hJ : Rules cc own nL d mc ms ini J) : ∀ {pc a b : Nat} {ls : List (Option AV)} {st : List AV} {h : Hp} {kk n : Nat} {r : Option Nat}, decode cc pc = .ok (.arraylength, 1) → AI kk → r = some n → J (pc + 1) ls (.inl (nI (pL h kk n)) :: st) h a b → J pc ls (.inr (kk, r) :: st) h a b := hJ.2.2.2.2.2.2.2.2.2.2.2.2.2.2.2.2.2.2.2.2.2.2.2.2.2.2.2.2.2.2.2.2.2.2.2.2.2.2.2.2.2.2.2.2.2.2.2.2.2.2.2.2.2.2.2.1
theorem Rules.aald (hJ : Rules cc own nL d mc ms ini J) : ∀ {pc a b : Nat} {ls : List (Option AV)} {st : List AV} {h : Hp} {kk n k2 : Nat} {r : Option Nat} {x : Int32}, decode cc pc = .ok (.aaload, 1) → AR kk k2 → r = some n → inb x (pL h kk n) = true → J (pc + 1) ls (.inr (k2, pR h kk n x.toNatClampNeg) :: st) h a b → J pc ls (.inl x :: .inr (kk, r) :: st) h a b := hJ.2.2.2.2.2.2.2.2.2.2.2.2.2.2.2.2.2.2.2.2.2.2.2.2.2.2.2.2.2.2.2.2.2.2.2.2.2.2.2.2.2.2.2.2.2.2.2.2.2.2.2.2.2.2.2.2.1
theorem Rules.iast (hJ : Rules cc own nL d mc ms ini J) : ∀ {pc a b : Nat} {ls : List (Option AV)} {st : List AV} {h : Hp} {kk n : Nat} {r : Option Nat} {x v : Int32}, decode cc pc = .ok (.iastore, 1) → AI kk → r = some n → inb x (pL h kk n) = true → J (pc + 1) ls st (wI h kk n x.toNatClampNeg v) a b → J pc ls (.inl v :: .inl x :: .inr (kk, r) :: st) h a b := hJ.2.2.2.2.2.2.2.2.2.2.2.2.2.2.2.2.2.2.2.2.2.2.2.2.2.2.2.2.2.2.2.2.2.2.2.2.2.2.2.2.2.2.2.2.2.2.2.2.2.2.2.2.2.2.2.2.2.1
theorem Rules.zast (hJ : Rules cc own nL d mc ms ini J) : ∀ {pc a b : Nat} {ls : List (Option AV)} {st : List AV} {h : Hp} {kk n : Nat} {r : Option Nat} {x v : Int32}, decode cc pc = .ok (.bastore, 1) → AZ kk → r = some n → inb x (pL h kk n) = true → (v = 0 ∨ v = 1) → J (pc + 1) ls st (wI h kk n x.toNatClampNeg v) a b → J pc ls (.inl v :: .inl x :: .inr (kk, r) :: st) h a b := hJ.2.2.2.2.2.2.2.2.2.2.2.2.2.2.2.2.2.2.2.2.2.2.2.2.2.2.2.2.2.2.2.2.2.2.2.2.2.2.2.2.2.2.2.2.2.2.2.2.2.2.2.2.2.2.2.2.2.2.1
theorem Rules.aast (hJ : Rules cc own nL d mc ms ini J) : ∀ {pc a b : Nat} {ls : List (Option AV)} {st : List AV} {h : Hp} {kk n k2 : Nat} {r o : Option Nat} {x : Int32}, decode cc pc = .ok (.aastore, 1) → AR kk k2 → r = some n → inb x (pL h kk n) = true → J (pc + 1) ls st (wR h kk n x.toNatClampNeg o) a b → J pc ls (.inr (k2, o) :: .inl x :: .inr (kk, r) :: st) h a b := hJ.2.2.2.2.2.2.2.2.2.2.2.2.2.2.2.2.2.2.2.2.2.2.2.2.2.2.2.2.2.2.2.2.2.2.2.2.2.2.2.2.2.2.2.2.2.2.2.2.2.2.2.2.2.2.2.2.2.2.2.1
theorem Rules.new (hJ : Rules cc own nL d mc ms ini J) : ∀ {pc a b : Nat} {ls : List (Option AV)} {st : List AV} {h : Hp} {ix kk : Nat}, decode cc pc = .ok (.new ix, 3) → NO own ix kk → a + 1 ≤ mc → b + nf kk ≤ ms → J (pc + 3) ls (.inr (kk, some (pC h kk)) :: st) (wN h kk 0) (a + 1) (b + nf kk) → J pc ls st h a b := hJ.2.2.2.2.2.2.2.2.2.2.2.2.2.2.2.2.2.2.2.2.2.2.2.2.2.2.2.2.2.2.2.2.2.2.2.2.2.2.2.2.2.2.2.2.2.2.2.2.2.2.2.2.2.2.2.2.2.2.2.2.1
theorem Rules.newa_int (hJ : Rules cc own nL d mc ms ini J) : ∀ {pc a b : Nat} {ls : List (Option AV)} {st : List AV} {h : Hp} {kk N : Nat} {n : Int32}, decode cc pc = .ok (.newarray .int, 2) → AI kk → ¬ n < 0 → n.toNatClampNeg ≤ N → N ≤ 1000 → a + 1 ≤ mc → b + N ≤ ms → J (pc + 2) ls (.inr (kk, some (pC h kk)) :: st) (wN h kk n.toNatClampNeg) (a + 1) (b + N) → J pc ls (.inl n :: st) h a b := hJ.2.2.2.2.2.2.2.2.2.2.2.2.2.2.2.2.2.2.2.2.2.2.2.2.2.2.2.2.2.2.2.2.2.2.2.2.2.2.2.2.2.2.2.2.2.2.2.2.2.2.2.2.2.2.2.2.2.2.2.2.2.1
theorem Rules.newa_boolean (hJ : Rules cc own nL d mc ms ini J) : ∀ {pc a b : Nat} {ls : List (Option AV)} {st : List AV} {h : Hp} {kk N : Nat} {n : Int32}, decode cc pc = .ok (.newarray .boolean, 2) → AZ kk → ¬ n < 0 → n.toNatClampNeg ≤ N → N ≤ 1000 → a + 1 ≤ mc → b + N ≤ ms → J (pc + 2) ls (.inr (kk, some (pC h kk)) :: st) (wN h kk n.toNatClampNeg) (a + 1) (b + N) → J pc ls (.inl n :: st) h a b := hJ.2.2.2.2.2.2.2.2.2.2.2.2.2.2.2.2.2.2.2.2.2.2.2.2.2.2.2.2.2.2.2.2.2.2.2.2.2.2.2.2.2.2.2.2.2.2.2.2.2.2.2.2.2.2.2.2.2.2.2.2.2.2.1
theorem Rules.newq (hJ : Rules cc own nL d mc ms ini J) : ∀ {pc a b : Nat} {ls : List (Option AV)} {st : List AV} {h : Hp} {kk k2 ix N : Nat} {n : Int32}, decode cc pc = .ok (.anewarray ix, 3) → AR kk k2 → (Cond.classLink own ix (kR k2) ∈ gws ∧ kR k2 ∈ aoW) → ¬ n < 0 → n.toNatClampNeg ≤ N → N ≤ 1000 → a + 1 ≤ mc → b + N ≤ ms → J (pc + 3) ls (.inr (kk, some (pC h kk)) :: st) (wN h kk n.toNatClampNeg) (a + 1) (b + N) → J pc ls (.inl n :: st) h a b := hJ.2.2.2.2.2.2.2.2.2.2.2.2.2.2.2.2.2.2.2.2.2.2.2.2.2.2.2.2.2.2.2.2.2.2.2.2.2.2.2.2.2.2.2.2.2.2.2.2.2.2.2.2.2.2.2.2.2.2.2.2.2.2.2.1
theorem Rules.objInit (hJ : Rules cc own nL d mc ms ini J) : ∀ {pc a b : Nat} {ls : List (Option AV)} {st : List AV} {h : Hp} {ix kk n : Nat} {r : Option Nat}, decode cc pc = .ok (.invokespecial ix, 3) → Cond.methodLink own ix objectInit ∈ gws → r = some n → 1 ≤ d → st.length ≤ 8 → J (pc + 3) ls st h a b → J pc ls (.inr (kk, r) :: st) h a b := hJ.2.2.2.2.2.2.2.2.2.2.2.2.2.2.2.2.2.2.2.2.2.2.2.2.2.2.2.2.2.2.2.2.2.2.2.2.2.2.2.2.2.2.2.2.2.2.2.2.2.2.2.2.2.2.2.2.2.2.2.2.2.2.2.2.1
theorem Rules.mmax (hJ : Rules cc own nL d mc ms ini J) : ∀ {pc a b : Nat} {ls : List (Option AV)} {st : List AV} {h : Hp} {ix : Nat} {x y : Int32}, decode cc pc = .ok (.invokestatic ix, 3) → Cond.methodLink own ix Lib.Math.max.name ∈ gws → 1 ≤ d → st.length ≤ 8 → a ≤ mc → b ≤ ms → J (pc + 3) ls (.inl (if x < y then y else x) :: st) h a b → J pc ls (.inl y :: .inl x :: st) h a b := hJ.2.2.2.2.2.2.2.2.2.2.2.2.2.2.2.2.2.2.2.2.2.2.2.2.2.2.2.2.2.2.2.2.2.2.2.2.2.2.2.2.2.2.2.2.2.2.2.2.2.2.2.2.2.2.2.2.2.2.2.2.2.2.2.2.2.1
theorem Rules.mmin (hJ : Rules cc own nL d mc ms ini J) : ∀ {pc a b : Nat} {ls : List (Option AV)} {st : List AV} {h : Hp} {ix : Nat} {x y : Int32}, decode cc pc = .ok (.invokestatic ix, 3) → Cond.methodLink own ix Lib.Math.min.name ∈ gws → 1 ≤ d → st.length ≤ 8 → a ≤ mc → b ≤ ms → J (pc + 3) ls (.inl (if y < x then y else x) :: st) h a b → J pc ls (.inl y :: .inl x :: st) h a b := hJ.2.2.2.2.2.2.2.2.2.2.2.2.2.2.2.2.2.2.2.2.2.2.2.2.2.2.2.2.2.2.2.2.2.2.2.2.2.2.2.2.2.2.2.2.2.2.2.2.2.2.2.2.2.2.2.2.2.2.2.2.2.2.2.2.2.2.1
theorem Rules.callV (hJ : Rules cc own nL d mc ms ini J) : ∀ {pc a b : Nat} {ls : List (Option AV)} {st : List AV} {h : Hp} {ix ml np d2 mc2 ms2 : Nat} {y : MethodName} {cy : ByteArray} {rt : Option FieldType} {as : List AV} {h2 : Hp} {stk : List AV} {kk n : Nat} {ro : Option Nat} {v : AV}, decode cc pc = .ok (.invokevirtual ix, 3) → CV own ix y cy ml rt np → (kk < 9 ∧ kR kk = y.cls) → ro = some n → Ctr y cy ml rt d2 mc2 ms2 (.inr (kk, some n) :: as) h (some v) h2 → d2 + 1 ≤ d → a + mc2 ≤ mc → b + ms2 ≤ ms → as.length = np → st.length ≤ 8 → as.reverse ++ .inr (kk, ro) :: st = stk → J (pc + 3) ls (v :: st) h2 (a + mc2) (b + ms2) → J pc ls stk h a b := hJ.2.2.2.2.2.2.2.2.2.2.2.2.2.2.2.2.2.2.2.2.2.2.2.2.2.2.2.2.2.2.2.2.2.2.2.2.2.2.2.2.2.2.2.2.2.2.2.2.2.2.2.2.2.2.2.2.2.2.2.2.2.2.2.2.2.2.2.1
theorem Rules.callS (hJ : Rules cc own nL d mc ms ini J) : ∀ {pc a b : Nat} {ls : List (Option AV)} {st : List AV} {h : Hp} {ix ml np d2 mc2 ms2 : Nat} {y : MethodName} {cy : ByteArray} {rt : Option FieldType} {as : List AV} {h2 : Hp} {stk : List AV} {v : AV}, decode cc pc = .ok (.invokestatic ix, 3) → CS own ix y cy ml rt np → Ctr y cy ml rt d2 mc2 ms2 as h (some v) h2 → d2 + 1 ≤ d → a + mc2 ≤ mc → b + ms2 ≤ ms → as.length = np → st.length ≤ 8 → as.reverse ++ st = stk → J (pc + 3) ls (v :: st) h2 (a + mc2) (b + ms2) → J pc ls stk h a b := hJ.2.2.2.2.2.2.2.2.2.2.2.2.2.2.2.2.2.2.2.2.2.2.2.2.2.2.2.2.2.2.2.2.2.2.2.2.2.2.2.2.2.2.2.2.2.2.2.2.2.2.2.2.2.2.2.2.2.2.2.2.2.2.2.2.2.2.2.2.1
theorem Rules.callSN (hJ : Rules cc own nL d mc ms ini J) : ∀ {pc a b : Nat} {ls : List (Option AV)} {st : List AV} {h : Hp} {ix ml np d2 mc2 ms2 : Nat} {y : MethodName} {cy : ByteArray} {rt : Option FieldType} {as : List AV} {h2 : Hp} {stk : List AV} {host : String} {v : AV}, decode cc pc = .ok (.invokestatic ix, 3) → CSN own ix y cy ml rt np host → Ctr y cy ml rt d2 mc2 ms2 as h (some v) h2 → d2 + 1 ≤ d → a + mc2 ≤ mc → b + ms2 ≤ ms → as.length = np → st.length ≤ 8 → as.reverse ++ st = stk → J (pc + 3) ls (v :: st) h2 (a + mc2) (b + ms2) → J pc ls stk h a b := hJ.2.2.2.2.2.2.2.2.2.2.2.2.2.2.2.2.2.2.2.2.2.2.2.2.2.2.2.2.2.2.2.2.2.2.2.2.2.2.2.2.2.2.2.2.2.2.2.2.2.2.2.2.2.2.2.2.2.2.2.2.2.2.2.2.2.2.2.2.2.1
theorem Rules.callV0 (hJ : Rules cc own nL d mc ms ini J) : ∀ {pc a b : Nat} {ls : List (Option AV)} {st : List AV} {h : Hp} {ix ml np d2 mc2 ms2 : Nat} {y : MethodName} {cy : ByteArray} {rt : Option FieldType} {as : List AV} {h2 : Hp} {stk : List AV} {kk n : Nat} {ro : Option Nat}, decode cc pc = .ok (.invokevirtual ix, 3) → CV own ix y cy ml rt np → (kk < 9 ∧ kR kk = y.cls) → ro = some n → Ctr y cy ml rt d2 mc2 ms2 (.inr (kk, some n) :: as) h none h2 → d2 + 1 ≤ d → a + mc2 ≤ mc → b + ms2 ≤ ms → as.length = np → st.length ≤ 8 → as.reverse ++ .inr (kk, ro) :: st = stk → J (pc + 3) ls st h2 (a + mc2) (b + ms2) → J pc ls stk h a b := hJ.2.2.2.2.2.2.2.2.2.2.2.2.2.2.2.2.2.2.2.2.2.2.2.2.2.2.2.2.2.2.2.2.2.2.2.2.2.2.2.2.2.2.2.2.2.2.2.2.2.2.2.2.2.2.2.2.2.2.2.2.2.2.2.2.2.2.2.2.2.2.1
theorem Rules.callS0 (hJ : Rules cc own nL d mc ms ini J) : ∀ {pc a b : Nat} {ls : List (Option AV)} {st : List AV} {h : Hp} {ix ml np d2 mc2 ms2 : Nat} {y : MethodName} {cy : ByteArray} {rt : Option FieldType} {as : List AV} {h2 : Hp} {stk : List AV}, decode cc pc = .ok (.invokestatic ix, 3) → CS own ix y cy ml rt np → Ctr y cy ml rt d2 mc2 ms2 as h none h2 → d2 + 1 ≤ d → a + mc2 ≤ mc → b + ms2 ≤ ms → as.length = np → st.length ≤ 8 → as.reverse ++ st = stk → J (pc + 3) ls st h2 (a + mc2) (b + ms2) → J pc ls stk h a b := hJ.2.2.2.2.2.2.2.2.2.2.2.2.2.2.2.2.2.2.2.2.2.2.2.2.2.2.2.2.2.2.2.2.2.2.2.2.2.2.2.2.2.2.2.2.2.2.2.2.2.2.2.2.2.2.2.2.2.2.2.2.2.2.2.2.2.2.2.2.2.2.2.1
theorem Rules.callSN0 (hJ : Rules cc own nL d mc ms ini J) : ∀ {pc a b : Nat} {ls : List (Option AV)} {st : List AV} {h : Hp} {ix ml np d2 mc2 ms2 : Nat} {y : MethodName} {cy : ByteArray} {rt : Option FieldType} {as : List AV} {h2 : Hp} {stk : List AV} {host : String}, decode cc pc = .ok (.invokestatic ix, 3) → CSN own ix y cy ml rt np host → Ctr y cy ml rt d2 mc2 ms2 as h none h2 → d2 + 1 ≤ d → a + mc2 ≤ mc → b + ms2 ≤ ms → as.length = np → st.length ≤ 8 → as.reverse ++ st = stk → J (pc + 3) ls st h2 (a + mc2) (b + ms2) → J pc ls stk h a b := hJ.2.2.2.2.2.2.2.2.2.2.2.2.2.2.2.2.2.2.2.2.2.2.2.2.2.2.2.2.2.2.2.2.2.2.2.2.2.2.2.2.2.2.2.2.2.2.2.2.2.2.2.2.2.2.2.2.2.2.2.2.2.2.2.2.2.2.2.2.2.2.2.2.1
theorem Rules.callI (hJ : Rules cc own nL d mc ms ini J) : ∀ {pc a b : Nat} {ls : List (Option AV)} {st : List AV} {h : Hp} {ix ml np d2 mc2 ms2 : Nat} {y : MethodName} {cy : ByteArray} {as : List AV} {h2 : Hp} {stk : List AV} {kk n : Nat} {ro : Option Nat}, decode cc pc = .ok (.invokespecial ix, 3) → CI own ix y cy ml np → ro = some n → Ctr y cy ml none d2 mc2 ms2 (.inr (kk, some n) :: as) h none h2 → d2 + 1 ≤ d → a + mc2 ≤ mc → b + ms2 ≤ ms → as.length = np → st.length ≤ 8 → as.reverse ++ .inr (kk, ro) :: st = stk → J (pc + 3) ls st h2 (a + mc2) (b + ms2) → J pc ls stk h a b := hJ.2.2.2.2.2.2.2.2.2.2.2.2.2.2.2.2.2.2.2.2.2.2.2.2.2.2.2.2.2.2.2.2.2.2.2.2.2.2.2.2.2.2.2.2.2.2.2.2.2.2.2.2.2.2.2.2.2.2.2.2.2.2.2.2.2.2.2.2.2.2.2.2.2.1
theorem Rules.callIN (hJ : Rules cc own nL d mc ms ini J) : ∀ {pc a b : Nat} {ls : List (Option AV)} {st : List AV} {h : Hp} {ix ml np d2 mc2 ms2 : Nat} {y : MethodName} {cy : ByteArray} {as : List AV} {h2 : Hp} {stk : List AV} {kk n : Nat} {ro : Option Nat} {host : String}, decode cc pc = .ok (.invokespecial ix, 3) → CIN own ix y cy ml np host → ro = some n → Ctr y cy ml none d2 mc2 ms2 (.inr (kk, some n) :: as) h none h2 → d2 + 1 ≤ d → a + mc2 ≤ mc → b + ms2 ≤ ms → as.length = np → st.length ≤ 8 → as.reverse ++ .inr (kk, ro) :: st = stk → J (pc + 3) ls st h2 (a + mc2) (b + ms2) → J pc ls stk h a b := hJ.2.2.2.2.2.2.2.2.2.2.2.2.2.2.2.2.2.2.2.2.2.2.2.2.2.2.2.2.2.2.2.2.2.2.2.2.2.2.2.2.2.2.2.2.2.2.2.2.2.2.2.2.2.2.2.2.2.2.2.2.2.2.2.2.2.2.2.2.2.2.2.2.2.2
end RU
section SOUND
variable {p : Program} {l : Launch} {e : Env} {R : Room} {s : State} {m : MethodId} {args : Array Value} {below : List Frame} {meth : Method} {c : Code} {Q : State → Prop} {cc : ByteArray} {own : String} {nL d mc ms : Nat} {ini : Prop} {D : va_G} {cA : Nat → ClassId} {A : Nat → Prop} {al0 : Nat → Nat → Nat} {h0 : Hp}
theorem Cx.hown (X : Cx p R s m args meth c cc own nL d mc ms ini D cA A) : s.vm.findClass own = some m.cls := X.2.2.2.1
theorem Cx.hts (X : Cx p R s m args meth c cc own nL d mc ms ini D cA A) : ∀ w ∈ gws, w.before args s = true := X.2.2.2.2.1
theorem Cx.ev (X : Cx p R s m args meth c cc own nL d mc ms ini D cA A) : EV D cA s := X.2.2.2.2.2.1
theorem Cx.hA (X : Cx p R s m args meth c cc own nL d mc ms ini D cA A) : ∀ q, s.heap.size ≤ q → A q := X.2.2.2.2.2.2.1
theorem Cx.rf (X : Cx p R s m args meth c cc own nL d mc ms ini D cA A) : d ≤ R.frames := X.2.2.2.2.2.2.2.1
theorem Cx.rc (X : Cx p R s m args meth c cc own nL d mc ms ini D cA A) : mc ≤ R.cells := X.2.2.2.2.2.2.2.2.1
theorem Cx.rs (X : Cx p R s m args meth c cc own nL d mc ms ini D cA A) : ms ≤ R.slots := X.2.2.2.2.2.2.2.2.2.1
theorem Cx.rl (X : Cx p R s m args meth c cc own nL d mc ms ini D cA A) : 32 * d ≤ R.locals := X.2.2.2.2.2.2.2.2.2.2.1
theorem Cx.hini (X : Cx p R s m args meth c cc own nL d mc ms ini D cA A) : ini → meth.name = "<init>" := X.2.2.2.2.2.2.2.2.2.2.2
theorem gws_good : GoodIn gws gws := fun w hw => ⟨hw, good_of_word (List.mem_filter.mp hw).2⟩
theorem Cx.pay (X : Cx p R s m args meth c cc own nL d mc ms ini D cA A) {y : MethodName} {cy : ByteArray} {ml : Nat} {rt : Option FieldType} (w5 : Cond.code y cy ml rt ∈ gws) : ∀ w ∈ Cond.code y cy ml rt :: gws, ∀ (a' : Array Value) (U : State), s.WarmedH U.vm → w.before a' U = true := pay_in X.hts (fun w hw => by
  rcases List.mem_cons.mp hw with rfl | hw
  · exact gws_good _ w5
  · exact gws_good _ hw)
theorem Cx.sig {y : MethodName} {np : Nat} (h : (parseMethodDescriptor y.desc).map (fun d => d.parameters.length) = some np) : ∀ sig, parseMethodDescriptor y.desc = some sig → np = sig.parameters.length := fun sig h1 => by
  rw [h1] at h
  exact (Option.some.inj h).symm
theorem Cx.callB (X : Cx p R s m args meth c cc own nL d mc ms ini D cA A) {ix np d2 mc2 ms2 ml : Nat} {y : MethodName} {cy : ByteArray} {rt : Option FieldType} (hd2 : d2 + 1 ≤ d) (w1 : Cond.methodLink own ix y ∈ gws) (w4 : Cond.initialized y.cls ∈ gws) (w5 : Cond.code y cy ml rt ∈ gws)
    (w6 : y.cls ≠ "java/lang/invoke/MethodHandle" ∧ y.cls ≠ "java/lang/invoke/VarHandle") (w7 : (parseMethodDescriptor y.desc).map (fun d => d.parameters.length) = some np) (w8 : ml ≤ 13) : CallB R s args own ix y cy ml rt (Cond.code y cy ml rt :: gws) { frames := d2, cells := mc2, slots := ms2, locals := 32 * d2 } mc2 ms2 np :=
  ⟨rfl, rfl, Nat.le_trans hd2 X.rf, by show 8 + (ml + 11) + 32 * d2 ≤ R.locals; have := X.rl; omega, X.pay w5, List.mem_cons_self, X.hts _ w5, X.hts _ w4, w6, Cx.sig w7, X.hts _ w1⟩
theorem Cx.callN (X : Cx p R s m args meth c cc own nL d mc ms ini D cA A) {ix np d2 mc2 ms2 ml : Nat} {y : MethodName} {cy : ByteArray} {rt : Option FieldType} {host : String} (hd2 : d2 + 1 ≤ d) (w1 : Cond.methodLinkNest own ix y host ∈ nestW) (w4 : Cond.initialized y.cls ∈ gws) (w5 : Cond.code y cy ml rt ∈ gws)
    (w6 : y.cls ≠ "java/lang/invoke/MethodHandle" ∧ y.cls ≠ "java/lang/invoke/VarHandle") (w7 : (parseMethodDescriptor y.desc).map (fun d => d.parameters.length) = some np) (w8 : ml ≤ 13) : va_CN R s args own ix y host cy ml rt (Cond.code y cy ml rt :: gws) { frames := d2, cells := mc2, slots := ms2, locals := 32 * d2 } mc2 ms2 np :=
  ⟨⟨rfl, rfl, Nat.le_trans hd2 X.rf, by show 8 + (ml + 11) + 32 * d2 ≤ R.locals; have := X.rl; omega, X.pay w5, List.mem_cons_self⟩, X.hts _ w5, X.hts _ w4, w6, Cx.sig w7, va_Nw.use rfl (X.ev.2.1 _ w1)⟩
theorem after_S {A : Nat → Prop} {s : State} {H : Heap} {locs L : List Loc} {st₀ t T' : State} (g4 : va_S A s.heap H locs) (h0 : st₀.heap = H) (e1 : T'.heap = t.heap) (hF : va_F A st₀ t) (hL : ∀ q ∈ L, A q.base) : va_S A s.heap T'.heap (locs ++ L) := by
  obtain ⟨hz, hk⟩ := hF
  rw [h0] at hz hk
  refine ⟨Nat.le_trans g4.1 (by rw [e1]; exact hz), fun q h1 h2 => ?_, fun q hq => ?_⟩
  · rw [e1, hk q (Nat.lt_of_lt_of_le h1 g4.1) h2]
    exact g4.2.1 q h1 h2
  · rcases List.mem_append.mp hq with h | h
    · exact g4.2.2 q h
    · exact hL q h
theorem JW_after {pc a b mc2 ms2 : Nat} {ls : List (Option AV)} {st : List AV} {h h2 : Hp} {v : AV} {al : Nat → Nat → Nat} {H : Heap} {locs : List Loc} {lsA : Array Slot} {stk : List Value} {ar : Array Value}
    (hr : va_Run p l e R s m args below meth c H locs a b mc2 ms2 (F0 m pc lsA stk) (st.map (cv al)) (cQ D cA A al h (some v) h2 ar) A) (g1 : ∀ k n, n < pC h0 k → al k n = al0 k n) (g2 : ∀ k, pC h0 k ≤ pC h k) (g4 : va_S A s.heap H locs) (g5 : ∀ (i : Nat) (v : AV), ls[i]? = some (some v) → okV h v) (g6 : ∀ v ∈ st, okV h v) (g7 : lv_has lsA nL (la al ls))
    (k : JW p l e R s m args below meth c nL D cA A al0 h0 Q (pc + 3) ls (v :: st) h2 (a + mc2) (b + ms2)) : W p l e R s m args below meth c H locs a b Q (F0 m pc lsA stk) := by
  intro T hT X
  obtain ⟨vv, st₀, t, T', L, h0', X', hL, e1, e2, ⟨⟨al', ho, ha, hc, hov, hR⟩, hF⟩, stp⟩ := hr T hT X
  injection ho with ho
  subst ho
  obtain ⟨t2, a1, b1⟩ := k al' T'.heap (locs ++ L) lsA (fun k n hn => (ha k n (Nat.lt_of_lt_of_le hn (g2 k))).trans (g1 k n hn)) (fun k => Nat.le_trans (g2 k) (hc k)) (by rw [e1]; exact hR) (after_S g4 h0' e1 hF hL) (fun i v hv => okV_mono hc (g5 i v hv)) (okS_c (hov v rfl) (fun v hv => okV_mono hc (g6 v hv))) (la_al ha g5 g7) T' rfl X'
  rw [List.map_cons, map_cv ha g6] at a1
  exact ⟨t2, stp t2 a1, b1⟩
theorem JW_after0 {pc a b mc2 ms2 : Nat} {ls : List (Option AV)} {st : List AV} {h h2 : Hp} {al : Nat → Nat → Nat} {H : Heap} {locs : List Loc} {lsA : Array Slot} {stk : List Value} {ar : Array Value}
    (hr : va_Run p l e R s m args below meth c H locs a b mc2 ms2 (F0 m pc lsA stk) (st.map (cv al)) (cQ D cA A al h none h2 ar) A) (g1 : ∀ k n, n < pC h0 k → al k n = al0 k n) (g2 : ∀ k, pC h0 k ≤ pC h k) (g4 : va_S A s.heap H locs) (g5 : ∀ (i : Nat) (v : AV), ls[i]? = some (some v) → okV h v) (g6 : ∀ v ∈ st, okV h v) (g7 : lv_has lsA nL (la al ls))
    (k : JW p l e R s m args below meth c nL D cA A al0 h0 Q (pc + 3) ls st h2 (a + mc2) (b + ms2)) : W p l e R s m args below meth c H locs a b Q (F0 m pc lsA stk) := by
  intro T hT X
  obtain ⟨vv, st₀, t, T', L, h0', X', hL, e1, e2, ⟨⟨al', ho, ha, hc, hov, hR⟩, hF⟩, stp⟩ := hr T hT X
  injection ho with ho
  subst ho
  obtain ⟨t2, a1, b1⟩ := k al' T'.heap (locs ++ L) lsA (fun k n hn => (ha k n (Nat.lt_of_lt_of_le hn (g2 k))).trans (g1 k n hn)) (fun k => Nat.le_trans (g2 k) (hc k)) (by rw [e1]; exact hR) (after_S g4 h0' e1 hF hL) (fun i v hv => okV_mono hc (g5 i v hv)) (fun v hv => okV_mono hc (g6 v hv)) (la_al ha g5 g7) T' rfl X'
  rw [map_cv ha g6] at a1
  exact ⟨t2, stp t2 a1, b1⟩

theorem JW_iconst (X : Cx p R s m args meth c cc own nL d mc ms ini D cA A) : rl_iconst cc own nL d mc ms ini (JW p l e R s m args below meth c nL D cA A al0 h0 Q) := by
  intro pc a b ls st h n v hd hv k al H locs lsA g1 g2 g3 g4 g5 g6 g7
  exact lv_iconst X.1 X.2.1 hd hv (k al H locs lsA g1 g2 g3 g4 g5 (okS_i g6) g7)
theorem JW_bipush (X : Cx p R s m args meth c cc own nL d mc ms ini D cA A) : rl_bipush cc own nL d mc ms ini (JW p l e R s m args below meth c nL D cA A al0 h0 Q) := by
  intro pc a b ls st h n v hd hv k al H locs lsA g1 g2 g3 g4 g5 g6 g7
  exact lv_bipush X.1 X.2.1 hd hv (k al H locs lsA g1 g2 g3 g4 g5 (okS_i g6) g7)
theorem JW_sipush (X : Cx p R s m args meth c cc own nL d mc ms ini D cA A) : rl_sipush cc own nL d mc ms ini (JW p l e R s m args below meth c nL D cA A al0 h0 Q) := by
  intro pc a b ls st h n v hd hv k al H locs lsA g1 g2 g3 g4 g5 g6 g7
  exact lv_sipush X.1 X.2.1 hd hv (k al H locs lsA g1 g2 g3 g4 g5 (okS_i g6) g7)
theorem JW_ldc (X : Cx p R s m args meth c cc own nL d mc ms ini D cA A) : rl_ldc cc own nL d mc ms ini (JW p l e R s m args below meth c nL D cA A al0 h0 Q) := by
  intro pc a b ls st h ix v hd hv k al H locs lsA g1 g2 g3 g4 g5 g6 g7
  exact lv_ldc X.1 X.2.1 X.hown (X.hts _ hv) hd (k al H locs lsA g1 g2 g3 g4 g5 (okS_i g6) g7)
theorem JW_ldc_w (X : Cx p R s m args meth c cc own nL d mc ms ini D cA A) : rl_ldc_w cc own nL d mc ms ini (JW p l e R s m args below meth c nL D cA A al0 h0 Q) := by
  intro pc a b ls st h ix v hd hv k al H locs lsA g1 g2 g3 g4 g5 g6 g7
  exact lv_ldcw X.1 X.2.1 X.hown (X.hts _ hv) hd (k al H locs lsA g1 g2 g3 g4 g5 (okS_i g6) g7)
theorem JW_iload_n (X : Cx p R s m args meth c cc own nL d mc ms ini D cA A) : rl_iload_n cc own nL d mc ms ini (JW p l e R s m args below meth c nL D cA A al0 h0 Q) := by
  intro pc a b ls st h q i x hd hi hl k al H locs lsA g1 g2 g3 g4 g5 g6 g7
  exact lv_iload_n X.1 X.2.1 hd hi (la_at g7 hl) (k al H locs lsA g1 g2 g3 g4 g5 (okS_i g6) g7)
theorem JW_iload (X : Cx p R s m args meth c cc own nL d mc ms ini D cA A) : rl_iload cc own nL d mc ms ini (JW p l e R s m args below meth c nL D cA A al0 h0 Q) := by
  intro pc a b ls st h i x hd hl k al H locs lsA g1 g2 g3 g4 g5 g6 g7
  exact lv_iload X.1 X.2.1 hd (la_at g7 hl) (k al H locs lsA g1 g2 g3 g4 g5 (okS_i g6) g7)
theorem JW_aload_n (X : Cx p R s m args meth c cc own nL d mc ms ini D cA A) : rl_aload_n cc own nL d mc ms ini (JW p l e R s m args below meth c nL D cA A al0 h0 Q) := by
  intro pc a b ls st h q i kk r hd hi hl k al H locs lsA g1 g2 g3 g4 g5 g6 g7
  have h8 := k al H locs lsA g1 g2 g3 g4 g5 (okS_c (g5 _ _ hl) g6) g7
  have h9 := la_at g7 hl
  cases r with
  | none => exact lv_aload_nN X.1 X.2.1 hd hi h9 h8
  | some n => exact lv_aload_n X.1 X.2.1 hd hi h9 h8
theorem JW_aload (X : Cx p R s m args meth c cc own nL d mc ms ini D cA A) : rl_aload cc own nL d mc ms ini (JW p l e R s m args below meth c nL D cA A al0 h0 Q) := by
  intro pc a b ls st h i kk r hd hl k al H locs lsA g1 g2 g3 g4 g5 g6 g7
  have h8 := k al H locs lsA g1 g2 g3 g4 g5 (okS_c (g5 _ _ hl) g6) g7
  have h9 := la_at g7 hl
  cases r with
  | none => exact lv_aloadN X.1 X.2.1 hd h9 h8
  | some n => exact lv_aload X.1 X.2.1 hd h9 h8
theorem JW_istore_n (X : Cx p R s m args meth c cc own nL d mc ms ini D cA A) : rl_istore_n cc own nL d mc ms ini (JW p l e R s m args below meth c nL D cA A al0 h0 Q) := by
  intro pc a b ls st h q i x ls2 hd hi hn hs k al H locs lsA g1 g2 g3 g4 g5 g6 g7
  subst hs
  exact lv_istore_n X.1 X.2.1 hd hi g7 hn rfl (fun ls' h7 => k al H locs ls' g1 g2 g3 g4 (okL_set g5 (okS_h g6)) (okS_t g6) (la_set (v := .inl x) h7))
theorem JW_istore (X : Cx p R s m args meth c cc own nL d mc ms ini D cA A) : rl_istore cc own nL d mc ms ini (JW p l e R s m args below meth c nL D cA A al0 h0 Q) := by
  intro pc a b ls st h i x ls2 hd hn hs k al H locs lsA g1 g2 g3 g4 g5 g6 g7
  subst hs
  exact lv_istore X.1 X.2.1 hd g7 hn rfl (fun ls' h7 => k al H locs ls' g1 g2 g3 g4 (okL_set g5 (okS_h g6)) (okS_t g6) (la_set (v := .inl x) h7))
theorem JW_astore_n (X : Cx p R s m args meth c cc own nL d mc ms ini D cA A) : rl_astore_n cc own nL d mc ms ini (JW p l e R s m args below meth c nL D cA A al0 h0 Q) := by
  intro pc a b ls st h q i kk r ls2 hd hi hn hs k al H locs lsA g1 g2 g3 g4 g5 g6 g7
  subst hs
  cases r with
  | none => exact lv_astore_nN X.1 X.2.1 hd hi g7 hn rfl (fun ls' h7 => k al H locs ls' g1 g2 g3 g4 (okL_set g5 (okS_h g6)) (okS_t g6) (la_set (v := .inr (kk, none)) h7))
  | some n => exact lv_astore_n X.1 X.2.1 hd hi g7 hn rfl (fun ls' h7 => k al H locs ls' g1 g2 g3 g4 (okL_set g5 (okS_h g6)) (okS_t g6) (la_set (v := .inr (kk, some n)) h7))
theorem JW_astore (X : Cx p R s m args meth c cc own nL d mc ms ini D cA A) : rl_astore cc own nL d mc ms ini (JW p l e R s m args below meth c nL D cA A al0 h0 Q) := by
  intro pc a b ls st h i kk r ls2 hd hn hs k al H locs lsA g1 g2 g3 g4 g5 g6 g7
  subst hs
  cases r with
  | none => exact lv_astoreN X.1 X.2.1 hd g7 hn rfl (fun ls' h7 => k al H locs ls' g1 g2 g3 g4 (okL_set g5 (okS_h g6)) (okS_t g6) (la_set (v := .inr (kk, none)) h7))
  | some n => exact lv_astore X.1 X.2.1 hd g7 hn rfl (fun ls' h7 => k al H locs ls' g1 g2 g3 g4 (okL_set g5 (okS_h g6)) (okS_t g6) (la_set (v := .inr (kk, some n)) h7))
theorem JW_iinc (X : Cx p R s m args meth c cc own nL d mc ms ini D cA A) : rl_iinc cc own nL d mc ms ini (JW p l e R s m args below meth c nL D cA A al0 h0 Q) := by
  intro pc a b ls st h i n x v ls2 hd hl hv hn hs k al H locs lsA g1 g2 g3 g4 g5 g6 g7
  subst hs
  obtain ⟨q0, hq0⟩ := List.getElem?_of_mem (la_mem.mpr ⟨_, hl, rfl⟩ : (i, cv al (.inl x)) ∈ la al ls)
  exact lv_iinc X.1 X.2.1 hd g7 hq0 hv hn rfl (fun ls' h7 => k al H locs ls' g1 g2 g3 g4 (okL_set (v := .inl v) g5 trivial) g6 (la_set (v := .inl v) h7))
theorem JW_iadd (X : Cx p R s m args meth c cc own nL d mc ms ini D cA A) : rl_iadd cc own nL d mc ms ini (JW p l e R s m args below meth c nL D cA A al0 h0 Q) := by
  intro pc a b ls st h x y hd k al H locs lsA g1 g2 g3 g4 g5 g6 g7
  exact lv_iadd X.1 X.2.1 hd (k al H locs lsA g1 g2 g3 g4 g5 (okS_i (okS_t (okS_t g6))) g7)
theorem JW_isub (X : Cx p R s m args meth c cc own nL d mc ms ini D cA A) : rl_isub cc own nL d mc ms ini (JW p l e R s m args below meth c nL D cA A al0 h0 Q) := by
  intro pc a b ls st h x y hd k al H locs lsA g1 g2 g3 g4 g5 g6 g7
  exact lv_isub X.1 X.2.1 hd (k al H locs lsA g1 g2 g3 g4 g5 (okS_i (okS_t (okS_t g6))) g7)
theorem JW_imul (X : Cx p R s m args meth c cc own nL d mc ms ini D cA A) : rl_imul cc own nL d mc ms ini (JW p l e R s m args below meth c nL D cA A al0 h0 Q) := by
  intro pc a b ls st h x y hd k al H locs lsA g1 g2 g3 g4 g5 g6 g7
  exact lv_imul X.1 X.2.1 hd (k al H locs lsA g1 g2 g3 g4 g5 (okS_i (okS_t (okS_t g6))) g7)
theorem JW_iand (X : Cx p R s m args meth c cc own nL d mc ms ini D cA A) : rl_iand cc own nL d mc ms ini (JW p l e R s m args below meth c nL D cA A al0 h0 Q) := by
  intro pc a b ls st h x y hd k al H locs lsA g1 g2 g3 g4 g5 g6 g7
  exact lv_iand X.1 X.2.1 hd (k al H locs lsA g1 g2 g3 g4 g5 (okS_i (okS_t (okS_t g6))) g7)
theorem JW_ior (X : Cx p R s m args meth c cc own nL d mc ms ini D cA A) : rl_ior cc own nL d mc ms ini (JW p l e R s m args below meth c nL D cA A al0 h0 Q) := by
  intro pc a b ls st h x y hd k al H locs lsA g1 g2 g3 g4 g5 g6 g7
  exact lv_ior X.1 X.2.1 hd (k al H locs lsA g1 g2 g3 g4 g5 (okS_i (okS_t (okS_t g6))) g7)
theorem JW_ishl (X : Cx p R s m args meth c cc own nL d mc ms ini D cA A) : rl_ishl cc own nL d mc ms ini (JW p l e R s m args below meth c nL D cA A al0 h0 Q) := by
  intro pc a b ls st h x y hd k al H locs lsA g1 g2 g3 g4 g5 g6 g7
  exact lv_ishl X.1 X.2.1 hd (k al H locs lsA g1 g2 g3 g4 g5 (okS_i (okS_t (okS_t g6))) g7)
theorem JW_ishr (X : Cx p R s m args meth c cc own nL d mc ms ini D cA A) : rl_ishr cc own nL d mc ms ini (JW p l e R s m args below meth c nL D cA A al0 h0 Q) := by
  intro pc a b ls st h x y hd k al H locs lsA g1 g2 g3 g4 g5 g6 g7
  exact lv_ishr X.1 X.2.1 hd (k al H locs lsA g1 g2 g3 g4 g5 (okS_i (okS_t (okS_t g6))) g7)
theorem JW_idiv (X : Cx p R s m args meth c cc own nL d mc ms ini D cA A) : rl_idiv cc own nL d mc ms ini (JW p l e R s m args below meth c nL D cA A al0 h0 Q) := by
  intro pc a b ls st h x y hd hy k al H locs lsA g1 g2 g3 g4 g5 g6 g7
  exact lv_idiv X.1 X.2.1 hd hy (k al H locs lsA g1 g2 g3 g4 g5 (okS_i (okS_t (okS_t g6))) g7)
theorem JW_irem (X : Cx p R s m args meth c cc own nL d mc ms ini D cA A) : rl_irem cc own nL d mc ms ini (JW p l e R s m args below meth c nL D cA A al0 h0 Q) := by
  intro pc a b ls st h x y hd hy k al H locs lsA g1 g2 g3 g4 g5 g6 g7
  exact lv_irem X.1 X.2.1 hd hy (k al H locs lsA g1 g2 g3 g4 g5 (okS_i (okS_t (okS_t g6))) g7)
theorem JW_dup (X : Cx p R s m args meth c cc own nL d mc ms ini D cA A) : rl_dup cc own nL d mc ms ini (JW p l e R s m args below meth c nL D cA A al0 h0 Q) := by
  intro pc a b ls st h v hd k al H locs lsA g1 g2 g3 g4 g5 g6 g7
  exact lv_dup X.1 X.2.1 hd (cv_cat al v) (k al H locs lsA g1 g2 g3 g4 g5 (okS_c (okS_h g6) g6) g7)
theorem JW_dup2 (X : Cx p R s m args meth c cc own nL d mc ms ini D cA A) : rl_dup2 cc own nL d mc ms ini (JW p l e R s m args below meth c nL D cA A al0 h0 Q) := by
  intro pc a b ls st h v w hd k al H locs lsA g1 g2 g3 g4 g5 g6 g7
  exact lv_dup2_11 X.1 X.2.1 hd (cv_cat al v) (cv_cat al w) (k al H locs lsA g1 g2 g3 g4 g5 (okS_c (okS_h g6) (okS_c (okS_h (okS_t g6)) g6)) g7)
theorem JW_pop (X : Cx p R s m args meth c cc own nL d mc ms ini D cA A) : rl_pop cc own nL d mc ms ini (JW p l e R s m args below meth c nL D cA A al0 h0 Q) := by
  intro pc a b ls st h v hd k al H locs lsA g1 g2 g3 g4 g5 g6 g7
  exact lv_pop X.1 X.2.1 hd (cv_cat al v) (k al H locs lsA g1 g2 g3 g4 g5 (okS_t g6) g7)
theorem JW_if_eq (X : Cx p R s m args meth c cc own nL d mc ms ini D cA A) : rl_if_eq cc own nL d mc ms ini (JW p l e R s m args below meth c nL D cA A al0 h0 Q) := by
  intro pc a b ls st h x off tgt hd ht kt kf al H locs lsA g1 g2 g3 g4 g5 g6 g7
  exact lv_if_eq X.1 X.2.1 hd ht (fun e => kt e al H locs lsA g1 g2 g3 g4 g5 (okS_t g6) g7) (fun e => kf e al H locs lsA g1 g2 g3 g4 g5 (okS_t g6) g7)
theorem JW_icmp_eq (X : Cx p R s m args meth c cc own nL d mc ms ini D cA A) : rl_icmp_eq cc own nL d mc ms ini (JW p l e R s m args below meth c nL D cA A al0 h0 Q) := by
  intro pc a b ls st h x y off tgt hd ht kt kf al H locs lsA g1 g2 g3 g4 g5 g6 g7
  exact lv_icmp_eq X.1 X.2.1 hd ht (fun e => kt e al H locs lsA g1 g2 g3 g4 g5 (okS_t (okS_t g6)) g7) (fun e => kf e al H locs lsA g1 g2 g3 g4 g5 (okS_t (okS_t g6)) g7)
theorem JW_if_ne (X : Cx p R s m args meth c cc own nL d mc ms ini D cA A) : rl_if_ne cc own nL d mc ms ini (JW p l e R s m args below meth c nL D cA A al0 h0 Q) := by
  intro pc a b ls st h x off tgt hd ht kt kf al H locs lsA g1 g2 g3 g4 g5 g6 g7
  exact lv_if_ne X.1 X.2.1 hd ht (fun e => kt e al H locs lsA g1 g2 g3 g4 g5 (okS_t g6) g7) (fun e => kf e al H locs lsA g1 g2 g3 g4 g5 (okS_t g6) g7)
theorem JW_icmp_ne (X : Cx p R s m args meth c cc own nL d mc ms ini D cA A) : rl_icmp_ne cc own nL d mc ms ini (JW p l e R s m args below meth c nL D cA A al0 h0 Q) := by
  intro pc a b ls st h x y off tgt hd ht kt kf al H locs lsA g1 g2 g3 g4 g5 g6 g7
  exact lv_icmp_ne X.1 X.2.1 hd ht (fun e => kt e al H locs lsA g1 g2 g3 g4 g5 (okS_t (okS_t g6)) g7) (fun e => kf e al H locs lsA g1 g2 g3 g4 g5 (okS_t (okS_t g6)) g7)
theorem JW_if_lt (X : Cx p R s m args meth c cc own nL d mc ms ini D cA A) : rl_if_lt cc own nL d mc ms ini (JW p l e R s m args below meth c nL D cA A al0 h0 Q) := by
  intro pc a b ls st h x off tgt hd ht kt kf al H locs lsA g1 g2 g3 g4 g5 g6 g7
  exact lv_if_lt X.1 X.2.1 hd ht (fun e => kt e al H locs lsA g1 g2 g3 g4 g5 (okS_t g6) g7) (fun e => kf e al H locs lsA g1 g2 g3 g4 g5 (okS_t g6) g7)
theorem JW_icmp_lt (X : Cx p R s m args meth c cc own nL d mc ms ini D cA A) : rl_icmp_lt cc own nL d mc ms ini (JW p l e R s m args below meth c nL D cA A al0 h0 Q) := by
  intro pc a b ls st h x y off tgt hd ht kt kf al H locs lsA g1 g2 g3 g4 g5 g6 g7
  exact lv_icmp_lt X.1 X.2.1 hd ht (fun e => kt e al H locs lsA g1 g2 g3 g4 g5 (okS_t (okS_t g6)) g7) (fun e => kf e al H locs lsA g1 g2 g3 g4 g5 (okS_t (okS_t g6)) g7)
theorem JW_if_ge (X : Cx p R s m args meth c cc own nL d mc ms ini D cA A) : rl_if_ge cc own nL d mc ms ini (JW p l e R s m args below meth c nL D cA A al0 h0 Q) := by
  intro pc a b ls st h x off tgt hd ht kt kf al H locs lsA g1 g2 g3 g4 g5 g6 g7
  exact lv_if_ge X.1 X.2.1 hd ht (fun e => kt e al H locs lsA g1 g2 g3 g4 g5 (okS_t g6) g7) (fun e => kf e al H locs lsA g1 g2 g3 g4 g5 (okS_t g6) g7)
theorem JW_icmp_ge (X : Cx p R s m args meth c cc own nL d mc ms ini D cA A) : rl_icmp_ge cc own nL d mc ms ini (JW p l e R s m args below meth c nL D cA A al0 h0 Q) := by
  intro pc a b ls st h x y off tgt hd ht kt kf al H locs lsA g1 g2 g3 g4 g5 g6 g7
  exact lv_icmp_ge X.1 X.2.1 hd ht (fun e => kt e al H locs lsA g1 g2 g3 g4 g5 (okS_t (okS_t g6)) g7) (fun e => kf e al H locs lsA g1 g2 g3 g4 g5 (okS_t (okS_t g6)) g7)
theorem JW_if_gt (X : Cx p R s m args meth c cc own nL d mc ms ini D cA A) : rl_if_gt cc own nL d mc ms ini (JW p l e R s m args below meth c nL D cA A al0 h0 Q) := by
  intro pc a b ls st h x off tgt hd ht kt kf al H locs lsA g1 g2 g3 g4 g5 g6 g7
  exact lv_if_gt X.1 X.2.1 hd ht (fun e => kt e al H locs lsA g1 g2 g3 g4 g5 (okS_t g6) g7) (fun e => kf e al H locs lsA g1 g2 g3 g4 g5 (okS_t g6) g7)
theorem JW_icmp_gt (X : Cx p R s m args meth c cc own nL d mc ms ini D cA A) : rl_icmp_gt cc own nL d mc ms ini (JW p l e R s m args below meth c nL D cA A al0 h0 Q) := by
  intro pc a b ls st h x y off tgt hd ht kt kf al H locs lsA g1 g2 g3 g4 g5 g6 g7
  exact lv_icmp_gt X.1 X.2.1 hd ht (fun e => kt e al H locs lsA g1 g2 g3 g4 g5 (okS_t (okS_t g6)) g7) (fun e => kf e al H locs lsA g1 g2 g3 g4 g5 (okS_t (okS_t g6)) g7)
theorem JW_if_le (X : Cx p R s m args meth c cc own nL d mc ms ini D cA A) : rl_if_le cc own nL d mc ms ini (JW p l e R s m args below meth c nL D cA A al0 h0 Q) := by
  intro pc a b ls st h x off tgt hd ht kt kf al H locs lsA g1 g2 g3 g4 g5 g6 g7
  exact lv_if_le X.1 X.2.1 hd ht (fun e => kt e al H locs lsA g1 g2 g3 g4 g5 (okS_t g6) g7) (fun e => kf e al H locs lsA g1 g2 g3 g4 g5 (okS_t g6) g7)
theorem JW_icmp_le (X : Cx p R s m args meth c cc own nL d mc ms ini D cA A) : rl_icmp_le cc own nL d mc ms ini (JW p l e R s m args below meth c nL D cA A al0 h0 Q) := by
  intro pc a b ls st h x y off tgt hd ht kt kf al H locs lsA g1 g2 g3 g4 g5 g6 g7
  exact lv_icmp_le X.1 X.2.1 hd ht (fun e => kt e al H locs lsA g1 g2 g3 g4 g5 (okS_t (okS_t g6)) g7) (fun e => kf e al H locs lsA g1 g2 g3 g4 g5 (okS_t (okS_t g6)) g7)
theorem JW_goto (X : Cx p R s m args meth c cc own nL d mc ms ini D cA A) : rl_goto cc own nL d mc ms ini (JW p l e R s m args below meth c nL D cA A al0 h0 Q) := by
  intro pc a b ls st h off tgt hd ht k al H locs lsA g1 g2 g3 g4 g5 g6 g7
  exact lv_goto X.1 X.2.1 hd ht (k al H locs lsA g1 g2 g3 g4 g5 g6 g7)
theorem JW_forget (X : Cx p R s m args meth c cc own nL d mc ms ini D cA A) : rl_forget cc own nL d mc ms ini (JW p l e R s m args below meth c nL D cA A al0 h0 Q) := by
  intro pc a b ls st h ls2 hs k al H locs lsA g1 g2 g3 g4 g5 g6 g7
  have hs := subL_get _ _ hs
  exact k al H locs lsA g1 g2 g3 g4 (fun i v hv => g5 i v (hs i v hv)) g6 ⟨g7.1, g7.2.1, fun q hq => by
    obtain ⟨w, hw, e⟩ := la_mem.mp hq
    exact g7.2.2 q (la_mem.mpr ⟨w, hs _ _ hw, e⟩)⟩
theorem JW_null (X : Cx p R s m args meth c cc own nL d mc ms ini D cA A) : rl_null cc own nL d mc ms ini (JW p l e R s m args below meth c nL D cA A al0 h0 Q) := by
  intro pc a b ls st h kk hd k al H locs lsA g1 g2 g3 g4 g5 g6 g7
  exact lv_null X.1 X.2.1 hd (k al H locs lsA g1 g2 g3 g4 g5 (okS_c (fun n e => by cases e) g6) g7)
theorem JW_ifnull (X : Cx p R s m args meth c cc own nL d mc ms ini D cA A) : rl_ifnull cc own nL d mc ms ini (JW p l e R s m args below meth c nL D cA A al0 h0 Q) := by
  intro pc a b ls st h kk r off tgt hd ht kt kf al H locs lsA g1 g2 g3 g4 g5 g6 g7
  cases r with
  | none => exact lv_ifnullN X.1 X.2.1 hd ht (kt rfl al H locs lsA g1 g2 g3 g4 g5 (okS_t g6) g7)
  | some n => exact lv_ifnull X.1 X.2.1 hd (kf n rfl al H locs lsA g1 g2 g3 g4 g5 (okS_t g6) g7)
theorem JW_ifnonnull (X : Cx p R s m args meth c cc own nL d mc ms ini D cA A) : rl_ifnonnull cc own nL d mc ms ini (JW p l e R s m args below meth c nL D cA A al0 h0 Q) := by
  intro pc a b ls st h kk r off tgt hd ht kt kf al H locs lsA g1 g2 g3 g4 g5 g6 g7
  cases r with
  | none => exact lv_ifnonnullN X.1 X.2.1 hd (kf rfl al H locs lsA g1 g2 g3 g4 g5 (okS_t g6) g7)
  | some n => exact lv_ifnonnull X.1 X.2.1 hd ht (kt n rfl al H locs lsA g1 g2 g3 g4 g5 (okS_t g6) g7)
theorem JW_acmp_eq (X : Cx p R s m args meth c cc own nL d mc ms ini D cA A) : rl_acmp_eq cc own nL d mc ms ini (JW p l e R s m args below meth c nL D cA A al0 h0 Q) := by
  intro pc a b ls st h kk r1 r2 off tgt hd hk ht kt kf al H locs lsA g1 g2 g3 g4 g5 g6 g7
  have hi := al_inj g3 hk (okS_h (okS_t g6)) (okS_h g6)
  exact lv_acmp_eq X.1 X.2.1 hd ht (fun e => kt (by simpa [hi] using e) al H locs lsA g1 g2 g3 g4 g5 (okS_t (okS_t g6)) g7) (fun e => kf (by simpa [hi] using e) al H locs lsA g1 g2 g3 g4 g5 (okS_t (okS_t g6)) g7)
theorem JW_acmp_ne (X : Cx p R s m args meth c cc own nL d mc ms ini D cA A) : rl_acmp_ne cc own nL d mc ms ini (JW p l e R s m args below meth c nL D cA A al0 h0 Q) := by
  intro pc a b ls st h kk r1 r2 off tgt hd hk ht kt kf al H locs lsA g1 g2 g3 g4 g5 g6 g7
  have hi := al_inj g3 hk (okS_h (okS_t g6)) (okS_h g6)
  exact lv_acmp_ne X.1 X.2.1 hd ht (fun e => kt (by simpa [hi] using e) al H locs lsA g1 g2 g3 g4 g5 (okS_t (okS_t g6)) g7) (fun e => kf (by simpa [hi] using e) al H locs lsA g1 g2 g3 g4 g5 (okS_t (okS_t g6)) g7)
theorem JW_tabIn (X : Cx p R s m args meth c cc own nL d mc ms ini D cA A) : rl_tabIn cc own nL d mc ms ini (JW p l e R s m args below meth c nL D cA A al0 h0 Q) := by
  intro pc a b ls st h dflt lo hi offs len x off tgt hd h1 h2 ho ht k al H locs lsA g1 g2 g3 g4 g5 g6 g7
  exact lv_tableIn X.1 X.2.1 hd h1 h2 ho ht (k al H locs lsA g1 g2 g3 g4 g5 (okS_t g6) g7)
theorem JW_tabOut (X : Cx p R s m args meth c cc own nL d mc ms ini D cA A) : rl_tabOut cc own nL d mc ms ini (JW p l e R s m args below meth c nL D cA A al0 h0 Q) := by
  intro pc a b ls st h dflt lo hi offs len x tgt hd ho ht k al H locs lsA g1 g2 g3 g4 g5 g6 g7
  exact lv_tableOut X.1 X.2.1 hd ho ht (k al H locs lsA g1 g2 g3 g4 g5 (okS_t g6) g7)
theorem JW_getI (X : Cx p R s m args meth c cc own nL d mc ms ini D cA A) : rl_getI cc own nL d mc ms ini (JW p l e R s m args below meth c nL D cA A al0 h0 Q) := by
  intro pc a b ls st h ix kk i n r hd hf hr k al H locs lsA g1 g2 g3 g4 g5 g6 g7
  subst hr
  obtain ⟨hk, hi, ht, hm⟩ := hf
  obtain ⟨L, l1, l2, l3, l4⟩ := g3.2
  obtain ⟨q0, p1, p2⟩ := wl_get (cA := cA) (al := al) (h := h) ((l2 (kk, n)).mpr ⟨okS_h g6 n rfl, by omega⟩)
  rw [cE_obj hk] at p2
  refine va_get X.1 X.2.1 X.hts (kig kk hk) X.hown X.ev.1 l3 q0 p2 (kcl kk hk) i hi (X.hts _ hm) (fun _ e => e) (v := .int (pI h kk n i)) (by simp [hi, fV_int ht]) hd ?_
  exact k al H locs lsA g1 g2 g3 g4 g5 (okS_i (okS_t g6)) g7
theorem JW_getR (X : Cx p R s m args meth c cc own nL d mc ms ini D cA A) : rl_getR cc own nL d mc ms ini (JW p l e R s m args below meth c nL D cA A al0 h0 Q) := by
  intro pc a b ls st h ix kk i n k2 r hd hf hr k al H locs lsA g1 g2 g3 g4 g5 g6 g7
  subst hr
  obtain ⟨hk, hi, ht, hm⟩ := hf
  obtain ⟨L, l1, l2, l3, l4⟩ := g3.2
  obtain ⟨q0, p1, p2⟩ := wl_get (cA := cA) (al := al) (h := h) ((l2 (kk, n)).mpr ⟨okS_h g6 n rfl, by omega⟩)
  rw [cE_obj hk] at p2
  refine va_get X.1 X.2.1 X.hts (kig kk hk) X.hown X.ev.1 l3 q0 p2 (kcl kk hk) i hi (X.hts _ hm) (fun _ e => e) (v := va_rf ((pR h kk n i).map (al k2))) (by simp [hi, fV_ref ht]) hd ?_
  exact k al H locs lsA g1 g2 g3 g4 g5 (okS_c (fun j hj => by have := g3.1 kk n i j hj; simpa [rk, hk, ht] using this) (okS_t g6)) g7
theorem JW_putI (X : Cx p R s m args meth c cc own nL d mc ms ini D cA A) : rl_putI cc own nL d mc ms ini (JW p l e R s m args below meth c nL D cA A al0 h0 Q) := by
  intro pc a b ls st h ix kk i n r v hd hf hfin hnar hr k al H locs lsA g1 g2 g3 g4 g5 g6 g7
  subst hr
  obtain ⟨hk, hi, ht, hm⟩ := hf
  obtain ⟨L, l1, l2, l3, l4⟩ := g3.2
  obtain ⟨q0, p1, p2⟩ := wl_get (cA := cA) (al := al) (h := h) ((l2 (kk, n)).mpr ⟨okS_h (okS_t g6) n rfl, by omega⟩)
  rw [cE_obj hk] at p2
  have e1 : cE cA al (wI h kk n i v) kk n = .inr (kk, ((List.range (nf kk)).map (fV al h kk n)).set i (.int v)) := by rw [cE_obj hk, fs_wI ht hi]
  have e2 := wl_set (cA := cA) (al := al) (h := h) (h' := (wI h kk n i v)) l1 p1 (fun k' n' hne => cE_wI hne)
  rw [e1] at e2
  refine va_put (v := .int v) X.1 X.2.1 X.hts (kig kk hk) (kY kk) (kty kk hk) (knm kk hk) X.hown X.ev.1 l3 l4 g4 q0 p2 (kcl kk hk) i hi (X.hts _ hm) (fun _ e => e) hfin (kty kk hk i hi) hnar.1 hnar.2 (by simp [hi]) hd (fun H1 locs1 r1 r2 r3 => ?_)
  rw [e2] at r1 r2
  exact k al H1 locs1 lsA g1 g2 ⟨g3.1.wI _ _ _ _, L, l1, l2, r1, r2⟩ r3 g5 (okS_t (okS_t g6)) g7
theorem JW_putIF (X : Cx p R s m args meth c cc own nL d mc ms ini D cA A) : rl_putIF cc own nL d mc ms ini (JW p l e R s m args below meth c nL D cA A al0 h0 Q) := by
  intro pc a b ls st h ix kk i n r v hd hf hfin hown hini hnar hr k al H locs lsA g1 g2 g3 g4 g5 g6 g7
  subst hr
  obtain ⟨hk, hi, ht, hm⟩ := hf
  obtain ⟨L, l1, l2, l3, l4⟩ := g3.2
  obtain ⟨q0, p1, p2⟩ := wl_get (cA := cA) (al := al) (h := h) ((l2 (kk, n)).mpr ⟨okS_h (okS_t g6) n rfl, by omega⟩)
  rw [cE_obj hk] at p2
  have e1 : cE cA al (wI h kk n i v) kk n = .inr (kk, ((List.range (nf kk)).map (fV al h kk n)).set i (.int v)) := by rw [cE_obj hk, fs_wI ht hi]
  have e2 := wl_set (cA := cA) (al := al) (h := h) (h' := (wI h kk n i v)) l1 p1 (fun k' n' hne => cE_wI hne)
  rw [e1] at e2
  refine va_putF (v := .int v) X.1 X.2.1 X.hts (kig kk hk) (kY kk) (kty kk hk) (knm kk hk) X.hown X.ev.1 l3 l4 g4 q0 p2 (kcl kk hk) i hi (X.hts _ hm) (fun _ e => e) hfin (X.hini hini) ((kdc kk hk i hi).trans hown) (kty kk hk i hi) hnar.1 hnar.2 (by simp [hi]) hd (fun H1 locs1 r1 r2 r3 => ?_)
  rw [e2] at r1 r2
  exact k al H1 locs1 lsA g1 g2 ⟨g3.1.wI _ _ _ _, L, l1, l2, r1, r2⟩ r3 g5 (okS_t (okS_t g6)) g7
theorem JW_putR (X : Cx p R s m args meth c cc own nL d mc ms ini D cA A) : rl_putR cc own nL d mc ms ini (JW p l e R s m args below meth c nL D cA A al0 h0 Q) := by
  intro pc a b ls st h ix kk i n k2 k3 r o hd hf hfin ho hr k al H locs lsA g1 g2 g3 g4 g5 g6 g7
  subst hr
  obtain ⟨hk, hi, ht, hm⟩ := hf
  obtain ⟨L, l1, l2, l3, l4⟩ := g3.2
  obtain ⟨q0, p1, p2⟩ := wl_get (cA := cA) (al := al) (h := h) ((l2 (kk, n)).mpr ⟨okS_h (okS_t g6) n rfl, by omega⟩)
  rw [cE_obj hk] at p2
  have hval : cv al (.inr (k3, o)) = va_rf (o.map (al k2)) := by
    rcases ho with rfl | rfl <;> rfl
  have hnf := rf_ok (o := o.map (al k2)) ((kft kk hk i hi).1.trans (by rw [ht]; rfl))
  have e1 : cE cA al (wR h kk n i o) kk n = .inr (kk, ((List.range (nf kk)).map (fV al h kk n)).set i (va_rf (o.map (al k2)))) := by rw [cE_obj hk, fs_wR ht hi]
  have e2 := wl_set (cA := cA) (al := al) (h := h) (h' := (wR h kk n i o)) l1 p1 (fun k' n' hne => cE_wR hne)
  rw [e1] at e2
  rw [List.map_cons, hval]
  refine va_put (v := va_rf (o.map (al k2))) X.1 X.2.1 X.hts (kig kk hk) (kY kk) (kty kk hk) (knm kk hk) X.hown X.ev.1 l3 l4 g4 q0 p2 (kcl kk hk) i hi (X.hts _ hm) (fun _ e => e) hfin (kty kk hk i hi) hnf.1 hnf.2 (by simp [hi]) hd (fun H1 locs1 r1 r2 r3 => ?_)
  rw [e2] at r1 r2
  exact k al H1 locs1 lsA g1 g2 ⟨g3.1.wR _ _ _ _ (fun j hj => by rcases ho with rfl | rfl; (· cases hj); have := okS_h g6 j hj; simpa [rk, hk, ht] using this), L, l1, l2, r1, r2⟩ r3 g5 (okS_t (okS_t g6)) g7
theorem JW_putRF (X : Cx p R s m args meth c cc own nL d mc ms ini D cA A) : rl_putRF cc own nL d mc ms ini (JW p l e R s m args below meth c nL D cA A al0 h0 Q) := by
  intro pc a b ls st h ix kk i n k2 k3 r o hd hf hfin hown hini ho hr k al H locs lsA g1 g2 g3 g4 g5 g6 g7
  subst hr
  obtain ⟨hk, hi, ht, hm⟩ := hf
  obtain ⟨L, l1, l2, l3, l4⟩ := g3.2
  obtain ⟨q0, p1, p2⟩ := wl_get (cA := cA) (al := al) (h := h) ((l2 (kk, n)).mpr ⟨okS_h (okS_t g6) n rfl, by omega⟩)
  rw [cE_obj hk] at p2
  have hval : cv al (.inr (k3, o)) = va_rf (o.map (al k2)) := by
    rcases ho with rfl | rfl <;> rfl
  have hnf := rf_ok (o := o.map (al k2)) ((kft kk hk i hi).1.trans (by rw [ht]; rfl))
  have e1 : cE cA al (wR h kk n i o) kk n = .inr (kk, ((List.range (nf kk)).map (fV al h kk n)).set i (va_rf (o.map (al k2)))) := by rw [cE_obj hk, fs_wR ht hi]
  have e2 := wl_set (cA := cA) (al := al) (h := h) (h' := (wR h kk n i o)) l1 p1 (fun k' n' hne => cE_wR hne)
  rw [e1] at e2
  rw [List.map_cons, hval]
  refine va_putF (v := va_rf (o.map (al k2))) X.1 X.2.1 X.hts (kig kk hk) (kY kk) (kty kk hk) (knm kk hk) X.hown X.ev.1 l3 l4 g4 q0 p2 (kcl kk hk) i hi (X.hts _ hm) (fun _ e => e) hfin (X.hini hini) ((kdc kk hk i hi).trans hown) (kty kk hk i hi) hnf.1 hnf.2 (by simp [hi]) hd (fun H1 locs1 r1 r2 r3 => ?_)
  rw [e2] at r1 r2
  exact k al H1 locs1 lsA g1 g2 ⟨g3.1.wR _ _ _ _ (fun j hj => by rcases ho with rfl | rfl; (· cases hj); have := okS_h g6 j hj; simpa [rk, hk, ht] using this), L, l1, l2, r1, r2⟩ r3 g5 (okS_t (okS_t g6)) g7
theorem JW_iald (X : Cx p R s m args meth c cc own nL d mc ms ini D cA A) : rl_iald cc own nL d mc ms ini (JW p l e R s m args below meth c nL D cA A al0 h0 Q) := by
  intro pc a b ls st h kk n r x hd hf hr hx k al H locs lsA g1 g2 g3 g4 g5 g6 g7
  subst hr
  obtain ⟨hk, he, ht, h99⟩ := hf
  obtain ⟨L, l1, l2, l3, l4⟩ := g3.2
  obtain ⟨q0, p1, p2⟩ := wl_get (cA := cA) (al := al) (h := h) ((l2 (kk, n)).mpr ⟨okS_h (okS_t g6) n rfl, by omega⟩)
  rw [cE_arrI hk he, ht] at p2
  exact va_iald X.1 X.2.1 X.ev.1 l3 q0 0 p2 rfl (inb_in hx) hd (k al H locs lsA g1 g2 g3 g4 g5 (okS_i (okS_t (okS_t g6))) g7)
theorem JW_zald (X : Cx p R s m args meth c cc own nL d mc ms ini D cA A) : rl_zald cc own nL d mc ms ini (JW p l e R s m args below meth c nL D cA A al0 h0 Q) := by
  intro pc a b ls st h kk n r x hd hf hr hx k al H locs lsA g1 g2 g3 g4 g5 g6 g7
  subst hr
  obtain ⟨hk, he, ht, h99⟩ := hf
  obtain ⟨L, l1, l2, l3, l4⟩ := g3.2
  obtain ⟨q0, p1, p2⟩ := wl_get (cA := cA) (al := al) (h := h) ((l2 (kk, n)).mpr ⟨okS_h (okS_t g6) n rfl, by omega⟩)
  rw [cE_arrI hk he, ht] at p2
  exact va_zald X.1 X.2.1 X.ev.1 l3 q0 1 p2 rfl (inb_in hx) hd (k al H locs lsA g1 g2 g3 g4 g5 (okS_i (okS_t (okS_t g6))) g7)
theorem JW_alen (X : Cx p R s m args meth c cc own nL d mc ms ini D cA A) : rl_alen cc own nL d mc ms ini (JW p l e R s m args below meth c nL D cA A al0 h0 Q) := by
  intro pc a b ls st h kk n r hd hf hr k al H locs lsA g1 g2 g3 g4 g5 g6 g7
  subst hr
  obtain ⟨hk, he, ht, h99⟩ := hf
  obtain ⟨L, l1, l2, l3, l4⟩ := g3.2
  obtain ⟨q0, p1, p2⟩ := wl_get (cA := cA) (al := al) (h := h) ((l2 (kk, n)).mpr ⟨okS_h g6 n rfl, by omega⟩)
  rw [cE_arrI hk he, ht] at p2
  exact va_alen X.1 X.2.1 X.ev.1 l3 q0 0 p2 rfl rfl hd (k al H locs lsA g1 g2 g3 g4 g5 (okS_i (okS_t g6)) g7)
theorem JW_aald (X : Cx p R s m args meth c cc own nL d mc ms ini D cA A) : rl_aald cc own nL d mc ms ini (JW p l e R s m args below meth c nL D cA A al0 h0 Q) := by
  intro pc a b ls st h kk n k2 r x hd hf hr hx k al H locs lsA g1 g2 g3 g4 g5 g6 g7
  subst hr
  obtain ⟨hk, he, hk2, h99, ht⟩ := hf
  obtain ⟨L, l1, l2, l3, l4⟩ := g3.2
  obtain ⟨q0, p1, p2⟩ := wl_get (cA := cA) (al := al) (h := h) ((l2 (kk, n)).mpr ⟨okS_h (okS_t g6) n rfl, by omega⟩)
  rw [cE_arrR hk he] at p2
  exact va_aldq X.1 X.2.1 X.ev.1 l3 q0 (atx kk) p2 (ht cA) (inb_in hx) hd (k al H locs lsA g1 g2 g3 g4 g5 (okS_c (fun j hj => by have := g3.1 kk n x.toNatClampNeg j hj; simpa [rk, hk, he] using this) (okS_t (okS_t g6))) g7)
theorem JW_iast (X : Cx p R s m args meth c cc own nL d mc ms ini D cA A) : rl_iast cc own nL d mc ms ini (JW p l e R s m args below meth c nL D cA A al0 h0 Q) := by
  intro pc a b ls st h kk n r x v hd hf hr hx k al H locs lsA g1 g2 g3 g4 g5 g6 g7
  subst hr
  obtain ⟨hk, he, ht, h99⟩ := hf
  obtain ⟨L, l1, l2, l3, l4⟩ := g3.2
  obtain ⟨q0, p1, p2⟩ := wl_get (cA := cA) (al := al) (h := h) ((l2 (kk, n)).mpr ⟨okS_h (okS_t (okS_t g6)) n rfl, by omega⟩)
  have e1 : cE cA al (wI h kk n x.toNatClampNeg v) kk n = .inl (cA 0, pL h kk n, .inl (upd (fun i => pI h kk n i) x.toNatClampNeg v)) := by
    rw [cE_arrI hk he, ht, pL_wI]
    congr 4
    funext i
    simp only [pI_wI, upd, true_and]
  have e2 := wl_set (cA := cA) (al := al) (h := h) (h' := wI h kk n x.toNatClampNeg v) l1 p1 (fun k' n' hne => cE_wI hne)
  rw [e1] at e2
  rw [cE_arrI hk he, ht] at p2
  refine va_iast X.1 X.2.1 X.ev.1 l3 l4 g4 q0 0 p2 rfl (inb_in hx) hd (fun H1 locs1 r1 r2 r3 => ?_)
  rw [e2] at r1 r2
  exact k al H1 locs1 lsA g1 g2 ⟨g3.1.wI _ _ _ _, L, l1, l2, r1, r2⟩ r3 g5 (okS_t (okS_t (okS_t g6))) g7
theorem JW_zast (X : Cx p R s m args meth c cc own nL d mc ms ini D cA A) : rl_zast cc own nL d mc ms ini (JW p l e R s m args below meth c nL D cA A al0 h0 Q) := by
  intro pc a b ls st h kk n r x v hd hf hr hx hv k al H locs lsA g1 g2 g3 g4 g5 g6 g7
  subst hr
  obtain ⟨hk, he, ht, h99⟩ := hf
  obtain ⟨L, l1, l2, l3, l4⟩ := g3.2
  obtain ⟨q0, p1, p2⟩ := wl_get (cA := cA) (al := al) (h := h) ((l2 (kk, n)).mpr ⟨okS_h (okS_t (okS_t g6)) n rfl, by omega⟩)
  have e1 : cE cA al (wI h kk n x.toNatClampNeg v) kk n = .inl (cA 1, pL h kk n, .inl (upd (fun i => pI h kk n i) x.toNatClampNeg (vp_nar .boolean v))) := by
    rw [cE_arrI hk he, ht, pL_wI]
    congr 4
    funext i
    simp only [pI_wI, upd, true_and]
    rw [nar_bool hv]
  have e2 := wl_set (cA := cA) (al := al) (h := h) (h' := wI h kk n x.toNatClampNeg v) l1 p1 (fun k' n' hne => cE_wI hne)
  rw [e1] at e2
  rw [cE_arrI hk he, ht] at p2
  refine va_zast X.1 X.2.1 X.ev.1 l3 l4 g4 q0 1 p2 rfl (inb_in hx) hd (fun H1 locs1 r1 r2 r3 => ?_)
  rw [e2] at r1 r2
  exact k al H1 locs1 lsA g1 g2 ⟨g3.1.wI _ _ _ _, L, l1, l2, r1, r2⟩ r3 g5 (okS_t (okS_t (okS_t g6))) g7
theorem JW_aast (X : Cx p R s m args meth c cc own nL d mc ms ini D cA A) : rl_aast cc own nL d mc ms ini (JW p l e R s m args below meth c nL D cA A al0 h0 Q) := by
  intro pc a b ls st h kk n k2 r o x hd hf hr hx k al H locs lsA g1 g2 g3 g4 g5 g6 g7
  subst hr
  obtain ⟨hk, he, hk2, h99, ht⟩ := hf
  obtain ⟨L, l1, l2, l3, l4⟩ := g3.2
  obtain ⟨q0, p1, p2⟩ := wl_get (cA := cA) (al := al) (h := h) ((l2 (kk, n)).mpr ⟨okS_h (okS_t (okS_t g6)) n rfl, by omega⟩)
  have e1 : cE cA al (wR h kk n x.toNatClampNeg o) kk n = .inl (cA (atx kk), pL h kk n, .inr (.inr (.inr (.inr (va_up (fun i => (pR h kk n i).map (al k2)) x.toNatClampNeg (o.map (al k2))))))) := by
    rw [cE_arrR hk he, pL_wR]
    congr 7
    funext i
    simp only [pR_wR, va_up, true_and]
    split <;> rfl
  have e2 := wl_set (cA := cA) (al := al) (h := h) (h' := wR h kk n x.toNatClampNeg o) l1 p1 (fun k' n' hne => cE_wR hne)
  rw [e1] at e2
  rw [cE_arrR hk he] at p2
  have hcl : Clo (wR h kk n x.toNatClampNeg o) := g3.1.wR _ _ _ _ (fun j hj => by have := okS_h g6 j hj; simpa [rk, hk, he] using this)
  cases o with
  | none =>
    refine va_astqN X.1 X.2.1 X.ev.1 l3 l4 g4 q0 (atx kk) p2 (ht cA) (inb_in hx) hd (fun H1 locs1 r1 r2 r3 => ?_)
    rw [Option.map_none] at e2
    rw [e2] at r1 r2
    exact k al H1 locs1 lsA g1 g2 ⟨hcl, L, l1, l2, r1, r2⟩ r3 g5 (okS_t (okS_t (okS_t g6))) g7
  | some j =>
    obtain ⟨q1, s1, s2⟩ := wl_get (cA := cA) (al := al) (h := h) ((l2 (k2, j)).mpr ⟨okS_h g6 j rfl, by omega⟩)
    rw [cE_obj hk2] at s2
    refine va_astq X.1 X.2.1 X.ev.1 l3 l4 g4 q0 (atx kk) q1 k2 p2 (ht cA) s2 (kcl k2 hk2) (inb_in hx) hd (fun H1 locs1 r1 r2 r3 => ?_)
    rw [Option.map_some] at e2
    rw [e2] at r1 r2
    exact k al H1 locs1 lsA g1 g2 ⟨hcl, L, l1, l2, r1, r2⟩ r3 g5 (okS_t (okS_t (okS_t g6))) g7
theorem JW_new (X : Cx p R s m args meth c cc own nL d mc ms ini D cA A) : rl_new cc own nL d mc ms ini (JW p l e R s m args below meth c nL D cA A al0 h0 Q) := by
  intro pc a b ls st h ix kk hd hf ha hb k al H locs lsA g1 g2 g3 g4 g5 g6 g7
  obtain ⟨hk, m1, m2, m3⟩ := hf
  obtain ⟨L, l1, l2, l3, l4⟩ := g3.2
  refine va_new (fs := (List.range (nf kk)).map (fun i => match fty kk i with | none => Value.int 0 | some _ => .null)) X.1 X.2.1 X.hts (kig kk hk) (kY kk) (kty kk hk) X.hown (X.hts _ m1) (X.hts _ m2) (X.hts _ m3) X.ev.1 l3 l4 g4 X.hA (kcl kk hk) (fun j hj => ?_) (Nat.le_trans ha X.rc) (Nat.le_trans hb X.rs) hd (fun q H1 r1 r2 r3 => ?_)
  · exact dflt_ok hk hj
  · have hnew := rep_new (k := kk) (len := 0) (by omega) g3 l1 l2 (q := q) (e := .inr (kk, (List.range (nf kk)).map (fun i => match fty kk i with | none => Value.int 0 | some _ => .null))) (by
      rw [cE_obj hk]
      congr 3
      funext i
      cases he : fty kk i with
      | none => rw [fV_int he, pI_wN, if_pos ⟨rfl, rfl⟩]
      | some k2 => rw [fV_ref he, pR_wN, if_pos ⟨rfl, rfl⟩]; rfl) r1 r2
    have hal : ∀ k' n', n' < pC h k' → alN al h kk q k' n' = al k' n' := fun k' n' hn => alN_old hn
    have h8 := k (alN al h kk q) H1 locs lsA (fun k' n' hn => (hal k' n' (Nat.lt_of_lt_of_le hn (g2 k'))).trans (g1 k' n' hn)) (fun k' => Nat.le_trans (g2 k') (pC_grow h kk 0 k')) hnew r3 (fun i v hv => okV_grow (g5 i v hv)) (okS_c (okV_new h kk 0) (fun v hv => okV_grow (g6 v hv))) (la_al hal g5 g7)
    rw [List.map_cons, map_cv hal g6] at h8
    simpa [cv, alN_new, va_rf] using h8
theorem JW_newa_int (X : Cx p R s m args meth c cc own nL d mc ms ini D cA A) : rl_newa_int cc own nL d mc ms ini (JW p l e R s m args below meth c nL D cA A al0 h0 Q) := by
  intro pc a b ls st h kk N n hd hf hn hN hN2 ha hb k al H locs lsA g1 g2 g3 g4 g5 g6 g7
  obtain ⟨hk, he, ht, h99⟩ := hf
  obtain ⟨L, l1, l2, l3, l4⟩ := g3.2
  have hby : n.toNatClampNeg * componentBytes .int ≤ 536870912 := by
    have z : componentBytes .int ≤ 4 := by decide
    have := Nat.mul_le_mul (Nat.le_trans hN hN2) z
    omega
  refine va_newa (ty := .int) (N' := n.toNatClampNeg) (a0 := (n.toNatClampNeg, .inl (fun _ => 0))) X.1 X.2.1 (X.hts _ gw_int) rfl X.ev.1 l3 l4 g4 X.hA (fun cA => by rw [vp_cell_i]; rfl) hn rfl hby (Nat.le_trans ha X.rc) (by have := X.rs; omega) hd (fun q cA' H1 rK r1 r2 r3 => ?_)
  have hcA : cA' = cA 0 := by
    have z1 := (rK.2 7 (cA', .int) rfl).2
    have z2 := (X.ev.1.2 0 (cA 0, .int) rfl).2
    exact Option.some.inj (z1.symm.trans z2)
  subst hcA
  have hnew := rep_new (k := kk) (len := n.toNatClampNeg) h99 g3 l1 l2 (q := q) (e := .inl (cA 0, n.toNatClampNeg, .inl (fun _ => 0))) (by
      rw [cE_arrI hk he, ht, pL_wN, if_pos ⟨rfl, rfl⟩]
      congr 4
      funext i
      rw [pI_wN, if_pos ⟨rfl, rfl⟩]) r1 r2
  have hal : ∀ k' n', n' < pC h k' → alN al h kk q k' n' = al k' n' := fun k' n' hn => alN_old hn
  have h8 := k (alN al h kk q) H1 locs lsA (fun k' n' hn => (hal k' n' (Nat.lt_of_lt_of_le hn (g2 k'))).trans (g1 k' n' hn)) (fun k' => Nat.le_trans (g2 k') (pC_grow h kk _ k')) hnew r3 (fun i v hv => okV_grow (g5 i v hv)) (okS_c (okV_new h kk _) (fun v hv => okV_grow (okS_t g6 v hv))) (la_al hal g5 g7)
  rw [List.map_cons, map_cv hal (okS_t g6)] at h8
  refine W.widen (Nat.le_refl _) (Nat.add_le_add_left hN b) ?_
  simpa [cv, alN_new, va_rf] using h8
theorem JW_newa_boolean (X : Cx p R s m args meth c cc own nL d mc ms ini D cA A) : rl_newa_boolean cc own nL d mc ms ini (JW p l e R s m args below meth c nL D cA A al0 h0 Q) := by
  intro pc a b ls st h kk N n hd hf hn hN hN2 ha hb k al H locs lsA g1 g2 g3 g4 g5 g6 g7
  obtain ⟨hk, he, ht, h99⟩ := hf
  obtain ⟨L, l1, l2, l3, l4⟩ := g3.2
  have hby : n.toNatClampNeg * componentBytes .boolean ≤ 536870912 := by
    have z : componentBytes .boolean ≤ 4 := by decide
    have := Nat.mul_le_mul (Nat.le_trans hN hN2) z
    omega
  refine va_newa (ty := .boolean) (N' := n.toNatClampNeg) (a0 := (n.toNatClampNeg, .inl (fun _ => 0))) X.1 X.2.1 (X.hts _ gw_boolean) rfl X.ev.1 l3 l4 g4 X.hA (fun cA => by rw [vp_cell_i]; rfl) hn rfl hby (Nat.le_trans ha X.rc) (by have := X.rs; omega) hd (fun q cA' H1 rK r1 r2 r3 => ?_)
  have hcA : cA' = cA 1 := by
    have z1 := (rK.2 7 (cA', .boolean) rfl).2
    have z2 := (X.ev.1.2 1 (cA 1, .boolean) rfl).2
    exact Option.some.inj (z1.symm.trans z2)
  subst hcA
  have hnew := rep_new (k := kk) (len := n.toNatClampNeg) h99 g3 l1 l2 (q := q) (e := .inl (cA 1, n.toNatClampNeg, .inl (fun _ => 0))) (by
      rw [cE_arrI hk he, ht, pL_wN, if_pos ⟨rfl, rfl⟩]
      congr 4
      funext i
      rw [pI_wN, if_pos ⟨rfl, rfl⟩]) r1 r2
  have hal : ∀ k' n', n' < pC h k' → alN al h kk q k' n' = al k' n' := fun k' n' hn => alN_old hn
  have h8 := k (alN al h kk q) H1 locs lsA (fun k' n' hn => (hal k' n' (Nat.lt_of_lt_of_le hn (g2 k'))).trans (g1 k' n' hn)) (fun k' => Nat.le_trans (g2 k') (pC_grow h kk _ k')) hnew r3 (fun i v hv => okV_grow (g5 i v hv)) (okS_c (okV_new h kk _) (fun v hv => okV_grow (okS_t g6 v hv))) (la_al hal g5 g7)
  rw [List.map_cons, map_cv hal (okS_t g6)] at h8
  refine W.widen (Nat.le_refl _) (Nat.add_le_add_left hN b) ?_
  simpa [cv, alN_new, va_rf] using h8
theorem JW_newq (X : Cx p R s m args meth c cc own nL d mc ms ini D cA A) : rl_newq cc own nL d mc ms ini (JW p l e R s m args below meth c nL D cA A al0 h0 Q) := by
  intro pc a b ls st h kk k2 ix N n hd hf hm hn hN hN2 ha hb k al H locs lsA g1 g2 g3 g4 g5 g6 g7
  obtain ⟨hk, he, hk2, h99, ht⟩ := hf
  obtain ⟨L, l1, l2, l3, l4⟩ := g3.2
  refine va_newq (N' := n.toNatClampNeg) X.1 X.2.1 X.hown (X.hts _ hm.1) (X.ev.2.2 _ hm.2) X.ev.1 l3 l4 g4 X.hA hn rfl (by omega) (Nat.le_trans ha X.rc) (by have := X.rs; omega) hd (fun q cA' H1 rK r1 r2 r3 => ?_)
  have hcA : cA' = cA (atx kk) := by
    obtain ⟨_, _, _, _, _, z1⟩ := (rK.2 7 (cA', .object (kR k2)) rfl).2
    obtain ⟨_, _, _, _, _, z2⟩ := (X.ev.1.2 (atx kk) _ (ht cA)).2
    exact Option.some.inj (z1.symm.trans z2)
  subst hcA
  have hnew := rep_new (k := kk) (len := n.toNatClampNeg) h99 g3 l1 l2 (q := q) (e := .inl (cA (atx kk), n.toNatClampNeg, .inr (.inr (.inr (.inr (fun _ => none)))))) (by
      rw [cE_arrR hk he, pL_wN, if_pos ⟨rfl, rfl⟩]
      congr 7
      funext i
      rw [pR_wN, if_pos ⟨rfl, rfl⟩]; rfl) r1 r2
  have hal : ∀ k' n', n' < pC h k' → alN al h kk q k' n' = al k' n' := fun k' n' hn => alN_old hn
  have h8 := k (alN al h kk q) H1 locs lsA (fun k' n' hn => (hal k' n' (Nat.lt_of_lt_of_le hn (g2 k'))).trans (g1 k' n' hn)) (fun k' => Nat.le_trans (g2 k') (pC_grow h kk _ k')) hnew r3 (fun i v hv => okV_grow (g5 i v hv)) (okS_c (okV_new h kk _) (fun v hv => okV_grow (okS_t g6 v hv))) (la_al hal g5 g7)
  rw [List.map_cons, map_cv hal (okS_t g6)] at h8
  refine W.widen (Nat.le_refl _) (Nat.add_le_add_left hN b) ?_
  simpa [cv, alN_new, va_rf] using h8
theorem JW_objInit (X : Cx p R s m args meth c cc own nL d mc ms ini D cA A) : rl_objInit cc own nL d mc ms ini (JW p l e R s m args below meth c nL D cA A al0 h0 Q) := by
  intro pc a b ls st h ix kk n r hd hm hr hdd hst k al H locs lsA g1 g2 g3 g4 g5 g6 g7
  subst hr
  refine W.objInit X.1 X.2.1 X.hown (X.hts _ hm) (X.hts _ gw_oi) (X.hts _ gw_oc) rfl (g7.1.trans X.2.2.1.symm) (a := al kk n) (rest := st.map (cv al)) rfl hd (Nat.le_trans hdd X.rf) ?_ (k al H locs lsA g1 g2 g3 g4 g5 (okS_t g6) g7)
  have := lv_room (m := m) (pc := pc) (ls := lsA) (rest := List.map (cv al) (.inr (kk, some n) :: st)) (st := st.map (cv al)) (by rw [cat_sum]; exact hst)
  have := X.rl
  omega
theorem JW_mmax (X : Cx p R s m args meth c cc own nL d mc ms ini D cA A) : rl_mmax cc own nL d mc ms ini (JW p l e R s m args below meth c nL D cA A al0 h0 Q) := by
  intro pc a b ls st h ix x y hd hm hdd hst ha hb k al H locs lsA g1 g2 g3 g4 g5 g6 g7
  exact va_mmax X.1 X.2.1 (X.2.2.1.trans g7.1.symm) X.hown (X.hts _ hm) (X.hts _ gw_maxs) (X.hts _ gw_math) (X.hts _ gw_maxc) (Nat.le_trans hdd X.rf) (by rw [cat_sum]; have := X.rl; omega) (Nat.le_trans ha X.rc) (Nat.le_trans hb X.rs) hd (k al H locs lsA g1 g2 g3 g4 g5 (okS_i (okS_t (okS_t g6))) g7)
theorem JW_mmin (X : Cx p R s m args meth c cc own nL d mc ms ini D cA A) : rl_mmin cc own nL d mc ms ini (JW p l e R s m args below meth c nL D cA A al0 h0 Q) := by
  intro pc a b ls st h ix x y hd hm hdd hst ha hb k al H locs lsA g1 g2 g3 g4 g5 g6 g7
  exact va_mmin X.1 X.2.1 (X.2.2.1.trans g7.1.symm) X.hown (X.hts _ hm) (X.hts _ gw_mins) (X.hts _ gw_math) (X.hts _ gw_minc) (Nat.le_trans hdd X.rf) (by rw [cat_sum]; have := X.rl; omega) (Nat.le_trans ha X.rc) (Nat.le_trans hb X.rs) hd (k al H locs lsA g1 g2 g3 g4 g5 (okS_i (okS_t (okS_t g6))) g7)
theorem JW_callV (X : Cx p R s m args meth c cc own nL d mc ms ini D cA A) : rl_callV cc own nL d mc ms ini (JW p l e R s m args below meth c nL D cA A al0 h0 Q) := by
  intro pc a b ls st h ix ml np d2 mc2 ms2 y cy rt as h2 stk kk n ro v hd hw hkk hro hc hd2 hmc hms hnp hst hstk k al H locs lsA g1 g2 g3 g4 g5 g6 g7
  subst hro hstk
  obtain ⟨w1, w2, w3, w4, w5, w6, w7, w8⟩ := hw
  have hov : okV h (.inr (kk, some n)) := g6 _ (List.mem_append_right _ List.mem_cons_self)
  have hoa : ∀ v ∈ (Sum.inr (kk, some n) :: as : List AV), okV h v := fun v hv => by
    rcases List.mem_cons.mp hv with rfl | hv
    · exact hov
    · exact g6 _ (List.mem_append_left _ (List.mem_reverse.mpr hv))
  have hM := hc l D cA A al hoa
  obtain ⟨L, l1, l2, l3, l4⟩ := id g3.2
  obtain ⟨q0, p1, p2⟩ := wl_get (cA := cA) (al := al) (h := h) ((l2 (kk, n)).mpr ⟨hov n rfl, by omega⟩)
  rw [cE_obj hkk.1] at p2
  have hrv := va_recv X.ev.1 l3 (kcl kk hkk.1) p2
  have hr := va_runV (p := p) (e := e) (below := below) (meth := meth) (H := H) (locs := locs) (cells := a) (slots := b) (C := y.cls) (b := al kk n) (As := as.map (cv al)) (rest := st.map (cv al)) (g := F0 m pc lsA (List.map (cv al) (as.reverse ++ .inr (kk, some n) :: st))) (n := np) ⟨X.1, X.2.1, X.2.2.1, X.hown, X.hts⟩ hM ⟨X.callB hd2 w1 w4 w5 w6 w7 w8, X.hts _ w2, X.hts _ w3⟩
    ⟨cQ_blind, hkk.2 ▸ hrv, fun U hU hW => ⟨rfl, fun q hq => X.hA q (Nat.le_trans g4.1 (by rw [← hU]; exact hq)), by rw [hU]; exact g3, X.ev.warm hW⟩⟩ rfl (by simpa using hnp) g7.1 (by simp [cv, va_rf, List.map_reverse]) (lv_room (by rw [cat_sum]; exact hst)) hd ⟨Nat.le_trans hmc X.rc, Nat.le_trans hms X.rs⟩
  exact JW_after hr g1 g2 g4 g5 (fun v hv => g6 v (List.mem_append_right _ (List.mem_cons_of_mem _ hv))) g7 k
theorem JW_callS (X : Cx p R s m args meth c cc own nL d mc ms ini D cA A) : rl_callS cc own nL d mc ms ini (JW p l e R s m args below meth c nL D cA A al0 h0 Q) := by
  intro pc a b ls st h ix ml np d2 mc2 ms2 y cy rt as h2 stk v hd hw hc hd2 hmc hms hnp hst hstk k al H locs lsA g1 g2 g3 g4 g5 g6 g7
  subst hstk
  obtain ⟨w1, w2, w4, w5, w6, w7, w8⟩ := hw
  have hoa : ∀ v ∈ as, okV h v := fun v hv => g6 _ (List.mem_append_left _ (List.mem_reverse.mpr hv))
  have hM := hc l D cA A al hoa
  have hr := va_runS (p := p) (e := e) (below := below) (meth := meth) (H := H) (locs := locs) (cells := a) (slots := b) (As := as.map (cv al)) (rest := st.map (cv al)) (g := F0 m pc lsA (List.map (cv al) (as.reverse ++ st))) (n := np) ⟨X.1, X.2.1, X.2.2.1, X.hown, X.hts⟩ hM ⟨X.callB hd2 w1 w4 w5 w6 w7 w8, X.hts _ w2⟩
    ⟨cQ_blind, fun U hU hW => ⟨rfl, fun q hq => X.hA q (Nat.le_trans g4.1 (by rw [← hU]; exact hq)), by rw [hU]; exact g3, X.ev.warm hW⟩⟩ rfl (by simpa using hnp) g7.1 (by simp [List.map_reverse]) (lv_room (by rw [cat_sum]; exact hst)) hd ⟨Nat.le_trans hmc X.rc, Nat.le_trans hms X.rs⟩
  exact JW_after hr g1 g2 g4 g5 (fun v hv => g6 v (List.mem_append_right _ hv)) g7 k
theorem JW_callSN (X : Cx p R s m args meth c cc own nL d mc ms ini D cA A) : rl_callSN cc own nL d mc ms ini (JW p l e R s m args below meth c nL D cA A al0 h0 Q) := by
  intro pc a b ls st h ix ml np d2 mc2 ms2 y cy rt as h2 stk host v hd hw hc hd2 hmc hms hnp hst hstk k al H locs lsA g1 g2 g3 g4 g5 g6 g7
  subst hstk
  obtain ⟨w1, w2, w4, w5, w6, w7, w8⟩ := hw
  have hoa : ∀ v ∈ as, okV h v := fun v hv => g6 _ (List.mem_append_left _ (List.mem_reverse.mpr hv))
  have hM := hc l D cA A al hoa
  have hr := va_runSN (p := p) (e := e) (below := below) (meth := meth) (H := H) (locs := locs) (cells := a) (slots := b) (As := as.map (cv al)) (rest := st.map (cv al)) (g := F0 m pc lsA (List.map (cv al) (as.reverse ++ st))) (n := np) ⟨X.1, X.2.1, X.2.2.1, X.hown, X.hts⟩ hM ⟨X.callN hd2 w1 w4 w5 w6 w7 w8, X.hts _ w2, trivial⟩
    ⟨cQ_blind, fun U hU hW => ⟨rfl, fun q hq => X.hA q (Nat.le_trans g4.1 (by rw [← hU]; exact hq)), by rw [hU]; exact g3, X.ev.warm hW⟩⟩ rfl (by simpa using hnp) g7.1 (by simp [List.map_reverse]) (lv_room (by rw [cat_sum]; exact hst)) hd ⟨Nat.le_trans hmc X.rc, Nat.le_trans hms X.rs⟩
  exact JW_after hr g1 g2 g4 g5 (fun v hv => g6 v (List.mem_append_right _ hv)) g7 k
theorem JW_callV0 (X : Cx p R s m args meth c cc own nL d mc ms ini D cA A) : rl_callV0 cc own nL d mc ms ini (JW p l e R s m args below meth c nL D cA A al0 h0 Q) := by
  intro pc a b ls st h ix ml np d2 mc2 ms2 y cy rt as h2 stk kk n ro hd hw hkk hro hc hd2 hmc hms hnp hst hstk k al H locs lsA g1 g2 g3 g4 g5 g6 g7
  subst hro hstk
  obtain ⟨w1, w2, w3, w4, w5, w6, w7, w8⟩ := hw
  have hov : okV h (.inr (kk, some n)) := g6 _ (List.mem_append_right _ List.mem_cons_self)
  have hoa : ∀ v ∈ (Sum.inr (kk, some n) :: as : List AV), okV h v := fun v hv => by
    rcases List.mem_cons.mp hv with rfl | hv
    · exact hov
    · exact g6 _ (List.mem_append_left _ (List.mem_reverse.mpr hv))
  have hM := hc l D cA A al hoa
  obtain ⟨L, l1, l2, l3, l4⟩ := id g3.2
  obtain ⟨q0, p1, p2⟩ := wl_get (cA := cA) (al := al) (h := h) ((l2 (kk, n)).mpr ⟨hov n rfl, by omega⟩)
  rw [cE_obj hkk.1] at p2
  have hrv := va_recv X.ev.1 l3 (kcl kk hkk.1) p2
  have hr := va_runV (p := p) (e := e) (below := below) (meth := meth) (H := H) (locs := locs) (cells := a) (slots := b) (C := y.cls) (b := al kk n) (As := as.map (cv al)) (rest := st.map (cv al)) (g := F0 m pc lsA (List.map (cv al) (as.reverse ++ .inr (kk, some n) :: st))) (n := np) ⟨X.1, X.2.1, X.2.2.1, X.hown, X.hts⟩ hM ⟨X.callB hd2 w1 w4 w5 w6 w7 w8, X.hts _ w2, X.hts _ w3⟩
    ⟨cQ_blind, hkk.2 ▸ hrv, fun U hU hW => ⟨rfl, fun q hq => X.hA q (Nat.le_trans g4.1 (by rw [← hU]; exact hq)), by rw [hU]; exact g3, X.ev.warm hW⟩⟩ rfl (by simpa using hnp) g7.1 (by simp [cv, va_rf, List.map_reverse]) (lv_room (by rw [cat_sum]; exact hst)) hd ⟨Nat.le_trans hmc X.rc, Nat.le_trans hms X.rs⟩
  exact JW_after0 hr g1 g2 g4 g5 (fun v hv => g6 v (List.mem_append_right _ (List.mem_cons_of_mem _ hv))) g7 k
theorem JW_callS0 (X : Cx p R s m args meth c cc own nL d mc ms ini D cA A) : rl_callS0 cc own nL d mc ms ini (JW p l e R s m args below meth c nL D cA A al0 h0 Q) := by
  intro pc a b ls st h ix ml np d2 mc2 ms2 y cy rt as h2 stk hd hw hc hd2 hmc hms hnp hst hstk k al H locs lsA g1 g2 g3 g4 g5 g6 g7
  subst hstk
  obtain ⟨w1, w2, w4, w5, w6, w7, w8⟩ := hw
  have hoa : ∀ v ∈ as, okV h v := fun v hv => g6 _ (List.mem_append_left _ (List.mem_reverse.mpr hv))
  have hM := hc l D cA A al hoa
  have hr := va_runS (p := p) (e := e) (below := below) (meth := meth) (H := H) (locs := locs) (cells := a) (slots := b) (As := as.map (cv al)) (rest := st.map (cv al)) (g := F0 m pc lsA (List.map (cv al) (as.reverse ++ st))) (n := np) ⟨X.1, X.2.1, X.2.2.1, X.hown, X.hts⟩ hM ⟨X.callB hd2 w1 w4 w5 w6 w7 w8, X.hts _ w2⟩
    ⟨cQ_blind, fun U hU hW => ⟨rfl, fun q hq => X.hA q (Nat.le_trans g4.1 (by rw [← hU]; exact hq)), by rw [hU]; exact g3, X.ev.warm hW⟩⟩ rfl (by simpa using hnp) g7.1 (by simp [List.map_reverse]) (lv_room (by rw [cat_sum]; exact hst)) hd ⟨Nat.le_trans hmc X.rc, Nat.le_trans hms X.rs⟩
  exact JW_after0 hr g1 g2 g4 g5 (fun v hv => g6 v (List.mem_append_right _ hv)) g7 k
theorem JW_callSN0 (X : Cx p R s m args meth c cc own nL d mc ms ini D cA A) : rl_callSN0 cc own nL d mc ms ini (JW p l e R s m args below meth c nL D cA A al0 h0 Q) := by
  intro pc a b ls st h ix ml np d2 mc2 ms2 y cy rt as h2 stk host hd hw hc hd2 hmc hms hnp hst hstk k al H locs lsA g1 g2 g3 g4 g5 g6 g7
  subst hstk
  obtain ⟨w1, w2, w4, w5, w6, w7, w8⟩ := hw
  have hoa : ∀ v ∈ as, okV h v := fun v hv => g6 _ (List.mem_append_left _ (List.mem_reverse.mpr hv))
  have hM := hc l D cA A al hoa
  have hr := va_runSN (p := p) (e := e) (below := below) (meth := meth) (H := H) (locs := locs) (cells := a) (slots := b) (As := as.map (cv al)) (rest := st.map (cv al)) (g := F0 m pc lsA (List.map (cv al) (as.reverse ++ st))) (n := np) ⟨X.1, X.2.1, X.2.2.1, X.hown, X.hts⟩ hM ⟨X.callN hd2 w1 w4 w5 w6 w7 w8, X.hts _ w2, trivial⟩
    ⟨cQ_blind, fun U hU hW => ⟨rfl, fun q hq => X.hA q (Nat.le_trans g4.1 (by rw [← hU]; exact hq)), by rw [hU]; exact g3, X.ev.warm hW⟩⟩ rfl (by simpa using hnp) g7.1 (by simp [List.map_reverse]) (lv_room (by rw [cat_sum]; exact hst)) hd ⟨Nat.le_trans hmc X.rc, Nat.le_trans hms X.rs⟩
  exact JW_after0 hr g1 g2 g4 g5 (fun v hv => g6 v (List.mem_append_right _ hv)) g7 k
theorem JW_callI (X : Cx p R s m args meth c cc own nL d mc ms ini D cA A) : rl_callI cc own nL d mc ms ini (JW p l e R s m args below meth c nL D cA A al0 h0 Q) := by
  intro pc a b ls st h ix ml np d2 mc2 ms2 y cy as h2 stk kk n ro hd hw hro hc hd2 hmc hms hnp hst hstk k al H locs lsA g1 g2 g3 g4 g5 g6 g7
  subst hro hstk
  obtain ⟨w1, w2, w4, w5, w6, w7, w8, w9⟩ := hw
  have hov : okV h (.inr (kk, some n)) := g6 _ (List.mem_append_right _ List.mem_cons_self)
  have hoa : ∀ v ∈ (Sum.inr (kk, some n) :: as : List AV), okV h v := fun v hv => by
    rcases List.mem_cons.mp hv with rfl | hv
    · exact hov
    · exact g6 _ (List.mem_append_left _ (List.mem_reverse.mpr hv))
  have hM := hc l D cA A al hoa
  have hr := va_runI (p := p) (e := e) (below := below) (meth := meth) (H := H) (locs := locs) (cells := a) (slots := b) (b := al kk n) (As := as.map (cv al)) (rest := st.map (cv al)) (g := F0 m pc lsA (List.map (cv al) (as.reverse ++ .inr (kk, some n) :: st))) (n := np) ⟨X.1, X.2.1, X.2.2.1, X.hown, X.hts⟩ hM ⟨X.callB hd2 w1 w4 w5 w6 w7 w8, w9, X.hts _ w2⟩
    ⟨cQ_blind, fun U hU hW => ⟨rfl, fun q hq => X.hA q (Nat.le_trans g4.1 (by rw [← hU]; exact hq)), by rw [hU]; exact g3, X.ev.warm hW⟩⟩ rfl (by simpa using hnp) g7.1 (by simp [cv, va_rf, List.map_reverse]) (lv_room (by rw [cat_sum]; exact hst)) hd ⟨Nat.le_trans hmc X.rc, Nat.le_trans hms X.rs⟩
  exact JW_after0 hr g1 g2 g4 g5 (fun v hv => g6 v (List.mem_append_right _ (List.mem_cons_of_mem _ hv))) g7 k
theorem JW_callIN (X : Cx p R s m args meth c cc own nL d mc ms ini D cA A) : rl_callIN cc own nL d mc ms ini (JW p l e R s m args below meth c nL D cA A al0 h0 Q) := by
  intro pc a b ls st h ix ml np d2 mc2 ms2 y cy as h2 stk kk n ro host hd hw hro hc hd2 hmc hms hnp hst hstk k al H locs lsA g1 g2 g3 g4 g5 g6 g7
  subst hro hstk
  obtain ⟨w1, w2, w4, w5, w6, w7, w8, w9⟩ := hw
  have hov : okV h (.inr (kk, some n)) := g6 _ (List.mem_append_right _ List.mem_cons_self)
  have hoa : ∀ v ∈ (Sum.inr (kk, some n) :: as : List AV), okV h v := fun v hv => by
    rcases List.mem_cons.mp hv with rfl | hv
    · exact hov
    · exact g6 _ (List.mem_append_left _ (List.mem_reverse.mpr hv))
  have hM := hc l D cA A al hoa
  have hr := va_runIN (p := p) (e := e) (below := below) (meth := meth) (H := H) (locs := locs) (cells := a) (slots := b) (b := al kk n) (As := as.map (cv al)) (rest := st.map (cv al)) (g := F0 m pc lsA (List.map (cv al) (as.reverse ++ .inr (kk, some n) :: st))) (n := np) ⟨X.1, X.2.1, X.2.2.1, X.hown, X.hts⟩ hM ⟨X.callN hd2 w1 w4 w5 w6 w7 w8, w9, X.hts _ w2⟩
    ⟨cQ_blind, fun U hU hW => ⟨rfl, fun q hq => X.hA q (Nat.le_trans g4.1 (by rw [← hU]; exact hq)), by rw [hU]; exact g3, X.ev.warm hW⟩⟩ rfl (by simpa using hnp) g7.1 (by simp [cv, va_rf, List.map_reverse]) (lv_room (by rw [cat_sum]; exact hst)) hd ⟨Nat.le_trans hmc X.rc, Nat.le_trans hms X.rs⟩
  exact JW_after0 hr g1 g2 g4 g5 (fun v hv => g6 v (List.mem_append_right _ (List.mem_cons_of_mem _ hv))) g7 k
theorem JW_rules (X : Cx p R s m args meth c cc own nL d mc ms ini D cA A) : Rules cc own nL d mc ms ini (JW p l e R s m args below meth c nL D cA A al0 h0 Q) := ⟨JW_iconst X, JW_bipush X, JW_sipush X, JW_ldc X, JW_ldc_w X, JW_iload_n X, JW_iload X, JW_aload_n X, JW_aload X, JW_istore_n X, JW_istore X, JW_astore_n X, JW_astore X, JW_iinc X, JW_iadd X, JW_isub X, JW_imul X, JW_iand X, JW_ior X, JW_ishl X, JW_ishr X, JW_idiv X, JW_irem X, JW_dup X, JW_dup2 X, JW_pop X, JW_if_eq X, JW_icmp_eq X, JW_if_ne X, JW_icmp_ne X, JW_if_lt X, JW_icmp_lt X, JW_if_ge X, JW_icmp_ge X, JW_if_gt X, JW_icmp_gt X, JW_if_le X, JW_icmp_le X, JW_goto X, JW_forget X, JW_null X, JW_ifnull X, JW_ifnonnull X, JW_acmp_eq X, JW_acmp_ne X, JW_tabIn X, JW_tabOut X, JW_getI X, JW_getR X, JW_putI X, JW_putIF X, JW_putR X, JW_putRF X, JW_iald X, JW_zald X, JW_alen X, JW_aald X, JW_iast X, JW_zast X, JW_aast X, JW_new X, JW_newa_int X, JW_newa_boolean X, JW_newq X, JW_objInit X, JW_mmax X, JW_mmin X, JW_callV X, JW_callS X, JW_callSN X, JW_callV0 X, JW_callS0 X, JW_callSN0 X, JW_callI X, JW_callIN X⟩
end SOUND
