/-! kinds: 0-8 the classes, from 9 on the arrays, one kind for each field that holds an array -/
def kR (k : Nat) : String := match k with
  | 0 => RX0
  | 1 => RX1
  | 2 => RX2
  | 3 => RX3
  | 4 => RX4
  | 5 => RX5
  | 6 => RX6
  | 7 => RX7
  | _ => RX8
def kT (k : Nat) : u_T := match k with
  | 0 => TX0
  | 1 => TX1
  | 2 => TX2
  | 3 => TX3
  | 4 => TX4
  | 5 => TX5
  | 6 => TX6
  | 7 => TX7
  | _ => TX8
def kY (k : Nat) : Nat → FieldType := match k with
  | 0 => tyX0
  | 1 => tyX1
  | 2 => tyX2
  | 3 => tyX3
  | 4 => tyX4
  | 5 => tyX5
  | 6 => tyX6
  | 7 => tyX7
  | _ => tyX8
def nfT : List Nat := [6, 8, 6, 3, 10, 4, 8, 18, 52]
def nf (k : Nat) : Nat := nfT.getD k 0
def ftT : List (List (Option Nat)) := [[none, some 4, some 4, some 2, none, none], [some 9, some 10, some 11, some 12, some 13, none, none, none], [none, some 14, none, some 4, some 0, none], [some 15, none, none], [none, some 4, none, none, none, none, none, none, none, none], [some 16, some 17, some 18, none], [none, none, none, none, none, some 4, some 2, none], [some 19, none, some 20, none, some 21, none, some 22, none, some 3, some 5, some 5, some 23, some 24, some 1, none, none, none, none], [none, none, some 25, some 26, some 27, some 28, some 29, some 30, some 31, some 32, some 33, none, some 34, some 35, some 36, some 37, some 38, some 39, some 40, some 41, some 42, some 43, none, some 44, none, some 45, some 46, some 47, some 48, some 49, none, some 50, some 51, some 52, some 53, some 54, some 55, some 56, none, some 57, some 58, none, some 59, some 60, some 61, some 62, none, some 63, some 64, some 65, some 66, some 67]]
def fty (k i : Nat) : Option Nat := (ftT.getD k []).getD i none
def aeT : List (Option Nat) := [some 2, none, none, none, none, some 3, some 6, none, none, none, some 4, some 6, some 2, some 0, none, none, none, none, none, none, none, none, none, none, none, none, none, none, none, none, none, none, none, none, none, none, none, none, none, none, none, none, none, none, none, none, none, none, none, none, none, none, none, none, none, none, none, none, none]
def ael (k : Nat) : Option Nat := aeT.getD (k - 9) none
def atT : List Nat := [3, 0, 0, 0, 0, 4, 6, 0, 0, 0, 5, 6, 3, 2, 0, 0, 0, 0, 0, 0, 0, 0, 1, 0, 0, 0, 0, 0, 0, 0, 0, 0, 0, 0, 0, 0, 0, 0, 0, 0, 0, 0, 0, 0, 0, 0, 0, 0, 0, 0, 0, 0, 0, 0, 0, 0, 0, 0, 0]
def atx (k : Nat) : Nat := atT.getD (k - 9) 0
def rk (k i : Nat) : Nat := if k < 9 then (fty k i).getD 0 else (ael k).getD 0
abbrev tysL (cA : Nat → ClassId) : List (ClassId × FieldType) := [(cA 0, .int), (cA 1, .boolean), (cA 2, .object RX0), (cA 3, .object RX2), (cA 4, .object RX3), (cA 5, .object RX4), (cA 6, .object RX6)]
def gws : List Cond := lw_tbl.filter goodWord
theorem gw (i : Nat) {w : Cond} (h : lw_tbl[i]? = some w) (g : goodWord w = true) : w ∈ gws := List.mem_filter.mpr ⟨List.mem_of_getElem? h, g⟩
theorem ig0 : ∀ w ∈ u_ws RX0 TX0 6, w ∈ gws := by
  intro w hw
  have e : u_ws RX0 TX0 6 = ([468, 470, 472, 474, 476, 478] : List Nat).filterMap (fun i => lw_tbl[i]?) := by decide +kernel
  have g : (u_ws RX0 TX0 6).all goodWord = true := by decide +kernel
  have g1 := List.all_eq_true.mp g w hw
  rw [e] at hw
  obtain ⟨i, -, hi⟩ := List.mem_filterMap.mp hw
  exact gw i hi g1
theorem ig1 : ∀ w ∈ u_ws RX1 TX1 8, w ∈ gws := by
  intro w hw
  have e : u_ws RX1 TX1 8 = ([127, 129, 131, 133, 135, 137, 139, 141] : List Nat).filterMap (fun i => lw_tbl[i]?) := by decide +kernel
  have g : (u_ws RX1 TX1 8).all goodWord = true := by decide +kernel
  have g1 := List.all_eq_true.mp g w hw
  rw [e] at hw
  obtain ⟨i, -, hi⟩ := List.mem_filterMap.mp hw
  exact gw i hi g1
theorem ig2 : ∀ w ∈ u_ws RX2 TX2 6, w ∈ gws := by
  intro w hw
  have e : u_ws RX2 TX2 6 = ([378, 380, 382, 384, 386, 388] : List Nat).filterMap (fun i => lw_tbl[i]?) := by decide +kernel
  have g : (u_ws RX2 TX2 6).all goodWord = true := by decide +kernel
  have g1 := List.all_eq_true.mp g w hw
  rw [e] at hw
  obtain ⟨i, -, hi⟩ := List.mem_filterMap.mp hw
  exact gw i hi g1
theorem ig3 : ∀ w ∈ u_ws RX3 TX3 3, w ∈ gws := by
  intro w hw
  have e : u_ws RX3 TX3 3 = ([82, 84, 86] : List Nat).filterMap (fun i => lw_tbl[i]?) := by decide +kernel
  have g : (u_ws RX3 TX3 3).all goodWord = true := by decide +kernel
  have g1 := List.all_eq_true.mp g w hw
  rw [e] at hw
  obtain ⟨i, -, hi⟩ := List.mem_filterMap.mp hw
  exact gw i hi g1
theorem ig4 : ∀ w ∈ u_ws RX4 TX4 10, w ∈ gws := by
  intro w hw
  have e : u_ws RX4 TX4 10 = ([232, 234, 236, 238, 240, 242, 244, 246, 248, 250] : List Nat).filterMap (fun i => lw_tbl[i]?) := by decide +kernel
  have g : (u_ws RX4 TX4 10).all goodWord = true := by decide +kernel
  have g1 := List.all_eq_true.mp g w hw
  rw [e] at hw
  obtain ⟨i, -, hi⟩ := List.mem_filterMap.mp hw
  exact gw i hi g1
theorem ig5 : ∀ w ∈ u_ws RX5 TX5 4, w ∈ gws := by
  intro w hw
  have e : u_ws RX5 TX5 4 = ([102, 104, 106, 108] : List Nat).filterMap (fun i => lw_tbl[i]?) := by decide +kernel
  have g : (u_ws RX5 TX5 4).all goodWord = true := by decide +kernel
  have g1 := List.all_eq_true.mp g w hw
  rw [e] at hw
  obtain ⟨i, -, hi⟩ := List.mem_filterMap.mp hw
  exact gw i hi g1
theorem ig6 : ∀ w ∈ u_ws RX6 TX6 8, w ∈ gws := by
  intro w hw
  have e : u_ws RX6 TX6 8 = ([305, 307, 309, 311, 313, 315, 317, 319] : List Nat).filterMap (fun i => lw_tbl[i]?) := by decide +kernel
  have g : (u_ws RX6 TX6 8).all goodWord = true := by decide +kernel
  have g1 := List.all_eq_true.mp g w hw
  rw [e] at hw
  obtain ⟨i, -, hi⟩ := List.mem_filterMap.mp hw
  exact gw i hi g1
theorem ig7 : ∀ w ∈ u_ws RX7 TX7 18, w ∈ gws := by
  intro w hw
  have e : u_ws RX7 TX7 18 = ([162, 164, 166, 168, 170, 172, 174, 176, 178, 180, 182, 184, 186, 188, 190, 192, 194, 196] : List Nat).filterMap (fun i => lw_tbl[i]?) := by decide +kernel
  have g : (u_ws RX7 TX7 18).all goodWord = true := by decide +kernel
  have g1 := List.all_eq_true.mp g w hw
  rw [e] at hw
  obtain ⟨i, -, hi⟩ := List.mem_filterMap.mp hw
  exact gw i hi g1
theorem ig8 : ∀ w ∈ u_ws RX8 TX8 52, w ∈ gws := by
  intro w hw
  have e : u_ws RX8 TX8 52 = ([784, 786, 788, 790, 792, 794, 796, 798, 800, 802, 804, 806, 808, 810, 812, 814, 816, 818, 820, 822, 824, 826, 828, 830, 832, 834, 836, 838, 840, 842, 844, 846, 848, 850, 852, 854, 856, 858, 860, 862, 864, 866, 868, 870, 872, 874, 876, 878, 880, 882, 884, 886] : List Nat).filterMap (fun i => lw_tbl[i]?) := by decide +kernel
  have g : (u_ws RX8 TX8 52).all goodWord = true := by decide +kernel
  have g1 := List.all_eq_true.mp g w hw
  rw [e] at hw
  obtain ⟨i, -, hi⟩ := List.mem_filterMap.mp hw
  exact gw i hi g1
theorem kcl : ∀ k, k < 9 → vwCl[k]? = some (kR k, kT k, nf k) := by
  intro k hk
  match k, hk with
  | 0, _ => exact rfl
  | 1, _ => exact rfl
  | 2, _ => exact rfl
  | 3, _ => exact rfl
  | 4, _ => exact rfl
  | 5, _ => exact rfl
  | 6, _ => exact rfl
  | 7, _ => exact rfl
  | 8, _ => exact rfl
  | n + 9, h => exact absurd h (by omega)
theorem kig : ∀ k, k < 9 → ∀ w ∈ u_ws (kR k) (kT k) (nf k), w ∈ gws := by
  intro k hk
  match k, hk with
  | 0, _ => exact ig0
  | 1, _ => exact ig1
  | 2, _ => exact ig2
  | 3, _ => exact ig3
  | 4, _ => exact ig4
  | 5, _ => exact ig5
  | 6, _ => exact ig6
  | 7, _ => exact ig7
  | 8, _ => exact ig8
  | n + 9, h => exact absurd h (by omega)
theorem kty : ∀ k, k < 9 → ∀ i, i < nf k → parseFieldDescriptor (kT k i).2.2.1 = some (kY k i) := by
  intro k hk
  match k, hk with
  | 0, _ => exact tyX0_ok
  | 1, _ => exact tyX1_ok
  | 2, _ => exact tyX2_ok
  | 3, _ => exact tyX3_ok
  | 4, _ => exact tyX4_ok
  | 5, _ => exact tyX5_ok
  | 6, _ => exact tyX6_ok
  | 7, _ => exact tyX7_ok
  | 8, _ => exact tyX8_ok
  | n + 9, h => exact absurd h (by omega)
theorem knm : ∀ k, k < 9 → ∀ a, a < nf k → ∀ b, b < nf k → a ≠ b → (kT k a).2.1 ≠ (kT k b).2.1 := by
  intro k hk
  match k, hk with
  | 0, _ => exact nmX0
  | 1, _ => exact nmX1
  | 2, _ => exact nmX2
  | 3, _ => exact nmX3
  | 4, _ => exact nmX4
  | 5, _ => exact nmX5
  | 6, _ => exact nmX6
  | 7, _ => exact nmX7
  | 8, _ => exact nmX8
  | n + 9, h => exact absurd h (by omega)
theorem kd0 : ∀ i, i < 6 → (TX0 i).1 = RX0 := by decide +kernel
theorem kd1 : ∀ i, i < 8 → (TX1 i).1 = RX1 := by decide +kernel
theorem kd2 : ∀ i, i < 6 → (TX2 i).1 = RX2 := by decide +kernel
theorem kd3 : ∀ i, i < 3 → (TX3 i).1 = RX3 := by decide +kernel
theorem kd4 : ∀ i, i < 10 → (TX4 i).1 = RX4 := by decide +kernel
theorem kd5 : ∀ i, i < 4 → (TX5 i).1 = RX5 := by decide +kernel
theorem kd6 : ∀ i, i < 8 → (TX6 i).1 = RX6 := by decide +kernel
theorem kd7 : ∀ i, i < 18 → (TX7 i).1 = RX7 := by decide +kernel
theorem kd8 : ∀ i, i < 52 → (TX8 i).1 = RX8 := by decide +kernel
theorem kdc : ∀ k, k < 9 → ∀ i, i < nf k → (kT k i).1 = kR k := by
  intro k hk
  match k, hk with
  | 0, _ => exact kd0
  | 1, _ => exact kd1
  | 2, _ => exact kd2
  | 3, _ => exact kd3
  | 4, _ => exact kd4
  | 5, _ => exact kd5
  | 6, _ => exact kd6
  | 7, _ => exact kd7
  | 8, _ => exact kd8
  | n + 9, h => exact absurd h (by omega)
def isRT (t : FieldType) : Bool := match t with
  | .object _ => true
  | .array _ => true
  | _ => false
theorem kf0 : ∀ i, i < 6 → isRT (tyX0 i) = (fty 0 i).isSome ∧ (isRT (tyX0 i) = false → tyX0 i = .int ∨ tyX0 i = .boolean) := by decide +kernel
theorem kf1 : ∀ i, i < 8 → isRT (tyX1 i) = (fty 1 i).isSome ∧ (isRT (tyX1 i) = false → tyX1 i = .int ∨ tyX1 i = .boolean) := by decide +kernel
theorem kf2 : ∀ i, i < 6 → isRT (tyX2 i) = (fty 2 i).isSome ∧ (isRT (tyX2 i) = false → tyX2 i = .int ∨ tyX2 i = .boolean) := by decide +kernel
theorem kf3 : ∀ i, i < 3 → isRT (tyX3 i) = (fty 3 i).isSome ∧ (isRT (tyX3 i) = false → tyX3 i = .int ∨ tyX3 i = .boolean) := by decide +kernel
theorem kf4 : ∀ i, i < 10 → isRT (tyX4 i) = (fty 4 i).isSome ∧ (isRT (tyX4 i) = false → tyX4 i = .int ∨ tyX4 i = .boolean) := by decide +kernel
theorem kf5 : ∀ i, i < 4 → isRT (tyX5 i) = (fty 5 i).isSome ∧ (isRT (tyX5 i) = false → tyX5 i = .int ∨ tyX5 i = .boolean) := by decide +kernel
theorem kf6 : ∀ i, i < 8 → isRT (tyX6 i) = (fty 6 i).isSome ∧ (isRT (tyX6 i) = false → tyX6 i = .int ∨ tyX6 i = .boolean) := by decide +kernel
theorem kf7 : ∀ i, i < 18 → isRT (tyX7 i) = (fty 7 i).isSome ∧ (isRT (tyX7 i) = false → tyX7 i = .int ∨ tyX7 i = .boolean) := by decide +kernel
theorem kf8 : ∀ i, i < 52 → isRT (tyX8 i) = (fty 8 i).isSome ∧ (isRT (tyX8 i) = false → tyX8 i = .int ∨ tyX8 i = .boolean) := by decide +kernel
theorem kft : ∀ k, k < 9 → ∀ i, i < nf k → isRT (kY k i) = (fty k i).isSome ∧ (isRT (kY k i) = false → kY k i = .int ∨ kY k i = .boolean) := by
  intro k hk
  match k, hk with
  | 0, _ => exact kf0
  | 1, _ => exact kf1
  | 2, _ => exact kf2
  | 3, _ => exact kf3
  | 4, _ => exact kf4
  | 5, _ => exact kf5
  | 6, _ => exact kf6
  | 7, _ => exact kf7
  | 8, _ => exact kf8
  | n + 9, h => exact absurd h (by omega)
def nestW : List Cond := [(Cond.methodLinkNest "RaftRivers" (48 : Nat) ({ cls := "RaftRivers$Row", name := "<init>", desc := "()V" } : Jvm.MethodName) "RaftRivers"), (Cond.methodLinkNest "RaftRivers" (74 : Nat) ({ cls := "RaftRivers$Plan", name := "<init>", desc := "()V" } : Jvm.MethodName) "RaftRivers"), (Cond.methodLinkNest "RaftRivers$Station" (45 : Nat) ({ cls := "RaftRivers", name := "within", desc := "(III)Z" } : Jvm.MethodName) "RaftRivers"), (Cond.methodLinkNest "RaftRivers$Trunk" (38 : Nat) ({ cls := "RaftRivers", name := "isOwner", desc := "(I)Z" } : Jvm.MethodName) "RaftRivers"), (Cond.methodLinkNest "RaftRivers$Trunk" (42 : Nat) ({ cls := "RaftRivers", name := "within", desc := "(III)Z" } : Jvm.MethodName) "RaftRivers"), (Cond.methodLinkNest "RaftRivers$Plan" (40 : Nat) ({ cls := "RaftRivers", name := "within", desc := "(III)Z" } : Jvm.MethodName) "RaftRivers")]
def aoW : List String := [RX0, RX2, RX3, RX4, RX6]
