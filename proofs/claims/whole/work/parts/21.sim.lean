/-! what ties the class to the reference -/
def su (f : Nat → Int32) : Nat → Int32
  | 0 => 0
  | n + 1 => su f n + f n
def cnt (T : Nat) (m : Nat → Int32) (v : Int32) : Int32 := su (fun t => if m t = v then 1 else 0) T
def Gw7 (r : Nat → Option Nat) : Prop := r 0 = some 0 ∧ r 2 = some 0 ∧ r 4 = some 0 ∧ r 6 = some 0 ∧ r 9 = some 0 ∧ r 10 = some 1 ∧ r 11 = some 0 ∧ r 12 = some 0 ∧ r 13 = some 0
def Gw1 (r : Nat → Option Nat) : Prop := r 0 = some 0 ∧ r 1 = some 0 ∧ r 2 = some 0 ∧ r 3 = some 0 ∧ r 4 = some 0
def Gw5 (r : Nat → Nat → Option Nat) : Prop := r 0 0 = some 0 ∧ r 0 1 = some 0 ∧ r 0 2 = some 0 ∧ r 1 0 = some 1 ∧ r 1 1 = some 1 ∧ r 1 2 = some 1
def Gw8 (r : Nat → Option Nat) : Prop := ∀ i, (i < 52 ∧ i ≠ 0 ∧ i ≠ 1 ∧ i ≠ 11 ∧ i ≠ 22 ∧ i ≠ 24 ∧ i ≠ 30 ∧ i ≠ 38 ∧ i ≠ 41 ∧ i ≠ 46) → r i = some 0
def lenT : List (Nat × Nat × Nat) := [(9, 0, 5), (10, 0, 5), (11, 0, 5), (12, 0, 5), (13, 0, 5), (16, 0, 30), (16, 1, 100), (17, 0, 30), (17, 1, 100), (18, 0, 30), (18, 1, 100), (19, 0, 12), (20, 0, 120), (21, 0, 60), (22, 0, 10), (23, 0, 8), (24, 0, 8), (25, 0, 12), (26, 0, 12), (27, 0, 12), (28, 0, 12), (29, 0, 12), (30, 0, 12), (31, 0, 12), (32, 0, 12), (33, 0, 12), (34, 0, 120), (35, 0, 120), (36, 0, 120), (37, 0, 120), (38, 0, 120), (39, 0, 120), (40, 0, 120), (41, 0, 120), (42, 0, 120), (43, 0, 120), (44, 0, 9), (45, 0, 60), (46, 0, 60), (47, 0, 60), (48, 0, 60), (49, 0, 60), (50, 0, 10), (51, 0, 10), (52, 0, 10), (53, 0, 10), (54, 0, 10), (55, 0, 8), (56, 0, 8), (57, 0, 30), (58, 0, 30), (59, 0, 100), (60, 0, 100), (61, 0, 100), (62, 0, 100), (63, 0, 5), (64, 0, 5), (65, 0, 5), (66, 0, 5), (67, 0, 5)]
def Gl (pl : Nat → Nat → Nat) : Prop := ∀ q ∈ lenT, pl q.1 q.2.1 = q.2.2
def Gct (S T R C P14 P3 P15 : Nat) (x1 x3 x5 x7 y1 y11 y24 y30 : Int32) : Prop := S ≤ 12 ∧ T ≤ 120 ∧ R ≤ 60 ∧ C ≤ 10 ∧ P14 = R ∧ P15 = P3 ∧ x1 = nI S ∧ x3 = nI T ∧ x5 = nI R ∧ x7 = nI C ∧ y1 = nI S ∧ y11 = nI T ∧ y24 = nI R ∧ y30 = nI C
def Gar (n : Nat) (a : Nat → Option Nat) : Prop := ∀ i, i < n → a i = some i
/-- stations -/
def GS (S : Nat) (i4 : Nat → Nat → Int32) (r4 : Nat → Nat → Option Nat) (m25 m26 m27 m28 m29 m30 m31 m32 m33 : Nat → Int32) : Prop :=
  (∀ n, n < S → i4 n 0 = nI n ∧ i4 n 2 = m26 n ∧ i4 n 3 = m27 n ∧ i4 n 4 = m28 n ∧ i4 n 5 = m29 n ∧ i4 n 6 = m31 n ∧ i4 n 7 = m30 n ∧ i4 n 8 = m32 n ∧ i4 n 9 = m33 n ∧ (m31 n = 0 ∨ m31 n = 1) ∧ (n = 0 → r4 n 1 = none) ∧ (0 < n → ∃ b, b < n ∧ r4 n 1 = some b ∧ m25 n = nI b)) ∧
  ∀ n, S ≤ n → m25 n = 0 ∧ m26 n = 0 ∧ m27 n = 0 ∧ m28 n = 0 ∧ m29 n = 0 ∧ m30 n = 0 ∧ m31 n = 0 ∧ m32 n = 0 ∧ m33 n = 0
def GSb (S : Nat) (m26 m27 m28 m29 m30 m32 m33 : Nat → Int32) : Prop :=
  ∀ n, n < S → (∃ hr wd fl hd pd : Nat, m26 n = nI hr ∧ m27 n = nI wd ∧ m28 n = nI fl ∧ m29 n = nI hd ∧ m30 n = nI pd ∧ hr ≤ 20 ∧ wd ≤ 60 ∧ fl ≤ 50 ∧ hd ≤ 1000 ∧ pd ≤ hd ∧ (0 < n → 1 ≤ hr)) ∧ ∃ f t : Nat, m32 n = nI f ∧ m33 n = nI t ∧ f < 2147483648 ∧ t < 2147483648
/-- trunks -/
def GT (S T R : Nat) (i6 : Nat → Nat → Int32) (r6 : Nat → Nat → Option Nat) (m34 m35 m36 m37 m38 m39 m40 m43 : Nat → Int32) : Prop :=
  (∀ t, t < T → (i6 t 0 = nI t ∧ i6 t 1 = m34 t ∧ i6 t 2 = m35 t ∧ i6 t 3 = m36 t ∧ i6 t 4 = m37 t ∧ i6 t 7 = m43 t) ∧ ((∃ o, o < 8 ∧ m35 t = nI o) ∧ (∃ s, s < 4 ∧ m36 t = nI s) ∧ ∃ q, 1 ≤ q ∧ q ≤ 9 ∧ m37 t = nI q) ∧
    ((m38 t = 0 ∧ (∃ p, p < S ∧ r6 t 5 = some p ∧ m39 t = nI p) ∧ r6 t 6 = none ∧ m43 t = -1) ∨ (m38 t = 1 ∧ r6 t 5 = none ∧ (∃ r, r < R ∧ r6 t 6 = some r ∧ m40 t = nI r) ∧ m43 t = -1) ∨
     (m38 t = 2 ∧ r6 t 5 = none ∧ r6 t 6 = none ∧ ∃ v, v < 2147483648 ∧ m43 t = nI v) ∨ (m38 t = 3 ∧ r6 t 5 = none ∧ r6 t 6 = none ∧ m43 t = -1))) ∧
  ∀ t, T ≤ t → m38 t = 0
/-- rafts -/
def GR (S R C nw : Nat) (i2 : Nat → Nat → Int32) (r2 r0 : Nat → Nat → Option Nat) (m45 m46 m47 m48 m49 : Nat → Int32) : Prop :=
  ∀ r, r < R → (i2 r 0 = nI r ∧ i2 r 2 = m47 r ∧ i2 r 5 = m49 r ∧ ∃ z, z ≤ 8 ∧ m47 r = nI z) ∧
    ((m45 r = 3 ∧ m47 r = 0 ∧ r2 r 3 = none ∧ r2 r 4 = none ∧ m48 r = -1 ∧ m49 r = -1) ∨
     (m45 r = 0 ∧ m47 r ≠ 0 ∧ (∃ p, p < S ∧ r2 r 3 = some p ∧ m46 r = nI p) ∧ r2 r 4 = none ∧ m48 r = -1 ∧ m49 r = -1) ∨
     (m45 r = 1 ∧ m47 r ≠ 0 ∧ (∃ p, p < S ∧ 0 < p ∧ r2 r 3 = some p ∧ m46 r = nI p) ∧ (∃ c, c < C ∧ r2 r 4 = some c ∧ m48 r = nI c ∧ r0 c 3 = some r) ∧ m49 r = -1) ∨
     (m45 r = 2 ∧ m47 r ≠ 0 ∧ (∃ p, p < S ∧ r2 r 3 = some p ∧ m46 r = nI p) ∧ (∃ c, c < C ∧ r2 r 4 = some c ∧ m48 r = nI c ∧ r0 c 3 = some r) ∧ ∃ a, nw ≤ a ∧ a ≤ 30000 ∧ m49 r = nI a))
/-- crews -/
def GC (S R C nw : Nat) (i0 : Nat → Nat → Int32) (r0 r2 : Nat → Nat → Option Nat) (m45 m50 m51 m52 m53 m54 : Nat → Int32) : Prop :=
  (∀ c, c < C → (i0 c 0 = nI c ∧ ∃ hm, hm < S ∧ r0 c 1 = some hm ∧ m50 c = nI hm) ∧
    ((m51 c = 0 ∧ (∃ p, p < S ∧ r0 c 2 = some p ∧ m52 c = nI p) ∧ r0 c 3 = none ∧ i0 c 4 = -1 ∧ ∃ k k', i0 c 5 = nI k - 8 ∧ m53 c = nI k' - 8 ∧ k ≤ nw + 8 ∧ k' ≤ nw + 8 ∧ (k = k' ∨ (k ≤ nw ∧ k' ≤ nw))) ∨
     (m51 c = 1 ∧ r0 c 2 = none ∧ (∃ r, r < R ∧ r0 c 3 = some r ∧ r2 r 4 = some c ∧ (m45 r = 1 ∨ m45 r = 2)) ∧ i0 c 4 = -1 ∧ ∃ k, i0 c 5 = nI k - 8 ∧ k ≤ nw) ∨
     (m51 c = 2 ∧ r0 c 2 = none ∧ r0 c 3 = none ∧ ∃ a, nw ≤ a ∧ a ≤ 30000 ∧ i0 c 4 = nI a ∧ m54 c = nI a))) ∧
  ∀ c, C ≤ c → m51 c = 0
/-- rows: z how many rows a raft has, ro which, w how many trunks a row has, tt which -/
def GRo (T R NR : Nat) (z : Nat → Nat) (ro : Nat → Nat → Nat) (w : Nat → Nat) (tt : Nat → Nat → Nat) (i2 : Nat → Nat → Int32) (r2 a14 : Nat → Nat → Option Nat) (l14 : Nat → Nat) (i3 : Nat → Nat → Int32) (r3 a15 : Nat → Nat → Option Nat) (l15 : Nat → Nat) (i6 : Nat → Nat → Int32) (m38 m40 m41 m42 : Nat → Int32) : Prop :=
  (∀ r, r < R → i2 r 2 = nI (z r) ∧ z r ≤ 8 ∧ r2 r 1 = some r ∧ l14 r = 8 ∧ ∀ i, i < z r → a14 r i = some (ro r i) ∧ ro r i < NR ∧ 1 ≤ w (ro r i)) ∧
  (∀ p, p < NR → i3 p 1 = nI (w p) ∧ w p ≤ 9 ∧ r3 p 0 = some p ∧ l15 p = 9 ∧ i3 p 2 = su (fun j => i6 (tt p j) 4) (w p) ∧ ∀ j, j < w p → a15 p j = some (tt p j) ∧ tt p j < T) ∧
  (∀ r, r < R → ∀ i, i < z r → ∀ j, j < w (ro r i) → m38 (tt (ro r i) j) = 1 ∧ m40 (tt (ro r i) j) = nI r ∧ m41 (tt (ro r i) j) = nI i ∧ m42 (tt (ro r i) j) = nI j) ∧
  ∀ t, t < T → m38 t = 1 → ∃ r, r < R ∧ ∃ i, i < z r ∧ ∃ j, j < w (ro r i) ∧ tt (ro r i) j = t
/-- the next row -/
def GN (T R NR : Nat) (z : Nat → Nat) (ro : Nat → Nat → Nat) (w : Nat → Nat) (tt : Nat → Nat → Nat) (q0 : Nat) (x8 : Option Nat) (y22 : Int32) (m44 m38 m39 : Nat → Int32) : Prop :=
  x8 = some q0 ∧ q0 < NR ∧ y22 = nI (w q0) ∧ (∀ j, j < w q0 → m44 j = nI (tt q0 j) ∧ m38 (tt q0 j) = 0 ∧ m39 (tt q0 j) = m39 (tt q0 0)) ∧ (∀ r, r < R → ∀ i, i < z r → ro r i ≠ q0) ∧ ∀ j j', j < w q0 → j' < w q0 → tt q0 j = tt q0 j' → j = j'
def GTo (x y : Int32) (k16 k17 k18 m57 m58 : Nat → Int32) : Prop := ∃ n, n ≤ 30 ∧ x = nI n ∧ y = nI n ∧ ∀ k, k < n → k16 k = 0 ∧ k17 k = m57 k ∧ k18 k = m58 k ∧ ∃ d, d ≤ 1000 ∧ m57 k = nI d
def GPr (x y : Int32) (k16 k17 k18 m59 m60 m61 m62 : Nat → Int32) : Prop := ∃ n, n ≤ 100 ∧ x = nI n ∧ y = nI n ∧ ∀ k, k < n → (∃ c s, c < 12 ∧ s < 4 ∧ k16 k = nI (c * 4 + s) ∧ m59 k = nI c ∧ m60 k = nI s) ∧ k17 k = m61 k ∧ k18 k = m62 k ∧ (∃ d, d ≤ 1000 ∧ m61 k = nI d) ∧ ∃ v, v ≤ 1000 ∧ m62 k = nI v
def Gnw (nw : Nat) (x y : Int32) : Prop := x = nI nw ∧ y = nI nw ∧ nw ≤ 20000
def Grg (a b : Nat → Int32) : Prop := ∀ o, o < 8 → a o = b o ∧ ∃ k, k ≤ 9 ∧ b o = nI k
def Gba (a b : Nat → Int32) : Prop := ∀ o, o < 8 → a o = b o

def SimG (nw : Nat) (z : Nat → Nat) (ro : Nat → Nat → Nat) (w : Nat → Nat) (tt : Nat → Nat → Nat) (q0 : Nat) (h : Hp) : Prop := (Gw7 (pR h 7 0)) ∧ (Gw1 (pR h 1 0)) ∧ (Gw5 (pR h 5)) ∧ (Gw8 (pR h 8 0)) ∧ (Gl (pL h)) ∧ (Gct (pC h 4) (pC h 6) (pC h 2) (pC h 0) (pC h 14) (pC h 3) (pC h 15) (pI h 7 0 1) (pI h 7 0 3) (pI h 7 0 5) (pI h 7 0 7) (pI h 8 0 1) (pI h 8 0 11) (pI h 8 0 24) (pI h 8 0 30)) ∧ (Gar (pC h 4) (pR h 19 0)) ∧ (Gar (pC h 6) (pR h 20 0)) ∧ (Gar (pC h 2) (pR h 21 0)) ∧ (Gar (pC h 0) (pR h 22 0)) ∧ (GS (pC h 4) (pI h 4) (pR h 4) (pI h 25 0) (pI h 26 0) (pI h 27 0) (pI h 28 0) (pI h 29 0) (pI h 30 0) (pI h 31 0) (pI h 32 0) (pI h 33 0)) ∧ (GSb (pC h 4) (pI h 26 0) (pI h 27 0) (pI h 28 0) (pI h 29 0) (pI h 30 0) (pI h 32 0) (pI h 33 0)) ∧ (GT (pC h 4) (pC h 6) (pC h 2) (pI h 6) (pR h 6) (pI h 34 0) (pI h 35 0) (pI h 36 0) (pI h 37 0) (pI h 38 0) (pI h 39 0) (pI h 40 0) (pI h 43 0)) ∧ (GR (pC h 4) (pC h 2) (pC h 0) nw (pI h 2) (pR h 2) (pR h 0) (pI h 45 0) (pI h 46 0) (pI h 47 0) (pI h 48 0) (pI h 49 0)) ∧ (GC (pC h 4) (pC h 2) (pC h 0) nw (pI h 0) (pR h 0) (pR h 2) (pI h 45 0) (pI h 50 0) (pI h 51 0) (pI h 52 0) (pI h 53 0) (pI h 54 0)) ∧ (GRo (pC h 6) (pC h 2) (pC h 3) z ro w tt (pI h 2) (pR h 2) (pR h 14) (pL h 14) (pI h 3) (pR h 3) (pR h 15) (pL h 15) (pI h 6) (pI h 38 0) (pI h 40 0) (pI h 41 0) (pI h 42 0)) ∧ (GN (pC h 6) (pC h 2) (pC h 3) z ro w tt q0 (pR h 7 0 8) (pI h 8 0 22) (pI h 44 0) (pI h 38 0) (pI h 39 0)) ∧ (GTo (pI h 5 0 3) (pI h 8 0 38) (pI h 16 0) (pI h 17 0) (pI h 18 0) (pI h 57 0) (pI h 58 0)) ∧ (GPr (pI h 5 1 3) (pI h 8 0 41) (pI h 16 1) (pI h 17 1) (pI h 18 1) (pI h 59 0) (pI h 60 0) (pI h 61 0) (pI h 62 0)) ∧ (Gnw nw (pI h 7 0 14) (pI h 8 0 0)) ∧ (pI h 7 0 15 = pI h 8 0 46) ∧ (Grg (pI h 23 0) (pI h 55 0)) ∧ (Gba (pI h 24 0) (pI h 56 0)) ∧ (pI h 7 0 16 = cnt (pC h 6) (pI h 38 0) 2 ∧ pI h 7 0 17 = cnt (pC h 6) (pI h 38 0) 3)
section SG
variable {nw : Nat} {z : Nat → Nat} {ro : Nat → Nat → Nat} {w : Nat → Nat} {tt : Nat → Nat → Nat} {q0 : Nat} {h : Hp}
theorem SimG.w7 (I : SimG nw z ro w tt q0 h) : Gw7 (pR h 7 0) := I.1
theorem SimG.w1 (I : SimG nw z ro w tt q0 h) : Gw1 (pR h 1 0) := I.2.1
theorem SimG.w5 (I : SimG nw z ro w tt q0 h) : Gw5 (pR h 5) := I.2.2.1
theorem SimG.w8 (I : SimG nw z ro w tt q0 h) : Gw8 (pR h 8 0) := I.2.2.2.1
theorem SimG.ln (I : SimG nw z ro w tt q0 h) : Gl (pL h) := I.2.2.2.2.1
theorem SimG.ct (I : SimG nw z ro w tt q0 h) : Gct (pC h 4) (pC h 6) (pC h 2) (pC h 0) (pC h 14) (pC h 3) (pC h 15) (pI h 7 0 1) (pI h 7 0 3) (pI h 7 0 5) (pI h 7 0 7) (pI h 8 0 1) (pI h 8 0 11) (pI h 8 0 24) (pI h 8 0 30) := I.2.2.2.2.2.1
theorem SimG.a19 (I : SimG nw z ro w tt q0 h) : Gar (pC h 4) (pR h 19 0) := I.2.2.2.2.2.2.1
theorem SimG.a20 (I : SimG nw z ro w tt q0 h) : Gar (pC h 6) (pR h 20 0) := I.2.2.2.2.2.2.2.1
theorem SimG.a21 (I : SimG nw z ro w tt q0 h) : Gar (pC h 2) (pR h 21 0) := I.2.2.2.2.2.2.2.2.1
theorem SimG.a22 (I : SimG nw z ro w tt q0 h) : Gar (pC h 0) (pR h 22 0) := I.2.2.2.2.2.2.2.2.2.1
theorem SimG.st (I : SimG nw z ro w tt q0 h) : GS (pC h 4) (pI h 4) (pR h 4) (pI h 25 0) (pI h 26 0) (pI h 27 0) (pI h 28 0) (pI h 29 0) (pI h 30 0) (pI h 31 0) (pI h 32 0) (pI h 33 0) := I.2.2.2.2.2.2.2.2.2.2.1
theorem SimG.sb (I : SimG nw z ro w tt q0 h) : GSb (pC h 4) (pI h 26 0) (pI h 27 0) (pI h 28 0) (pI h 29 0) (pI h 30 0) (pI h 32 0) (pI h 33 0) := I.2.2.2.2.2.2.2.2.2.2.2.1
theorem SimG.tr (I : SimG nw z ro w tt q0 h) : GT (pC h 4) (pC h 6) (pC h 2) (pI h 6) (pR h 6) (pI h 34 0) (pI h 35 0) (pI h 36 0) (pI h 37 0) (pI h 38 0) (pI h 39 0) (pI h 40 0) (pI h 43 0) := I.2.2.2.2.2.2.2.2.2.2.2.2.1
theorem SimG.rf (I : SimG nw z ro w tt q0 h) : GR (pC h 4) (pC h 2) (pC h 0) nw (pI h 2) (pR h 2) (pR h 0) (pI h 45 0) (pI h 46 0) (pI h 47 0) (pI h 48 0) (pI h 49 0) := I.2.2.2.2.2.2.2.2.2.2.2.2.2.1
theorem SimG.cr (I : SimG nw z ro w tt q0 h) : GC (pC h 4) (pC h 2) (pC h 0) nw (pI h 0) (pR h 0) (pR h 2) (pI h 45 0) (pI h 50 0) (pI h 51 0) (pI h 52 0) (pI h 53 0) (pI h 54 0) := I.2.2.2.2.2.2.2.2.2.2.2.2.2.2.1
theorem SimG.rw (I : SimG nw z ro w tt q0 h) : GRo (pC h 6) (pC h 2) (pC h 3) z ro w tt (pI h 2) (pR h 2) (pR h 14) (pL h 14) (pI h 3) (pR h 3) (pR h 15) (pL h 15) (pI h 6) (pI h 38 0) (pI h 40 0) (pI h 41 0) (pI h 42 0) := I.2.2.2.2.2.2.2.2.2.2.2.2.2.2.2.1
theorem SimG.nx (I : SimG nw z ro w tt q0 h) : GN (pC h 6) (pC h 2) (pC h 3) z ro w tt q0 (pR h 7 0 8) (pI h 8 0 22) (pI h 44 0) (pI h 38 0) (pI h 39 0) := I.2.2.2.2.2.2.2.2.2.2.2.2.2.2.2.2.1
theorem SimG.to (I : SimG nw z ro w tt q0 h) : GTo (pI h 5 0 3) (pI h 8 0 38) (pI h 16 0) (pI h 17 0) (pI h 18 0) (pI h 57 0) (pI h 58 0) := I.2.2.2.2.2.2.2.2.2.2.2.2.2.2.2.2.2.1
theorem SimG.pr (I : SimG nw z ro w tt q0 h) : GPr (pI h 5 1 3) (pI h 8 0 41) (pI h 16 1) (pI h 17 1) (pI h 18 1) (pI h 59 0) (pI h 60 0) (pI h 61 0) (pI h 62 0) := I.2.2.2.2.2.2.2.2.2.2.2.2.2.2.2.2.2.2.1
theorem SimG.gnw (I : SimG nw z ro w tt q0 h) : Gnw nw (pI h 7 0 14) (pI h 8 0 0) := I.2.2.2.2.2.2.2.2.2.2.2.2.2.2.2.2.2.2.2.1
theorem SimG.tk (I : SimG nw z ro w tt q0 h) : pI h 7 0 15 = pI h 8 0 46 := I.2.2.2.2.2.2.2.2.2.2.2.2.2.2.2.2.2.2.2.2.1
theorem SimG.rg (I : SimG nw z ro w tt q0 h) : Grg (pI h 23 0) (pI h 55 0) := I.2.2.2.2.2.2.2.2.2.2.2.2.2.2.2.2.2.2.2.2.2.1
theorem SimG.ba (I : SimG nw z ro w tt q0 h) : Gba (pI h 24 0) (pI h 56 0) := I.2.2.2.2.2.2.2.2.2.2.2.2.2.2.2.2.2.2.2.2.2.2.1
theorem SimG.so (I : SimG nw z ro w tt q0 h) : pI h 7 0 16 = cnt (pC h 6) (pI h 38 0) 2 ∧ pI h 7 0 17 = cnt (pC h 6) (pI h 38 0) 3 := I.2.2.2.2.2.2.2.2.2.2.2.2.2.2.2.2.2.2.2.2.2.2.2
theorem SimG.r7_0 (I : SimG nw z ro w tt q0 h) : pR h 7 0 0 = some 0 := I.w7.1
theorem SimG.r7_2 (I : SimG nw z ro w tt q0 h) : pR h 7 0 2 = some 0 := I.w7.2.1
theorem SimG.r7_4 (I : SimG nw z ro w tt q0 h) : pR h 7 0 4 = some 0 := I.w7.2.2.1
theorem SimG.r7_6 (I : SimG nw z ro w tt q0 h) : pR h 7 0 6 = some 0 := I.w7.2.2.2.1
theorem SimG.r7_9 (I : SimG nw z ro w tt q0 h) : pR h 7 0 9 = some 0 := I.w7.2.2.2.2.1
theorem SimG.r7_10 (I : SimG nw z ro w tt q0 h) : pR h 7 0 10 = some 1 := I.w7.2.2.2.2.2.1
theorem SimG.r7_11 (I : SimG nw z ro w tt q0 h) : pR h 7 0 11 = some 0 := I.w7.2.2.2.2.2.2.1
theorem SimG.r7_12 (I : SimG nw z ro w tt q0 h) : pR h 7 0 12 = some 0 := I.w7.2.2.2.2.2.2.2.1
theorem SimG.r7_13 (I : SimG nw z ro w tt q0 h) : pR h 7 0 13 = some 0 := I.w7.2.2.2.2.2.2.2.2
theorem SimG.r1_0 (I : SimG nw z ro w tt q0 h) : pR h 1 0 0 = some 0 := I.w1.1
theorem SimG.r1_1 (I : SimG nw z ro w tt q0 h) : pR h 1 0 1 = some 0 := I.w1.2.1
theorem SimG.r1_2 (I : SimG nw z ro w tt q0 h) : pR h 1 0 2 = some 0 := I.w1.2.2.1
theorem SimG.r1_3 (I : SimG nw z ro w tt q0 h) : pR h 1 0 3 = some 0 := I.w1.2.2.2.1
theorem SimG.r1_4 (I : SimG nw z ro w tt q0 h) : pR h 1 0 4 = some 0 := I.w1.2.2.2.2
theorem SimG.r5_00 (I : SimG nw z ro w tt q0 h) : pR h 5 0 0 = some 0 := I.w5.1
theorem SimG.r5_01 (I : SimG nw z ro w tt q0 h) : pR h 5 0 1 = some 0 := I.w5.2.1
theorem SimG.r5_02 (I : SimG nw z ro w tt q0 h) : pR h 5 0 2 = some 0 := I.w5.2.2.1
theorem SimG.r5_10 (I : SimG nw z ro w tt q0 h) : pR h 5 1 0 = some 1 := I.w5.2.2.2.1
theorem SimG.r5_11 (I : SimG nw z ro w tt q0 h) : pR h 5 1 1 = some 1 := I.w5.2.2.2.2.1
theorem SimG.r5_12 (I : SimG nw z ro w tt q0 h) : pR h 5 1 2 = some 1 := I.w5.2.2.2.2.2
theorem SimG.r8_2 (I : SimG nw z ro w tt q0 h) : pR h 8 0 2 = some 0 := I.w8 2 (by decide)
theorem SimG.r8_3 (I : SimG nw z ro w tt q0 h) : pR h 8 0 3 = some 0 := I.w8 3 (by decide)
theorem SimG.r8_4 (I : SimG nw z ro w tt q0 h) : pR h 8 0 4 = some 0 := I.w8 4 (by decide)
theorem SimG.r8_5 (I : SimG nw z ro w tt q0 h) : pR h 8 0 5 = some 0 := I.w8 5 (by decide)
theorem SimG.r8_6 (I : SimG nw z ro w tt q0 h) : pR h 8 0 6 = some 0 := I.w8 6 (by decide)
theorem SimG.r8_7 (I : SimG nw z ro w tt q0 h) : pR h 8 0 7 = some 0 := I.w8 7 (by decide)
theorem SimG.r8_8 (I : SimG nw z ro w tt q0 h) : pR h 8 0 8 = some 0 := I.w8 8 (by decide)
theorem SimG.r8_9 (I : SimG nw z ro w tt q0 h) : pR h 8 0 9 = some 0 := I.w8 9 (by decide)
theorem SimG.r8_10 (I : SimG nw z ro w tt q0 h) : pR h 8 0 10 = some 0 := I.w8 10 (by decide)
theorem SimG.r8_12 (I : SimG nw z ro w tt q0 h) : pR h 8 0 12 = some 0 := I.w8 12 (by decide)
theorem SimG.r8_13 (I : SimG nw z ro w tt q0 h) : pR h 8 0 13 = some 0 := I.w8 13 (by decide)
theorem SimG.r8_14 (I : SimG nw z ro w tt q0 h) : pR h 8 0 14 = some 0 := I.w8 14 (by decide)
theorem SimG.r8_15 (I : SimG nw z ro w tt q0 h) : pR h 8 0 15 = some 0 := I.w8 15 (by decide)
theorem SimG.r8_16 (I : SimG nw z ro w tt q0 h) : pR h 8 0 16 = some 0 := I.w8 16 (by decide)
theorem SimG.r8_17 (I : SimG nw z ro w tt q0 h) : pR h 8 0 17 = some 0 := I.w8 17 (by decide)
theorem SimG.r8_18 (I : SimG nw z ro w tt q0 h) : pR h 8 0 18 = some 0 := I.w8 18 (by decide)
theorem SimG.r8_19 (I : SimG nw z ro w tt q0 h) : pR h 8 0 19 = some 0 := I.w8 19 (by decide)
theorem SimG.r8_20 (I : SimG nw z ro w tt q0 h) : pR h 8 0 20 = some 0 := I.w8 20 (by decide)
theorem SimG.r8_21 (I : SimG nw z ro w tt q0 h) : pR h 8 0 21 = some 0 := I.w8 21 (by decide)
theorem SimG.r8_23 (I : SimG nw z ro w tt q0 h) : pR h 8 0 23 = some 0 := I.w8 23 (by decide)
theorem SimG.r8_25 (I : SimG nw z ro w tt q0 h) : pR h 8 0 25 = some 0 := I.w8 25 (by decide)
theorem SimG.r8_26 (I : SimG nw z ro w tt q0 h) : pR h 8 0 26 = some 0 := I.w8 26 (by decide)
theorem SimG.r8_27 (I : SimG nw z ro w tt q0 h) : pR h 8 0 27 = some 0 := I.w8 27 (by decide)
theorem SimG.r8_28 (I : SimG nw z ro w tt q0 h) : pR h 8 0 28 = some 0 := I.w8 28 (by decide)
theorem SimG.r8_29 (I : SimG nw z ro w tt q0 h) : pR h 8 0 29 = some 0 := I.w8 29 (by decide)
theorem SimG.r8_31 (I : SimG nw z ro w tt q0 h) : pR h 8 0 31 = some 0 := I.w8 31 (by decide)
theorem SimG.r8_32 (I : SimG nw z ro w tt q0 h) : pR h 8 0 32 = some 0 := I.w8 32 (by decide)
theorem SimG.r8_33 (I : SimG nw z ro w tt q0 h) : pR h 8 0 33 = some 0 := I.w8 33 (by decide)
theorem SimG.r8_34 (I : SimG nw z ro w tt q0 h) : pR h 8 0 34 = some 0 := I.w8 34 (by decide)
theorem SimG.r8_35 (I : SimG nw z ro w tt q0 h) : pR h 8 0 35 = some 0 := I.w8 35 (by decide)
theorem SimG.r8_36 (I : SimG nw z ro w tt q0 h) : pR h 8 0 36 = some 0 := I.w8 36 (by decide)
theorem SimG.r8_37 (I : SimG nw z ro w tt q0 h) : pR h 8 0 37 = some 0 := I.w8 37 (by decide)
theorem SimG.r8_39 (I : SimG nw z ro w tt q0 h) : pR h 8 0 39 = some 0 := I.w8 39 (by decide)
theorem SimG.r8_40 (I : SimG nw z ro w tt q0 h) : pR h 8 0 40 = some 0 := I.w8 40 (by decide)
theorem SimG.r8_42 (I : SimG nw z ro w tt q0 h) : pR h 8 0 42 = some 0 := I.w8 42 (by decide)
theorem SimG.r8_43 (I : SimG nw z ro w tt q0 h) : pR h 8 0 43 = some 0 := I.w8 43 (by decide)
theorem SimG.r8_44 (I : SimG nw z ro w tt q0 h) : pR h 8 0 44 = some 0 := I.w8 44 (by decide)
theorem SimG.r8_45 (I : SimG nw z ro w tt q0 h) : pR h 8 0 45 = some 0 := I.w8 45 (by decide)
theorem SimG.r8_47 (I : SimG nw z ro w tt q0 h) : pR h 8 0 47 = some 0 := I.w8 47 (by decide)
theorem SimG.r8_48 (I : SimG nw z ro w tt q0 h) : pR h 8 0 48 = some 0 := I.w8 48 (by decide)
theorem SimG.r8_49 (I : SimG nw z ro w tt q0 h) : pR h 8 0 49 = some 0 := I.w8 49 (by decide)
theorem SimG.r8_50 (I : SimG nw z ro w tt q0 h) : pR h 8 0 50 = some 0 := I.w8 50 (by decide)
theorem SimG.r8_51 (I : SimG nw z ro w tt q0 h) : pR h 8 0 51 = some 0 := I.w8 51 (by decide)
theorem SimG.l9_0 (I : SimG nw z ro w tt q0 h) : pL h 9 0 = 5 := I.ln (9, 0, 5) (by decide)
theorem SimG.l10_0 (I : SimG nw z ro w tt q0 h) : pL h 10 0 = 5 := I.ln (10, 0, 5) (by decide)
theorem SimG.l11_0 (I : SimG nw z ro w tt q0 h) : pL h 11 0 = 5 := I.ln (11, 0, 5) (by decide)
theorem SimG.l12_0 (I : SimG nw z ro w tt q0 h) : pL h 12 0 = 5 := I.ln (12, 0, 5) (by decide)
theorem SimG.l13_0 (I : SimG nw z ro w tt q0 h) : pL h 13 0 = 5 := I.ln (13, 0, 5) (by decide)
theorem SimG.l16_0 (I : SimG nw z ro w tt q0 h) : pL h 16 0 = 30 := I.ln (16, 0, 30) (by decide)
theorem SimG.l16_1 (I : SimG nw z ro w tt q0 h) : pL h 16 1 = 100 := I.ln (16, 1, 100) (by decide)
theorem SimG.l17_0 (I : SimG nw z ro w tt q0 h) : pL h 17 0 = 30 := I.ln (17, 0, 30) (by decide)
theorem SimG.l17_1 (I : SimG nw z ro w tt q0 h) : pL h 17 1 = 100 := I.ln (17, 1, 100) (by decide)
theorem SimG.l18_0 (I : SimG nw z ro w tt q0 h) : pL h 18 0 = 30 := I.ln (18, 0, 30) (by decide)
theorem SimG.l18_1 (I : SimG nw z ro w tt q0 h) : pL h 18 1 = 100 := I.ln (18, 1, 100) (by decide)
theorem SimG.l19_0 (I : SimG nw z ro w tt q0 h) : pL h 19 0 = 12 := I.ln (19, 0, 12) (by decide)
theorem SimG.l20_0 (I : SimG nw z ro w tt q0 h) : pL h 20 0 = 120 := I.ln (20, 0, 120) (by decide)
theorem SimG.l21_0 (I : SimG nw z ro w tt q0 h) : pL h 21 0 = 60 := I.ln (21, 0, 60) (by decide)
theorem SimG.l22_0 (I : SimG nw z ro w tt q0 h) : pL h 22 0 = 10 := I.ln (22, 0, 10) (by decide)
theorem SimG.l23_0 (I : SimG nw z ro w tt q0 h) : pL h 23 0 = 8 := I.ln (23, 0, 8) (by decide)
theorem SimG.l24_0 (I : SimG nw z ro w tt q0 h) : pL h 24 0 = 8 := I.ln (24, 0, 8) (by decide)
theorem SimG.l25_0 (I : SimG nw z ro w tt q0 h) : pL h 25 0 = 12 := I.ln (25, 0, 12) (by decide)
theorem SimG.l26_0 (I : SimG nw z ro w tt q0 h) : pL h 26 0 = 12 := I.ln (26, 0, 12) (by decide)
theorem SimG.l27_0 (I : SimG nw z ro w tt q0 h) : pL h 27 0 = 12 := I.ln (27, 0, 12) (by decide)
theorem SimG.l28_0 (I : SimG nw z ro w tt q0 h) : pL h 28 0 = 12 := I.ln (28, 0, 12) (by decide)
theorem SimG.l29_0 (I : SimG nw z ro w tt q0 h) : pL h 29 0 = 12 := I.ln (29, 0, 12) (by decide)
theorem SimG.l30_0 (I : SimG nw z ro w tt q0 h) : pL h 30 0 = 12 := I.ln (30, 0, 12) (by decide)
theorem SimG.l31_0 (I : SimG nw z ro w tt q0 h) : pL h 31 0 = 12 := I.ln (31, 0, 12) (by decide)
theorem SimG.l32_0 (I : SimG nw z ro w tt q0 h) : pL h 32 0 = 12 := I.ln (32, 0, 12) (by decide)
theorem SimG.l33_0 (I : SimG nw z ro w tt q0 h) : pL h 33 0 = 12 := I.ln (33, 0, 12) (by decide)
theorem SimG.l34_0 (I : SimG nw z ro w tt q0 h) : pL h 34 0 = 120 := I.ln (34, 0, 120) (by decide)
theorem SimG.l35_0 (I : SimG nw z ro w tt q0 h) : pL h 35 0 = 120 := I.ln (35, 0, 120) (by decide)
theorem SimG.l36_0 (I : SimG nw z ro w tt q0 h) : pL h 36 0 = 120 := I.ln (36, 0, 120) (by decide)
theorem SimG.l37_0 (I : SimG nw z ro w tt q0 h) : pL h 37 0 = 120 := I.ln (37, 0, 120) (by decide)
theorem SimG.l38_0 (I : SimG nw z ro w tt q0 h) : pL h 38 0 = 120 := I.ln (38, 0, 120) (by decide)
theorem SimG.l39_0 (I : SimG nw z ro w tt q0 h) : pL h 39 0 = 120 := I.ln (39, 0, 120) (by decide)
theorem SimG.l40_0 (I : SimG nw z ro w tt q0 h) : pL h 40 0 = 120 := I.ln (40, 0, 120) (by decide)
theorem SimG.l41_0 (I : SimG nw z ro w tt q0 h) : pL h 41 0 = 120 := I.ln (41, 0, 120) (by decide)
theorem SimG.l42_0 (I : SimG nw z ro w tt q0 h) : pL h 42 0 = 120 := I.ln (42, 0, 120) (by decide)
theorem SimG.l43_0 (I : SimG nw z ro w tt q0 h) : pL h 43 0 = 120 := I.ln (43, 0, 120) (by decide)
theorem SimG.l44_0 (I : SimG nw z ro w tt q0 h) : pL h 44 0 = 9 := I.ln (44, 0, 9) (by decide)
theorem SimG.l45_0 (I : SimG nw z ro w tt q0 h) : pL h 45 0 = 60 := I.ln (45, 0, 60) (by decide)
theorem SimG.l46_0 (I : SimG nw z ro w tt q0 h) : pL h 46 0 = 60 := I.ln (46, 0, 60) (by decide)
theorem SimG.l47_0 (I : SimG nw z ro w tt q0 h) : pL h 47 0 = 60 := I.ln (47, 0, 60) (by decide)
theorem SimG.l48_0 (I : SimG nw z ro w tt q0 h) : pL h 48 0 = 60 := I.ln (48, 0, 60) (by decide)
theorem SimG.l49_0 (I : SimG nw z ro w tt q0 h) : pL h 49 0 = 60 := I.ln (49, 0, 60) (by decide)
theorem SimG.l50_0 (I : SimG nw z ro w tt q0 h) : pL h 50 0 = 10 := I.ln (50, 0, 10) (by decide)
theorem SimG.l51_0 (I : SimG nw z ro w tt q0 h) : pL h 51 0 = 10 := I.ln (51, 0, 10) (by decide)
theorem SimG.l52_0 (I : SimG nw z ro w tt q0 h) : pL h 52 0 = 10 := I.ln (52, 0, 10) (by decide)
theorem SimG.l53_0 (I : SimG nw z ro w tt q0 h) : pL h 53 0 = 10 := I.ln (53, 0, 10) (by decide)
theorem SimG.l54_0 (I : SimG nw z ro w tt q0 h) : pL h 54 0 = 10 := I.ln (54, 0, 10) (by decide)
theorem SimG.l55_0 (I : SimG nw z ro w tt q0 h) : pL h 55 0 = 8 := I.ln (55, 0, 8) (by decide)
theorem SimG.l56_0 (I : SimG nw z ro w tt q0 h) : pL h 56 0 = 8 := I.ln (56, 0, 8) (by decide)
theorem SimG.l57_0 (I : SimG nw z ro w tt q0 h) : pL h 57 0 = 30 := I.ln (57, 0, 30) (by decide)
theorem SimG.l58_0 (I : SimG nw z ro w tt q0 h) : pL h 58 0 = 30 := I.ln (58, 0, 30) (by decide)
theorem SimG.l59_0 (I : SimG nw z ro w tt q0 h) : pL h 59 0 = 100 := I.ln (59, 0, 100) (by decide)
theorem SimG.l60_0 (I : SimG nw z ro w tt q0 h) : pL h 60 0 = 100 := I.ln (60, 0, 100) (by decide)
theorem SimG.l61_0 (I : SimG nw z ro w tt q0 h) : pL h 61 0 = 100 := I.ln (61, 0, 100) (by decide)
theorem SimG.l62_0 (I : SimG nw z ro w tt q0 h) : pL h 62 0 = 100 := I.ln (62, 0, 100) (by decide)
theorem SimG.l63_0 (I : SimG nw z ro w tt q0 h) : pL h 63 0 = 5 := I.ln (63, 0, 5) (by decide)
theorem SimG.l64_0 (I : SimG nw z ro w tt q0 h) : pL h 64 0 = 5 := I.ln (64, 0, 5) (by decide)
theorem SimG.l65_0 (I : SimG nw z ro w tt q0 h) : pL h 65 0 = 5 := I.ln (65, 0, 5) (by decide)
theorem SimG.l66_0 (I : SimG nw z ro w tt q0 h) : pL h 66 0 = 5 := I.ln (66, 0, 5) (by decide)
theorem SimG.l67_0 (I : SimG nw z ro w tt q0 h) : pL h 67 0 = 5 := I.ln (67, 0, 5) (by decide)
theorem SimG.c_hS (I : SimG nw z ro w tt q0 h) : pC h 4 ≤ 12 := I.ct.1
theorem SimG.c_hT (I : SimG nw z ro w tt q0 h) : pC h 6 ≤ 120 := I.ct.2.1
theorem SimG.c_hR (I : SimG nw z ro w tt q0 h) : pC h 2 ≤ 60 := I.ct.2.2.1
theorem SimG.c_hC (I : SimG nw z ro w tt q0 h) : pC h 0 ≤ 10 := I.ct.2.2.2.1
theorem SimG.c_p14 (I : SimG nw z ro w tt q0 h) : pC h 14 = pC h 2 := I.ct.2.2.2.2.1
theorem SimG.c_p15 (I : SimG nw z ro w tt q0 h) : pC h 15 = pC h 3 := I.ct.2.2.2.2.2.1
theorem SimG.c_i1 (I : SimG nw z ro w tt q0 h) : pI h 7 0 1 = nI (pC h 4) := I.ct.2.2.2.2.2.2.1
theorem SimG.c_i3 (I : SimG nw z ro w tt q0 h) : pI h 7 0 3 = nI (pC h 6) := I.ct.2.2.2.2.2.2.2.1
theorem SimG.c_i5 (I : SimG nw z ro w tt q0 h) : pI h 7 0 5 = nI (pC h 2) := I.ct.2.2.2.2.2.2.2.2.1
theorem SimG.c_i7 (I : SimG nw z ro w tt q0 h) : pI h 7 0 7 = nI (pC h 0) := I.ct.2.2.2.2.2.2.2.2.2.1
theorem SimG.c_j1 (I : SimG nw z ro w tt q0 h) : pI h 8 0 1 = nI (pC h 4) := I.ct.2.2.2.2.2.2.2.2.2.2.1
theorem SimG.c_j11 (I : SimG nw z ro w tt q0 h) : pI h 8 0 11 = nI (pC h 6) := I.ct.2.2.2.2.2.2.2.2.2.2.2.1
theorem SimG.c_j24 (I : SimG nw z ro w tt q0 h) : pI h 8 0 24 = nI (pC h 2) := I.ct.2.2.2.2.2.2.2.2.2.2.2.2.1
theorem SimG.c_j30 (I : SimG nw z ro w tt q0 h) : pI h 8 0 30 = nI (pC h 0) := I.ct.2.2.2.2.2.2.2.2.2.2.2.2.2
end SG
def Sim (h : Hp) : Prop := ∃ nw z ro w tt q0, SimG nw z ro w tt q0 h
