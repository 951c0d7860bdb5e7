def F_X0_init (x0 : Nat) (x1 : Int32) (x2 : Option Nat) (h : Hp) : Option (Unit × Hp) :=
  lt (wR h 0 x0 3 none) fun h1 =>
  lt (wI h1 0 x0 4 (-1 : Int32)) fun h3 =>
  lt (wI h3 0 x0 5 (-8 : Int32)) fun h5 =>
  lt (wI h5 0 x0 0 x1) fun h7 =>
  lt (wR h7 0 x0 1 x2) fun h9 =>
  lt (wR h9 0 x0 2 x2) fun h11 =>
  some ((), h11)

def F_X0_state (x0 : Nat) (h : Hp) : Option (Int32 × Hp) :=
  onn (pR h 0 x0 2) (
  onn (pR h 0 x0 3) (
  some ((2 : Int32), h)) fun n4 =>
  some ((1 : Int32), h)) fun n2 =>
  some ((0 : Int32), h)

def F_X0_rests (x0 : Nat) (x1 : Int32) (h : Hp) : Option (Int32 × Hp) :=
  onn (pR h 0 x0 2) (
  some ((0 : Int32), h)) fun n2 =>
  if (8 : Int32) ≤ (x1 - (pI h 0 x0 5)) then
  some ((0 : Int32), h)
  else
  some ((1 : Int32), h)

def F_X0_board (x0 : Nat) (x1 : Option Nat) (h : Hp) : Option (Unit × Hp) :=
  lt (wR h 0 x0 2 none) fun h1 =>
  lt (wR h1 0 x0 3 x1) fun h3 =>
  nn x1 fun n5 =>
  lt (wR h3 2 n5 4 (some x0)) fun h7 =>
  some ((), h7)

def F_X2_state (x0 : Nat) (h : Hp) : Option (Int32 × Hp) :=
  if (pI h 2 x0 2) = 0 then
  some ((3 : Int32), h)
  else
  onn (pR h 2 x0 4) (
  some ((0 : Int32), h)) fun n3 =>
  if (pI h 2 x0 5) = (-1 : Int32) then
  some ((1 : Int32), h)
  else
  some ((2 : Int32), h)

def F_X2_landCrew (x0 : Nat) (h : Hp) : Option (Option Nat × Hp) :=
  onn (pR h 2 x0 4) (
  lt (wR h 2 x0 4 none) fun h3 =>
  lt (wI h3 2 x0 5 (-1 : Int32)) fun h5 =>
  some (none, h5)) fun n2 =>
  lt (wR h 0 n2 3 none) fun h7 =>
  lt (wR h7 0 n2 2 (pR h7 2 x0 3)) fun h9 =>
  lt (wR h9 2 x0 4 none) fun h11 =>
  lt (wI h11 2 x0 5 (-1 : Int32)) fun h13 =>
  some ((some n2), h13)

def F_X0_comeBy (x0 : Nat) (x1 : Int32) (h : Hp) : Option (Unit × Hp) :=
  if (pI h 0 x0 4) = (-1 : Int32) then
  onn (pR h 0 x0 3) (
  some ((), h)) fun n3 =>
  cl (F_X2_state n3 h) fun r4 h5 =>
  if r4 = (2 : Int32) then
  nn (pR h5 0 x0 3) fun n8 =>
  if x1 < (pI h5 2 n8 5) then
  some ((), h5)
  else
  cl (F_X2_landCrew n8 h5) fun r11 h12 =>
  lt (wI h12 0 x0 5 x1) fun h14 =>
  some ((), h14)
  else
  some ((), h5)
  else
  if x1 < (pI h 0 x0 4) then
  onn (pR h 0 x0 3) (
  some ((), h)) fun n18 =>
  cl (F_X2_state n18 h) fun r19 h20 =>
  if r19 = (2 : Int32) then
  nn (pR h20 0 x0 3) fun n23 =>
  if x1 < (pI h20 2 n23 5) then
  some ((), h20)
  else
  cl (F_X2_landCrew n23 h20) fun r26 h27 =>
  lt (wI h27 0 x0 5 x1) fun h29 =>
  some ((), h29)
  else
  some ((), h20)
  else
  lt (wR h 0 x0 2 (pR h 0 x0 1)) fun h31 =>
  lt (wI h31 0 x0 4 (-1 : Int32)) fun h33 =>
  lt (wI h33 0 x0 5 x1) fun h35 =>
  some ((), h35)

def F_X1_init (x0 : Nat) (h : Hp) : Option (Unit × Hp) :=
  lt (wN h 9 ((5 : Int32)).toNatClampNeg) fun h1 =>
  lt (wR h1 1 x0 0 (some (pC h 9))) fun h3 =>
  lt (wN h3 10 ((5 : Int32)).toNatClampNeg) fun h5 =>
  lt (wR h5 1 x0 1 (some (pC h3 10))) fun h7 =>
  lt (wN h7 11 ((5 : Int32)).toNatClampNeg) fun h9 =>
  lt (wR h9 1 x0 2 (some (pC h7 11))) fun h11 =>
  lt (wN h11 12 ((5 : Int32)).toNatClampNeg) fun h13 =>
  lt (wR h13 1 x0 3 (some (pC h11 12))) fun h15 =>
  lt (wN h15 13 ((5 : Int32)).toNatClampNeg) fun h17 =>
  lt (wR h17 1 x0 4 (some (pC h15 13))) fun h19 =>
  lt (wI h19 1 x0 5 (0 : Int32)) fun h21 =>
  lt (wI h21 1 x0 6 (0 : Int32)) fun h23 =>
  lt (wI h23 1 x0 7 (-1 : Int32)) fun h25 =>
  some ((), h25)

def F_X1_clear (x0 : Nat) (h : Hp) : Option (Unit × Hp) :=
  lt (wI h 1 x0 5 (0 : Int32)) fun h1 =>
  lt (wI h1 1 x0 6 (0 : Int32)) fun h3 =>
  lt (wI h3 1 x0 7 (-1 : Int32)) fun h5 =>
  some ((), h5)

def F_X1_admit (x0 : Nat) (x1 : Option Nat) (h : Hp) : Option (Unit × Hp) :=
  if (5 : Int32) ≤ (pI h 1 x0 5) then
  lt (wI h 1 x0 5 ((pI h 1 x0 5) + (1 : Int32))) fun h2 =>
  some ((), h2)
  else
  nn (pR h 1 x0 0) fun n4 =>
  ck (inb (pI h 1 x0 5) (pL h 9 n4)) <|
  lt (wR h 9 n4 ((pI h 1 x0 5)).toNatClampNeg x1) fun h7 =>
  nn (pR h7 1 x0 1) fun n9 =>
  ck (inb (pI h7 1 x0 5) (pL h7 10 n9)) <|
  lt (wI h7 10 n9 ((pI h7 1 x0 5)).toNatClampNeg (pI h7 1 x0 5)) fun h12 =>
  lt (wI h12 1 x0 5 ((pI h12 1 x0 5) + (1 : Int32))) fun h14 =>
  some ((), h14)

def F_X7_within (x0 : Int32) (x1 : Int32) (x2 : Int32) (h : Hp) : Option (Int32 × Hp) :=
  if x0 < x1 then
  some ((0 : Int32), h)
  else
  if x2 < x0 then
  some ((0 : Int32), h)
  else
  some ((1 : Int32), h)

def F_X1_raftIn (x0 : Nat) (x1 : Int32) (h : Hp) : Option (Int32 × Hp) :=
  cl (F_X7_within x1 (0 : Int32) ((pI h 1 x0 6) - (1 : Int32)) h) fun r1 h2 =>
  if r1 = 0 then
  some ((-1 : Int32), h2)
  else
  nn (pR h2 1 x0 3) fun n5 =>
  ck (inb x1 (pL h2 12 n5)) <|
  nn (pR h2 1 x0 0) fun n8 =>
  ck (inb (pI h2 12 n5 (x1).toNatClampNeg) (pL h2 9 n8)) <|
  nn (pR h2 9 n8 ((pI h2 12 n5 (x1).toNatClampNeg)).toNatClampNeg) fun n11 =>
  some ((pI h2 2 n11 0), h2)

def F_X1_hourOf (x0 : Nat) (x1 : Int32) (h : Hp) : Option (Int32 × Hp) :=
  cl (F_X7_within x1 (0 : Int32) ((pI h 1 x0 6) - (1 : Int32)) h) fun r1 h2 =>
  if r1 = 0 then
  some ((-1 : Int32), h2)
  else
  nn (pR h2 1 x0 4) fun n5 =>
  ck (inb x1 (pL h2 13 n5)) <|
  some ((pI h2 13 n5 (x1).toNatClampNeg), h2)

def F_X2_need (x0 : Nat) (h : Hp) : Option (Int32 × Hp) :=
  some (((5 : Int32) * (pI h 2 x0 2)), h)

def F_X1_hoursToFill (x0 : Int32) (x1 : Int32) (h : Hp) : Option (Int32 × Hp) :=
  if 0 < x0 then
  if 0 < x1 then
  ck (nz x1) <|
  some ((((x0 + x1) - (1 : Int32)) / x1), h)
  else
  some ((-1 : Int32), h)
  else
  some ((0 : Int32), h)

def L_X1_sumOfHours_14 {β : Type} (v0 : Nat) (v1 : Nat) (κ139 : Int32 → Hp → Option β) (κ60 : Hp → Option β) : Nat → Int32 → Int32 → Int32 → Int32 → Hp → Option β
  | 0, _, _, _, _, _ => none
  | f + 1, v3, v4, v5, v6, h =>
    if (pI h 1 v0 5) ≤ v6 then
    κ139 v3 h
    else
    nn (pR h 1 v0 1) fun n4 =>
    ck (inb v6 (pL h 10 n4)) <|
    nn (pR h 1 v0 0) fun n7 =>
    ck (inb (pI h 10 n4 (v6).toNatClampNeg) (pL h 9 n7)) <|
    nn (pR h 9 n7 ((pI h 10 n4 (v6).toNatClampNeg)).toNatClampNeg) fun n10 =>
    cl (F_X2_need n10 h) fun r12 h13 =>
    cl (F_X1_hoursToFill (r12 - v5) (pI h13 4 v1 4) h13) fun r15 h16 =>
    if r15 = (-1 : Int32) then
    κ60 h16
    else
    nn (pR h16 1 v0 2) fun n19 =>
    ck (inb v6 (pL h16 11 n19)) <|
    lt (wI h16 11 n19 (v6).toNatClampNeg (v4 + r15)) fun h22 =>
    nn (pR h22 1 v0 2) fun n24 =>
    ck (inb v6 (pL h22 11 n24)) <|
    ck (inb v6 (pL h22 11 n24)) <|
    L_X1_sumOfHours_14 v0 v1 κ139 κ60 f (v3 + (pI h22 11 n24 (v6).toNatClampNeg)) ((pI h22 11 n24 (v6).toNatClampNeg) + (1 : Int32)) (if (((if (v5 + (r15 * (pI h22 4 v1 4))) < (pI h22 4 v1 5) then (v5 + (r15 * (pI h22 4 v1 4))) else (pI h22 4 v1 5)) - r12) + (pI h22 4 v1 4)) < (pI h22 4 v1 5) then (((if (v5 + (r15 * (pI h22 4 v1 4))) < (pI h22 4 v1 5) then (v5 + (r15 * (pI h22 4 v1 4))) else (pI h22 4 v1 5)) - r12) + (pI h22 4 v1 4)) else (pI h22 4 v1 5)) (v6 + (1 : Int32)) h22

def F_X1_sumOfHours (x0 : Nat) (x1 : Option Nat) (x2 : Int32) (h : Hp) : Option (Int32 × Hp) :=
  nn x1 fun n1 =>
  L_X1_sumOfHours_14 x0 n1 (fun k28 h29 =>
  some (k28, h29)) (fun h30 =>
  some ((-1 : Int32), h30)) FU (0 : Int32) x2 (pI h 4 n1 7) (0 : Int32) h

def L_X1_keep_15 {β : Type} (v0 : Nat) (κ53 : Hp → Option β) : Nat → Int32 → Hp → Option β
  | 0, _, _ => none
  | f + 1, v2, h =>
    if (pI h 1 v0 5) ≤ v2 then
    κ53 h
    else
    nn (pR h 1 v0 1) fun n6 =>
    ck (inb v2 (pL h 10 n6)) <|
    nn (pR h 1 v0 3) fun n9 =>
    ck (inb v2 (pL h 12 n9)) <|
    lt (wI h 12 n9 (v2).toNatClampNeg (pI h 10 n6 (v2).toNatClampNeg)) fun h12 =>
    nn (pR h12 1 v0 2) fun n14 =>
    ck (inb v2 (pL h12 11 n14)) <|
    nn (pR h12 1 v0 4) fun n17 =>
    ck (inb v2 (pL h12 13 n17)) <|
    lt (wI h12 13 n17 (v2).toNatClampNeg (pI h12 11 n14 (v2).toNatClampNeg)) fun h20 =>
    L_X1_keep_15 v0 κ53 f (v2 + (1 : Int32)) h20

def F_X1_keep (x0 : Nat) (x1 : Int32) (h : Hp) : Option (Unit × Hp) :=
  lt (wI h 1 x0 7 x1) fun h1 =>
  lt (wI h1 1 x0 6 (pI h1 1 x0 5)) fun h3 =>
  L_X1_keep_15 x0 (fun h22 =>
  some ((), h22)) FU (0 : Int32) h3

def F_X1_swap (x0 : Nat) (x1 : Int32) (x2 : Int32) (h : Hp) : Option (Unit × Hp) :=
  nn (pR h 1 x0 1) fun n1 =>
  ck (inb x1 (pL h 10 n1)) <|
  ck (inb x2 (pL h 10 n1)) <|
  ck (inb x1 (pL h 10 n1)) <|
  lt (wI h 10 n1 (x1).toNatClampNeg (pI h 10 n1 (x2).toNatClampNeg)) fun h6 =>
  nn (pR h6 1 x0 1) fun n8 =>
  ck (inb x2 (pL h6 10 n8)) <|
  lt (wI h6 10 n8 (x2).toNatClampNeg (pI h 10 n1 (x1).toNatClampNeg)) fun h11 =>
  some ((), h11)

def L_X1_nextOrder_7 {β : Type} (v0 : Nat) (κ34 : Int32 → Hp → Option β) : Nat → Int32 → Hp → Option β
  | 0, _, _ => none
  | f + 1, v1, h =>
    if v1 < 0 then
    κ34 v1 h
    else
    nn (pR h 1 v0 1) fun n2 =>
    ck (inb v1 (pL h 10 n2)) <|
    ck (inb (v1 + (1 : Int32)) (pL h 10 n2)) <|
    if (pI h 10 n2 (v1).toNatClampNeg) ≤ (pI h 10 n2 ((v1 + (1 : Int32))).toNatClampNeg) then
    κ34 v1 h
    else
    L_X1_nextOrder_7 v0 κ34 f (v1 + (-1 : Int32)) h

def L_X1_nextOrder_47 {β : Type} (v0 : Nat) (v1 : Int32) (κ73 : Int32 → Hp → Option β) : Nat → Int32 → Hp → Option β
  | 0, _, _ => none
  | f + 1, v2, h =>
    if v2 ≤ v1 then
    κ73 v2 h
    else
    nn (pR h 1 v0 1) fun n11 =>
    ck (inb v2 (pL h 10 n11)) <|
    ck (inb v1 (pL h 10 n11)) <|
    if (pI h 10 n11 (v1).toNatClampNeg) ≤ (pI h 10 n11 (v2).toNatClampNeg) then
    κ73 v2 h
    else
    L_X1_nextOrder_47 v0 v1 κ73 f (v2 + (-1 : Int32)) h

def L_X1_nextOrder_91 {β : Type} (v0 : Nat) (κ113 : Hp → Option β) : Nat → Int32 → Int32 → Hp → Option β
  | 0, _, _, _ => none
  | f + 1, v3, v4, h =>
    if v4 ≤ v3 then
    κ113 h
    else
    cl (F_X1_swap v0 v3 v4 h) fun _ h23 =>
    L_X1_nextOrder_91 v0 κ113 f (v3 + (1 : Int32)) (v4 + (-1 : Int32)) h23

def F_X1_nextOrder (x0 : Nat) (h : Hp) : Option (Int32 × Hp) :=
  L_X1_nextOrder_7 x0 (fun k7 h8 =>
  if 0 ≤ k7 then
  L_X1_nextOrder_47 x0 k7 (fun k16 h17 =>
  cl (F_X1_swap x0 k7 k16 h17) fun _ h19 =>
  L_X1_nextOrder_91 x0 (fun h25 =>
  some ((1 : Int32), h25)) FU (k7 + (1 : Int32)) ((pI h19 1 x0 5) - (1 : Int32)) h19) FU ((pI h8 1 x0 5) - (1 : Int32)) h8
  else
  some ((0 : Int32), h8)) FU ((pI h 1 x0 5) - (2 : Int32)) h

def L_X1_work_21 {β : Type} (v0 : Nat) (v1 : Option Nat) (v2 : Int32) (κ80 : Hp → Option β) : Nat → Int32 → Int32 → Hp → Option β
  | 0, _, _, _ => none
  | f + 1, v3, v4, h =>
    if (120 : Int32) ≤ v4 then
    κ80 h
    else
    if v3 = 0 then
    κ80 h
    else
    cl (F_X1_sumOfHours v0 v1 v2 h) fun r5 h6 =>
    if r5 = (-1 : Int32) then
    cl (F_X1_nextOrder v0 h6) fun r9 h10 =>
    L_X1_work_21 v0 v1 v2 κ80 f r9 (v4 + (1 : Int32)) h10
    else
    if (pI h6 1 v0 7) = (-1 : Int32) then
    cl (F_X1_keep v0 r5 h6) fun _ h14 =>
    cl (F_X1_nextOrder v0 h14) fun r16 h17 =>
    L_X1_work_21 v0 v1 v2 κ80 f r16 (v4 + (1 : Int32)) h17
    else
    if (pI h6 1 v0 7) ≤ r5 then
    cl (F_X1_nextOrder v0 h6) fun r20 h21 =>
    L_X1_work_21 v0 v1 v2 κ80 f r20 (v4 + (1 : Int32)) h21
    else
    cl (F_X1_keep v0 r5 h6) fun _ h24 =>
    cl (F_X1_nextOrder v0 h24) fun r26 h27 =>
    L_X1_work_21 v0 v1 v2 κ80 f r26 (v4 + (1 : Int32)) h27

def F_X1_work (x0 : Nat) (x1 : Option Nat) (x2 : Int32) (h : Hp) : Option (Unit × Hp) :=
  if (pI h 1 x0 5) = 0 then
  some ((), h)
  else
  if (pI h 1 x0 5) ≤ (5 : Int32) then
  L_X1_work_21 x0 x1 x2 (fun h29 =>
  some ((), h29)) FU (1 : Int32) (0 : Int32) h
  else
  some ((), h)

def F_X2_init (x0 : Nat) (x1 : Int32) (x2 : Option Nat) (h : Hp) : Option (Unit × Hp) :=
  lt (wN h 14 ((8 : Int32)).toNatClampNeg) fun h1 =>
  lt (wR h1 2 x0 1 (some (pC h 14))) fun h3 =>
  lt (wI h3 2 x0 2 (0 : Int32)) fun h5 =>
  lt (wR h5 2 x0 4 none) fun h7 =>
  lt (wI h7 2 x0 5 (-1 : Int32)) fun h9 =>
  lt (wI h9 2 x0 0 x1) fun h11 =>
  lt (wR h11 2 x0 3 x2) fun h13 =>
  some ((), h13)

def L_X2_width_4 {β : Type} (v0 : Nat) (κ32 : Int32 → Hp → Option β) : Nat → Int32 → Int32 → Hp → Option β
  | 0, _, _, _ => none
  | f + 1, v1, v2, h =>
    if (pI h 2 v0 2) ≤ v2 then
    κ32 v1 h
    else
    nn (pR h 2 v0 1) fun n2 =>
    ck (inb v2 (pL h 14 n2)) <|
    nn (pR h 14 n2 (v2).toNatClampNeg) fun n5 =>
    L_X2_width_4 v0 κ32 f (if v1 < (pI h 3 n5 2) then (pI h 3 n5 2) else v1) (v2 + (1 : Int32)) h

def F_X2_width (x0 : Nat) (h : Hp) : Option (Int32 × Hp) :=
  L_X2_width_4 x0 (fun k7 h8 =>
  some (k7, h8)) FU (0 : Int32) (0 : Int32) h

def L_X2_trunkCount_4 {β : Type} (v0 : Nat) (κ30 : Int32 → Hp → Option β) : Nat → Int32 → Int32 → Hp → Option β
  | 0, _, _, _ => none
  | f + 1, v1, v2, h =>
    if (pI h 2 v0 2) ≤ v2 then
    κ30 v1 h
    else
    nn (pR h 2 v0 1) fun n2 =>
    ck (inb v2 (pL h 14 n2)) <|
    nn (pR h 14 n2 (v2).toNatClampNeg) fun n5 =>
    L_X2_trunkCount_4 v0 κ30 f (v1 + (pI h 3 n5 1)) (v2 + (1 : Int32)) h

def F_X2_trunkCount (x0 : Nat) (h : Hp) : Option (Int32 × Hp) :=
  L_X2_trunkCount_4 x0 (fun k7 h8 =>
  some (k7, h8)) FU (0 : Int32) (0 : Int32) h

def F_X2_firstTrunk (x0 : Nat) (h : Hp) : Option (Option Nat × Hp) :=
  if (pI h 2 x0 2) ≤ 0 then
  some (none, h)
  else
  nn (pR h 2 x0 1) fun n2 =>
  ck (inb (0 : Int32) (pL h 14 n2)) <|
  nn (pR h 14 n2 ((0 : Int32)).toNatClampNeg) fun n5 =>
  if (pI h 3 n5 1) ≤ 0 then
  some (none, h)
  else
  ck (inb (0 : Int32) (pL h 14 n2)) <|
  nn (pR h 14 n2 ((0 : Int32)).toNatClampNeg) fun n9 =>
  nn (pR h 3 n9 0) fun n11 =>
  ck (inb (0 : Int32) (pL h 15 n11)) <|
  some ((pR h 15 n11 ((0 : Int32)).toNatClampNeg), h)

def F_X2_fits (x0 : Nat) (x1 : Option Nat) (h : Hp) : Option (Int32 × Hp) :=
  if (pR h 2 x0 3) = x1 then
  cl (F_X2_state x0 h) fun r2 h3 =>
  if r2 = (1 : Int32) then
  cl (F_X2_width x0 h3) fun r6 h7 =>
  nn x1 fun n9 =>
  if (pI h7 4 n9 3) < r6 then
  some ((0 : Int32), h7)
  else
  some ((1 : Int32), h7)
  else
  some ((0 : Int32), h3)
  else
  some ((0 : Int32), h)

def L_X3_belongTo_2 {β : Type} (v0 : Nat) (v1 : Option Nat) (κ36 : Hp → Option β) : Nat → Int32 → Hp → Option β
  | 0, _, _ => none
  | f + 1, v2, h =>
    if (pI h 3 v0 1) ≤ v2 then
    κ36 h
    else
    nn (pR h 3 v0 0) fun n2 =>
    ck (inb v2 (pL h 15 n2)) <|
    nn (pR h 15 n2 (v2).toNatClampNeg) fun n5 =>
    lt (wR h 6 n5 6 v1) fun h7 =>
    nn (pR h7 3 v0 0) fun n9 =>
    ck (inb v2 (pL h7 15 n9)) <|
    nn (pR h7 15 n9 (v2).toNatClampNeg) fun n12 =>
    lt (wR h7 6 n12 5 none) fun h14 =>
    L_X3_belongTo_2 v0 v1 κ36 f (v2 + (1 : Int32)) h14

def F_X3_belongTo (x0 : Nat) (x1 : Option Nat) (h : Hp) : Option (Unit × Hp) :=
  L_X3_belongTo_2 x0 x1 (fun h16 =>
  some ((), h16)) FU (0 : Int32) h

def F_X2_append (x0 : Nat) (x1 : Option Nat) (h : Hp) : Option (Unit × Hp) :=
  if (8 : Int32) ≤ (pI h 2 x0 2) then
  some ((), h)
  else
  nn (pR h 2 x0 1) fun n2 =>
  ck (inb (pI h 2 x0 2) (pL h 14 n2)) <|
  lt (wR h 14 n2 ((pI h 2 x0 2)).toNatClampNeg x1) fun h5 =>
  lt (wI h5 2 x0 2 ((pI h5 2 x0 2) + (1 : Int32))) fun h7 =>
  nn x1 fun n9 =>
  cl (F_X3_belongTo n9 (some x0) h7) fun _ h12 =>
  some ((), h12)

def L_X2_moveRows_6 {β : Type} (v0 : Nat) (v1 : Int32) (v2 : Option Nat) (κ30 : Hp → Option β) : Nat → Int32 → Hp → Option β
  | 0, _, _ => none
  | f + 1, v3, h =>
    if (pI h 2 v0 2) ≤ v3 then
    κ30 h
    else
    nn (pR h 2 v0 1) fun n2 =>
    ck (inb v3 (pL h 14 n2)) <|
    nn v2 fun n5 =>
    cl (F_X2_append n5 (pR h 14 n2 (v3).toNatClampNeg) h) fun _ h8 =>
    L_X2_moveRows_6 v0 v1 v2 κ30 f (v3 + (1 : Int32)) h8

def F_X2_moveRows (x0 : Nat) (x1 : Int32) (x2 : Option Nat) (h : Hp) : Option (Unit × Hp) :=
  L_X2_moveRows_6 x0 x1 x2 (fun h10 =>
  lt (wI h10 2 x0 2 (if (if (0 : Int32) < x1 then x1 else (0 : Int32)) < (pI h10 2 x0 2) then (if (0 : Int32) < x1 then x1 else (0 : Int32)) else (pI h10 2 x0 2))) fun h11 =>
  some ((), h11)) FU (if (0 : Int32) < x1 then x1 else (0 : Int32)) h

def F_X2_end (x0 : Nat) (h : Hp) : Option (Unit × Hp) :=
  lt (wI h 2 x0 2 (0 : Int32)) fun h1 =>
  lt (wR h1 2 x0 3 none) fun h3 =>
  some ((), h3)

def F_X2_goDown (x0 : Nat) (x1 : Option Nat) (x2 : Int32) (h : Hp) : Option (Unit × Hp) :=
  nn x1 fun n1 =>
  lt (wI h 2 x0 5 (x2 + (pI h 4 n1 2))) fun h3 =>
  lt (wR h3 2 x0 3 (pR h3 4 n1 1)) fun h5 =>
  some ((), h5)

def L_X3_loseTrunks_4 {β : Type} (v0 : Nat) (v1 : Int32) (κ46 : Int32 → Hp → Option β) : Nat → Int32 → Int32 → Hp → Option β
  | 0, _, _, _ => none
  | f + 1, v2, v3, h =>
    if (pI h 3 v0 1) ≤ v3 then
    κ46 v2 h
    else
    nn (pR h 3 v0 0) fun n2 =>
    ck (inb v3 (pL h 15 n2)) <|
    nn (pR h 15 n2 (v3).toNatClampNeg) fun n5 =>
    if ((pI h 6 n5 0) - (pI h 6 n5 0) / (2 : Int32) * (2 : Int32)) = v1 then
    ck (inb v3 (pL h 15 n2)) <|
    nn (pR h 15 n2 (v3).toNatClampNeg) fun n9 =>
    lt (wR h 6 n9 6 none) fun h11 =>
    L_X3_loseTrunks_4 v0 v1 κ46 f (v2 + (1 : Int32)) (v3 + (1 : Int32)) h11
    else
    L_X3_loseTrunks_4 v0 v1 κ46 f v2 (v3 + (1 : Int32)) h

def F_X3_loseTrunks (x0 : Nat) (x1 : Int32) (h : Hp) : Option (Int32 × Hp) :=
  L_X3_loseTrunks_4 x0 x1 (fun k13 h14 =>
  some (k13, h14)) FU (0 : Int32) (0 : Int32) h

def L_X2_loseTrunks_4 {β : Type} (v0 : Nat) (v1 : Int32) (κ31 : Int32 → Hp → Option β) : Nat → Int32 → Int32 → Hp → Option β
  | 0, _, _, _ => none
  | f + 1, v2, v3, h =>
    if (pI h 2 v0 2) ≤ v3 then
    κ31 v2 h
    else
    nn (pR h 2 v0 1) fun n2 =>
    ck (inb v3 (pL h 14 n2)) <|
    nn (pR h 14 n2 (v3).toNatClampNeg) fun n5 =>
    cl (F_X3_loseTrunks n5 v1 h) fun r7 h8 =>
    L_X2_loseTrunks_4 v0 v1 κ31 f (v2 + r7) (v3 + (1 : Int32)) h8

def F_X2_loseTrunks (x0 : Nat) (x1 : Int32) (h : Hp) : Option (Int32 × Hp) :=
  L_X2_loseTrunks_4 x0 x1 (fun k10 h11 =>
  some (k10, h11)) FU (0 : Int32) (0 : Int32) h

def L_X3_lieAt_2 {β : Type} (v0 : Nat) (v1 : Option Nat) (κ48 : Hp → Option β) : Nat → Int32 → Hp → Option β
  | 0, _, _ => none
  | f + 1, v2, h =>
    if (pI h 3 v0 1) ≤ v2 then
    κ48 h
    else
    nn (pR h 3 v0 0) fun n2 =>
    ck (inb v2 (pL h 15 n2)) <|
    nn (pR h 15 n2 (v2).toNatClampNeg) fun n5 =>
    onn (pR h 6 n5 6) (
    L_X3_lieAt_2 v0 v1 κ48 f (v2 + (1 : Int32)) h) fun n8 =>
    ck (inb v2 (pL h 15 n2)) <|
    nn (pR h 15 n2 (v2).toNatClampNeg) fun n10 =>
    lt (wR h 6 n10 6 none) fun h12 =>
    nn (pR h12 3 v0 0) fun n14 =>
    ck (inb v2 (pL h12 15 n14)) <|
    nn (pR h12 15 n14 (v2).toNatClampNeg) fun n17 =>
    lt (wR h12 6 n17 5 v1) fun h19 =>
    L_X3_lieAt_2 v0 v1 κ48 f (v2 + (1 : Int32)) h19

def F_X3_lieAt (x0 : Nat) (x1 : Option Nat) (h : Hp) : Option (Unit × Hp) :=
  L_X3_lieAt_2 x0 x1 (fun h21 =>
  some ((), h21)) FU (0 : Int32) h

def L_X2_scatter_2 {β : Type} (v0 : Nat) (κ29 : Hp → Option β) : Nat → Int32 → Hp → Option β
  | 0, _, _ => none
  | f + 1, v1, h =>
    if (pI h 2 v0 2) ≤ v1 then
    κ29 h
    else
    nn (pR h 2 v0 1) fun n2 =>
    ck (inb v1 (pL h 14 n2)) <|
    nn (pR h 14 n2 (v1).toNatClampNeg) fun n5 =>
    cl (F_X3_lieAt n5 (pR h 2 v0 3) h) fun _ h8 =>
    L_X2_scatter_2 v0 κ29 f (v1 + (1 : Int32)) h8

def F_X2_scatter (x0 : Nat) (h : Hp) : Option (Unit × Hp) :=
  L_X2_scatter_2 x0 (fun h10 =>
  cl (F_X2_end x0 h10) fun _ h12 =>
  some ((), h12)) FU (0 : Int32) h

def F_X3_init (x0 : Nat) (h : Hp) : Option (Unit × Hp) :=
  lt (wN h 15 ((9 : Int32)).toNatClampNeg) fun h1 =>
  lt (wR h1 3 x0 0 (some (pC h 15))) fun h3 =>
  lt (wI h3 3 x0 1 (0 : Int32)) fun h5 =>
  lt (wI h5 3 x0 2 (0 : Int32)) fun h7 =>
  some ((), h7)

def F_X3_first (x0 : Nat) (h : Hp) : Option (Option Nat × Hp) :=
  if (pI h 3 x0 1) ≤ 0 then
  some (none, h)
  else
  nn (pR h 3 x0 0) fun n2 =>
  ck (inb (0 : Int32) (pL h 15 n2)) <|
  some ((pR h 15 n2 ((0 : Int32)).toNatClampNeg), h)

def L_X3_has_2 {β : Type} (v0 : Nat) (v1 : Option Nat) (κ34 : Hp → Option β) (κ26 : Hp → Option β) : Nat → Int32 → Hp → Option β
  | 0, _, _ => none
  | f + 1, v2, h =>
    if (pI h 3 v0 1) ≤ v2 then
    κ34 h
    else
    nn (pR h 3 v0 0) fun n2 =>
    ck (inb v2 (pL h 15 n2)) <|
    nn (pR h 15 n2 (v2).toNatClampNeg) fun n5 =>
    nn v1 fun n7 =>
    if (pI h 6 n5 0) = (pI h 6 n7 0) then
    κ26 h
    else
    L_X3_has_2 v0 v1 κ34 κ26 f (v2 + (1 : Int32)) h

def F_X3_has (x0 : Nat) (x1 : Option Nat) (h : Hp) : Option (Int32 × Hp) :=
  L_X3_has_2 x0 x1 (fun h10 =>
  some ((0 : Int32), h10)) (fun h11 =>
  some ((1 : Int32), h11)) FU (0 : Int32) h

def F_X3_takes (x0 : Nat) (x1 : Option Nat) (h : Hp) : Option (Int32 × Hp) :=
  cl (F_X3_first x0 h) fun r1 h2 =>
  if (9 : Int32) ≤ (pI h2 3 x0 1) then
  some ((0 : Int32), h2)
  else
  cl (F_X3_has x0 x1 h2) fun r5 h6 =>
  if r5 = 0 then
  onn r1 (
  some ((1 : Int32), h6)) fun n10 =>
  nn x1 fun n11 =>
  if (pR h6 6 n10 5) = (pR h6 6 n11 5) then
  some ((1 : Int32), h6)
  else
  some ((0 : Int32), h6)
  else
  some ((0 : Int32), h6)

def F_X3_append (x0 : Nat) (x1 : Option Nat) (h : Hp) : Option (Unit × Hp) :=
  if (9 : Int32) ≤ (pI h 3 x0 1) then
  some ((), h)
  else
  nn (pR h 3 x0 0) fun n2 =>
  ck (inb (pI h 3 x0 1) (pL h 15 n2)) <|
  lt (wR h 15 n2 ((pI h 3 x0 1)).toNatClampNeg x1) fun h5 =>
  lt (wI h5 3 x0 1 ((pI h5 3 x0 1) + (1 : Int32))) fun h7 =>
  nn x1 fun n9 =>
  lt (wI h7 3 x0 2 ((pI h7 3 x0 2) + (pI h7 6 n9 4))) fun h11 =>
  some ((), h11)

def F_X4_init (x0 : Nat) (x1 : Int32) (x2 : Option Nat) (x3 : Int32) (x4 : Int32) (x5 : Int32) (h : Hp) : Option (Unit × Hp) :=
  lt (wI h 4 x0 8 (0 : Int32)) fun h1 =>
  lt (wI h1 4 x0 9 (0 : Int32)) fun h3 =>
  lt (wI h3 4 x0 0 x1) fun h5 =>
  lt (wR h5 4 x0 1 x2) fun h7 =>
  lt (wI h7 4 x0 2 (x3 / (100000 : Int32))) fun h9 =>
  lt (wI h9 4 x0 3 ((x3 - x3 / (100000 : Int32) * (100000 : Int32)) / (1000 : Int32))) fun h11 =>
  lt (wI h11 4 x0 4 (x3 - x3 / (1000 : Int32) * (1000 : Int32))) fun h13 =>
  lt (wI h13 4 x0 5 x4) fun h15 =>
  ck (isz x5) <|
  lt (wI h15 4 x0 6 x5) fun h17 =>
  lt (wI h17 4 x0 7 x4) fun h20 =>
  some ((), h20)

def F_X4_canBe (x0 : Int32) (x1 : Int32) (h : Hp) : Option (Int32 × Hp) :=
  if x0 < 0 then
  some ((0 : Int32), h)
  else
  cl (F_X7_within (x0 / (100000 : Int32)) (1 : Int32) (20 : Int32) h) fun r2 h3 =>
  if r2 = 0 then
  some ((0 : Int32), h3)
  else
  cl (F_X7_within ((x0 - x0 / (100000 : Int32) * (100000 : Int32)) / (1000 : Int32)) (1 : Int32) (60 : Int32) h3) fun r6 h7 =>
  if r6 = 0 then
  some ((0 : Int32), h7)
  else
  cl (F_X7_within (x0 - x0 / (1000 : Int32) * (1000 : Int32)) (0 : Int32) (50 : Int32) h7) fun r10 h11 =>
  if r10 = 0 then
  some ((0 : Int32), h11)
  else
  cl (F_X7_within x1 (0 : Int32) (1000 : Int32) h11) fun r14 h15 =>
  if r14 = 0 then
  some ((0 : Int32), h15)
  else
  some ((1 : Int32), h15)

def F_X4_storms (x0 : Nat) (x1 : Int32) (h : Hp) : Option (Int32 × Hp) :=
  if x1 < (pI h 4 x0 8) then
  some ((0 : Int32), h)
  else
  if (pI h 4 x0 9) ≤ x1 then
  some ((0 : Int32), h)
  else
  some ((1 : Int32), h)

def F_X4_fillPond (x0 : Nat) (h : Hp) : Option (Unit × Hp) :=
  lt (wI h 4 x0 7 (if ((pI h 4 x0 7) + (pI h 4 x0 4)) < (pI h 4 x0 5) then ((pI h 4 x0 7) + (pI h 4 x0 4)) else (pI h 4 x0 5))) fun h1 =>
  some ((), h1)

def L_X4_hoursDownTo_4 {β : Type} (v1 : Option Nat) (κ30 : Hp → Option β) (κ13 : Int32 → Hp → Option β) : Nat → Int32 → Option Nat → Hp → Option β
  | 0, _, _, _ => none
  | f + 1, v2, v3, h =>
    onn v3 (
    κ30 h) fun n2 =>
    if (some n2) = v1 then
    κ13 v2 h
    else
    L_X4_hoursDownTo_4 v1 κ30 κ13 f (v2 + (pI h 4 n2 2)) (pR h 4 n2 1) h

def F_X4_hoursDownTo (x0 : Nat) (x1 : Option Nat) (h : Hp) : Option (Int32 × Hp) :=
  L_X4_hoursDownTo_4 x1 (fun h4 =>
  some ((-1 : Int32), h4)) (fun k5 h6 =>
  some (k5, h6)) FU (0 : Int32) (some x0) h

def F_X5_init (x0 : Nat) (x1 : Int32) (h : Hp) : Option (Unit × Hp) :=
  lt (wI h 5 x0 3 (0 : Int32)) fun h1 =>
  ck (lnok (if (0 : Int32) < x1 then x1 else (0 : Int32)) 100) <|
  lt (wN h1 16 ((if (0 : Int32) < x1 then x1 else (0 : Int32))).toNatClampNeg) fun h3 =>
  lt (wR h3 5 x0 0 (some (pC h1 16))) fun h6 =>
  ck (lnok (if (0 : Int32) < x1 then x1 else (0 : Int32)) 100) <|
  lt (wN h6 17 ((if (0 : Int32) < x1 then x1 else (0 : Int32))).toNatClampNeg) fun h8 =>
  lt (wR h8 5 x0 1 (some (pC h6 17))) fun h11 =>
  ck (lnok (if (0 : Int32) < x1 then x1 else (0 : Int32)) 100) <|
  lt (wN h11 18 ((if (0 : Int32) < x1 then x1 else (0 : Int32))).toNatClampNeg) fun h13 =>
  lt (wR h13 5 x0 2 (some (pC h11 18))) fun h16 =>
  some ((), h16)

def F_X5_tell (x0 : Nat) (x1 : Int32) (x2 : Int32) (x3 : Int32) (h : Hp) : Option (Int32 × Hp) :=
  nn (pR h 5 x0 0) fun n1 =>
  if (pI h 5 x0 3) < (nI (pL h 16 n1)) then
  ck (inb (pI h 5 x0 3) (pL h 16 n1)) <|
  lt (wI h 16 n1 ((pI h 5 x0 3)).toNatClampNeg x1) fun h5 =>
  nn (pR h5 5 x0 1) fun n7 =>
  ck (inb (pI h5 5 x0 3) (pL h5 17 n7)) <|
  lt (wI h5 17 n7 ((pI h5 5 x0 3)).toNatClampNeg x2) fun h10 =>
  nn (pR h10 5 x0 2) fun n12 =>
  ck (inb (pI h10 5 x0 3) (pL h10 18 n12)) <|
  lt (wI h10 18 n12 ((pI h10 5 x0 3)).toNatClampNeg x3) fun h15 =>
  lt (wI h15 5 x0 3 ((pI h15 5 x0 3) + (1 : Int32))) fun h17 =>
  some ((1 : Int32), h17)
  else
  some ((0 : Int32), h)

def L_X5_inForce_8 {β : Type} (v0 : Nat) (v1 : Int32) (v2 : Int32) (κ74 : Int32 → Hp → Option β) : Nat → Int32 → Int32 → Int32 → Hp → Option β
  | 0, _, _, _, _ => none
  | f + 1, v3, v4, v5, h =>
    if (pI h 5 v0 3) ≤ v5 then
    κ74 v3 h
    else
    nn (pR h 5 v0 0) fun n2 =>
    ck (inb v5 (pL h 16 n2)) <|
    if (pI h 16 n2 (v5).toNatClampNeg) = v1 then
    nn (pR h 5 v0 1) fun n6 =>
    ck (inb v5 (pL h 17 n6)) <|
    if v2 < (pI h 17 n6 (v5).toNatClampNeg) then
    L_X5_inForce_8 v0 v1 v2 κ74 f v3 v4 (v5 + (1 : Int32)) h
    else
    ck (inb v5 (pL h 17 n6)) <|
    if (pI h 17 n6 (v5).toNatClampNeg) < v4 then
    L_X5_inForce_8 v0 v1 v2 κ74 f v3 v4 (v5 + (1 : Int32)) h
    else
    ck (inb v5 (pL h 17 n6)) <|
    nn (pR h 5 v0 2) fun n13 =>
    ck (inb v5 (pL h 18 n13)) <|
    L_X5_inForce_8 v0 v1 v2 κ74 f (pI h 18 n13 (v5).toNatClampNeg) (pI h 17 n6 (v5).toNatClampNeg) (v5 + (1 : Int32)) h
    else
    L_X5_inForce_8 v0 v1 v2 κ74 f v3 v4 (v5 + (1 : Int32)) h

def F_X5_inForce (x0 : Nat) (x1 : Int32) (x2 : Int32) (h : Hp) : Option (Int32 × Hp) :=
  L_X5_inForce_8 x0 x1 x2 (fun k16 h17 =>
  some (k16, h17)) FU (0 : Int32) (-1 : Int32) (0 : Int32) h

def F_X6_init (x0 : Nat) (x1 : Int32) (x2 : Int32) (x3 : Int32) (x4 : Option Nat) (h : Hp) : Option (Unit × Hp) :=
  lt (wR h 6 x0 6 none) fun h1 =>
  lt (wI h1 6 x0 7 (-1 : Int32)) fun h3 =>
  lt (wI h3 6 x0 0 x1) fun h5 =>
  lt (wI h5 6 x0 1 x2) fun h7 =>
  lt (wI h7 6 x0 2 (x3 / (100 : Int32))) fun h9 =>
  lt (wI h9 6 x0 3 ((x3 / (10 : Int32)) - (x3 / (10 : Int32)) / (10 : Int32) * (10 : Int32))) fun h11 =>
  lt (wI h11 6 x0 4 (x3 - x3 / (10 : Int32) * (10 : Int32))) fun h13 =>
  lt (wR h13 6 x0 5 x4) fun h15 =>
  some ((), h15)

def F_X7_isOwner (x0 : Int32) (h : Hp) : Option (Int32 × Hp) :=
  cl (F_X7_within x0 (0 : Int32) (7 : Int32) h) fun r1 h2 =>
  ck (isz r1) <|
  some (r1, h2)

def F_X6_canBe (x0 : Int32) (h : Hp) : Option (Int32 × Hp) :=
  if x0 < 0 then
  some ((0 : Int32), h)
  else
  cl (F_X7_isOwner (x0 / (100 : Int32)) h) fun r2 h3 =>
  if r2 = 0 then
  some ((0 : Int32), h3)
  else
  cl (F_X7_within ((x0 / (10 : Int32)) - (x0 / (10 : Int32)) / (10 : Int32) * (10 : Int32)) (0 : Int32) (3 : Int32) h3) fun r6 h7 =>
  if r6 = 0 then
  some ((0 : Int32), h7)
  else
  cl (F_X7_within (x0 - x0 / (10 : Int32) * (10 : Int32)) (1 : Int32) (9 : Int32) h7) fun r10 h11 =>
  if r10 = 0 then
  some ((0 : Int32), h11)
  else
  some ((1 : Int32), h11)

def F_X6_state (x0 : Nat) (h : Hp) : Option (Int32 × Hp) :=
  onn (pR h 6 x0 5) (
  onn (pR h 6 x0 6) (
  if (pI h 6 x0 7) = (-1 : Int32) then
  some ((3 : Int32), h)
  else
  some ((2 : Int32), h)) fun n4 =>
  some ((1 : Int32), h)) fun n2 =>
  some ((0 : Int32), h)

def L_X7_init_146 {β : Type} (v0 : Nat) (κ165 : Hp → Option β) : Nat → Int32 → Hp → Option β
  | 0, _, _ => none
  | f + 1, v1, h =>
    if (8 : Int32) ≤ v1 then
    κ165 h
    else
    nn (pR h 7 v0 11) fun n70 =>
    ck (inb v1 (pL h 23 n70)) <|
    lt (wI h 23 n70 (v1).toNatClampNeg (5 : Int32)) fun h73 =>
    L_X7_init_146 v0 κ165 f (v1 + (1 : Int32)) h73

def F_X7_init (x0 : Nat) (h : Hp) : Option (Unit × Hp) :=
  lt (wN h 19 ((12 : Int32)).toNatClampNeg) fun h1 =>
  lt (wR h1 7 x0 0 (some (pC h 19))) fun h3 =>
  lt (wI h3 7 x0 1 (0 : Int32)) fun h5 =>
  lt (wN h5 20 ((120 : Int32)).toNatClampNeg) fun h7 =>
  lt (wR h7 7 x0 2 (some (pC h5 20))) fun h9 =>
  lt (wI h9 7 x0 3 (0 : Int32)) fun h11 =>
  lt (wN h11 21 ((60 : Int32)).toNatClampNeg) fun h13 =>
  lt (wR h13 7 x0 4 (some (pC h11 21))) fun h15 =>
  lt (wI h15 7 x0 5 (0 : Int32)) fun h17 =>
  lt (wN h17 22 ((10 : Int32)).toNatClampNeg) fun h19 =>
  lt (wR h19 7 x0 6 (some (pC h17 22))) fun h21 =>
  lt (wI h21 7 x0 7 (0 : Int32)) fun h23 =>
  lt (wN h23 3 0) fun h25 =>
  cl (F_X3_init (pC h23 3) h25) fun _ h28 =>
  lt (wR h28 7 x0 8 (some (pC h23 3))) fun h30 =>
  lt (wN h30 5 0) fun h32 =>
  cl (F_X5_init (pC h30 5) (30 : Int32) h32) fun _ h35 =>
  lt (wR h35 7 x0 9 (some (pC h30 5))) fun h37 =>
  lt (wN h37 5 0) fun h39 =>
  cl (F_X5_init (pC h37 5) (100 : Int32) h39) fun _ h42 =>
  lt (wR h42 7 x0 10 (some (pC h37 5))) fun h44 =>
  lt (wN h44 23 ((8 : Int32)).toNatClampNeg) fun h46 =>
  lt (wR h46 7 x0 11 (some (pC h44 23))) fun h48 =>
  lt (wN h48 24 ((8 : Int32)).toNatClampNeg) fun h50 =>
  lt (wR h50 7 x0 12 (some (pC h48 24))) fun h52 =>
  lt (wN h52 1 0) fun h54 =>
  cl (F_X1_init (pC h52 1) h54) fun _ h57 =>
  lt (wR h57 7 x0 13 (some (pC h52 1))) fun h59 =>
  lt (wI h59 7 x0 14 (0 : Int32)) fun h61 =>
  lt (wI h61 7 x0 15 (0 : Int32)) fun h63 =>
  lt (wI h63 7 x0 16 (0 : Int32)) fun h65 =>
  lt (wI h65 7 x0 17 (0 : Int32)) fun h67 =>
  L_X7_init_146 x0 (fun h75 =>
  some ((), h75)) FU (0 : Int32) h67

def F_X7_stationAt (x0 : Nat) (x1 : Int32) (h : Hp) : Option (Option Nat × Hp) :=
  cl (F_X7_within x1 (0 : Int32) ((pI h 7 x0 1) - (1 : Int32)) h) fun r1 h2 =>
  if r1 = 0 then
  some (none, h2)
  else
  nn (pR h2 7 x0 0) fun n5 =>
  ck (inb x1 (pL h2 19 n5)) <|
  some ((pR h2 19 n5 (x1).toNatClampNeg), h2)

def F_X7_station (x0 : Nat) (x1 : Int32) (x2 : Int32) (x3 : Int32) (x4 : Int32) (h : Hp) : Option (Int32 × Hp) :=
  if (pI h 7 x0 1) < (12 : Int32) then
  if (pI h 7 x0 1) = 0 then
  lt (wN h 4 0) fun h24 =>
  cl (F_X4_init (pC h 4) (0 : Int32) none (0 : Int32) (0 : Int32) (1 : Int32) h24) fun _ h27 =>
  nn (pR h27 7 x0 0) fun n29 =>
  ck (inb (pI h27 7 x0 1) (pL h27 19 n29)) <|
  lt (wR h27 19 n29 ((pI h27 7 x0 1)).toNatClampNeg (some (pC h 4))) fun h32 =>
  lt (wI h32 7 x0 1 ((pI h32 7 x0 1) + (1 : Int32))) fun h34 =>
  some ((pI h34 4 (pC h 4) 0), h34)
  else
  cl (F_X7_stationAt x0 x1 h) fun r3 h4 =>
  onn r3 (
  some ((-1 : Int32), h4)) fun n7 =>
  cl (F_X4_canBe x2 x3 h4) fun r8 h9 =>
  if r8 = 0 then
  some ((-1 : Int32), h9)
  else
  lt (wN h9 4 0) fun h12 =>
  cl (F_X4_init (pC h9 4) (pI h12 7 x0 1) (some n7) x2 x3 x4 h12) fun _ h15 =>
  nn (pR h15 7 x0 0) fun n17 =>
  ck (inb (pI h15 7 x0 1) (pL h15 19 n17)) <|
  lt (wR h15 19 n17 ((pI h15 7 x0 1)).toNatClampNeg (some (pC h9 4))) fun h20 =>
  lt (wI h20 7 x0 1 ((pI h20 7 x0 1) + (1 : Int32))) fun h22 =>
  some ((pI h22 4 (pC h9 4) 0), h22)
  else
  some ((-1 : Int32), h)

def L_X7_find_2 {β : Type} (v0 : Nat) (v1 : Int32) (κ31 : Hp → Option β) (κ23 : Int32 → Hp → Option β) : Nat → Int32 → Hp → Option β
  | 0, _, _ => none
  | f + 1, v2, h =>
    if (pI h 7 v0 3) ≤ v2 then
    κ31 h
    else
    nn (pR h 7 v0 2) fun n2 =>
    ck (inb v2 (pL h 20 n2)) <|
    nn (pR h 20 n2 (v2).toNatClampNeg) fun n5 =>
    if (pI h 6 n5 1) = v1 then
    κ23 v2 h
    else
    L_X7_find_2 v0 v1 κ31 κ23 f (v2 + (1 : Int32)) h

def F_X7_find (x0 : Nat) (x1 : Int32) (h : Hp) : Option (Int32 × Hp) :=
  L_X7_find_2 x0 x1 (fun h8 =>
  some ((-1 : Int32), h8)) (fun k9 h10 =>
  some (k9, h10)) FU (0 : Int32) h

def F_X7_trunk (x0 : Nat) (x1 : Int32) (x2 : Int32) (x3 : Int32) (h : Hp) : Option (Int32 × Hp) :=
  cl (F_X7_stationAt x0 x3 h) fun r1 h2 =>
  onn r1 (
  some ((-1 : Int32), h2)) fun n5 =>
  if (120 : Int32) ≤ (pI h2 7 x0 3) then
  some ((-1 : Int32), h2)
  else
  cl (F_X6_canBe x2 h2) fun r7 h8 =>
  if r7 = 0 then
  some ((-1 : Int32), h8)
  else
  cl (F_X7_within x1 (1 : Int32) (99999 : Int32) h8) fun r11 h12 =>
  if r11 = 0 then
  some ((-1 : Int32), h12)
  else
  cl (F_X7_find x0 x1 h12) fun r15 h16 =>
  if r15 = (-1 : Int32) then
  lt (wN h16 6 0) fun h19 =>
  cl (F_X6_init (pC h16 6) (pI h19 7 x0 3) x1 x2 (some n5) h19) fun _ h22 =>
  nn (pR h22 7 x0 2) fun n24 =>
  ck (inb (pI h22 7 x0 3) (pL h22 20 n24)) <|
  lt (wR h22 20 n24 ((pI h22 7 x0 3)).toNatClampNeg (some (pC h16 6))) fun h27 =>
  lt (wI h27 7 x0 3 ((pI h27 7 x0 3) + (1 : Int32))) fun h29 =>
  some ((pI h29 6 (pC h16 6) 0), h29)
  else
  some ((-1 : Int32), h16)

def F_X7_trunkAt (x0 : Nat) (x1 : Int32) (h : Hp) : Option (Option Nat × Hp) :=
  cl (F_X7_within x1 (0 : Int32) ((pI h 7 x0 3) - (1 : Int32)) h) fun r1 h2 =>
  if r1 = 0 then
  some (none, h2)
  else
  nn (pR h2 7 x0 2) fun n5 =>
  ck (inb x1 (pL h2 20 n5)) <|
  some ((pR h2 20 n5 (x1).toNatClampNeg), h2)

def F_X7_put (x0 : Nat) (x1 : Int32) (h : Hp) : Option (Int32 × Hp) :=
  cl (F_X7_trunkAt x0 x1 h) fun r1 h2 =>
  onn r1 (
  some ((-1 : Int32), h2)) fun n5 =>
  onn (pR h2 6 n5 5) (
  some ((-1 : Int32), h2)) fun n7 =>
  nn (pR h2 7 x0 8) fun n8 =>
  cl (F_X3_takes n8 (some n5) h2) fun r10 h11 =>
  if r10 = 0 then
  some ((-1 : Int32), h11)
  else
  nn (pR h11 7 x0 8) fun n14 =>
  cl (F_X3_append n14 (some n5) h11) fun _ h17 =>
  nn (pR h17 7 x0 8) fun n19 =>
  some ((pI h17 3 n19 1), h17)

def F_X7_newRaft (x0 : Nat) (x1 : Option Nat) (h : Hp) : Option (Option Nat × Hp) :=
  lt (wN h 2 0) fun h1 =>
  cl (F_X2_init (pC h 2) (pI h1 7 x0 5) x1 h1) fun _ h4 =>
  nn (pR h4 7 x0 4) fun n6 =>
  ck (inb (pI h4 7 x0 5) (pL h4 21 n6)) <|
  lt (wR h4 21 n6 ((pI h4 7 x0 5)).toNatClampNeg (some (pC h 2))) fun h9 =>
  lt (wI h9 7 x0 5 ((pI h9 7 x0 5) + (1 : Int32))) fun h11 =>
  some ((some (pC h 2)), h11)

def F_X7_bind (x0 : Nat) (h : Hp) : Option (Int32 × Hp) :=
  nn (pR h 7 x0 8) fun n1 =>
  cl (F_X3_first n1 h) fun r3 h4 =>
  onn r3 (
  some ((-1 : Int32), h4)) fun n7 =>
  if (pI h4 7 x0 5) < (60 : Int32) then
  cl (F_X7_newRaft x0 (pR h4 6 n7 5) h4) fun r9 h10 =>
  nn r9 fun n12 =>
  cl (F_X2_append n12 (pR h10 7 x0 8) h10) fun _ h15 =>
  lt (wN h15 3 0) fun h17 =>
  cl (F_X3_init (pC h15 3) h17) fun _ h20 =>
  lt (wR h20 7 x0 8 (some (pC h15 3))) fun h22 =>
  some ((pI h22 2 n12 0), h22)
  else
  some ((-1 : Int32), h4)

def F_X7_raftAt (x0 : Nat) (x1 : Int32) (h : Hp) : Option (Option Nat × Hp) :=
  cl (F_X7_within x1 (0 : Int32) ((pI h 7 x0 5) - (1 : Int32)) h) fun r1 h2 =>
  if r1 = 0 then
  some (none, h2)
  else
  nn (pR h2 7 x0 4) fun n5 =>
  ck (inb x1 (pL h2 21 n5)) <|
  some ((pR h2 21 n5 (x1).toNatClampNeg), h2)

def F_X7_tiedAt (x0 : Nat) (x1 : Int32) (h : Hp) : Option (Option Nat × Hp) :=
  cl (F_X7_raftAt x0 x1 h) fun r1 h2 =>
  onn r1 (
  some (none, h2)) fun n5 =>
  cl (F_X2_state n5 h2) fun r6 h7 =>
  if r6 = 0 then
  some ((some n5), h7)
  else
  some (none, h7)

def F_X7_join (x0 : Nat) (x1 : Int32) (x2 : Int32) (h : Hp) : Option (Int32 × Hp) :=
  cl (F_X7_tiedAt x0 x1 h) fun r1 h2 =>
  cl (F_X7_tiedAt x0 x2 h2) fun r4 h5 =>
  onn r1 (
  some ((0 : Int32), h5)) fun n8 =>
  onn r4 (
  some ((0 : Int32), h5)) fun n10 =>
  if (some n8) = (some n10) then
  some ((0 : Int32), h5)
  else
  if (pR h5 2 n8 3) = (pR h5 2 n10 3) then
  if ((pI h5 2 n8 2) + (pI h5 2 n10 2)) ≤ (8 : Int32) then
  cl (F_X2_moveRows n10 (0 : Int32) (some n8) h5) fun _ h15 =>
  cl (F_X2_end n10 h15) fun _ h18 =>
  some ((1 : Int32), h18)
  else
  some ((0 : Int32), h5)
  else
  some ((0 : Int32), h5)

def F_X7_part (x0 : Nat) (x1 : Int32) (x2 : Int32) (h : Hp) : Option (Int32 × Hp) :=
  cl (F_X7_tiedAt x0 x1 h) fun r1 h2 =>
  onn r1 (
  some ((-1 : Int32), h2)) fun n5 =>
  if x2 < (1 : Int32) then
  some ((-1 : Int32), h2)
  else
  if (pI h2 2 n5 2) ≤ x2 then
  some ((-1 : Int32), h2)
  else
  if (pI h2 7 x0 5) < (60 : Int32) then
  cl (F_X7_newRaft x0 (pR h2 2 n5 3) h2) fun r9 h10 =>
  cl (F_X2_moveRows n5 ((pI h10 2 n5 2) - x2) r9 h10) fun _ h13 =>
  nn r9 fun n15 =>
  some ((pI h13 2 n15 0), h13)
  else
  some ((-1 : Int32), h2)

def F_X7_unbind (x0 : Nat) (x1 : Int32) (h : Hp) : Option (Int32 × Hp) :=
  cl (F_X7_tiedAt x0 x1 h) fun r1 h2 =>
  onn r1 (
  some ((0 : Int32), h2)) fun n5 =>
  cl (F_X2_scatter n5 h2) fun _ h7 =>
  some ((1 : Int32), h7)

def F_X7_crew (x0 : Nat) (x1 : Int32) (h : Hp) : Option (Int32 × Hp) :=
  cl (F_X7_stationAt x0 x1 h) fun r1 h2 =>
  onn r1 (
  some ((-1 : Int32), h2)) fun n5 =>
  if (pI h2 7 x0 7) < (10 : Int32) then
  lt (wN h2 0 0) fun h7 =>
  cl (F_X0_init (pC h2 0) (pI h7 7 x0 7) (some n5) h7) fun _ h10 =>
  nn (pR h10 7 x0 6) fun n12 =>
  ck (inb (pI h10 7 x0 7) (pL h10 22 n12)) <|
  lt (wR h10 22 n12 ((pI h10 7 x0 7)).toNatClampNeg (some (pC h2 0))) fun h15 =>
  lt (wI h15 7 x0 7 ((pI h15 7 x0 7) + (1 : Int32))) fun h17 =>
  some ((pI h17 0 (pC h2 0) 0), h17)
  else
  some ((-1 : Int32), h2)

def F_X7_crewAt (x0 : Nat) (x1 : Int32) (h : Hp) : Option (Option Nat × Hp) :=
  cl (F_X7_within x1 (0 : Int32) ((pI h 7 x0 7) - (1 : Int32)) h) fun r1 h2 =>
  if r1 = 0 then
  some (none, h2)
  else
  nn (pR h2 7 x0 6) fun n5 =>
  ck (inb x1 (pL h2 22 n5)) <|
  some ((pR h2 22 n5 (x1).toNatClampNeg), h2)

def F_X7_ready (x0 : Nat) (x1 : Int32) (x2 : Int32) (h : Hp) : Option (Int32 × Hp) :=
  cl (F_X7_tiedAt x0 x1 h) fun r1 h2 =>
  cl (F_X7_crewAt x0 x2 h2) fun r4 h5 =>
  onn r1 (
  some ((0 : Int32), h5)) fun n8 =>
  onn r4 (
  some ((0 : Int32), h5)) fun n10 =>
  onn (pR h5 2 n8 3) (
  some ((0 : Int32), h5)) fun n12 =>
  onn (pR h5 4 n12 1) (
  some ((0 : Int32), h5)) fun n14 =>
  if (pR h5 0 n10 2) = (some n12) then
  cl (F_X0_rests n10 (pI h5 7 x0 14) h5) fun r16 h17 =>
  if r16 = 0 then
  cl (F_X0_board n10 (some n8) h17) fun _ h21 =>
  some ((1 : Int32), h21)
  else
  some ((0 : Int32), h17)
  else
  some ((0 : Int32), h5)

def F_X7_tie (x0 : Nat) (x1 : Int32) (h : Hp) : Option (Int32 × Hp) :=
  cl (F_X7_raftAt x0 x1 h) fun r1 h2 =>
  onn r1 (
  some ((0 : Int32), h2)) fun n5 =>
  cl (F_X2_state n5 h2) fun r6 h7 =>
  if r6 = (1 : Int32) then
  cl (F_X2_landCrew n5 h7) fun r10 h11 =>
  some ((1 : Int32), h11)
  else
  some ((0 : Int32), h7)

def F_X7_walk (x0 : Nat) (x1 : Int32) (h : Hp) : Option (Int32 × Hp) :=
  cl (F_X7_crewAt x0 x1 h) fun r1 h2 =>
  onn r1 (
  some ((-1 : Int32), h2)) fun n5 =>
  onn (pR h2 0 n5 2) (
  some ((-1 : Int32), h2)) fun n7 =>
  if (some n7) = (pR h2 0 n5 1) then
  some ((-1 : Int32), h2)
  else
  nn (pR h2 0 n5 1) fun n9 =>
  cl (F_X4_hoursDownTo n9 (some n7) h2) fun r11 h12 =>
  if r11 = (-1 : Int32) then
  some ((-1 : Int32), h12)
  else
  lt (wR h12 0 n5 2 none) fun h15 =>
  lt (wI h15 0 n5 4 ((pI h15 7 x0 14) + ((2 : Int32) * r11))) fun h17 =>
  some ((pI h17 0 n5 4), h17)

def F_X7_rightOf (x0 : Nat) (x1 : Option Nat) (h : Hp) : Option (Int32 × Hp) :=
  nn x1 fun n1 =>
  cl (F_X2_firstTrunk n1 h) fun r3 h4 =>
  onn r3 (
  some ((9 : Int32), h4)) fun n7 =>
  nn (pR h4 7 x0 11) fun n8 =>
  ck (inb (pI h4 6 n7 2) (pL h4 23 n8)) <|
  some ((pI h4 23 n8 ((pI h4 6 n7 2)).toNatClampNeg), h4)

def F_X7_goesAhead (x0 : Nat) (x1 : Option Nat) (x2 : Option Nat) (h : Hp) : Option (Int32 × Hp) :=
  cl (F_X7_rightOf x0 x1 h) fun r1 h2 =>
  cl (F_X7_rightOf x0 x2 h2) fun r4 h5 =>
  if (r1 - r4) = 0 then
  nn x1 fun n8 =>
  cl (F_X2_trunkCount n8 h5) fun r10 h11 =>
  nn x2 fun n13 =>
  cl (F_X2_trunkCount n13 h11) fun r15 h16 =>
  if (r10 - r15) = 0 then
  if (pI h16 2 n13 0) ≤ (pI h16 2 n8 0) then
  some ((0 : Int32), h16)
  else
  some ((1 : Int32), h16)
  else
  if (r10 - r15) ≤ 0 then
  some ((0 : Int32), h16)
  else
  some ((1 : Int32), h16)
  else
  if 0 ≤ (r1 - r4) then
  some ((0 : Int32), h5)
  else
  some ((1 : Int32), h5)

def L_X7_nextAt_4 {β : Type} (v0 : Nat) (v1 : Option Nat) (κ72 : Option Nat → Hp → Option β) : Nat → Option Nat → Int32 → Hp → Option β
  | 0, _, _, _ => none
  | f + 1, v2, v3, h =>
    if (pI h 7 v0 7) ≤ v3 then
    κ72 v2 h
    else
    nn (pR h 7 v0 6) fun n2 =>
    ck (inb v3 (pL h 22 n2)) <|
    nn (pR h 22 n2 (v3).toNatClampNeg) fun n5 =>
    onn (pR h 0 n5 3) (
    L_X7_nextAt_4 v0 v1 κ72 f v2 (v3 + (1 : Int32)) h) fun n8 =>
    cl (F_X2_fits n8 v1 h) fun r9 h10 =>
    if r9 = 0 then
    L_X7_nextAt_4 v0 v1 κ72 f v2 (v3 + (1 : Int32)) h10
    else
    cl (F_X2_need n8 h10) fun r13 h14 =>
    nn v1 fun n16 =>
    if (pI h14 4 n16 7) < r13 then
    L_X7_nextAt_4 v0 v1 κ72 f v2 (v3 + (1 : Int32)) h14
    else
    onn v2 (
    L_X7_nextAt_4 v0 v1 κ72 f (some n8) (v3 + (1 : Int32)) h14) fun n20 =>
    cl (F_X7_goesAhead v0 (some n8) (some n20) h14) fun r21 h22 =>
    if r21 = 0 then
    L_X7_nextAt_4 v0 v1 κ72 f (some n20) (v3 + (1 : Int32)) h22
    else
    L_X7_nextAt_4 v0 v1 κ72 f (some n8) (v3 + (1 : Int32)) h22

def F_X7_nextAt (x0 : Nat) (x1 : Option Nat) (h : Hp) : Option (Option Nat × Hp) :=
  L_X7_nextAt_4 x0 x1 (fun k25 h26 =>
  some (k25, h26)) FU none (0 : Int32) h

def F_X7_today (x0 : Nat) (h : Hp) : Option (Int32 × Hp) :=
  some (((pI h 7 x0 14) / (24 : Int32)), h)

def L_X7_takeTolls_34 {β : Type} (v0 : Nat) (v1 : Nat) (v2 : Int32) (v3 : Int32) (v4 : Option Nat) (κ80 : Hp → Option β) : Nat → Int32 → Hp → Option β
  | 0, _, _ => none
  | f + 1, v5, h =>
    nn v4 fun n15 =>
    if (pI h 3 n15 1) ≤ v5 then
    κ80 h
    else
    nn (pR h 3 n15 0) fun n18 =>
    ck (inb v5 (pL h 15 n18)) <|
    nn (pR h 15 n18 (v5).toNatClampNeg) fun n21 =>
    nn (pR h 7 v0 12) fun n23 =>
    ck (inb (pI h 6 n21 2) (pL h 24 n23)) <|
    ck (inb (pI h 6 n21 2) (pL h 24 n23)) <|
    lt (wI h 24 n23 ((pI h 6 n21 2)).toNatClampNeg ((pI h 24 n23 ((pI h 6 n21 2)).toNatClampNeg) - v2)) fun h27 =>
    lt (wI h27 7 v0 15 ((pI h27 7 v0 15) + v2)) fun h29 =>
    L_X7_takeTolls_34 v0 v1 v2 v3 v4 κ80 f (v5 + (1 : Int32)) h29

def L_X7_takeTolls_15 {β : Type} (v0 : Nat) (v1 : Option Nat) (v2 : Int32) (κ86 : Hp → Option β) : Nat → Int32 → Hp → Option β
  | 0, _, _ => none
  | f + 1, v3, h =>
    nn v1 fun n9 =>
    if (pI h 2 n9 2) ≤ v3 then
    κ86 h
    else
    nn (pR h 2 n9 1) fun n12 =>
    ck (inb v3 (pL h 14 n12)) <|
    L_X7_takeTolls_34 v0 n9 v2 v3 (pR h 14 n12 (v3).toNatClampNeg) (fun h31 =>
    L_X7_takeTolls_15 v0 v1 v2 κ86 f (v3 + (1 : Int32)) h31) FU (0 : Int32) h

def F_X7_takeTolls (x0 : Nat) (x1 : Option Nat) (h : Hp) : Option (Unit × Hp) :=
  cl (F_X7_today x0 h) fun r1 h2 =>
  nn (pR h 7 x0 9) fun n4 =>
  cl (F_X5_inForce n4 (0 : Int32) r1 h2) fun r6 h7 =>
  L_X7_takeTolls_15 x0 x1 r6 (fun h32 =>
  some ((), h32)) FU (0 : Int32) h7

def F_X7_openWeir (x0 : Nat) (x1 : Option Nat) (h : Hp) : Option (Unit × Hp) :=
  nn x1 fun n1 =>
  cl (F_X4_storms n1 (pI h 7 x0 14) h) fun r3 h4 =>
  if r3 = 0 then
  cl (F_X7_nextAt x0 (some n1) h4) fun r7 h8 =>
  onn r7 (
  some ((), h8)) fun n11 =>
  cl (F_X7_takeTolls x0 (some n11) h8) fun _ h13 =>
  cl (F_X2_need n11 h13) fun r15 h16 =>
  lt (wI h16 4 n1 7 ((pI h13 4 n1 7) - r15)) fun h18 =>
  cl (F_X2_goDown n11 (some n1) (pI h18 7 x0 14) h18) fun _ h21 =>
  some ((), h21)
  else
  some ((), h4)

def L_X7_passHour_2 {β : Type} (v0 : Nat) (κ29 : Hp → Option β) : Nat → Int32 → Hp → Option β
  | 0, _, _ => none
  | f + 1, v1, h =>
    if (pI h 7 v0 7) ≤ v1 then
    κ29 h
    else
    nn (pR h 7 v0 6) fun n2 =>
    ck (inb v1 (pL h 22 n2)) <|
    nn (pR h 22 n2 (v1).toNatClampNeg) fun n5 =>
    cl (F_X0_comeBy n5 (pI h 7 v0 14) h) fun _ h8 =>
    L_X7_passHour_2 v0 κ29 f (v1 + (1 : Int32)) h8

def L_X7_passHour_31 {β : Type} (v0 : Nat) (κ55 : Hp → Option β) : Nat → Int32 → Hp → Option β
  | 0, _, _ => none
  | f + 1, v1, h =>
    if (pI h 7 v0 1) ≤ v1 then
    κ55 h
    else
    nn (pR h 7 v0 0) fun n12 =>
    ck (inb v1 (pL h 19 n12)) <|
    cl (F_X7_openWeir v0 (pR h 19 n12 (v1).toNatClampNeg) h) fun _ h16 =>
    L_X7_passHour_31 v0 κ55 f (v1 + (1 : Int32)) h16

def L_X7_passHour_57 {β : Type} (v0 : Nat) (κ80 : Hp → Option β) : Nat → Int32 → Hp → Option β
  | 0, _, _ => none
  | f + 1, v1, h =>
    if (pI h 7 v0 1) ≤ v1 then
    κ80 h
    else
    nn (pR h 7 v0 0) fun n20 =>
    ck (inb v1 (pL h 19 n20)) <|
    nn (pR h 19 n20 (v1).toNatClampNeg) fun n23 =>
    cl (F_X4_fillPond n23 h) fun _ h26 =>
    L_X7_passHour_57 v0 κ80 f (v1 + (1 : Int32)) h26

def F_X7_passHour (x0 : Nat) (h : Hp) : Option (Unit × Hp) :=
  L_X7_passHour_2 x0 (fun h10 =>
  L_X7_passHour_31 x0 (fun h18 =>
  L_X7_passHour_57 x0 (fun h28 =>
  lt (wI h28 7 x0 14 ((pI h28 7 x0 14) + (1 : Int32))) fun h29 =>
  some ((), h29)) FU (1 : Int32) h18) FU (1 : Int32) h10) FU (0 : Int32) h

def L_X7_go_15 {β : Type} (v0 : Nat) (v1 : Int32) (κ40 : Hp → Option β) : Nat → Int32 → Hp → Option β
  | 0, _, _ => none
  | f + 1, v2, h =>
    if v1 ≤ v2 then
    κ40 h
    else
    if (20000 : Int32) ≤ (pI h 7 v0 14) then
    κ40 h
    else
    cl (F_X7_passHour v0 h) fun _ h8 =>
    L_X7_go_15 v0 v1 κ40 f (v2 + (1 : Int32)) h8

def F_X7_go (x0 : Nat) (x1 : Int32) (h : Hp) : Option (Int32 × Hp) :=
  cl (F_X7_within x1 (0 : Int32) (500 : Int32) h) fun r1 h2 =>
  if r1 = 0 then
  some ((-1 : Int32), h2)
  else
  L_X7_go_15 x0 x1 (fun h10 =>
  some ((pI h10 7 x0 14), h10)) FU (0 : Int32) h2

def F_X7_storm (x0 : Nat) (x1 : Int32) (x2 : Int32) (x3 : Int32) (h : Hp) : Option (Int32 × Hp) :=
  cl (F_X7_stationAt x0 x1 h) fun r1 h2 =>
  onn r1 (
  some ((0 : Int32), h2)) fun n5 =>
  if x2 < (pI h2 7 x0 14) then
  some ((0 : Int32), h2)
  else
  if x2 < x3 then
  lt (wI h2 4 n5 8 x2) fun h8 =>
  lt (wI h8 4 n5 9 x3) fun h10 =>
  some ((1 : Int32), h10)
  else
  some ((0 : Int32), h2)

def F_X7_breaks (x0 : Nat) (x1 : Int32) (x2 : Int32) (h : Hp) : Option (Int32 × Hp) :=
  cl (F_X7_raftAt x0 x1 h) fun r1 h2 =>
  onn r1 (
  some ((-1 : Int32), h2)) fun n5 =>
  cl (F_X2_state n5 h2) fun r6 h7 =>
  if r6 = (2 : Int32) then
  if x2 = 0 then
  cl (F_X2_loseTrunks n5 (0 : Int32) h7) fun r11 h12 =>
  lt (wI h12 7 x0 17 ((pI h12 7 x0 17) + r11)) fun h14 =>
  cl (F_X2_landCrew n5 h14) fun r16 h17 =>
  onn r16 (
  cl (F_X2_scatter n5 h17) fun _ h22 =>
  some (r11, h22)) fun n20 =>
  lt (wI h17 0 n20 5 (pI h17 7 x0 14)) fun h24 =>
  cl (F_X2_scatter n5 h24) fun _ h27 =>
  some (r11, h27)
  else
  cl (F_X2_loseTrunks n5 (1 : Int32) h7) fun r29 h30 =>
  lt (wI h30 7 x0 17 ((pI h30 7 x0 17) + r29)) fun h32 =>
  cl (F_X2_landCrew n5 h32) fun r34 h35 =>
  onn r34 (
  cl (F_X2_scatter n5 h35) fun _ h40 =>
  some (r29, h40)) fun n38 =>
  lt (wI h35 0 n38 5 (pI h35 7 x0 14)) fun h42 =>
  cl (F_X2_scatter n5 h42) fun _ h45 =>
  some (r29, h45)
  else
  some ((-1 : Int32), h7)

def F_X7_right (x0 : Nat) (x1 : Int32) (x2 : Int32) (h : Hp) : Option (Int32 × Hp) :=
  cl (F_X7_isOwner x1 h) fun r1 h2 =>
  if r1 = 0 then
  some ((0 : Int32), h2)
  else
  cl (F_X7_within x2 (0 : Int32) (9 : Int32) h2) fun r5 h6 =>
  if r5 = 0 then
  some ((0 : Int32), h6)
  else
  nn (pR h6 7 x0 11) fun n9 =>
  ck (inb x1 (pL h6 23 n9)) <|
  lt (wI h6 23 n9 (x1).toNatClampNeg x2) fun h12 =>
  some ((1 : Int32), h12)

def F_X7_toll (x0 : Nat) (x1 : Int32) (x2 : Int32) (h : Hp) : Option (Int32 × Hp) :=
  cl (F_X7_within x1 (0 : Int32) (1000 : Int32) h) fun r1 h2 =>
  if r1 = 0 then
  some ((0 : Int32), h2)
  else
  cl (F_X7_within x2 (0 : Int32) (100 : Int32) h2) fun r5 h6 =>
  if r5 = 0 then
  some ((0 : Int32), h6)
  else
  nn (pR h6 7 x0 9) fun n9 =>
  cl (F_X5_tell n9 (0 : Int32) x1 x2 h6) fun r11 h12 =>
  if r11 = 0 then
  some ((0 : Int32), h12)
  else
  some ((1 : Int32), h12)

def F_X7_marketOf (x0 : Option Nat) (x1 : Int32) (h : Hp) : Option (Int32 × Hp) :=
  nn x0 fun n1 =>
  some ((((pI h 4 n1 0) * (4 : Int32)) + x1), h)

def F_X7_price (x0 : Nat) (x1 : Int32) (x2 : Int32) (x3 : Int32) (x4 : Int32) (h : Hp) : Option (Int32 × Hp) :=
  cl (F_X7_stationAt x0 x1 h) fun r1 h2 =>
  onn r1 (
  some ((0 : Int32), h2)) fun n5 =>
  if (pI h2 4 n5 6) = 0 then
  some ((0 : Int32), h2)
  else
  cl (F_X7_within x2 (0 : Int32) (3 : Int32) h2) fun r7 h8 =>
  if r7 = 0 then
  some ((0 : Int32), h8)
  else
  cl (F_X7_within x3 (0 : Int32) (1000 : Int32) h8) fun r11 h12 =>
  if r11 = 0 then
  some ((0 : Int32), h12)
  else
  cl (F_X7_within x4 (0 : Int32) (1000 : Int32) h12) fun r15 h16 =>
  if r15 = 0 then
  some ((0 : Int32), h16)
  else
  cl (F_X7_marketOf (some n5) x2 h16) fun r19 h20 =>
  nn (pR h16 7 x0 10) fun n22 =>
  cl (F_X5_tell n22 r19 x3 x4 h20) fun r24 h25 =>
  if r24 = 0 then
  some ((0 : Int32), h25)
  else
  some ((1 : Int32), h25)

def F_X7_sell (x0 : Nat) (x1 : Int32) (h : Hp) : Option (Int32 × Hp) :=
  cl (F_X7_trunkAt x0 x1 h) fun r1 h2 =>
  onn r1 (
  some ((-1 : Int32), h2)) fun n5 =>
  onn (pR h2 6 n5 5) (
  some ((-1 : Int32), h2)) fun n7 =>
  if (pI h2 4 n7 6) = 0 then
  some ((-1 : Int32), h2)
  else
  nn (pR h2 7 x0 8) fun n9 =>
  cl (F_X3_has n9 (some n5) h2) fun r11 h12 =>
  if r11 = 0 then
  cl (F_X7_marketOf (pR h12 6 n5 5) (pI h12 6 n5 3) h12) fun r15 h16 =>
  cl (F_X7_today x0 h16) fun r18 h19 =>
  nn (pR h12 7 x0 10) fun n21 =>
  cl (F_X5_inForce n21 r15 r18 h19) fun r23 h24 =>
  lt (wR h24 6 n5 5 none) fun h26 =>
  lt (wI h26 6 n5 7 (r23 * (pI h24 6 n5 4))) fun h28 =>
  nn (pR h28 7 x0 12) fun n30 =>
  ck (inb (pI h28 6 n5 2) (pL h28 24 n30)) <|
  ck (inb (pI h28 6 n5 2) (pL h28 24 n30)) <|
  lt (wI h28 24 n30 ((pI h28 6 n5 2)).toNatClampNeg ((pI h28 24 n30 ((pI h28 6 n5 2)).toNatClampNeg) + (r23 * (pI h24 6 n5 4)))) fun h34 =>
  lt (wI h34 7 x0 16 ((pI h34 7 x0 16) + (1 : Int32))) fun h36 =>
  some ((r23 * (pI h24 6 n5 4)), h36)
  else
  some ((-1 : Int32), h12)

def F_X7_advance (x0 : Nat) (x1 : Int32) (x2 : Int32) (h : Hp) : Option (Int32 × Hp) :=
  cl (F_X7_isOwner x1 h) fun r1 h2 =>
  if r1 = 0 then
  some ((-2147483648 : Int32), h2)
  else
  cl (F_X7_within x2 (1 : Int32) (100000 : Int32) h2) fun r5 h6 =>
  if r5 = 0 then
  some ((-2147483648 : Int32), h6)
  else
  nn (pR h6 7 x0 12) fun n9 =>
  ck (inb x1 (pL h6 24 n9)) <|
  ck (inb x1 (pL h6 24 n9)) <|
  lt (wI h6 24 n9 (x1).toNatClampNeg ((pI h6 24 n9 (x1).toNatClampNeg) - x2)) fun h13 =>
  nn (pR h13 7 x0 12) fun n15 =>
  ck (inb x1 (pL h13 24 n15)) <|
  some ((pI h13 24 n15 (x1).toNatClampNeg), h13)

def F_X7_balance (x0 : Nat) (x1 : Int32) (h : Hp) : Option (Int32 × Hp) :=
  cl (F_X7_isOwner x1 h) fun r1 h2 =>
  if r1 = 0 then
  some ((0 : Int32), h2)
  else
  nn (pR h2 7 x0 12) fun n5 =>
  ck (inb x1 (pL h2 24 n5)) <|
  some ((pI h2 24 n5 (x1).toNatClampNeg), h2)

def L_X7_makePlan_27 {β : Type} (v0 : Nat) (v2 : Nat) (κ83 : Hp → Option β) : Nat → Int32 → Hp → Option β
  | 0, _, _ => none
  | f + 1, v3, h =>
    if (pI h 7 v0 5) ≤ v3 then
    κ83 h
    else
    nn (pR h 7 v0 4) fun n14 =>
    ck (inb v3 (pL h 21 n14)) <|
    nn (pR h 21 n14 (v3).toNatClampNeg) fun n17 =>
    cl (F_X2_fits n17 (some v2) h) fun r19 h20 =>
    if r19 = 0 then
    L_X7_makePlan_27 v0 v2 κ83 f (v3 + (1 : Int32)) h20
    else
    nn (pR h20 7 v0 4) fun n23 =>
    ck (inb v3 (pL h20 21 n23)) <|
    nn (pR h20 21 n23 (v3).toNatClampNeg) fun n26 =>
    cl (F_X2_need n26 h20) fun r28 h29 =>
    if (pI h29 4 v2 5) < r28 then
    L_X7_makePlan_27 v0 v2 κ83 f (v3 + (1 : Int32)) h29
    else
    nn (pR h29 7 v0 4) fun n32 =>
    ck (inb v3 (pL h29 21 n32)) <|
    nn (pR h29 7 v0 13) fun n35 =>
    cl (F_X1_admit n35 (pR h29 21 n32 (v3).toNatClampNeg) h29) fun _ h38 =>
    L_X7_makePlan_27 v0 v2 κ83 f (v3 + (1 : Int32)) h38

def F_X7_makePlan (x0 : Nat) (x1 : Int32) (h : Hp) : Option (Unit × Hp) :=
  nn (pR h 7 x0 13) fun n1 =>
  cl (F_X1_clear n1 h) fun _ h4 =>
  cl (F_X7_stationAt x0 x1 h4) fun r6 h7 =>
  onn r6 (
  some ((), h7)) fun n10 =>
  onn (pR h7 4 n10 1) (
  some ((), h7)) fun n12 =>
  L_X7_makePlan_27 x0 n10 (fun h40 =>
  nn (pR h40 7 x0 13) fun n41 =>
  cl (F_X1_work n41 (some n10) (pI h40 7 x0 14) h40) fun _ h44 =>
  some ((), h44)) FU (0 : Int32) h7

def F_X7_best (x0 : Nat) (x1 : Int32) (x2 : Int32) (h : Hp) : Option (Int32 × Hp) :=
  cl (F_X7_makePlan x0 x1 h) fun _ h2 =>
  nn (pR h2 7 x0 13) fun n4 =>
  cl (F_X1_raftIn n4 x2 h2) fun r6 h7 =>
  some (r6, h7)

def F_X7_passes (x0 : Nat) (x1 : Int32) (x2 : Int32) (h : Hp) : Option (Int32 × Hp) :=
  cl (F_X7_makePlan x0 x1 h) fun _ h2 =>
  nn (pR h2 7 x0 13) fun n4 =>
  cl (F_X1_hourOf n4 x2 h2) fun r6 h7 =>
  some (r6, h7)

def F_X7_numberOf (x0 : Option Nat) (h : Hp) : Option (Int32 × Hp) :=
  onn x0 (
  some ((-1 : Int32), h)) fun n2 =>
  some ((pI h 4 n2 0), h)

def F_X7_told (x0 : Nat) (x1 : Int32) (x2 : Int32) (h : Hp) : Option (Int32 × Hp) :=
  cl (F_X7_trunkAt x0 x1 h) fun r1 h2 =>
  onn r1 (
  some ((-1 : Int32), h2)) fun n5 =>
  if x2 = (0 : Int32) then
  some ((pI h2 6 n5 1), h2)
  else
  if x2 = (1 : Int32) then
  some ((pI h2 6 n5 2), h2)
  else
  if x2 = (2 : Int32) then
  some ((pI h2 6 n5 3), h2)
  else
  if x2 = (3 : Int32) then
  some ((pI h2 6 n5 4), h2)
  else
  if x2 = (4 : Int32) then
  cl (F_X6_state n5 h2) fun r19 h20 =>
  some (r19, h20)
  else
  if x2 = (5 : Int32) then
  cl (F_X7_numberOf (pR h2 6 n5 5) h2) fun r16 h17 =>
  some (r16, h17)
  else
  if x2 = (6 : Int32) then
  onn (pR h2 6 n5 6) (
  some ((-1 : Int32), h2)) fun n15 =>
  some ((pI h2 2 n15 0), h2)
  else
  if x2 = (7 : Int32) then
  some ((pI h2 6 n5 7), h2)
  else
  some ((-1 : Int32), h2)

def F_X7_raft (x0 : Nat) (x1 : Int32) (x2 : Int32) (h : Hp) : Option (Int32 × Hp) :=
  cl (F_X7_raftAt x0 x1 h) fun r1 h2 =>
  onn r1 (
  some ((-1 : Int32), h2)) fun n5 =>
  if x2 = (0 : Int32) then
  cl (F_X2_state n5 h2) fun r24 h25 =>
  some (r24, h25)
  else
  if x2 = (1 : Int32) then
  cl (F_X7_numberOf (pR h2 2 n5 3) h2) fun r21 h22 =>
  some (r21, h22)
  else
  if x2 = (2 : Int32) then
  some ((pI h2 2 n5 2), h2)
  else
  if x2 = (3 : Int32) then
  cl (F_X2_trunkCount n5 h2) fun r18 h19 =>
  some (r18, h19)
  else
  if x2 = (4 : Int32) then
  cl (F_X2_width n5 h2) fun r15 h16 =>
  some (r15, h16)
  else
  if x2 = (5 : Int32) then
  onn (pR h2 2 n5 4) (
  some ((-1 : Int32), h2)) fun n14 =>
  some ((pI h2 0 n14 0), h2)
  else
  if x2 = (6 : Int32) then
  some ((pI h2 2 n5 5), h2)
  else
  some ((-1 : Int32), h2)

def F_X7_crewed (x0 : Nat) (x1 : Int32) (x2 : Int32) (h : Hp) : Option (Int32 × Hp) :=
  cl (F_X7_crewAt x0 x1 h) fun r1 h2 =>
  onn r1 (
  some ((-1 : Int32), h2)) fun n5 =>
  if x2 = (0 : Int32) then
  cl (F_X0_state n5 h2) fun r17 h18 =>
  some (r17, h18)
  else
  if x2 = (1 : Int32) then
  cl (F_X7_numberOf (pR h2 0 n5 2) h2) fun r14 h15 =>
  some (r14, h15)
  else
  if x2 = (2 : Int32) then
  some ((pI h2 0 n5 4), h2)
  else
  if x2 = (3 : Int32) then
  cl (F_X0_rests n5 (pI h2 7 x0 14) h2) fun r10 h11 =>
  if r10 = 0 then
  some ((0 : Int32), h11)
  else
  some ((1 : Int32), h11)
  else
  some ((-1 : Int32), h2)

def F_X7_pondOf (x0 : Nat) (x1 : Int32) (h : Hp) : Option (Int32 × Hp) :=
  cl (F_X7_stationAt x0 x1 h) fun r1 h2 =>
  onn r1 (
  some ((-1 : Int32), h2)) fun n5 =>
  some ((pI h2 4 n5 7), h2)

def F_X7_count (x0 : Nat) (x1 : Int32) (h : Hp) : Option (Int32 × Hp) :=
  if x1 = (0 : Int32) then
  some ((pI h 7 x0 14), h)
  else
  if x1 = (1 : Int32) then
  some ((pI h 7 x0 1), h)
  else
  if x1 = (2 : Int32) then
  some ((pI h 7 x0 3), h)
  else
  if x1 = (3 : Int32) then
  some ((pI h 7 x0 5), h)
  else
  if x1 = (4 : Int32) then
  some ((pI h 7 x0 7), h)
  else
  if x1 = (5 : Int32) then
  some ((pI h 7 x0 15), h)
  else
  if x1 = (6 : Int32) then
  some ((pI h 7 x0 16), h)
  else
  if x1 = (7 : Int32) then
  some ((pI h 7 x0 17), h)
  else
  if (100 : Int32) ≤ x1 then
  cl (F_X7_pondOf x0 (x1 - (100 : Int32)) h) fun r10 h11 =>
  some (r10, h11)
  else
  some ((-1 : Int32), h)
