def L_X8_init_345 {β : Type} (v0 : Nat) (κ364 : Hp → Option β) : Nat → Int32 → Hp → Option β
  | 0, _, _ => none
  | f + 1, v1, h =>
    if (8 : Int32) ≤ v1 then
    κ364 h
    else
    nn (pR h 8 v0 36) fun n174 =>
    ck (inb v1 (pL h 55 n174)) <|
    lt (wI h 55 n174 (v1).toNatClampNeg (5 : Int32)) fun h177 =>
    L_X8_init_345 v0 κ364 f (v1 + (1 : Int32)) h177

def F_X8_init (x0 : Nat) (h : Hp) : Option (Unit × Hp) :=
  lt (wN h 25 ((12 : Int32)).toNatClampNeg) fun h1 =>
  lt (wR h1 8 x0 2 (some (pC h 25))) fun h3 =>
  lt (wN h3 26 ((12 : Int32)).toNatClampNeg) fun h5 =>
  lt (wR h5 8 x0 3 (some (pC h3 26))) fun h7 =>
  lt (wN h7 27 ((12 : Int32)).toNatClampNeg) fun h9 =>
  lt (wR h9 8 x0 4 (some (pC h7 27))) fun h11 =>
  lt (wN h11 28 ((12 : Int32)).toNatClampNeg) fun h13 =>
  lt (wR h13 8 x0 5 (some (pC h11 28))) fun h15 =>
  lt (wN h15 29 ((12 : Int32)).toNatClampNeg) fun h17 =>
  lt (wR h17 8 x0 6 (some (pC h15 29))) fun h19 =>
  lt (wN h19 30 ((12 : Int32)).toNatClampNeg) fun h21 =>
  lt (wR h21 8 x0 7 (some (pC h19 30))) fun h23 =>
  lt (wN h23 31 ((12 : Int32)).toNatClampNeg) fun h25 =>
  lt (wR h25 8 x0 8 (some (pC h23 31))) fun h27 =>
  lt (wN h27 32 ((12 : Int32)).toNatClampNeg) fun h29 =>
  lt (wR h29 8 x0 9 (some (pC h27 32))) fun h31 =>
  lt (wN h31 33 ((12 : Int32)).toNatClampNeg) fun h33 =>
  lt (wR h33 8 x0 10 (some (pC h31 33))) fun h35 =>
  lt (wN h35 34 ((120 : Int32)).toNatClampNeg) fun h37 =>
  lt (wR h37 8 x0 12 (some (pC h35 34))) fun h39 =>
  lt (wN h39 35 ((120 : Int32)).toNatClampNeg) fun h41 =>
  lt (wR h41 8 x0 13 (some (pC h39 35))) fun h43 =>
  lt (wN h43 36 ((120 : Int32)).toNatClampNeg) fun h45 =>
  lt (wR h45 8 x0 14 (some (pC h43 36))) fun h47 =>
  lt (wN h47 37 ((120 : Int32)).toNatClampNeg) fun h49 =>
  lt (wR h49 8 x0 15 (some (pC h47 37))) fun h51 =>
  lt (wN h51 38 ((120 : Int32)).toNatClampNeg) fun h53 =>
  lt (wR h53 8 x0 16 (some (pC h51 38))) fun h55 =>
  lt (wN h55 39 ((120 : Int32)).toNatClampNeg) fun h57 =>
  lt (wR h57 8 x0 17 (some (pC h55 39))) fun h59 =>
  lt (wN h59 40 ((120 : Int32)).toNatClampNeg) fun h61 =>
  lt (wR h61 8 x0 18 (some (pC h59 40))) fun h63 =>
  lt (wN h63 41 ((120 : Int32)).toNatClampNeg) fun h65 =>
  lt (wR h65 8 x0 19 (some (pC h63 41))) fun h67 =>
  lt (wN h67 42 ((120 : Int32)).toNatClampNeg) fun h69 =>
  lt (wR h69 8 x0 20 (some (pC h67 42))) fun h71 =>
  lt (wN h71 43 ((120 : Int32)).toNatClampNeg) fun h73 =>
  lt (wR h73 8 x0 21 (some (pC h71 43))) fun h75 =>
  lt (wN h75 44 ((9 : Int32)).toNatClampNeg) fun h77 =>
  lt (wR h77 8 x0 23 (some (pC h75 44))) fun h79 =>
  lt (wN h79 45 ((60 : Int32)).toNatClampNeg) fun h81 =>
  lt (wR h81 8 x0 25 (some (pC h79 45))) fun h83 =>
  lt (wN h83 46 ((60 : Int32)).toNatClampNeg) fun h85 =>
  lt (wR h85 8 x0 26 (some (pC h83 46))) fun h87 =>
  lt (wN h87 47 ((60 : Int32)).toNatClampNeg) fun h89 =>
  lt (wR h89 8 x0 27 (some (pC h87 47))) fun h91 =>
  lt (wN h91 48 ((60 : Int32)).toNatClampNeg) fun h93 =>
  lt (wR h93 8 x0 28 (some (pC h91 48))) fun h95 =>
  lt (wN h95 49 ((60 : Int32)).toNatClampNeg) fun h97 =>
  lt (wR h97 8 x0 29 (some (pC h95 49))) fun h99 =>
  lt (wN h99 50 ((10 : Int32)).toNatClampNeg) fun h101 =>
  lt (wR h101 8 x0 31 (some (pC h99 50))) fun h103 =>
  lt (wN h103 51 ((10 : Int32)).toNatClampNeg) fun h105 =>
  lt (wR h105 8 x0 32 (some (pC h103 51))) fun h107 =>
  lt (wN h107 52 ((10 : Int32)).toNatClampNeg) fun h109 =>
  lt (wR h109 8 x0 33 (some (pC h107 52))) fun h111 =>
  lt (wN h111 53 ((10 : Int32)).toNatClampNeg) fun h113 =>
  lt (wR h113 8 x0 34 (some (pC h111 53))) fun h115 =>
  lt (wN h115 54 ((10 : Int32)).toNatClampNeg) fun h117 =>
  lt (wR h117 8 x0 35 (some (pC h115 54))) fun h119 =>
  lt (wN h119 55 ((8 : Int32)).toNatClampNeg) fun h121 =>
  lt (wR h121 8 x0 36 (some (pC h119 55))) fun h123 =>
  lt (wN h123 56 ((8 : Int32)).toNatClampNeg) fun h125 =>
  lt (wR h125 8 x0 37 (some (pC h123 56))) fun h127 =>
  lt (wN h127 57 ((30 : Int32)).toNatClampNeg) fun h129 =>
  lt (wR h129 8 x0 39 (some (pC h127 57))) fun h131 =>
  lt (wN h131 58 ((30 : Int32)).toNatClampNeg) fun h133 =>
  lt (wR h133 8 x0 40 (some (pC h131 58))) fun h135 =>
  lt (wN h135 59 ((100 : Int32)).toNatClampNeg) fun h137 =>
  lt (wR h137 8 x0 42 (some (pC h135 59))) fun h139 =>
  lt (wN h139 60 ((100 : Int32)).toNatClampNeg) fun h141 =>
  lt (wR h141 8 x0 43 (some (pC h139 60))) fun h143 =>
  lt (wN h143 61 ((100 : Int32)).toNatClampNeg) fun h145 =>
  lt (wR h145 8 x0 44 (some (pC h143 61))) fun h147 =>
  lt (wN h147 62 ((100 : Int32)).toNatClampNeg) fun h149 =>
  lt (wR h149 8 x0 45 (some (pC h147 62))) fun h151 =>
  lt (wN h151 63 ((5 : Int32)).toNatClampNeg) fun h153 =>
  lt (wR h153 8 x0 47 (some (pC h151 63))) fun h155 =>
  lt (wN h155 64 ((5 : Int32)).toNatClampNeg) fun h157 =>
  lt (wR h157 8 x0 48 (some (pC h155 64))) fun h159 =>
  lt (wN h159 65 ((5 : Int32)).toNatClampNeg) fun h161 =>
  lt (wR h161 8 x0 49 (some (pC h159 65))) fun h163 =>
  lt (wN h163 66 ((5 : Int32)).toNatClampNeg) fun h165 =>
  lt (wR h165 8 x0 50 (some (pC h163 66))) fun h167 =>
  lt (wN h167 67 ((5 : Int32)).toNatClampNeg) fun h169 =>
  lt (wR h169 8 x0 51 (some (pC h167 67))) fun h171 =>
  L_X8_init_345 x0 (fun h179 =>
  some ((), h179)) FU (0 : Int32) h171

def F_X8_in (x0 : Int32) (x1 : Int32) (x2 : Int32) (h : Hp) : Option (Int32 × Hp) :=
  if x0 < x1 then
  some ((0 : Int32), h)
  else
  if x2 < x0 then
  some ((0 : Int32), h)
  else
  some ((1 : Int32), h)

def F_X8_isStation (x0 : Nat) (x1 : Int32) (h : Hp) : Option (Int32 × Hp) :=
  cl (F_X8_in x1 (0 : Int32) ((pI h 8 x0 1) - (1 : Int32)) h) fun r1 h2 =>
  ck (isz r1) <|
  some (r1, h2)

def F_X8_isTrunk (x0 : Nat) (x1 : Int32) (h : Hp) : Option (Int32 × Hp) :=
  cl (F_X8_in x1 (0 : Int32) ((pI h 8 x0 11) - (1 : Int32)) h) fun r1 h2 =>
  ck (isz r1) <|
  some (r1, h2)

def F_X8_isRaft (x0 : Nat) (x1 : Int32) (x2 : Int32) (h : Hp) : Option (Int32 × Hp) :=
  cl (F_X8_in x1 (0 : Int32) ((pI h 8 x0 24) - (1 : Int32)) h) fun r1 h2 =>
  if r1 = 0 then
  some ((0 : Int32), h2)
  else
  nn (pR h2 8 x0 25) fun n5 =>
  ck (inb x1 (pL h2 45 n5)) <|
  if (pI h2 45 n5 (x1).toNatClampNeg) = x2 then
  some ((1 : Int32), h2)
  else
  some ((0 : Int32), h2)

def F_X8_station (x0 : Nat) (x1 : Int32) (x2 : Int32) (x3 : Int32) (x4 : Int32) (h : Hp) : Option (Int32 × Hp) :=
  if (pI h 8 x0 1) = (12 : Int32) then
  some ((-1 : Int32), h)
  else
  if (pI h 8 x0 1) ≤ 0 then
  if x4 = 0 then
  if (pI h 8 x0 1) = 0 then
  nn (pR h 8 x0 8) fun n19 =>
  ck (inb (pI h 8 x0 1) (pL h 31 n19)) <|
  lt (wI h 31 n19 ((pI h 8 x0 1)).toNatClampNeg (1 : Int32)) fun h22 =>
  lt (wI h22 8 x0 1 ((pI h22 8 x0 1) + (1 : Int32))) fun h24 =>
  some (((pI h24 8 x0 1) - (1 : Int32)), h24)
  else
  nn (pR h 8 x0 8) fun n12 =>
  ck (inb (pI h 8 x0 1) (pL h 31 n12)) <|
  lt (wI h 31 n12 ((pI h 8 x0 1)).toNatClampNeg (0 : Int32)) fun h15 =>
  lt (wI h15 8 x0 1 ((pI h15 8 x0 1) + (1 : Int32))) fun h17 =>
  some (((pI h17 8 x0 1) - (1 : Int32)), h17)
  else
  nn (pR h 8 x0 8) fun n4 =>
  ck (inb (pI h 8 x0 1) (pL h 31 n4)) <|
  lt (wI h 31 n4 ((pI h 8 x0 1)).toNatClampNeg (1 : Int32)) fun h7 =>
  lt (wI h7 8 x0 1 ((pI h7 8 x0 1) + (1 : Int32))) fun h9 =>
  some (((pI h9 8 x0 1) - (1 : Int32)), h9)
  else
  cl (F_X8_isStation x0 x1 h) fun r26 h27 =>
  if r26 = 0 then
  some ((-1 : Int32), h27)
  else
  if x2 < 0 then
  some ((-1 : Int32), h27)
  else
  cl (F_X8_in (x2 / (100000 : Int32)) (1 : Int32) (20 : Int32) h27) fun r31 h32 =>
  if r31 = 0 then
  some ((-1 : Int32), h32)
  else
  cl (F_X8_in ((x2 / (1000 : Int32)) - (x2 / (1000 : Int32)) / (100 : Int32) * (100 : Int32)) (1 : Int32) (60 : Int32) h32) fun r35 h36 =>
  if r35 = 0 then
  some ((-1 : Int32), h36)
  else
  if (50 : Int32) < (x2 - x2 / (1000 : Int32) * (1000 : Int32)) then
  some ((-1 : Int32), h36)
  else
  cl (F_X8_in x3 (0 : Int32) (1000 : Int32) h36) fun r40 h41 =>
  if r40 = 0 then
  some ((-1 : Int32), h41)
  else
  nn (pR h41 8 x0 2) fun n44 =>
  ck (inb (pI h41 8 x0 1) (pL h41 25 n44)) <|
  lt (wI h41 25 n44 ((pI h41 8 x0 1)).toNatClampNeg x1) fun h47 =>
  nn (pR h47 8 x0 3) fun n49 =>
  ck (inb (pI h47 8 x0 1) (pL h47 26 n49)) <|
  lt (wI h47 26 n49 ((pI h47 8 x0 1)).toNatClampNeg (x2 / (100000 : Int32))) fun h52 =>
  nn (pR h52 8 x0 4) fun n54 =>
  ck (inb (pI h52 8 x0 1) (pL h52 27 n54)) <|
  lt (wI h52 27 n54 ((pI h52 8 x0 1)).toNatClampNeg ((x2 / (1000 : Int32)) - (x2 / (1000 : Int32)) / (100 : Int32) * (100 : Int32))) fun h57 =>
  nn (pR h57 8 x0 5) fun n59 =>
  ck (inb (pI h57 8 x0 1) (pL h57 28 n59)) <|
  lt (wI h57 28 n59 ((pI h57 8 x0 1)).toNatClampNeg (x2 - x2 / (1000 : Int32) * (1000 : Int32))) fun h62 =>
  nn (pR h62 8 x0 6) fun n64 =>
  ck (inb (pI h62 8 x0 1) (pL h62 29 n64)) <|
  lt (wI h62 29 n64 ((pI h62 8 x0 1)).toNatClampNeg x3) fun h67 =>
  nn (pR h67 8 x0 7) fun n69 =>
  ck (inb (pI h67 8 x0 1) (pL h67 30 n69)) <|
  lt (wI h67 30 n69 ((pI h67 8 x0 1)).toNatClampNeg x3) fun h72 =>
  if x4 = 0 then
  if (pI h72 8 x0 1) = 0 then
  nn (pR h72 8 x0 8) fun n90 =>
  ck (inb (pI h72 8 x0 1) (pL h72 31 n90)) <|
  lt (wI h72 31 n90 ((pI h72 8 x0 1)).toNatClampNeg (1 : Int32)) fun h93 =>
  lt (wI h93 8 x0 1 ((pI h93 8 x0 1) + (1 : Int32))) fun h95 =>
  some (((pI h95 8 x0 1) - (1 : Int32)), h95)
  else
  nn (pR h72 8 x0 8) fun n83 =>
  ck (inb (pI h72 8 x0 1) (pL h72 31 n83)) <|
  lt (wI h72 31 n83 ((pI h72 8 x0 1)).toNatClampNeg (0 : Int32)) fun h86 =>
  lt (wI h86 8 x0 1 ((pI h86 8 x0 1) + (1 : Int32))) fun h88 =>
  some (((pI h88 8 x0 1) - (1 : Int32)), h88)
  else
  nn (pR h72 8 x0 8) fun n75 =>
  ck (inb (pI h72 8 x0 1) (pL h72 31 n75)) <|
  lt (wI h72 31 n75 ((pI h72 8 x0 1)).toNatClampNeg (1 : Int32)) fun h78 =>
  lt (wI h78 8 x0 1 ((pI h78 8 x0 1) + (1 : Int32))) fun h80 =>
  some (((pI h80 8 x0 1) - (1 : Int32)), h80)

def L_X8_find_2 {β : Type} (v0 : Nat) (v1 : Int32) (κ28 : Hp → Option β) (κ20 : Int32 → Hp → Option β) : Nat → Int32 → Hp → Option β
  | 0, _, _ => none
  | f + 1, v2, h =>
    if (pI h 8 v0 11) ≤ v2 then
    κ28 h
    else
    nn (pR h 8 v0 12) fun n2 =>
    ck (inb v2 (pL h 34 n2)) <|
    if (pI h 34 n2 (v2).toNatClampNeg) = v1 then
    κ20 v2 h
    else
    L_X8_find_2 v0 v1 κ28 κ20 f (v2 + (1 : Int32)) h

def F_X8_find (x0 : Nat) (x1 : Int32) (h : Hp) : Option (Int32 × Hp) :=
  L_X8_find_2 x0 x1 (fun h6 =>
  some ((-1 : Int32), h6)) (fun k7 h8 =>
  some (k7, h8)) FU (0 : Int32) h

def F_X8_trunk (x0 : Nat) (x1 : Int32) (x2 : Int32) (x3 : Int32) (h : Hp) : Option (Int32 × Hp) :=
  cl (F_X8_in x1 (1 : Int32) (99999 : Int32) h) fun r1 h2 =>
  if r1 = 0 then
  some ((-1 : Int32), h2)
  else
  if x2 < 0 then
  some ((-1 : Int32), h2)
  else
  if (8 : Int32) ≤ (x2 / (100 : Int32)) then
  some ((-1 : Int32), h2)
  else
  if (3 : Int32) < ((x2 / (10 : Int32)) - (x2 / (10 : Int32)) / (10 : Int32) * (10 : Int32)) then
  some ((-1 : Int32), h2)
  else
  if (x2 - x2 / (10 : Int32) * (10 : Int32)) = 0 then
  some ((-1 : Int32), h2)
  else
  cl (F_X8_find x0 x1 h2) fun r9 h10 =>
  if r9 = (-1 : Int32) then
  cl (F_X8_isStation x0 x3 h10) fun r13 h14 =>
  if r13 = 0 then
  some ((-1 : Int32), h14)
  else
  if (pI h14 8 x0 11) = (120 : Int32) then
  some ((-1 : Int32), h14)
  else
  nn (pR h14 8 x0 12) fun n18 =>
  ck (inb (pI h14 8 x0 11) (pL h14 34 n18)) <|
  lt (wI h14 34 n18 ((pI h14 8 x0 11)).toNatClampNeg x1) fun h21 =>
  nn (pR h21 8 x0 13) fun n23 =>
  ck (inb (pI h21 8 x0 11) (pL h21 35 n23)) <|
  lt (wI h21 35 n23 ((pI h21 8 x0 11)).toNatClampNeg (x2 / (100 : Int32))) fun h26 =>
  nn (pR h26 8 x0 14) fun n28 =>
  ck (inb (pI h26 8 x0 11) (pL h26 36 n28)) <|
  lt (wI h26 36 n28 ((pI h26 8 x0 11)).toNatClampNeg ((x2 / (10 : Int32)) - (x2 / (10 : Int32)) / (10 : Int32) * (10 : Int32))) fun h31 =>
  nn (pR h31 8 x0 15) fun n33 =>
  ck (inb (pI h31 8 x0 11) (pL h31 37 n33)) <|
  lt (wI h31 37 n33 ((pI h31 8 x0 11)).toNatClampNeg (x2 - x2 / (10 : Int32) * (10 : Int32))) fun h36 =>
  nn (pR h36 8 x0 17) fun n38 =>
  ck (inb (pI h36 8 x0 11) (pL h36 39 n38)) <|
  lt (wI h36 39 n38 ((pI h36 8 x0 11)).toNatClampNeg x3) fun h41 =>
  nn (pR h41 8 x0 18) fun n43 =>
  ck (inb (pI h41 8 x0 11) (pL h41 40 n43)) <|
  lt (wI h41 40 n43 ((pI h41 8 x0 11)).toNatClampNeg (-1 : Int32)) fun h46 =>
  nn (pR h46 8 x0 21) fun n48 =>
  ck (inb (pI h46 8 x0 11) (pL h46 43 n48)) <|
  lt (wI h46 43 n48 ((pI h46 8 x0 11)).toNatClampNeg (-1 : Int32)) fun h51 =>
  lt (wI h51 8 x0 11 ((pI h51 8 x0 11) + (1 : Int32))) fun h53 =>
  some (((pI h53 8 x0 11) - (1 : Int32)), h53)
  else
  some ((-1 : Int32), h10)

def L_X8_isNext_2 {β : Type} (v0 : Nat) (v1 : Int32) (κ28 : Hp → Option β) (κ20 : Hp → Option β) : Nat → Int32 → Hp → Option β
  | 0, _, _ => none
  | f + 1, v2, h =>
    if (pI h 8 v0 22) ≤ v2 then
    κ28 h
    else
    nn (pR h 8 v0 23) fun n2 =>
    ck (inb v2 (pL h 44 n2)) <|
    if (pI h 44 n2 (v2).toNatClampNeg) = v1 then
    κ20 h
    else
    L_X8_isNext_2 v0 v1 κ28 κ20 f (v2 + (1 : Int32)) h

def F_X8_isNext (x0 : Nat) (x1 : Int32) (h : Hp) : Option (Int32 × Hp) :=
  L_X8_isNext_2 x0 x1 (fun h6 =>
  some ((0 : Int32), h6)) (fun h7 =>
  some ((1 : Int32), h7)) FU (0 : Int32) h

def F_X8_put (x0 : Nat) (x1 : Int32) (h : Hp) : Option (Int32 × Hp) :=
  cl (F_X8_isTrunk x0 x1 h) fun r1 h2 =>
  if r1 = 0 then
  some ((-1 : Int32), h2)
  else
  nn (pR h2 8 x0 16) fun n5 =>
  ck (inb x1 (pL h2 38 n5)) <|
  if (pI h2 38 n5 (x1).toNatClampNeg) = 0 then
  cl (F_X8_isNext x0 x1 h2) fun r9 h10 =>
  if r9 = 0 then
  if (pI h10 8 x0 22) = (9 : Int32) then
  some ((-1 : Int32), h10)
  else
  if (pI h10 8 x0 22) ≤ 0 then
  nn (pR h10 8 x0 23) fun n15 =>
  ck (inb (pI h10 8 x0 22) (pL h10 44 n15)) <|
  lt (wI h10 44 n15 ((pI h10 8 x0 22)).toNatClampNeg x1) fun h18 =>
  lt (wI h18 8 x0 22 ((pI h18 8 x0 22) + (1 : Int32))) fun h20 =>
  some ((pI h20 8 x0 22), h20)
  else
  nn (pR h10 8 x0 23) fun n22 =>
  ck (inb (0 : Int32) (pL h10 44 n22)) <|
  nn (pR h10 8 x0 17) fun n25 =>
  ck (inb (pI h10 44 n22 ((0 : Int32)).toNatClampNeg) (pL h10 39 n25)) <|
  ck (inb x1 (pL h10 39 n25)) <|
  if (pI h10 39 n25 ((pI h10 44 n22 ((0 : Int32)).toNatClampNeg)).toNatClampNeg) = (pI h10 39 n25 (x1).toNatClampNeg) then
  ck (inb (pI h10 8 x0 22) (pL h10 44 n22)) <|
  lt (wI h10 44 n22 ((pI h10 8 x0 22)).toNatClampNeg x1) fun h31 =>
  lt (wI h31 8 x0 22 ((pI h31 8 x0 22) + (1 : Int32))) fun h33 =>
  some ((pI h33 8 x0 22), h33)
  else
  some ((-1 : Int32), h10)
  else
  some ((-1 : Int32), h10)
  else
  some ((-1 : Int32), h2)

def F_X8_newRaft (x0 : Nat) (x1 : Int32) (h : Hp) : Option (Int32 × Hp) :=
  nn (pR h 8 x0 25) fun n1 =>
  ck (inb (pI h 8 x0 24) (pL h 45 n1)) <|
  lt (wI h 45 n1 ((pI h 8 x0 24)).toNatClampNeg (0 : Int32)) fun h4 =>
  nn (pR h4 8 x0 26) fun n6 =>
  ck (inb (pI h4 8 x0 24) (pL h4 46 n6)) <|
  lt (wI h4 46 n6 ((pI h4 8 x0 24)).toNatClampNeg x1) fun h9 =>
  nn (pR h9 8 x0 28) fun n11 =>
  ck (inb (pI h9 8 x0 24) (pL h9 48 n11)) <|
  lt (wI h9 48 n11 ((pI h9 8 x0 24)).toNatClampNeg (-1 : Int32)) fun h14 =>
  nn (pR h14 8 x0 29) fun n16 =>
  ck (inb (pI h14 8 x0 24) (pL h14 49 n16)) <|
  lt (wI h14 49 n16 ((pI h14 8 x0 24)).toNatClampNeg (-1 : Int32)) fun h19 =>
  lt (wI h19 8 x0 24 ((pI h19 8 x0 24) + (1 : Int32))) fun h21 =>
  some (((pI h21 8 x0 24) - (1 : Int32)), h21)

def L_X8_bind_43 {β : Type} (v0 : Nat) (v1 : Int32) (κ105 : Hp → Option β) : Nat → Int32 → Hp → Option β
  | 0, _, _ => none
  | f + 1, v2, h =>
    if (pI h 8 v0 22) ≤ v2 then
    κ105 h
    else
    nn (pR h 8 v0 23) fun n18 =>
    ck (inb v2 (pL h 44 n18)) <|
    nn (pR h 8 v0 16) fun n21 =>
    ck (inb (pI h 44 n18 (v2).toNatClampNeg) (pL h 38 n21)) <|
    lt (wI h 38 n21 ((pI h 44 n18 (v2).toNatClampNeg)).toNatClampNeg (1 : Int32)) fun h24 =>
    nn (pR h24 8 v0 23) fun n26 =>
    ck (inb v2 (pL h24 44 n26)) <|
    nn (pR h24 8 v0 18) fun n29 =>
    ck (inb (pI h24 44 n26 (v2).toNatClampNeg) (pL h24 40 n29)) <|
    lt (wI h24 40 n29 ((pI h24 44 n26 (v2).toNatClampNeg)).toNatClampNeg v1) fun h32 =>
    nn (pR h32 8 v0 23) fun n34 =>
    ck (inb v2 (pL h32 44 n34)) <|
    nn (pR h32 8 v0 19) fun n37 =>
    ck (inb (pI h32 44 n34 (v2).toNatClampNeg) (pL h32 41 n37)) <|
    lt (wI h32 41 n37 ((pI h32 44 n34 (v2).toNatClampNeg)).toNatClampNeg (0 : Int32)) fun h40 =>
    nn (pR h40 8 v0 23) fun n42 =>
    ck (inb v2 (pL h40 44 n42)) <|
    nn (pR h40 8 v0 20) fun n45 =>
    ck (inb (pI h40 44 n42 (v2).toNatClampNeg) (pL h40 42 n45)) <|
    lt (wI h40 42 n45 ((pI h40 44 n42 (v2).toNatClampNeg)).toNatClampNeg v2) fun h48 =>
    L_X8_bind_43 v0 v1 κ105 f (v2 + (1 : Int32)) h48

def F_X8_bind (x0 : Nat) (h : Hp) : Option (Int32 × Hp) :=
  if (pI h 8 x0 22) = 0 then
  some ((-1 : Int32), h)
  else
  if (pI h 8 x0 24) = (60 : Int32) then
  some ((-1 : Int32), h)
  else
  nn (pR h 8 x0 23) fun n3 =>
  ck (inb (0 : Int32) (pL h 44 n3)) <|
  nn (pR h 8 x0 17) fun n6 =>
  ck (inb (pI h 44 n3 ((0 : Int32)).toNatClampNeg) (pL h 39 n6)) <|
  cl (F_X8_newRaft x0 (pI h 39 n6 ((pI h 44 n3 ((0 : Int32)).toNatClampNeg)).toNatClampNeg) h) fun r9 h10 =>
  nn (pR h10 8 x0 27) fun n12 =>
  ck (inb r9 (pL h10 47 n12)) <|
  lt (wI h10 47 n12 (r9).toNatClampNeg (1 : Int32)) fun h15 =>
  L_X8_bind_43 x0 r9 (fun h50 =>
  lt (wI h50 8 x0 22 (0 : Int32)) fun h51 =>
  some (r9, h51)) FU (0 : Int32) h15

def F_X8_isOf (x0 : Nat) (x1 : Int32) (x2 : Int32) (h : Hp) : Option (Int32 × Hp) :=
  nn (pR h 8 x0 16) fun n1 =>
  ck (inb x1 (pL h 38 n1)) <|
  if (pI h 38 n1 (x1).toNatClampNeg) = (1 : Int32) then
  nn (pR h 8 x0 18) fun n5 =>
  ck (inb x1 (pL h 40 n5)) <|
  if (pI h 40 n5 (x1).toNatClampNeg) = x2 then
  some ((1 : Int32), h)
  else
  some ((0 : Int32), h)
  else
  some ((0 : Int32), h)

def F_X8_ends (x0 : Nat) (x1 : Int32) (h : Hp) : Option (Unit × Hp) :=
  nn (pR h 8 x0 25) fun n1 =>
  ck (inb x1 (pL h 45 n1)) <|
  lt (wI h 45 n1 (x1).toNatClampNeg (3 : Int32)) fun h4 =>
  nn (pR h4 8 x0 27) fun n6 =>
  ck (inb x1 (pL h4 47 n6)) <|
  lt (wI h4 47 n6 (x1).toNatClampNeg (0 : Int32)) fun h9 =>
  nn (pR h9 8 x0 28) fun n11 =>
  ck (inb x1 (pL h9 48 n11)) <|
  lt (wI h9 48 n11 (x1).toNatClampNeg (-1 : Int32)) fun h14 =>
  nn (pR h14 8 x0 29) fun n16 =>
  ck (inb x1 (pL h14 49 n16)) <|
  lt (wI h14 49 n16 (x1).toNatClampNeg (-1 : Int32)) fun h19 =>
  some ((), h19)

def L_X8_join_60 {β : Type} (v0 : Nat) (v1 : Int32) (v2 : Int32) (κ108 : Hp → Option β) : Nat → Int32 → Hp → Option β
  | 0, _, _ => none
  | f + 1, v3, h =>
    if (pI h 8 v0 11) ≤ v3 then
    κ108 h
    else
    cl (F_X8_isOf v0 v3 v2 h) fun r21 h22 =>
    if r21 = 0 then
    L_X8_join_60 v0 v1 v2 κ108 f (v3 + (1 : Int32)) h22
    else
    nn (pR h22 8 v0 18) fun n25 =>
    ck (inb v3 (pL h22 40 n25)) <|
    lt (wI h22 40 n25 (v3).toNatClampNeg v1) fun h28 =>
    nn (pR h28 8 v0 19) fun n30 =>
    ck (inb v3 (pL h28 41 n30)) <|
    nn (pR h28 8 v0 27) fun n33 =>
    ck (inb v1 (pL h28 47 n33)) <|
    ck (inb v3 (pL h28 41 n30)) <|
    lt (wI h28 41 n30 (v3).toNatClampNeg ((pI h28 41 n30 (v3).toNatClampNeg) + (pI h28 47 n33 (v1).toNatClampNeg))) fun h37 =>
    L_X8_join_60 v0 v1 v2 κ108 f (v3 + (1 : Int32)) h37

def F_X8_join (x0 : Nat) (x1 : Int32) (x2 : Int32) (h : Hp) : Option (Int32 × Hp) :=
  cl (F_X8_isRaft x0 x1 (0 : Int32) h) fun r1 h2 =>
  if r1 = 0 then
  some ((0 : Int32), h2)
  else
  cl (F_X8_isRaft x0 x2 (0 : Int32) h2) fun r5 h6 =>
  if r5 = 0 then
  some ((0 : Int32), h6)
  else
  if x1 = x2 then
  some ((0 : Int32), h6)
  else
  nn (pR h6 8 x0 26) fun n10 =>
  ck (inb x1 (pL h6 46 n10)) <|
  ck (inb x2 (pL h6 46 n10)) <|
  if (pI h6 46 n10 (x1).toNatClampNeg) = (pI h6 46 n10 (x2).toNatClampNeg) then
  nn (pR h6 8 x0 27) fun n15 =>
  ck (inb x1 (pL h6 47 n15)) <|
  ck (inb x2 (pL h6 47 n15)) <|
  if ((pI h6 47 n15 (x1).toNatClampNeg) + (pI h6 47 n15 (x2).toNatClampNeg)) ≤ (8 : Int32) then
  L_X8_join_60 x0 x1 x2 (fun h39 =>
  nn (pR h39 8 x0 27) fun n40 =>
  ck (inb x1 (pL h39 47 n40)) <|
  ck (inb x2 (pL h39 47 n40)) <|
  ck (inb x1 (pL h39 47 n40)) <|
  lt (wI h39 47 n40 (x1).toNatClampNeg ((pI h39 47 n40 (x1).toNatClampNeg) + (pI h39 47 n40 (x2).toNatClampNeg))) fun h45 =>
  cl (F_X8_ends x0 x2 h45) fun _ h48 =>
  some ((1 : Int32), h48)) FU (0 : Int32) h6
  else
  some ((0 : Int32), h6)
  else
  some ((0 : Int32), h6)

def L_X8_part_66 {β : Type} (v0 : Nat) (v1 : Int32) (v3 : Int32) (κ134 : Hp → Option β) : Nat → Int32 → Hp → Option β
  | 0, _, _ => none
  | f + 1, v4, h =>
    if (pI h 8 v0 11) ≤ v4 then
    κ134 h
    else
    cl (F_X8_isOf v0 v4 v1 h) fun r29 h30 =>
    if r29 = 0 then
    L_X8_part_66 v0 v1 v3 κ134 f (v4 + (1 : Int32)) h30
    else
    nn (pR h30 8 v0 19) fun n33 =>
    ck (inb v4 (pL h30 41 n33)) <|
    nn (pR h30 8 v0 27) fun n36 =>
    ck (inb v1 (pL h30 47 n36)) <|
    if (pI h30 47 n36 (v1).toNatClampNeg) ≤ (pI h30 41 n33 (v4).toNatClampNeg) then
    nn (pR h30 8 v0 18) fun n40 =>
    ck (inb v4 (pL h30 40 n40)) <|
    lt (wI h30 40 n40 (v4).toNatClampNeg v3) fun h43 =>
    nn (pR h43 8 v0 19) fun n45 =>
    ck (inb v4 (pL h43 41 n45)) <|
    nn (pR h43 8 v0 27) fun n48 =>
    ck (inb v1 (pL h43 47 n48)) <|
    ck (inb v4 (pL h43 41 n45)) <|
    lt (wI h43 41 n45 (v4).toNatClampNeg ((pI h43 41 n45 (v4).toNatClampNeg) - (pI h43 47 n48 (v1).toNatClampNeg))) fun h52 =>
    L_X8_part_66 v0 v1 v3 κ134 f (v4 + (1 : Int32)) h52
    else
    L_X8_part_66 v0 v1 v3 κ134 f (v4 + (1 : Int32)) h30

def F_X8_part (x0 : Nat) (x1 : Int32) (x2 : Int32) (h : Hp) : Option (Int32 × Hp) :=
  cl (F_X8_isRaft x0 x1 (0 : Int32) h) fun r1 h2 =>
  if r1 = 0 then
  some ((-1 : Int32), h2)
  else
  if x2 < (1 : Int32) then
  some ((-1 : Int32), h2)
  else
  nn (pR h2 8 x0 27) fun n6 =>
  ck (inb x1 (pL h2 47 n6)) <|
  if (pI h2 47 n6 (x1).toNatClampNeg) ≤ x2 then
  some ((-1 : Int32), h2)
  else
  if (pI h2 8 x0 24) = (60 : Int32) then
  some ((-1 : Int32), h2)
  else
  nn (pR h2 8 x0 26) fun n11 =>
  ck (inb x1 (pL h2 46 n11)) <|
  cl (F_X8_newRaft x0 (pI h2 46 n11 (x1).toNatClampNeg) h2) fun r14 h15 =>
  nn (pR h15 8 x0 27) fun n17 =>
  ck (inb r14 (pL h15 47 n17)) <|
  lt (wI h15 47 n17 (r14).toNatClampNeg x2) fun h20 =>
  nn (pR h20 8 x0 27) fun n22 =>
  ck (inb x1 (pL h20 47 n22)) <|
  ck (inb x1 (pL h20 47 n22)) <|
  lt (wI h20 47 n22 (x1).toNatClampNeg ((pI h20 47 n22 (x1).toNatClampNeg) - x2)) fun h26 =>
  L_X8_part_66 x0 x1 r14 (fun h54 =>
  some (r14, h54)) FU (0 : Int32) h26

def F_X8_lays (x0 : Nat) (x1 : Int32) (x2 : Int32) (h : Hp) : Option (Unit × Hp) :=
  nn (pR h 8 x0 16) fun n1 =>
  ck (inb x1 (pL h 38 n1)) <|
  lt (wI h 38 n1 (x1).toNatClampNeg (0 : Int32)) fun h4 =>
  nn (pR h4 8 x0 17) fun n6 =>
  ck (inb x1 (pL h4 39 n6)) <|
  lt (wI h4 39 n6 (x1).toNatClampNeg x2) fun h9 =>
  nn (pR h9 8 x0 18) fun n11 =>
  ck (inb x1 (pL h9 40 n11)) <|
  lt (wI h9 40 n11 (x1).toNatClampNeg (-1 : Int32)) fun h14 =>
  some ((), h14)

def L_X8_unbind_13 {β : Type} (v0 : Nat) (v1 : Int32) (κ47 : Hp → Option β) : Nat → Int32 → Hp → Option β
  | 0, _, _ => none
  | f + 1, v2, h =>
    if (pI h 8 v0 11) ≤ v2 then
    κ47 h
    else
    cl (F_X8_isOf v0 v2 v1 h) fun r6 h7 =>
    if r6 = 0 then
    L_X8_unbind_13 v0 v1 κ47 f (v2 + (1 : Int32)) h7
    else
    nn (pR h7 8 v0 26) fun n10 =>
    ck (inb v1 (pL h7 46 n10)) <|
    cl (F_X8_lays v0 v2 (pI h7 46 n10 (v1).toNatClampNeg) h7) fun _ h14 =>
    L_X8_unbind_13 v0 v1 κ47 f (v2 + (1 : Int32)) h14

def F_X8_unbind (x0 : Nat) (x1 : Int32) (h : Hp) : Option (Int32 × Hp) :=
  cl (F_X8_isRaft x0 x1 (0 : Int32) h) fun r1 h2 =>
  if r1 = 0 then
  some ((0 : Int32), h2)
  else
  L_X8_unbind_13 x0 x1 (fun h16 =>
  cl (F_X8_ends x0 x1 h16) fun _ h18 =>
  some ((1 : Int32), h18)) FU (0 : Int32) h2

def L_X8_many_4 {β : Type} (v0 : Nat) (v1 : Int32) (κ35 : Int32 → Hp → Option β) : Nat → Int32 → Int32 → Hp → Option β
  | 0, _, _, _ => none
  | f + 1, v2, v3, h =>
    if (pI h 8 v0 11) ≤ v3 then
    κ35 v2 h
    else
    cl (F_X8_isOf v0 v3 v1 h) fun r2 h3 =>
    if r2 = 0 then
    L_X8_many_4 v0 v1 κ35 f (v2 + (0 : Int32)) (v3 + (1 : Int32)) h3
    else
    L_X8_many_4 v0 v1 κ35 f (v2 + (1 : Int32)) (v3 + (1 : Int32)) h3

def F_X8_many (x0 : Nat) (x1 : Int32) (h : Hp) : Option (Int32 × Hp) :=
  L_X8_many_4 x0 x1 (fun k6 h7 =>
  some (k6, h7)) FU (0 : Int32) (0 : Int32) h

def L_X8_width_20 {β : Type} (v0 : Nat) (v1 : Int32) (v2 : Int32) (v3 : Int32) (κ72 : Int32 → Hp → Option β) : Nat → Int32 → Int32 → Hp → Option β
  | 0, _, _, _ => none
  | f + 1, v4, v5, h =>
    if (pI h 8 v0 11) ≤ v5 then
    κ72 v4 h
    else
    cl (F_X8_isOf v0 v5 v1 h) fun r6 h7 =>
    if r6 = 0 then
    L_X8_width_20 v0 v1 v2 v3 κ72 f (v4 + (0 : Int32)) (v5 + (1 : Int32)) h7
    else
    nn (pR h7 8 v0 19) fun n10 =>
    ck (inb v5 (pL h7 41 n10)) <|
    if (pI h7 41 n10 (v5).toNatClampNeg) = v3 then
    nn (pR h7 8 v0 15) fun n14 =>
    ck (inb v5 (pL h7 37 n14)) <|
    L_X8_width_20 v0 v1 v2 v3 κ72 f (v4 + (pI h7 37 n14 (v5).toNatClampNeg)) (v5 + (1 : Int32)) h7
    else
    L_X8_width_20 v0 v1 v2 v3 κ72 f (v4 + (0 : Int32)) (v5 + (1 : Int32)) h7

def L_X8_width_4 {β : Type} (v0 : Nat) (v1 : Int32) (κ87 : Int32 → Hp → Option β) : Nat → Int32 → Int32 → Hp → Option β
  | 0, _, _, _ => none
  | f + 1, v2, v3, h =>
    nn (pR h 8 v0 27) fun n1 =>
    ck (inb v1 (pL h 47 n1)) <|
    if (pI h 47 n1 (v1).toNatClampNeg) ≤ v3 then
    κ87 v2 h
    else
    L_X8_width_20 v0 v1 v2 v3 (fun k17 h18 =>
    if k17 ≤ v2 then
    L_X8_width_4 v0 v1 κ87 f v2 (v3 + (1 : Int32)) h18
    else
    L_X8_width_4 v0 v1 κ87 f k17 (v3 + (1 : Int32)) h18) FU (0 : Int32) (0 : Int32) h

def F_X8_width (x0 : Nat) (x1 : Int32) (h : Hp) : Option (Int32 × Hp) :=
  L_X8_width_4 x0 x1 (fun k20 h21 =>
  some (k20, h21)) FU (0 : Int32) (0 : Int32) h

def L_X8_first_2 {β : Type} (v0 : Nat) (v1 : Int32) (κ45 : Hp → Option β) (κ37 : Int32 → Hp → Option β) : Nat → Int32 → Hp → Option β
  | 0, _, _ => none
  | f + 1, v2, h =>
    if (pI h 8 v0 11) ≤ v2 then
    κ45 h
    else
    cl (F_X8_isOf v0 v2 v1 h) fun r2 h3 =>
    if r2 = 0 then
    L_X8_first_2 v0 v1 κ45 κ37 f (v2 + (1 : Int32)) h3
    else
    nn (pR h3 8 v0 19) fun n6 =>
    ck (inb v2 (pL h3 41 n6)) <|
    if (pI h3 41 n6 (v2).toNatClampNeg) = 0 then
    nn (pR h3 8 v0 20) fun n10 =>
    ck (inb v2 (pL h3 42 n10)) <|
    if (pI h3 42 n10 (v2).toNatClampNeg) = 0 then
    κ37 v2 h3
    else
    L_X8_first_2 v0 v1 κ45 κ37 f (v2 + (1 : Int32)) h3
    else
    L_X8_first_2 v0 v1 κ45 κ37 f (v2 + (1 : Int32)) h3

def F_X8_first (x0 : Nat) (x1 : Int32) (h : Hp) : Option (Int32 × Hp) :=
  L_X8_first_2 x0 x1 (fun h14 =>
  some ((-1 : Int32), h14)) (fun k15 h16 =>
  some (k15, h16)) FU (0 : Int32) h

def F_X8_crew (x0 : Nat) (x1 : Int32) (h : Hp) : Option (Int32 × Hp) :=
  cl (F_X8_isStation x0 x1 h) fun r1 h2 =>
  if r1 = 0 then
  some ((-1 : Int32), h2)
  else
  if (pI h2 8 x0 30) = (10 : Int32) then
  some ((-1 : Int32), h2)
  else
  nn (pR h2 8 x0 31) fun n6 =>
  ck (inb (pI h2 8 x0 30) (pL h2 50 n6)) <|
  lt (wI h2 50 n6 ((pI h2 8 x0 30)).toNatClampNeg x1) fun h9 =>
  nn (pR h9 8 x0 33) fun n11 =>
  ck (inb (pI h9 8 x0 30) (pL h9 52 n11)) <|
  lt (wI h9 52 n11 ((pI h9 8 x0 30)).toNatClampNeg x1) fun h14 =>
  nn (pR h14 8 x0 34) fun n16 =>
  ck (inb (pI h14 8 x0 30) (pL h14 53 n16)) <|
  lt (wI h14 53 n16 ((pI h14 8 x0 30)).toNatClampNeg ((pI h14 8 x0 0) - (8 : Int32))) fun h19 =>
  nn (pR h19 8 x0 35) fun n21 =>
  ck (inb (pI h19 8 x0 30) (pL h19 54 n21)) <|
  lt (wI h19 54 n21 ((pI h19 8 x0 30)).toNatClampNeg (-1 : Int32)) fun h24 =>
  lt (wI h24 8 x0 30 ((pI h24 8 x0 30) + (1 : Int32))) fun h26 =>
  some (((pI h26 8 x0 30) - (1 : Int32)), h26)

def F_X8_isResting (x0 : Nat) (x1 : Int32) (h : Hp) : Option (Int32 × Hp) :=
  nn (pR h 8 x0 32) fun n1 =>
  ck (inb x1 (pL h 51 n1)) <|
  if (pI h 51 n1 (x1).toNatClampNeg) = 0 then
  nn (pR h 8 x0 34) fun n5 =>
  ck (inb x1 (pL h 53 n5)) <|
  if (8 : Int32) ≤ ((pI h 8 x0 0) - (pI h 53 n5 (x1).toNatClampNeg)) then
  some ((0 : Int32), h)
  else
  some ((1 : Int32), h)
  else
  some ((0 : Int32), h)

def F_X8_ready (x0 : Nat) (x1 : Int32) (x2 : Int32) (h : Hp) : Option (Int32 × Hp) :=
  cl (F_X8_isRaft x0 x1 (0 : Int32) h) fun r1 h2 =>
  if r1 = 0 then
  some ((0 : Int32), h2)
  else
  nn (pR h2 8 x0 26) fun n5 =>
  ck (inb x1 (pL h2 46 n5)) <|
  if (pI h2 46 n5 (x1).toNatClampNeg) = 0 then
  some ((0 : Int32), h2)
  else
  cl (F_X8_in x2 (0 : Int32) ((pI h2 8 x0 30) - (1 : Int32)) h2) fun r9 h10 =>
  if r9 = 0 then
  some ((0 : Int32), h10)
  else
  nn (pR h10 8 x0 32) fun n13 =>
  ck (inb x2 (pL h10 51 n13)) <|
  if (pI h10 51 n13 (x2).toNatClampNeg) = 0 then
  nn (pR h10 8 x0 33) fun n17 =>
  ck (inb x2 (pL h10 52 n17)) <|
  nn (pR h10 8 x0 26) fun n20 =>
  ck (inb x1 (pL h10 46 n20)) <|
  if (pI h10 52 n17 (x2).toNatClampNeg) = (pI h10 46 n20 (x1).toNatClampNeg) then
  cl (F_X8_isResting x0 x2 h10) fun r24 h25 =>
  if r24 = 0 then
  nn (pR h25 8 x0 25) fun n28 =>
  ck (inb x1 (pL h25 45 n28)) <|
  lt (wI h25 45 n28 (x1).toNatClampNeg (1 : Int32)) fun h31 =>
  nn (pR h31 8 x0 28) fun n33 =>
  ck (inb x1 (pL h31 48 n33)) <|
  lt (wI h31 48 n33 (x1).toNatClampNeg x2) fun h36 =>
  nn (pR h36 8 x0 32) fun n38 =>
  ck (inb x2 (pL h36 51 n38)) <|
  lt (wI h36 51 n38 (x2).toNatClampNeg (1 : Int32)) fun h41 =>
  some ((1 : Int32), h41)
  else
  some ((0 : Int32), h25)
  else
  some ((0 : Int32), h10)
  else
  some ((0 : Int32), h10)

def F_X8_lands (x0 : Nat) (x1 : Int32) (x2 : Int32) (x3 : Int32) (h : Hp) : Option (Unit × Hp) :=
  nn (pR h 8 x0 32) fun n1 =>
  ck (inb x1 (pL h 51 n1)) <|
  lt (wI h 51 n1 (x1).toNatClampNeg (0 : Int32)) fun h4 =>
  nn (pR h4 8 x0 33) fun n6 =>
  ck (inb x1 (pL h4 52 n6)) <|
  lt (wI h4 52 n6 (x1).toNatClampNeg x2) fun h9 =>
  nn (pR h9 8 x0 34) fun n11 =>
  ck (inb x1 (pL h9 53 n11)) <|
  lt (wI h9 53 n11 (x1).toNatClampNeg x3) fun h14 =>
  nn (pR h14 8 x0 35) fun n16 =>
  ck (inb x1 (pL h14 54 n16)) <|
  lt (wI h14 54 n16 (x1).toNatClampNeg (-1 : Int32)) fun h19 =>
  some ((), h19)

def F_X8_tie (x0 : Nat) (x1 : Int32) (h : Hp) : Option (Int32 × Hp) :=
  cl (F_X8_isRaft x0 x1 (1 : Int32) h) fun r1 h2 =>
  if r1 = 0 then
  some ((0 : Int32), h2)
  else
  nn (pR h2 8 x0 25) fun n5 =>
  ck (inb x1 (pL h2 45 n5)) <|
  lt (wI h2 45 n5 (x1).toNatClampNeg (0 : Int32)) fun h8 =>
  nn (pR h8 8 x0 28) fun n10 =>
  ck (inb x1 (pL h8 48 n10)) <|
  nn (pR h8 8 x0 26) fun n13 =>
  ck (inb x1 (pL h8 46 n13)) <|
  cl (F_X8_lands x0 (pI h8 48 n10 (x1).toNatClampNeg) (pI h8 46 n13 (x1).toNatClampNeg) ((pI h8 8 x0 0) - (8 : Int32)) h8) fun _ h17 =>
  nn (pR h17 8 x0 28) fun n19 =>
  ck (inb x1 (pL h17 48 n19)) <|
  lt (wI h17 48 n19 (x1).toNatClampNeg (-1 : Int32)) fun h22 =>
  some ((1 : Int32), h22)

def L_X8_walk_49 {β : Type} (v0 : Nat) (v1 : Int32) (κ82 : Int32 → Int32 → Hp → Option β) : Nat → Int32 → Int32 → Hp → Option β
  | 0, _, _, _ => none
  | f + 1, v2, v3, h =>
    if v3 = 0 then
    κ82 v2 v3 h
    else
    nn (pR h 8 v0 33) fun n18 =>
    ck (inb v1 (pL h 52 n18)) <|
    if v3 = (pI h 52 n18 (v1).toNatClampNeg) then
    κ82 v2 v3 h
    else
    nn (pR h 8 v0 3) fun n22 =>
    ck (inb v3 (pL h 26 n22)) <|
    nn (pR h 8 v0 2) fun n25 =>
    ck (inb v3 (pL h 25 n25)) <|
    L_X8_walk_49 v0 v1 κ82 f (v2 + (pI h 26 n22 (v3).toNatClampNeg)) (pI h 25 n25 (v3).toNatClampNeg) h

def F_X8_walk (x0 : Nat) (x1 : Int32) (h : Hp) : Option (Int32 × Hp) :=
  cl (F_X8_in x1 (0 : Int32) ((pI h 8 x0 30) - (1 : Int32)) h) fun r1 h2 =>
  if r1 = 0 then
  some ((-1 : Int32), h2)
  else
  nn (pR h2 8 x0 32) fun n5 =>
  ck (inb x1 (pL h2 51 n5)) <|
  if (pI h2 51 n5 (x1).toNatClampNeg) = 0 then
  nn (pR h2 8 x0 33) fun n9 =>
  ck (inb x1 (pL h2 52 n9)) <|
  nn (pR h2 8 x0 31) fun n12 =>
  ck (inb x1 (pL h2 50 n12)) <|
  if (pI h2 52 n9 (x1).toNatClampNeg) = (pI h2 50 n12 (x1).toNatClampNeg) then
  some ((-1 : Int32), h2)
  else
  ck (inb x1 (pL h2 50 n12)) <|
  L_X8_walk_49 x0 x1 (fun k28 k29 h30 =>
  nn (pR h30 8 x0 33) fun n31 =>
  ck (inb x1 (pL h30 52 n31)) <|
  if k29 = (pI h30 52 n31 (x1).toNatClampNeg) then
  nn (pR h30 8 x0 32) fun n35 =>
  ck (inb x1 (pL h30 51 n35)) <|
  lt (wI h30 51 n35 (x1).toNatClampNeg (2 : Int32)) fun h38 =>
  nn (pR h38 8 x0 35) fun n40 =>
  ck (inb x1 (pL h38 54 n40)) <|
  lt (wI h38 54 n40 (x1).toNatClampNeg ((pI h38 8 x0 0) + ((2 : Int32) * k28))) fun h43 =>
  nn (pR h43 8 x0 35) fun n45 =>
  ck (inb x1 (pL h43 54 n45)) <|
  some ((pI h43 54 n45 (x1).toNatClampNeg), h43)
  else
  some ((-1 : Int32), h30)) FU (0 : Int32) (pI h2 50 n12 (x1).toNatClampNeg) h2
  else
  some ((-1 : Int32), h2)

def L_X8_tollOf_4 {β : Type} (v0 : Nat) (v1 : Int32) (κ50 : Int32 → Hp → Option β) : Nat → Int32 → Int32 → Hp → Option β
  | 0, _, _, _ => none
  | f + 1, v2, v3, h =>
    if (pI h 8 v0 38) ≤ v3 then
    κ50 v2 h
    else
    nn (pR h 8 v0 39) fun n2 =>
    ck (inb v3 (pL h 57 n2)) <|
    if v1 < (pI h 57 n2 (v3).toNatClampNeg) then
    L_X8_tollOf_4 v0 v1 κ50 f v2 (v3 + (1 : Int32)) h
    else
    if v2 = (-1 : Int32) then
    L_X8_tollOf_4 v0 v1 κ50 f v3 (v3 + (1 : Int32)) h
    else
    ck (inb v3 (pL h 57 n2)) <|
    ck (inb v2 (pL h 57 n2)) <|
    if (pI h 57 n2 (v3).toNatClampNeg) < (pI h 57 n2 (v2).toNatClampNeg) then
    L_X8_tollOf_4 v0 v1 κ50 f v2 (v3 + (1 : Int32)) h
    else
    L_X8_tollOf_4 v0 v1 κ50 f v3 (v3 + (1 : Int32)) h

def F_X8_tollOf (x0 : Nat) (x1 : Int32) (h : Hp) : Option (Int32 × Hp) :=
  L_X8_tollOf_4 x0 x1 (fun k10 h11 =>
  if k10 = (-1 : Int32) then
  some ((0 : Int32), h11)
  else
  nn (pR h11 8 x0 40) fun n13 =>
  ck (inb k10 (pL h11 58 n13)) <|
  some ((pI h11 58 n13 (k10).toNatClampNeg), h11)) FU (-1 : Int32) (0 : Int32) h

def L_X8_arrivals_2 {β : Type} (v0 : Nat) (κ83 : Hp → Option β) : Nat → Int32 → Hp → Option β
  | 0, _, _ => none
  | f + 1, v1, h =>
    if (pI h 8 v0 24) ≤ v1 then
    κ83 h
    else
    nn (pR h 8 v0 25) fun n2 =>
    ck (inb v1 (pL h 45 n2)) <|
    if (pI h 45 n2 (v1).toNatClampNeg) = (2 : Int32) then
    nn (pR h 8 v0 29) fun n6 =>
    ck (inb v1 (pL h 49 n6)) <|
    if (pI h 49 n6 (v1).toNatClampNeg) = (pI h 8 v0 0) then
    ck (inb v1 (pL h 45 n2)) <|
    lt (wI h 45 n2 (v1).toNatClampNeg (0 : Int32)) fun h11 =>
    nn (pR h11 8 v0 29) fun n13 =>
    ck (inb v1 (pL h11 49 n13)) <|
    lt (wI h11 49 n13 (v1).toNatClampNeg (-1 : Int32)) fun h16 =>
    nn (pR h16 8 v0 28) fun n18 =>
    ck (inb v1 (pL h16 48 n18)) <|
    nn (pR h16 8 v0 26) fun n21 =>
    ck (inb v1 (pL h16 46 n21)) <|
    cl (F_X8_lands v0 (pI h16 48 n18 (v1).toNatClampNeg) (pI h16 46 n21 (v1).toNatClampNeg) (pI h16 8 v0 0) h16) fun _ h25 =>
    nn (pR h25 8 v0 28) fun n27 =>
    ck (inb v1 (pL h25 48 n27)) <|
    lt (wI h25 48 n27 (v1).toNatClampNeg (-1 : Int32)) fun h30 =>
    L_X8_arrivals_2 v0 κ83 f (v1 + (1 : Int32)) h30
    else
    L_X8_arrivals_2 v0 κ83 f (v1 + (1 : Int32)) h
    else
    L_X8_arrivals_2 v0 κ83 f (v1 + (1 : Int32)) h

def L_X8_arrivals_85 {β : Type} (v0 : Nat) (κ137 : Hp → Option β) : Nat → Int32 → Hp → Option β
  | 0, _, _ => none
  | f + 1, v1, h =>
    if (pI h 8 v0 30) ≤ v1 then
    κ137 h
    else
    nn (pR h 8 v0 32) fun n34 =>
    ck (inb v1 (pL h 51 n34)) <|
    if (pI h 51 n34 (v1).toNatClampNeg) = (2 : Int32) then
    nn (pR h 8 v0 35) fun n38 =>
    ck (inb v1 (pL h 54 n38)) <|
    if (pI h 54 n38 (v1).toNatClampNeg) = (pI h 8 v0 0) then
    nn (pR h 8 v0 31) fun n42 =>
    ck (inb v1 (pL h 50 n42)) <|
    cl (F_X8_lands v0 v1 (pI h 50 n42 (v1).toNatClampNeg) (pI h 8 v0 0) h) fun _ h46 =>
    L_X8_arrivals_85 v0 κ137 f (v1 + (1 : Int32)) h46
    else
    L_X8_arrivals_85 v0 κ137 f (v1 + (1 : Int32)) h
    else
    L_X8_arrivals_85 v0 κ137 f (v1 + (1 : Int32)) h

def F_X8_arrivals (x0 : Nat) (h : Hp) : Option (Unit × Hp) :=
  L_X8_arrivals_2 x0 (fun h32 =>
  L_X8_arrivals_85 x0 (fun h48 =>
  some ((), h48)) FU (0 : Int32) h32) FU (0 : Int32) h

def F_X8_isAhead (x0 : Nat) (x1 : Int32) (x2 : Int32) (h : Hp) : Option (Int32 × Hp) :=
  cl (F_X8_first x0 x1 h) fun r1 h2 =>
  nn (pR h 8 x0 13) fun n4 =>
  ck (inb r1 (pL h2 35 n4)) <|
  nn (pR h 8 x0 36) fun n7 =>
  ck (inb (pI h2 35 n4 (r1).toNatClampNeg) (pL h2 55 n7)) <|
  cl (F_X8_first x0 x2 h2) fun r10 h11 =>
  nn (pR h2 8 x0 13) fun n13 =>
  ck (inb r10 (pL h11 35 n13)) <|
  nn (pR h2 8 x0 36) fun n16 =>
  ck (inb (pI h11 35 n13 (r10).toNatClampNeg) (pL h11 55 n16)) <|
  if (pI h2 55 n7 ((pI h2 35 n4 (r1).toNatClampNeg)).toNatClampNeg) < (pI h11 55 n16 ((pI h11 35 n13 (r10).toNatClampNeg)).toNatClampNeg) then
  some ((1 : Int32), h11)
  else
  if (pI h2 55 n7 ((pI h2 35 n4 (r1).toNatClampNeg)).toNatClampNeg) = (pI h11 55 n16 ((pI h11 35 n13 (r10).toNatClampNeg)).toNatClampNeg) then
  cl (F_X8_many x0 x1 h11) fun r21 h22 =>
  cl (F_X8_many x0 x2 h22) fun r24 h25 =>
  if r21 ≤ r24 then
  some ((0 : Int32), h25)
  else
  some ((1 : Int32), h25)
  else
  some ((0 : Int32), h11)

def L_X8_weir_29 {β : Type} (v0 : Nat) (v1 : Int32) (κ113 : Int32 → Hp → Option β) : Nat → Int32 → Int32 → Hp → Option β
  | 0, _, _, _ => none
  | f + 1, v2, v3, h =>
    if (pI h 8 v0 24) ≤ v3 then
    κ113 v2 h
    else
    nn (pR h 8 v0 25) fun n12 =>
    ck (inb v3 (pL h 45 n12)) <|
    if (pI h 45 n12 (v3).toNatClampNeg) = (1 : Int32) then
    nn (pR h 8 v0 26) fun n16 =>
    ck (inb v3 (pL h 46 n16)) <|
    if (pI h 46 n16 (v3).toNatClampNeg) = v1 then
    cl (F_X8_width v0 v3 h) fun r20 h21 =>
    nn (pR h21 8 v0 4) fun n23 =>
    ck (inb v1 (pL h21 27 n23)) <|
    if (pI h21 27 n23 (v1).toNatClampNeg) < r20 then
    L_X8_weir_29 v0 v1 κ113 f v2 (v3 + (1 : Int32)) h21
    else
    nn (pR h21 8 v0 27) fun n27 =>
    ck (inb v3 (pL h21 47 n27)) <|
    nn (pR h21 8 v0 7) fun n30 =>
    ck (inb v1 (pL h21 30 n30)) <|
    if ((5 : Int32) * (pI h21 47 n27 (v3).toNatClampNeg)) ≤ (pI h21 30 n30 (v1).toNatClampNeg) then
    if v2 = (-1 : Int32) then
    L_X8_weir_29 v0 v1 κ113 f v3 (v3 + (1 : Int32)) h21
    else
    cl (F_X8_isAhead v0 v3 v2 h21) fun r35 h36 =>
    if r35 = 0 then
    L_X8_weir_29 v0 v1 κ113 f v2 (v3 + (1 : Int32)) h36
    else
    L_X8_weir_29 v0 v1 κ113 f v3 (v3 + (1 : Int32)) h36
    else
    L_X8_weir_29 v0 v1 κ113 f v2 (v3 + (1 : Int32)) h21
    else
    L_X8_weir_29 v0 v1 κ113 f v2 (v3 + (1 : Int32)) h
    else
    L_X8_weir_29 v0 v1 κ113 f v2 (v3 + (1 : Int32)) h

def L_X8_weir_187 {β : Type} (v0 : Nat) (v2 : Int32) (v3 : Int32) (κ241 : Hp → Option β) : Nat → Int32 → Hp → Option β
  | 0, _, _ => none
  | f + 1, v4, h =>
    if (pI h 8 v0 11) ≤ v4 then
    κ241 h
    else
    cl (F_X8_isOf v0 v4 v2 h) fun r76 h77 =>
    if r76 = 0 then
    L_X8_weir_187 v0 v2 v3 κ241 f (v4 + (1 : Int32)) h77
    else
    nn (pR h77 8 v0 13) fun n80 =>
    ck (inb v4 (pL h77 35 n80)) <|
    nn (pR h77 8 v0 37) fun n83 =>
    ck (inb (pI h77 35 n80 (v4).toNatClampNeg) (pL h77 56 n83)) <|
    ck (inb (pI h77 35 n80 (v4).toNatClampNeg) (pL h77 56 n83)) <|
    lt (wI h77 56 n83 ((pI h77 35 n80 (v4).toNatClampNeg)).toNatClampNeg ((pI h77 56 n83 ((pI h77 35 n80 (v4).toNatClampNeg)).toNatClampNeg) - v3)) fun h87 =>
    lt (wI h87 8 v0 46 ((pI h87 8 v0 46) + v3)) fun h89 =>
    L_X8_weir_187 v0 v2 v3 κ241 f (v4 + (1 : Int32)) h89

def F_X8_weir (x0 : Nat) (x1 : Int32) (h : Hp) : Option (Unit × Hp) :=
  nn (pR h 8 x0 9) fun n1 =>
  ck (inb x1 (pL h 32 n1)) <|
  nn (pR h 8 x0 10) fun n4 =>
  ck (inb x1 (pL h 33 n4)) <|
  cl (F_X8_in (pI h 8 x0 0) (pI h 32 n1 (x1).toNatClampNeg) ((pI h 33 n4 (x1).toNatClampNeg) - (1 : Int32)) h) fun r7 h8 =>
  if r7 = 0 then
  L_X8_weir_29 x0 x1 (fun k39 h40 =>
  if k39 = (-1 : Int32) then
  some ((), h40)
  else
  nn (pR h40 8 x0 7) fun n42 =>
  ck (inb x1 (pL h40 30 n42)) <|
  nn (pR h40 8 x0 27) fun n45 =>
  ck (inb k39 (pL h40 47 n45)) <|
  ck (inb x1 (pL h40 30 n42)) <|
  lt (wI h40 30 n42 (x1).toNatClampNeg ((pI h40 30 n42 (x1).toNatClampNeg) - ((5 : Int32) * (pI h40 47 n45 (k39).toNatClampNeg)))) fun h49 =>
  nn (pR h49 8 x0 25) fun n51 =>
  ck (inb k39 (pL h49 45 n51)) <|
  lt (wI h49 45 n51 (k39).toNatClampNeg (2 : Int32)) fun h54 =>
  nn (pR h54 8 x0 2) fun n56 =>
  ck (inb x1 (pL h54 25 n56)) <|
  nn (pR h54 8 x0 26) fun n59 =>
  ck (inb k39 (pL h54 46 n59)) <|
  lt (wI h54 46 n59 (k39).toNatClampNeg (pI h54 25 n56 (x1).toNatClampNeg)) fun h62 =>
  nn (pR h62 8 x0 3) fun n64 =>
  ck (inb x1 (pL h62 26 n64)) <|
  nn (pR h62 8 x0 29) fun n67 =>
  ck (inb k39 (pL h62 49 n67)) <|
  lt (wI h62 49 n67 (k39).toNatClampNeg ((pI h62 8 x0 0) + (pI h62 26 n64 (x1).toNatClampNeg))) fun h70 =>
  cl (F_X8_tollOf x0 ((pI h70 8 x0 0) / (24 : Int32)) h70) fun r72 h73 =>
  L_X8_weir_187 x0 k39 r72 (fun h91 =>
  some ((), h91)) FU (0 : Int32) h73) FU (-1 : Int32) (0 : Int32) h8
  else
  some ((), h8)

def L_X8_go_36 {β : Type} (v0 : Nat) (v1 : Int32) (v2 : Int32) (κ55 : Hp → Option β) : Nat → Int32 → Hp → Option β
  | 0, _, _ => none
  | f + 1, v3, h =>
    if (pI h 8 v0 1) ≤ v3 then
    κ55 h
    else
    cl (F_X8_weir v0 v3 h) fun _ h12 =>
    L_X8_go_36 v0 v1 v2 κ55 f (v3 + (1 : Int32)) h12

def L_X8_go_57 {β : Type} (v0 : Nat) (v1 : Int32) (v2 : Int32) (κ121 : Hp → Option β) : Nat → Int32 → Hp → Option β
  | 0, _, _ => none
  | f + 1, v3, h =>
    if (pI h 8 v0 1) ≤ v3 then
    κ121 h
    else
    nn (pR h 8 v0 7) fun n16 =>
    ck (inb v3 (pL h 30 n16)) <|
    nn (pR h 8 v0 5) fun n19 =>
    ck (inb v3 (pL h 28 n19)) <|
    nn (pR h 8 v0 6) fun n22 =>
    ck (inb v3 (pL h 29 n22)) <|
    if ((pI h 30 n16 (v3).toNatClampNeg) + (pI h 28 n19 (v3).toNatClampNeg)) ≤ (pI h 29 n22 (v3).toNatClampNeg) then
    ck (inb v3 (pL h 30 n16)) <|
    ck (inb v3 (pL h 28 n19)) <|
    ck (inb v3 (pL h 30 n16)) <|
    lt (wI h 30 n16 (v3).toNatClampNeg ((pI h 30 n16 (v3).toNatClampNeg) + (pI h 28 n19 (v3).toNatClampNeg))) fun h29 =>
    L_X8_go_57 v0 v1 v2 κ121 f (v3 + (1 : Int32)) h29
    else
    ck (inb v3 (pL h 29 n22)) <|
    ck (inb v3 (pL h 30 n16)) <|
    lt (wI h 30 n16 (v3).toNatClampNeg (pI h 29 n22 (v3).toNatClampNeg)) fun h33 =>
    L_X8_go_57 v0 v1 v2 κ121 f (v3 + (1 : Int32)) h33

def L_X8_go_15 {β : Type} (v0 : Nat) (v1 : Int32) (κ137 : Hp → Option β) : Nat → Int32 → Hp → Option β
  | 0, _, _ => none
  | f + 1, v2, h =>
    if v1 ≤ v2 then
    κ137 h
    else
    if (20000 : Int32) ≤ (pI h 8 v0 0) then
    κ137 h
    else
    cl (F_X8_arrivals v0 h) fun _ h8 =>
    L_X8_go_36 v0 v1 v2 (fun h14 =>
    L_X8_go_57 v0 v1 v2 (fun h35 =>
    lt (wI h35 8 v0 0 ((pI h35 8 v0 0) + (1 : Int32))) fun h36 =>
    L_X8_go_15 v0 v1 κ137 f (v2 + (1 : Int32)) h36) FU (1 : Int32) h14) FU (1 : Int32) h8

def F_X8_go (x0 : Nat) (x1 : Int32) (h : Hp) : Option (Int32 × Hp) :=
  cl (F_X8_in x1 (0 : Int32) (500 : Int32) h) fun r1 h2 =>
  if r1 = 0 then
  some ((-1 : Int32), h2)
  else
  L_X8_go_15 x0 x1 (fun h38 =>
  some ((pI h38 8 x0 0), h38)) FU (0 : Int32) h2

def F_X8_storm (x0 : Nat) (x1 : Int32) (x2 : Int32) (x3 : Int32) (h : Hp) : Option (Int32 × Hp) :=
  cl (F_X8_isStation x0 x1 h) fun r1 h2 =>
  if r1 = 0 then
  some ((0 : Int32), h2)
  else
  if x2 < (pI h2 8 x0 0) then
  some ((0 : Int32), h2)
  else
  if x2 < x3 then
  nn (pR h2 8 x0 9) fun n7 =>
  ck (inb x1 (pL h2 32 n7)) <|
  lt (wI h2 32 n7 (x1).toNatClampNeg x2) fun h10 =>
  nn (pR h10 8 x0 10) fun n12 =>
  ck (inb x1 (pL h10 33 n12)) <|
  lt (wI h10 33 n12 (x1).toNatClampNeg x3) fun h15 =>
  some ((1 : Int32), h15)
  else
  some ((0 : Int32), h2)

def L_X8_breaks_16 {β : Type} (v0 : Nat) (v1 : Int32) (v2 : Int32) (κ86 : Int32 → Hp → Option β) : Nat → Int32 → Int32 → Hp → Option β
  | 0, _, _, _ => none
  | f + 1, v3, v4, h =>
    if (pI h 8 v0 11) ≤ v4 then
    κ86 v3 h
    else
    cl (F_X8_isOf v0 v4 v1 h) fun r6 h7 =>
    if r6 = 0 then
    L_X8_breaks_16 v0 v1 v2 κ86 f v3 (v4 + (1 : Int32)) h7
    else
    nn (pR h7 8 v0 26) fun n10 =>
    ck (inb v1 (pL h7 46 n10)) <|
    cl (F_X8_lays v0 v4 (pI h7 46 n10 (v1).toNatClampNeg) h7) fun _ h14 =>
    if v2 = 0 then
    if (v4 - v4 / (2 : Int32) * (2 : Int32)) = (0 : Int32) then
    nn (pR h14 8 v0 16) fun n18 =>
    ck (inb v4 (pL h14 38 n18)) <|
    lt (wI h14 38 n18 (v4).toNatClampNeg (3 : Int32)) fun h21 =>
    L_X8_breaks_16 v0 v1 v2 κ86 f (v3 + (1 : Int32)) (v4 + (1 : Int32)) h21
    else
    L_X8_breaks_16 v0 v1 v2 κ86 f v3 (v4 + (1 : Int32)) h14
    else
    if (v4 - v4 / (2 : Int32) * (2 : Int32)) = (1 : Int32) then
    nn (pR h14 8 v0 16) fun n24 =>
    ck (inb v4 (pL h14 38 n24)) <|
    lt (wI h14 38 n24 (v4).toNatClampNeg (3 : Int32)) fun h27 =>
    L_X8_breaks_16 v0 v1 v2 κ86 f (v3 + (1 : Int32)) (v4 + (1 : Int32)) h27
    else
    L_X8_breaks_16 v0 v1 v2 κ86 f v3 (v4 + (1 : Int32)) h14

def F_X8_breaks (x0 : Nat) (x1 : Int32) (x2 : Int32) (h : Hp) : Option (Int32 × Hp) :=
  cl (F_X8_isRaft x0 x1 (2 : Int32) h) fun r1 h2 =>
  if r1 = 0 then
  some ((-1 : Int32), h2)
  else
  L_X8_breaks_16 x0 x1 x2 (fun k29 h30 =>
  nn (pR h30 8 x0 28) fun n31 =>
  ck (inb x1 (pL h30 48 n31)) <|
  nn (pR h30 8 x0 26) fun n34 =>
  ck (inb x1 (pL h30 46 n34)) <|
  cl (F_X8_lands x0 (pI h30 48 n31 (x1).toNatClampNeg) (pI h30 46 n34 (x1).toNatClampNeg) (pI h30 8 x0 0) h30) fun _ h38 =>
  cl (F_X8_ends x0 x1 h38) fun _ h41 =>
  some (k29, h41)) FU (0 : Int32) (0 : Int32) h2

def F_X8_right (x0 : Nat) (x1 : Int32) (x2 : Int32) (h : Hp) : Option (Int32 × Hp) :=
  cl (F_X8_in x1 (0 : Int32) (7 : Int32) h) fun r1 h2 =>
  if r1 = 0 then
  some ((0 : Int32), h2)
  else
  cl (F_X8_in x2 (0 : Int32) (9 : Int32) h2) fun r5 h6 =>
  if r5 = 0 then
  some ((0 : Int32), h6)
  else
  nn (pR h6 8 x0 36) fun n9 =>
  ck (inb x1 (pL h6 55 n9)) <|
  lt (wI h6 55 n9 (x1).toNatClampNeg x2) fun h12 =>
  some ((1 : Int32), h12)

def F_X8_toll (x0 : Nat) (x1 : Int32) (x2 : Int32) (h : Hp) : Option (Int32 × Hp) :=
  cl (F_X8_in x1 (0 : Int32) (1000 : Int32) h) fun r1 h2 =>
  if r1 = 0 then
  some ((0 : Int32), h2)
  else
  cl (F_X8_in x2 (0 : Int32) (100 : Int32) h2) fun r5 h6 =>
  if r5 = 0 then
  some ((0 : Int32), h6)
  else
  if (pI h6 8 x0 38) = (30 : Int32) then
  some ((0 : Int32), h6)
  else
  nn (pR h6 8 x0 39) fun n10 =>
  ck (inb (pI h6 8 x0 38) (pL h6 57 n10)) <|
  lt (wI h6 57 n10 ((pI h6 8 x0 38)).toNatClampNeg x1) fun h13 =>
  nn (pR h13 8 x0 40) fun n15 =>
  ck (inb (pI h13 8 x0 38) (pL h13 58 n15)) <|
  lt (wI h13 58 n15 ((pI h13 8 x0 38)).toNatClampNeg x2) fun h18 =>
  lt (wI h18 8 x0 38 ((pI h18 8 x0 38) + (1 : Int32))) fun h20 =>
  some ((1 : Int32), h20)

def F_X8_price (x0 : Nat) (x1 : Int32) (x2 : Int32) (x3 : Int32) (x4 : Int32) (h : Hp) : Option (Int32 × Hp) :=
  cl (F_X8_isStation x0 x1 h) fun r1 h2 =>
  if r1 = 0 then
  some ((0 : Int32), h2)
  else
  nn (pR h2 8 x0 8) fun n5 =>
  ck (inb x1 (pL h2 31 n5)) <|
  if (pI h2 31 n5 (x1).toNatClampNeg) = 0 then
  some ((0 : Int32), h2)
  else
  cl (F_X8_in x2 (0 : Int32) (3 : Int32) h2) fun r9 h10 =>
  if r9 = 0 then
  some ((0 : Int32), h10)
  else
  cl (F_X8_in x3 (0 : Int32) (1000 : Int32) h10) fun r13 h14 =>
  if r13 = 0 then
  some ((0 : Int32), h14)
  else
  cl (F_X8_in x4 (0 : Int32) (1000 : Int32) h14) fun r17 h18 =>
  if r17 = 0 then
  some ((0 : Int32), h18)
  else
  if (pI h18 8 x0 41) = (100 : Int32) then
  some ((0 : Int32), h18)
  else
  nn (pR h18 8 x0 42) fun n22 =>
  ck (inb (pI h18 8 x0 41) (pL h18 59 n22)) <|
  lt (wI h18 59 n22 ((pI h18 8 x0 41)).toNatClampNeg x1) fun h25 =>
  nn (pR h25 8 x0 43) fun n27 =>
  ck (inb (pI h25 8 x0 41) (pL h25 60 n27)) <|
  lt (wI h25 60 n27 ((pI h25 8 x0 41)).toNatClampNeg x2) fun h30 =>
  nn (pR h30 8 x0 44) fun n32 =>
  ck (inb (pI h30 8 x0 41) (pL h30 61 n32)) <|
  lt (wI h30 61 n32 ((pI h30 8 x0 41)).toNatClampNeg x3) fun h35 =>
  nn (pR h35 8 x0 45) fun n37 =>
  ck (inb (pI h35 8 x0 41) (pL h35 62 n37)) <|
  lt (wI h35 62 n37 ((pI h35 8 x0 41)).toNatClampNeg x4) fun h40 =>
  lt (wI h40 8 x0 41 ((pI h40 8 x0 41) + (1 : Int32))) fun h42 =>
  some ((1 : Int32), h42)

def L_X8_priceNow_5 {β : Type} (v0 : Nat) (v1 : Int32) (v2 : Int32) (κ83 : Int32 → Hp → Option β) : Nat → Int32 → Int32 → Hp → Option β
  | 0, _, _, _ => none
  | f + 1, v3, v4, h =>
    if (pI h 8 v0 41) ≤ v4 then
    κ83 v3 h
    else
    nn (pR h 8 v0 42) fun n2 =>
    ck (inb v4 (pL h 59 n2)) <|
    if (pI h 59 n2 (v4).toNatClampNeg) = v1 then
    nn (pR h 8 v0 43) fun n6 =>
    ck (inb v4 (pL h 60 n6)) <|
    if (pI h 60 n6 (v4).toNatClampNeg) = v2 then
    nn (pR h 8 v0 44) fun n10 =>
    ck (inb v4 (pL h 61 n10)) <|
    if ((pI h 8 v0 0) / (24 : Int32)) < (pI h 61 n10 (v4).toNatClampNeg) then
    L_X8_priceNow_5 v0 v1 v2 κ83 f v3 (v4 + (1 : Int32)) h
    else
    if v3 = (-1 : Int32) then
    L_X8_priceNow_5 v0 v1 v2 κ83 f v4 (v4 + (1 : Int32)) h
    else
    ck (inb v4 (pL h 61 n10)) <|
    ck (inb v3 (pL h 61 n10)) <|
    if (pI h 61 n10 (v4).toNatClampNeg) < (pI h 61 n10 (v3).toNatClampNeg) then
    L_X8_priceNow_5 v0 v1 v2 κ83 f v3 (v4 + (1 : Int32)) h
    else
    L_X8_priceNow_5 v0 v1 v2 κ83 f v4 (v4 + (1 : Int32)) h
    else
    L_X8_priceNow_5 v0 v1 v2 κ83 f v3 (v4 + (1 : Int32)) h
    else
    L_X8_priceNow_5 v0 v1 v2 κ83 f v3 (v4 + (1 : Int32)) h

def F_X8_priceNow (x0 : Nat) (x1 : Int32) (x2 : Int32) (h : Hp) : Option (Int32 × Hp) :=
  L_X8_priceNow_5 x0 x1 x2 (fun k18 h19 =>
  if k18 = (-1 : Int32) then
  some ((0 : Int32), h19)
  else
  nn (pR h19 8 x0 45) fun n21 =>
  ck (inb k18 (pL h19 62 n21)) <|
  some ((pI h19 62 n21 (k18).toNatClampNeg), h19)) FU (-1 : Int32) (0 : Int32) h

def F_X8_sell (x0 : Nat) (x1 : Int32) (h : Hp) : Option (Int32 × Hp) :=
  cl (F_X8_isTrunk x0 x1 h) fun r1 h2 =>
  if r1 = 0 then
  some ((-1 : Int32), h2)
  else
  nn (pR h2 8 x0 16) fun n5 =>
  ck (inb x1 (pL h2 38 n5)) <|
  if (pI h2 38 n5 (x1).toNatClampNeg) = 0 then
  nn (pR h2 8 x0 17) fun n9 =>
  ck (inb x1 (pL h2 39 n9)) <|
  nn (pR h2 8 x0 8) fun n12 =>
  ck (inb (pI h2 39 n9 (x1).toNatClampNeg) (pL h2 31 n12)) <|
  if (pI h2 31 n12 ((pI h2 39 n9 (x1).toNatClampNeg)).toNatClampNeg) = 0 then
  some ((-1 : Int32), h2)
  else
  cl (F_X8_isNext x0 x1 h2) fun r16 h17 =>
  if r16 = 0 then
  nn (pR h17 8 x0 17) fun n20 =>
  ck (inb x1 (pL h17 39 n20)) <|
  nn (pR h17 8 x0 14) fun n23 =>
  ck (inb x1 (pL h17 36 n23)) <|
  cl (F_X8_priceNow x0 (pI h17 39 n20 (x1).toNatClampNeg) (pI h17 36 n23 (x1).toNatClampNeg) h17) fun r26 h27 =>
  nn (pR h27 8 x0 15) fun n29 =>
  ck (inb x1 (pL h27 37 n29)) <|
  nn (pR h27 8 x0 16) fun n32 =>
  ck (inb x1 (pL h27 38 n32)) <|
  lt (wI h27 38 n32 (x1).toNatClampNeg (2 : Int32)) fun h35 =>
  nn (pR h35 8 x0 21) fun n37 =>
  ck (inb x1 (pL h35 43 n37)) <|
  lt (wI h35 43 n37 (x1).toNatClampNeg (r26 * (pI h27 37 n29 (x1).toNatClampNeg))) fun h40 =>
  nn (pR h40 8 x0 13) fun n42 =>
  ck (inb x1 (pL h40 35 n42)) <|
  nn (pR h40 8 x0 37) fun n45 =>
  ck (inb (pI h40 35 n42 (x1).toNatClampNeg) (pL h40 56 n45)) <|
  ck (inb (pI h40 35 n42 (x1).toNatClampNeg) (pL h40 56 n45)) <|
  lt (wI h40 56 n45 ((pI h40 35 n42 (x1).toNatClampNeg)).toNatClampNeg ((pI h40 56 n45 ((pI h40 35 n42 (x1).toNatClampNeg)).toNatClampNeg) + (r26 * (pI h27 37 n29 (x1).toNatClampNeg)))) fun h49 =>
  some ((r26 * (pI h27 37 n29 (x1).toNatClampNeg)), h49)
  else
  some ((-1 : Int32), h17)
  else
  some ((-1 : Int32), h2)

def F_X8_advance (x0 : Nat) (x1 : Int32) (x2 : Int32) (h : Hp) : Option (Int32 × Hp) :=
  cl (F_X8_in x1 (0 : Int32) (7 : Int32) h) fun r1 h2 =>
  if r1 = 0 then
  some ((-2147483648 : Int32), h2)
  else
  cl (F_X8_in x2 (1 : Int32) (100000 : Int32) h2) fun r5 h6 =>
  if r5 = 0 then
  some ((-2147483648 : Int32), h6)
  else
  nn (pR h6 8 x0 37) fun n9 =>
  ck (inb x1 (pL h6 56 n9)) <|
  ck (inb x1 (pL h6 56 n9)) <|
  lt (wI h6 56 n9 (x1).toNatClampNeg ((pI h6 56 n9 (x1).toNatClampNeg) - x2)) fun h13 =>
  nn (pR h13 8 x0 37) fun n15 =>
  ck (inb x1 (pL h13 56 n15)) <|
  some ((pI h13 56 n15 (x1).toNatClampNeg), h13)

def F_X8_balance (x0 : Nat) (x1 : Int32) (h : Hp) : Option (Int32 × Hp) :=
  cl (F_X8_in x1 (0 : Int32) (7 : Int32) h) fun r1 h2 =>
  if r1 = 0 then
  some ((0 : Int32), h2)
  else
  nn (pR h2 8 x0 37) fun n5 =>
  ck (inb x1 (pL h2 56 n5)) <|
  some ((pI h2 56 n5 (x1).toNatClampNeg), h2)

def L_X8_orders_20 {β : Type} (v0 : Nat) (v2 : Int32) (v3 : Int32) (v4 : Int32) (v5 : Int32) (κ42 : Int32 → Hp → Option β) : Nat → Int32 → Int32 → Hp → Option β
  | 0, _, _, _ => none
  | f + 1, v6, v7, h =>
    if (v2 - v5) ≤ v7 then
    κ42 v6 h
    else
    L_X8_orders_20 v0 v2 v3 v4 v5 κ42 f (v6 * v7) (v7 + (1 : Int32)) h

def L_X8_orders_56 {β : Type} (v0 : Nat) (v2 : Int32) (v3 : Int32) (v4 : Int32) (v5 : Int32) (v7 : Int32) (κ73 : Int32 → Hp → Option β) : Nat → Int32 → Hp → Option β
  | 0, _, _ => none
  | f + 1, v8, h =>
    if ((v4 >>> (v8 &&& 31)) &&& (1 : Int32)) = (1 : Int32) then
    L_X8_orders_56 v0 v2 v3 v4 v5 v7 κ73 f (v8 + (1 : Int32)) h
    else
    κ73 v8 h

def L_X8_orders_81 {β : Type} (v0 : Nat) (v2 : Int32) (v3 : Int32) (v4 : Int32) (v5 : Int32) (v7 : Int32) (κ98 : Int32 → Hp → Option β) : Nat → Int32 → Hp → Option β
  | 0, _, _ => none
  | f + 1, v8, h =>
    if ((v4 >>> (v8 &&& 31)) &&& (1 : Int32)) = (1 : Int32) then
    L_X8_orders_81 v0 v2 v3 v4 v5 v7 κ98 f (v8 + (1 : Int32)) h
    else
    κ98 v8 h

def L_X8_orders_73 {β : Type} (v0 : Nat) (v2 : Int32) (v3 : Int32) (v4 : Int32) (v5 : Int32) (κ104 : Int32 → Hp → Option β) : Nat → Int32 → Int32 → Hp → Option β
  | 0, _, _, _ => none
  | f + 1, v7, v8, h =>
    if v7 ≤ 0 then
    κ104 v8 h
    else
    L_X8_orders_81 v0 v2 v3 v4 v5 v7 (fun k12 h13 =>
    L_X8_orders_73 v0 v2 v3 v4 v5 κ104 f (v7 + (-1 : Int32)) k12 h13) FU (v8 + (1 : Int32)) h

def L_X8_orders_8 {β : Type} (v0 : Nat) (v2 : Int32) (κ128 : Hp → Option β) : Nat → Int32 → Int32 → Int32 → Hp → Option β
  | 0, _, _, _, _ => none
  | f + 1, v3, v4, v5, h =>
    if v2 ≤ v5 then
    κ128 h
    else
    L_X8_orders_20 v0 v2 v3 v4 v5 (fun k3 h4 =>
    ck (nz k3) <|
    ck (nz k3) <|
    L_X8_orders_56 v0 v2 (v3 - v3 / k3 * k3) v4 v5 (v3 / k3) (fun k8 h9 =>
    L_X8_orders_73 v0 v2 (v3 - v3 / k3 * k3) v4 v5 (fun k14 h15 =>
    nn (pR h15 8 v0 48) fun n16 =>
    ck (inb v5 (pL h15 64 n16)) <|
    lt (wI h15 64 n16 (v5).toNatClampNeg k14) fun h19 =>
    L_X8_orders_8 v0 v2 κ128 f (v3 - v3 / k3 * k3) (v4 ||| ((1 : Int32) <<< (k14 &&& 31))) (v5 + (1 : Int32)) h19) FU (v3 / k3) k8 h9) FU (0 : Int32) h4) FU (1 : Int32) (2 : Int32) h

def F_X8_orders (x0 : Nat) (x1 : Int32) (x2 : Int32) (h : Hp) : Option (Unit × Hp) :=
  L_X8_orders_8 x0 x2 (fun h21 =>
  some ((), h21)) FU x1 (0 : Int32) (0 : Int32) h

def L_X8_sumOf_46 {β : Type} (v0 : Nat) (v1 : Int32) (v2 : Int32) (v5 : Int32) (v6 : Int32) (v7 : Int32) (κ104 : Int32 → Int32 → Hp → Option β) (κ61 : Hp → Option β) : Nat → Int32 → Int32 → Hp → Option β
  | 0, _, _, _ => none
  | f + 1, v3, v4, h =>
    if v7 ≤ v3 then
    κ104 v3 v4 h
    else
    nn (pR h 8 v0 5) fun n15 =>
    ck (inb v1 (pL h 28 n15)) <|
    if (pI h 28 n15 (v1).toNatClampNeg) = 0 then
    κ61 h
    else
    ck (inb v1 (pL h 28 n15)) <|
    nn (pR h 8 v0 6) fun n20 =>
    ck (inb v1 (pL h 29 n20)) <|
    if (v3 + (pI h 28 n15 (v1).toNatClampNeg)) ≤ (pI h 29 n20 (v1).toNatClampNeg) then
    ck (inb v1 (pL h 28 n15)) <|
    L_X8_sumOf_46 v0 v1 v2 v5 v6 v7 κ104 κ61 f (v3 + (pI h 28 n15 (v1).toNatClampNeg)) (v4 + (1 : Int32)) h
    else
    ck (inb v1 (pL h 29 n20)) <|
    L_X8_sumOf_46 v0 v1 v2 v5 v6 v7 κ104 κ61 f (pI h 29 n20 (v1).toNatClampNeg) (v4 + (1 : Int32)) h

def L_X8_sumOf_19 {β : Type} (v0 : Nat) (v1 : Int32) (v2 : Int32) (κ169 : Int32 → Hp → Option β) (κ61 : Hp → Option β) : Nat → Int32 → Int32 → Int32 → Int32 → Hp → Option β
  | 0, _, _, _, _, _ => none
  | f + 1, v3, v4, v5, v6, h =>
    if v2 ≤ v6 then
    κ169 v5 h
    else
    nn (pR h 8 v0 48) fun n5 =>
    ck (inb v6 (pL h 64 n5)) <|
    nn (pR h 8 v0 47) fun n8 =>
    ck (inb (pI h 64 n5 (v6).toNatClampNeg) (pL h 63 n8)) <|
    nn (pR h 8 v0 27) fun n11 =>
    ck (inb (pI h 63 n8 ((pI h 64 n5 (v6).toNatClampNeg)).toNatClampNeg) (pL h 47 n11)) <|
    L_X8_sumOf_46 v0 v1 v2 v5 v6 ((5 : Int32) * (pI h 47 n11 ((pI h 63 n8 ((pI h 64 n5 (v6).toNatClampNeg)).toNatClampNeg)).toNatClampNeg)) (fun k26 k27 h28 =>
    nn (pR h28 8 v0 49) fun n29 =>
    ck (inb v6 (pL h28 65 n29)) <|
    lt (wI h28 65 n29 (v6).toNatClampNeg k27) fun h32 =>
    nn (pR h32 8 v0 5) fun n34 =>
    ck (inb v1 (pL h32 28 n34)) <|
    nn (pR h32 8 v0 6) fun n37 =>
    ck (inb v1 (pL h32 29 n37)) <|
    if ((k26 - ((5 : Int32) * (pI h 47 n11 ((pI h 63 n8 ((pI h 64 n5 (v6).toNatClampNeg)).toNatClampNeg)).toNatClampNeg))) + (pI h32 28 n34 (v1).toNatClampNeg)) ≤ (pI h32 29 n37 (v1).toNatClampNeg) then
    ck (inb v1 (pL h32 28 n34)) <|
    L_X8_sumOf_19 v0 v1 v2 κ169 κ61 f ((k26 - ((5 : Int32) * (pI h 47 n11 ((pI h 63 n8 ((pI h 64 n5 (v6).toNatClampNeg)).toNatClampNeg)).toNatClampNeg))) + (pI h32 28 n34 (v1).toNatClampNeg)) (k27 + (1 : Int32)) (v5 + k27) (v6 + (1 : Int32)) h32
    else
    ck (inb v1 (pL h32 29 n37)) <|
    L_X8_sumOf_19 v0 v1 v2 κ169 κ61 f (pI h32 29 n37 (v1).toNatClampNeg) (k27 + (1 : Int32)) (v5 + k27) (v6 + (1 : Int32)) h32) (fun h43 =>
    κ61 h43) FU v3 v4 h

def F_X8_sumOf (x0 : Nat) (x1 : Int32) (x2 : Int32) (h : Hp) : Option (Int32 × Hp) :=
  nn (pR h 8 x0 7) fun n1 =>
  ck (inb x1 (pL h 30 n1)) <|
  L_X8_sumOf_19 x0 x1 x2 (fun k44 h45 =>
  some (k44, h45)) (fun h46 =>
  some ((-1 : Int32), h46)) FU (pI h 30 n1 (x1).toNatClampNeg) (pI h 8 x0 0) (0 : Int32) (0 : Int32) h

def L_X8_tries_20 {β : Type} (v0 : Nat) (v1 : Int32) (κ105 : Int32 → Hp → Option β) (κ87 : Hp → Option β) : Nat → Int32 → Int32 → Hp → Option β
  | 0, _, _, _ => none
  | f + 1, v2, v3, h =>
    if (pI h 8 v0 24) ≤ v3 then
    κ105 v2 h
    else
    nn (pR h 8 v0 25) fun n6 =>
    ck (inb v3 (pL h 45 n6)) <|
    if (pI h 45 n6 (v3).toNatClampNeg) = (1 : Int32) then
    nn (pR h 8 v0 26) fun n10 =>
    ck (inb v3 (pL h 46 n10)) <|
    if (pI h 46 n10 (v3).toNatClampNeg) = v1 then
    cl (F_X8_width v0 v3 h) fun r14 h15 =>
    nn (pR h15 8 v0 4) fun n17 =>
    ck (inb v1 (pL h15 27 n17)) <|
    if (pI h15 27 n17 (v1).toNatClampNeg) < r14 then
    L_X8_tries_20 v0 v1 κ105 κ87 f v2 (v3 + (1 : Int32)) h15
    else
    nn (pR h15 8 v0 27) fun n21 =>
    ck (inb v3 (pL h15 47 n21)) <|
    nn (pR h15 8 v0 6) fun n24 =>
    ck (inb v1 (pL h15 29 n24)) <|
    if ((5 : Int32) * (pI h15 47 n21 (v3).toNatClampNeg)) ≤ (pI h15 29 n24 (v1).toNatClampNeg) then
    if v2 = (5 : Int32) then
    κ87 h15
    else
    nn (pR h15 8 v0 47) fun n29 =>
    ck (inb v2 (pL h15 63 n29)) <|
    lt (wI h15 63 n29 (v2).toNatClampNeg v3) fun h32 =>
    L_X8_tries_20 v0 v1 κ105 κ87 f (v2 + (1 : Int32)) (v3 + (1 : Int32)) h32
    else
    L_X8_tries_20 v0 v1 κ105 κ87 f v2 (v3 + (1 : Int32)) h15
    else
    L_X8_tries_20 v0 v1 κ105 κ87 f v2 (v3 + (1 : Int32)) h
    else
    L_X8_tries_20 v0 v1 κ105 κ87 f v2 (v3 + (1 : Int32)) h

def L_X8_tries_118 {β : Type} (v0 : Nat) (v1 : Int32) (v2 : Int32) (κ135 : Int32 → Hp → Option β) : Nat → Int32 → Int32 → Hp → Option β
  | 0, _, _, _ => none
  | f + 1, v3, v4, h =>
    if v2 < v4 then
    κ135 v3 h
    else
    L_X8_tries_118 v0 v1 v2 κ135 f (v3 * v4) (v4 + (1 : Int32)) h

def L_X8_tries_191 {β : Type} (v0 : Nat) (v1 : Int32) (v2 : Int32) (v3 : Int32) (v4 : Int32) (v5 : Int32) (κ236 : Hp → Option β) : Nat → Int32 → Hp → Option β
  | 0, _, _ => none
  | f + 1, v7, h =>
    if v2 ≤ v7 then
    κ236 h
    else
    nn (pR h 8 v0 48) fun n50 =>
    ck (inb v7 (pL h 64 n50)) <|
    nn (pR h 8 v0 47) fun n53 =>
    ck (inb (pI h 64 n50 (v7).toNatClampNeg) (pL h 63 n53)) <|
    nn (pR h 8 v0 50) fun n56 =>
    ck (inb v7 (pL h 66 n56)) <|
    lt (wI h 66 n56 (v7).toNatClampNeg (pI h 63 n53 ((pI h 64 n50 (v7).toNatClampNeg)).toNatClampNeg)) fun h59 =>
    nn (pR h59 8 v0 49) fun n61 =>
    ck (inb v7 (pL h59 65 n61)) <|
    nn (pR h59 8 v0 51) fun n64 =>
    ck (inb v7 (pL h59 67 n64)) <|
    lt (wI h59 67 n64 (v7).toNatClampNeg (pI h59 65 n61 (v7).toNatClampNeg)) fun h67 =>
    L_X8_tries_191 v0 v1 v2 v3 v4 v5 κ236 f (v7 + (1 : Int32)) h67

def L_X8_tries_141 {β : Type} (v0 : Nat) (v1 : Int32) (v2 : Int32) (v3 : Int32) (κ242 : Int32 → Hp → Option β) : Nat → Int32 → Int32 → Hp → Option β
  | 0, _, _, _ => none
  | f + 1, v4, v5, h =>
    if v3 ≤ v5 then
    κ242 v4 h
    else
    cl (F_X8_orders v0 v5 v2 h) fun _ h42 =>
    cl (F_X8_sumOf v0 v1 v2 h42) fun r44 h45 =>
    if r44 = (-1 : Int32) then
    L_X8_tries_141 v0 v1 v2 v3 κ242 f v4 (v5 + (1 : Int32)) h45
    else
    if v4 = (-1 : Int32) then
    L_X8_tries_191 v0 v1 v2 v3 r44 v5 (fun h69 =>
    L_X8_tries_141 v0 v1 v2 v3 κ242 f r44 (v5 + (1 : Int32)) h69) FU (0 : Int32) h45
    else
    if r44 < v4 then
    L_X8_tries_191 v0 v1 v2 v3 r44 v5 (fun h71 =>
    L_X8_tries_141 v0 v1 v2 v3 κ242 f r44 (v5 + (1 : Int32)) h71) FU (0 : Int32) h45
    else
    L_X8_tries_141 v0 v1 v2 v3 κ242 f v4 (v5 + (1 : Int32)) h45

def F_X8_tries (x0 : Nat) (x1 : Int32) (h : Hp) : Option (Int32 × Hp) :=
  cl (F_X8_in x1 (1 : Int32) ((pI h 8 x0 1) - (1 : Int32)) h) fun r1 h2 =>
  if r1 = 0 then
  some ((-1 : Int32), h2)
  else
  L_X8_tries_20 x0 x1 (fun k34 h35 =>
  if k34 = 0 then
  L_X8_tries_118 x0 x1 k34 (fun k75 h76 =>
  L_X8_tries_141 x0 x1 k34 k75 (fun k77 h78 =>
  if k77 = (-1 : Int32) then
  some ((-1 : Int32), h78)
  else
  some (k34, h78)) FU (-1 : Int32) (0 : Int32) h76) FU (0 : Int32) (2 : Int32) h35
  else
  L_X8_tries_118 x0 x1 k34 (fun k38 h39 =>
  L_X8_tries_141 x0 x1 k34 k38 (fun k72 h73 =>
  if k72 = (-1 : Int32) then
  some ((-1 : Int32), h73)
  else
  some (k34, h73)) FU (-1 : Int32) (0 : Int32) h39) FU (1 : Int32) (2 : Int32) h35) (fun h80 =>
  some ((-1 : Int32), h80)) FU (0 : Int32) (0 : Int32) h2

def F_X8_best (x0 : Nat) (x1 : Int32) (x2 : Int32) (h : Hp) : Option (Int32 × Hp) :=
  cl (F_X8_tries x0 x1 h) fun r1 h2 =>
  cl (F_X8_in x2 (0 : Int32) (r1 - (1 : Int32)) h2) fun r4 h5 =>
  if r4 = 0 then
  some ((-1 : Int32), h5)
  else
  nn (pR h5 8 x0 50) fun n8 =>
  ck (inb x2 (pL h5 66 n8)) <|
  some ((pI h5 66 n8 (x2).toNatClampNeg), h5)

def F_X8_passes (x0 : Nat) (x1 : Int32) (x2 : Int32) (h : Hp) : Option (Int32 × Hp) :=
  cl (F_X8_tries x0 x1 h) fun r1 h2 =>
  cl (F_X8_in x2 (0 : Int32) (r1 - (1 : Int32)) h2) fun r4 h5 =>
  if r4 = 0 then
  some ((-1 : Int32), h5)
  else
  nn (pR h5 8 x0 51) fun n8 =>
  ck (inb x2 (pL h5 67 n8)) <|
  some ((pI h5 67 n8 (x2).toNatClampNeg), h5)

def F_X8_told (x0 : Nat) (x1 : Int32) (x2 : Int32) (h : Hp) : Option (Int32 × Hp) :=
  cl (F_X8_isTrunk x0 x1 h) fun r1 h2 =>
  if r1 = 0 then
  some ((-1 : Int32), h2)
  else
  if x2 = (0 : Int32) then
  nn (pR h2 8 x0 12) fun n42 =>
  ck (inb x1 (pL h2 34 n42)) <|
  some ((pI h2 34 n42 (x1).toNatClampNeg), h2)
  else
  if x2 = (1 : Int32) then
  nn (pR h2 8 x0 13) fun n39 =>
  ck (inb x1 (pL h2 35 n39)) <|
  some ((pI h2 35 n39 (x1).toNatClampNeg), h2)
  else
  if x2 = (2 : Int32) then
  nn (pR h2 8 x0 14) fun n36 =>
  ck (inb x1 (pL h2 36 n36)) <|
  some ((pI h2 36 n36 (x1).toNatClampNeg), h2)
  else
  if x2 = (3 : Int32) then
  nn (pR h2 8 x0 15) fun n33 =>
  ck (inb x1 (pL h2 37 n33)) <|
  some ((pI h2 37 n33 (x1).toNatClampNeg), h2)
  else
  if x2 = (4 : Int32) then
  nn (pR h2 8 x0 16) fun n30 =>
  ck (inb x1 (pL h2 38 n30)) <|
  some ((pI h2 38 n30 (x1).toNatClampNeg), h2)
  else
  if x2 = (5 : Int32) then
  nn (pR h2 8 x0 16) fun n23 =>
  ck (inb x1 (pL h2 38 n23)) <|
  if (pI h2 38 n23 (x1).toNatClampNeg) = 0 then
  nn (pR h2 8 x0 17) fun n27 =>
  ck (inb x1 (pL h2 39 n27)) <|
  some ((pI h2 39 n27 (x1).toNatClampNeg), h2)
  else
  some ((-1 : Int32), h2)
  else
  if x2 = (6 : Int32) then
  nn (pR h2 8 x0 16) fun n16 =>
  ck (inb x1 (pL h2 38 n16)) <|
  if (pI h2 38 n16 (x1).toNatClampNeg) = (1 : Int32) then
  nn (pR h2 8 x0 18) fun n20 =>
  ck (inb x1 (pL h2 40 n20)) <|
  some ((pI h2 40 n20 (x1).toNatClampNeg), h2)
  else
  some ((-1 : Int32), h2)
  else
  if x2 = (7 : Int32) then
  nn (pR h2 8 x0 21) fun n13 =>
  ck (inb x1 (pL h2 43 n13)) <|
  some ((pI h2 43 n13 (x1).toNatClampNeg), h2)
  else
  some ((-1 : Int32), h2)

def F_X8_raft (x0 : Nat) (x1 : Int32) (x2 : Int32) (h : Hp) : Option (Int32 × Hp) :=
  cl (F_X8_in x1 (0 : Int32) ((pI h 8 x0 24) - (1 : Int32)) h) fun r1 h2 =>
  if r1 = 0 then
  some ((-1 : Int32), h2)
  else
  if x2 = (0 : Int32) then
  nn (pR h2 8 x0 25) fun n34 =>
  ck (inb x1 (pL h2 45 n34)) <|
  some ((pI h2 45 n34 (x1).toNatClampNeg), h2)
  else
  if x2 = (1 : Int32) then
  nn (pR h2 8 x0 25) fun n27 =>
  ck (inb x1 (pL h2 45 n27)) <|
  if (pI h2 45 n27 (x1).toNatClampNeg) = (3 : Int32) then
  some ((-1 : Int32), h2)
  else
  nn (pR h2 8 x0 26) fun n31 =>
  ck (inb x1 (pL h2 46 n31)) <|
  some ((pI h2 46 n31 (x1).toNatClampNeg), h2)
  else
  if x2 = (2 : Int32) then
  nn (pR h2 8 x0 27) fun n24 =>
  ck (inb x1 (pL h2 47 n24)) <|
  some ((pI h2 47 n24 (x1).toNatClampNeg), h2)
  else
  if x2 = (3 : Int32) then
  cl (F_X8_many x0 x1 h2) fun r21 h22 =>
  some (r21, h22)
  else
  if x2 = (4 : Int32) then
  cl (F_X8_width x0 x1 h2) fun r18 h19 =>
  some (r18, h19)
  else
  if x2 = (5 : Int32) then
  nn (pR h2 8 x0 28) fun n15 =>
  ck (inb x1 (pL h2 48 n15)) <|
  some ((pI h2 48 n15 (x1).toNatClampNeg), h2)
  else
  if x2 = (6 : Int32) then
  nn (pR h2 8 x0 29) fun n12 =>
  ck (inb x1 (pL h2 49 n12)) <|
  some ((pI h2 49 n12 (x1).toNatClampNeg), h2)
  else
  some ((-1 : Int32), h2)

def F_X8_crewed (x0 : Nat) (x1 : Int32) (x2 : Int32) (h : Hp) : Option (Int32 × Hp) :=
  cl (F_X8_in x1 (0 : Int32) ((pI h 8 x0 30) - (1 : Int32)) h) fun r1 h2 =>
  if r1 = 0 then
  some ((-1 : Int32), h2)
  else
  if x2 = (0 : Int32) then
  nn (pR h2 8 x0 32) fun n27 =>
  ck (inb x1 (pL h2 51 n27)) <|
  some ((pI h2 51 n27 (x1).toNatClampNeg), h2)
  else
  if x2 = (1 : Int32) then
  nn (pR h2 8 x0 32) fun n20 =>
  ck (inb x1 (pL h2 51 n20)) <|
  if (pI h2 51 n20 (x1).toNatClampNeg) = 0 then
  nn (pR h2 8 x0 33) fun n24 =>
  ck (inb x1 (pL h2 52 n24)) <|
  some ((pI h2 52 n24 (x1).toNatClampNeg), h2)
  else
  some ((-1 : Int32), h2)
  else
  if x2 = (2 : Int32) then
  nn (pR h2 8 x0 32) fun n13 =>
  ck (inb x1 (pL h2 51 n13)) <|
  if (pI h2 51 n13 (x1).toNatClampNeg) = (2 : Int32) then
  nn (pR h2 8 x0 35) fun n17 =>
  ck (inb x1 (pL h2 54 n17)) <|
  some ((pI h2 54 n17 (x1).toNatClampNeg), h2)
  else
  some ((-1 : Int32), h2)
  else
  if x2 = (3 : Int32) then
  cl (F_X8_isResting x0 x1 h2) fun r9 h10 =>
  if r9 = 0 then
  some ((0 : Int32), h10)
  else
  some ((1 : Int32), h10)
  else
  some ((-1 : Int32), h2)

def L_X8_count_116 {β : Type} (v0 : Nat) (κ148 : Int32 → Hp → Option β) : Nat → Int32 → Int32 → Hp → Option β
  | 0, _, _, _ => none
  | f + 1, v2, v3, h =>
    if (pI h 8 v0 11) ≤ v3 then
    κ148 v2 h
    else
    nn (pR h 8 v0 16) fun n17 =>
    ck (inb v3 (pL h 38 n17)) <|
    if (pI h 38 n17 (v3).toNatClampNeg) = (3 : Int32) then
    L_X8_count_116 v0 κ148 f (v2 + (1 : Int32)) (v3 + (1 : Int32)) h
    else
    L_X8_count_116 v0 κ148 f (v2 + (0 : Int32)) (v3 + (1 : Int32)) h

def L_X8_count_80 {β : Type} (v0 : Nat) (κ112 : Int32 → Hp → Option β) : Nat → Int32 → Int32 → Hp → Option β
  | 0, _, _, _ => none
  | f + 1, v2, v3, h =>
    if (pI h 8 v0 11) ≤ v3 then
    κ112 v2 h
    else
    nn (pR h 8 v0 16) fun n24 =>
    ck (inb v3 (pL h 38 n24)) <|
    if (pI h 38 n24 (v3).toNatClampNeg) = (2 : Int32) then
    L_X8_count_80 v0 κ112 f (v2 + (1 : Int32)) (v3 + (1 : Int32)) h
    else
    L_X8_count_80 v0 κ112 f (v2 + (0 : Int32)) (v3 + (1 : Int32)) h

def F_X8_count (x0 : Nat) (x1 : Int32) (h : Hp) : Option (Int32 × Hp) :=
  if x1 = (0 : Int32) then
  some ((pI h 8 x0 0), h)
  else
  if x1 = (1 : Int32) then
  some ((pI h 8 x0 1), h)
  else
  if x1 = (2 : Int32) then
  some ((pI h 8 x0 11), h)
  else
  if x1 = (3 : Int32) then
  some ((pI h 8 x0 24), h)
  else
  if x1 = (4 : Int32) then
  some ((pI h 8 x0 30), h)
  else
  if x1 = (5 : Int32) then
  some ((pI h 8 x0 46), h)
  else
  if x1 = (6 : Int32) then
  L_X8_count_80 x0 (fun k28 h29 =>
  some (k28, h29)) FU (0 : Int32) (0 : Int32) h
  else
  if x1 = (7 : Int32) then
  L_X8_count_116 x0 (fun k21 h22 =>
  some (k21, h22)) FU (0 : Int32) (0 : Int32) h
  else
  cl (F_X8_in x1 (100 : Int32) ((99 : Int32) + (pI h 8 x0 1)) h) fun r9 h10 =>
  if r9 = 0 then
  some ((-1 : Int32), h10)
  else
  nn (pR h10 8 x0 7) fun n13 =>
  ck (inb (x1 - (100 : Int32)) (pL h10 30 n13)) <|
  some ((pI h10 30 n13 ((x1 - (100 : Int32))).toNatClampNeg), h10)
