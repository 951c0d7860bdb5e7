def FL : Nat := 600
def L_L_law_18 {β : Type} (xs : Nat → Int32) (L : Nat) (v1 : Nat) (v2 : Nat) (κ1025 : Hp → Option β) : Nat → Int32 → Hp → Option β
  | 0, _, _ => none
  | f + 1, v3, h =>
    if ((Int32.ofNat L) - (5 : Int32)) < v3 then
    κ1025 h
    else
    ck (inb v3 L) <|
    if ((xs (v3).toNatClampNeg) &&& (31 : Int32)) = (0 : Int32) then
    ck (inb (v3 + (1 : Int32)) L) <|
    ck (inb (v3 + (2 : Int32)) L) <|
    ck (inb (v3 + (3 : Int32)) L) <|
    ck (inb (v3 + (4 : Int32)) L) <|
    if (xs ((v3 + (4 : Int32))).toNatClampNeg) = 0 then
    cl (F_X7_station v1 (xs ((v3 + (1 : Int32))).toNatClampNeg) (xs ((v3 + (2 : Int32))).toNatClampNeg) (xs ((v3 + (3 : Int32))).toNatClampNeg) (0 : Int32) h) fun r335 h336 =>
    ck (inb (v3 + (1 : Int32)) L) <|
    ck (inb (v3 + (2 : Int32)) L) <|
    ck (inb (v3 + (3 : Int32)) L) <|
    ck (inb (v3 + (4 : Int32)) L) <|
    if (xs ((v3 + (4 : Int32))).toNatClampNeg) = 0 then
    cl (F_X8_station v2 (xs ((v3 + (1 : Int32))).toNatClampNeg) (xs ((v3 + (2 : Int32))).toNatClampNeg) (xs ((v3 + (3 : Int32))).toNatClampNeg) (0 : Int32) h336) fun r343 h344 =>
    if r335 = r343 then
    L_L_law_18 xs L v1 v2 κ1025 f (v3 + (5 : Int32)) h344
    else
    none
    else
    cl (F_X8_station v2 (xs ((v3 + (1 : Int32))).toNatClampNeg) (xs ((v3 + (2 : Int32))).toNatClampNeg) (xs ((v3 + (3 : Int32))).toNatClampNeg) (1 : Int32) h336) fun r347 h348 =>
    if r335 = r347 then
    L_L_law_18 xs L v1 v2 κ1025 f (v3 + (5 : Int32)) h348
    else
    none
    else
    cl (F_X7_station v1 (xs ((v3 + (1 : Int32))).toNatClampNeg) (xs ((v3 + (2 : Int32))).toNatClampNeg) (xs ((v3 + (3 : Int32))).toNatClampNeg) (1 : Int32) h) fun r351 h352 =>
    ck (inb (v3 + (1 : Int32)) L) <|
    ck (inb (v3 + (2 : Int32)) L) <|
    ck (inb (v3 + (3 : Int32)) L) <|
    ck (inb (v3 + (4 : Int32)) L) <|
    if (xs ((v3 + (4 : Int32))).toNatClampNeg) = 0 then
    cl (F_X8_station v2 (xs ((v3 + (1 : Int32))).toNatClampNeg) (xs ((v3 + (2 : Int32))).toNatClampNeg) (xs ((v3 + (3 : Int32))).toNatClampNeg) (0 : Int32) h352) fun r359 h360 =>
    if r351 = r359 then
    L_L_law_18 xs L v1 v2 κ1025 f (v3 + (5 : Int32)) h360
    else
    none
    else
    cl (F_X8_station v2 (xs ((v3 + (1 : Int32))).toNatClampNeg) (xs ((v3 + (2 : Int32))).toNatClampNeg) (xs ((v3 + (3 : Int32))).toNatClampNeg) (1 : Int32) h352) fun r363 h364 =>
    if r351 = r363 then
    L_L_law_18 xs L v1 v2 κ1025 f (v3 + (5 : Int32)) h364
    else
    none
    else
    if ((xs (v3).toNatClampNeg) &&& (31 : Int32)) = (1 : Int32) then
    ck (inb (v3 + (1 : Int32)) L) <|
    ck (inb (v3 + (2 : Int32)) L) <|
    ck (inb (v3 + (3 : Int32)) L) <|
    cl (F_X7_trunk v1 (xs ((v3 + (1 : Int32))).toNatClampNeg) (xs ((v3 + (2 : Int32))).toNatClampNeg) (xs ((v3 + (3 : Int32))).toNatClampNeg) h) fun r320 h321 =>
    ck (inb (v3 + (1 : Int32)) L) <|
    ck (inb (v3 + (2 : Int32)) L) <|
    ck (inb (v3 + (3 : Int32)) L) <|
    cl (F_X8_trunk v2 (xs ((v3 + (1 : Int32))).toNatClampNeg) (xs ((v3 + (2 : Int32))).toNatClampNeg) (xs ((v3 + (3 : Int32))).toNatClampNeg) h321) fun r326 h327 =>
    if r320 = r326 then
    L_L_law_18 xs L v1 v2 κ1025 f (v3 + (5 : Int32)) h327
    else
    none
    else
    if ((xs (v3).toNatClampNeg) &&& (31 : Int32)) = (2 : Int32) then
    ck (inb (v3 + (1 : Int32)) L) <|
    cl (F_X7_find v1 (xs ((v3 + (1 : Int32))).toNatClampNeg) h) fun r309 h310 =>
    ck (inb (v3 + (1 : Int32)) L) <|
    cl (F_X8_find v2 (xs ((v3 + (1 : Int32))).toNatClampNeg) h310) fun r313 h314 =>
    if r309 = r313 then
    L_L_law_18 xs L v1 v2 κ1025 f (v3 + (5 : Int32)) h314
    else
    none
    else
    if ((xs (v3).toNatClampNeg) &&& (31 : Int32)) = (3 : Int32) then
    ck (inb (v3 + (1 : Int32)) L) <|
    cl (F_X7_put v1 (xs ((v3 + (1 : Int32))).toNatClampNeg) h) fun r300 h301 =>
    ck (inb (v3 + (1 : Int32)) L) <|
    cl (F_X8_put v2 (xs ((v3 + (1 : Int32))).toNatClampNeg) h301) fun r304 h305 =>
    if r300 = r304 then
    L_L_law_18 xs L v1 v2 κ1025 f (v3 + (5 : Int32)) h305
    else
    none
    else
    if ((xs (v3).toNatClampNeg) &&& (31 : Int32)) = (4 : Int32) then
    cl (F_X7_bind v1 h) fun r292 h293 =>
    cl (F_X8_bind v2 h293) fun r295 h296 =>
    if r292 = r295 then
    L_L_law_18 xs L v1 v2 κ1025 f (v3 + (5 : Int32)) h296
    else
    none
    else
    if ((xs (v3).toNatClampNeg) &&& (31 : Int32)) = (5 : Int32) then
    ck (inb (v3 + (1 : Int32)) L) <|
    ck (inb (v3 + (2 : Int32)) L) <|
    cl (F_X7_join v1 (xs ((v3 + (1 : Int32))).toNatClampNeg) (xs ((v3 + (2 : Int32))).toNatClampNeg) h) fun r283 h284 =>
    ck (inb (v3 + (1 : Int32)) L) <|
    ck (inb (v3 + (2 : Int32)) L) <|
    cl (F_X8_join v2 (xs ((v3 + (1 : Int32))).toNatClampNeg) (xs ((v3 + (2 : Int32))).toNatClampNeg) h284) fun r288 h289 =>
    if r283 = r288 then
    L_L_law_18 xs L v1 v2 κ1025 f (v3 + (5 : Int32)) h289
    else
    none
    else
    if ((xs (v3).toNatClampNeg) &&& (31 : Int32)) = (6 : Int32) then
    ck (inb (v3 + (1 : Int32)) L) <|
    ck (inb (v3 + (2 : Int32)) L) <|
    cl (F_X7_part v1 (xs ((v3 + (1 : Int32))).toNatClampNeg) (xs ((v3 + (2 : Int32))).toNatClampNeg) h) fun r272 h273 =>
    ck (inb (v3 + (1 : Int32)) L) <|
    ck (inb (v3 + (2 : Int32)) L) <|
    cl (F_X8_part v2 (xs ((v3 + (1 : Int32))).toNatClampNeg) (xs ((v3 + (2 : Int32))).toNatClampNeg) h273) fun r277 h278 =>
    if r272 = r277 then
    L_L_law_18 xs L v1 v2 κ1025 f (v3 + (5 : Int32)) h278
    else
    none
    else
    if ((xs (v3).toNatClampNeg) &&& (31 : Int32)) = (7 : Int32) then
    ck (inb (v3 + (1 : Int32)) L) <|
    cl (F_X7_unbind v1 (xs ((v3 + (1 : Int32))).toNatClampNeg) h) fun r262 h263 =>
    ck (inb (v3 + (1 : Int32)) L) <|
    cl (F_X8_unbind v2 (xs ((v3 + (1 : Int32))).toNatClampNeg) h263) fun r266 h267 =>
    if r262 = r266 then
    L_L_law_18 xs L v1 v2 κ1025 f (v3 + (5 : Int32)) h267
    else
    none
    else
    if ((xs (v3).toNatClampNeg) &&& (31 : Int32)) = (8 : Int32) then
    ck (inb (v3 + (1 : Int32)) L) <|
    cl (F_X7_crew v1 (xs ((v3 + (1 : Int32))).toNatClampNeg) h) fun r253 h254 =>
    ck (inb (v3 + (1 : Int32)) L) <|
    cl (F_X8_crew v2 (xs ((v3 + (1 : Int32))).toNatClampNeg) h254) fun r257 h258 =>
    if r253 = r257 then
    L_L_law_18 xs L v1 v2 κ1025 f (v3 + (5 : Int32)) h258
    else
    none
    else
    if ((xs (v3).toNatClampNeg) &&& (31 : Int32)) = (9 : Int32) then
    ck (inb (v3 + (1 : Int32)) L) <|
    ck (inb (v3 + (2 : Int32)) L) <|
    cl (F_X7_ready v1 (xs ((v3 + (1 : Int32))).toNatClampNeg) (xs ((v3 + (2 : Int32))).toNatClampNeg) h) fun r243 h244 =>
    ck (inb (v3 + (1 : Int32)) L) <|
    ck (inb (v3 + (2 : Int32)) L) <|
    cl (F_X8_ready v2 (xs ((v3 + (1 : Int32))).toNatClampNeg) (xs ((v3 + (2 : Int32))).toNatClampNeg) h244) fun r248 h249 =>
    if r243 = r248 then
    L_L_law_18 xs L v1 v2 κ1025 f (v3 + (5 : Int32)) h249
    else
    none
    else
    if ((xs (v3).toNatClampNeg) &&& (31 : Int32)) = (10 : Int32) then
    ck (inb (v3 + (1 : Int32)) L) <|
    cl (F_X7_tie v1 (xs ((v3 + (1 : Int32))).toNatClampNeg) h) fun r233 h234 =>
    ck (inb (v3 + (1 : Int32)) L) <|
    cl (F_X8_tie v2 (xs ((v3 + (1 : Int32))).toNatClampNeg) h234) fun r237 h238 =>
    if r233 = r237 then
    L_L_law_18 xs L v1 v2 κ1025 f (v3 + (5 : Int32)) h238
    else
    none
    else
    if ((xs (v3).toNatClampNeg) &&& (31 : Int32)) = (11 : Int32) then
    ck (inb (v3 + (1 : Int32)) L) <|
    cl (F_X7_walk v1 (xs ((v3 + (1 : Int32))).toNatClampNeg) h) fun r224 h225 =>
    ck (inb (v3 + (1 : Int32)) L) <|
    cl (F_X8_walk v2 (xs ((v3 + (1 : Int32))).toNatClampNeg) h225) fun r228 h229 =>
    if r224 = r228 then
    L_L_law_18 xs L v1 v2 κ1025 f (v3 + (5 : Int32)) h229
    else
    none
    else
    if ((xs (v3).toNatClampNeg) &&& (31 : Int32)) = (12 : Int32) then
    ck (inb (v3 + (1 : Int32)) L) <|
    cl (F_X7_go v1 (xs ((v3 + (1 : Int32))).toNatClampNeg) h) fun r215 h216 =>
    ck (inb (v3 + (1 : Int32)) L) <|
    cl (F_X8_go v2 (xs ((v3 + (1 : Int32))).toNatClampNeg) h216) fun r219 h220 =>
    if r215 = r219 then
    L_L_law_18 xs L v1 v2 κ1025 f (v3 + (5 : Int32)) h220
    else
    none
    else
    if ((xs (v3).toNatClampNeg) &&& (31 : Int32)) = (13 : Int32) then
    ck (inb (v3 + (1 : Int32)) L) <|
    ck (inb (v3 + (2 : Int32)) L) <|
    ck (inb (v3 + (3 : Int32)) L) <|
    cl (F_X7_storm v1 (xs ((v3 + (1 : Int32))).toNatClampNeg) (xs ((v3 + (2 : Int32))).toNatClampNeg) (xs ((v3 + (3 : Int32))).toNatClampNeg) h) fun r204 h205 =>
    ck (inb (v3 + (1 : Int32)) L) <|
    ck (inb (v3 + (2 : Int32)) L) <|
    ck (inb (v3 + (3 : Int32)) L) <|
    cl (F_X8_storm v2 (xs ((v3 + (1 : Int32))).toNatClampNeg) (xs ((v3 + (2 : Int32))).toNatClampNeg) (xs ((v3 + (3 : Int32))).toNatClampNeg) h205) fun r210 h211 =>
    if r204 = r210 then
    L_L_law_18 xs L v1 v2 κ1025 f (v3 + (5 : Int32)) h211
    else
    none
    else
    if ((xs (v3).toNatClampNeg) &&& (31 : Int32)) = (14 : Int32) then
    ck (inb (v3 + (1 : Int32)) L) <|
    ck (inb (v3 + (2 : Int32)) L) <|
    if (xs ((v3 + (2 : Int32))).toNatClampNeg) = 0 then
    cl (F_X7_breaks v1 (xs ((v3 + (1 : Int32))).toNatClampNeg) (0 : Int32) h) fun r173 h174 =>
    ck (inb (v3 + (1 : Int32)) L) <|
    ck (inb (v3 + (2 : Int32)) L) <|
    if (xs ((v3 + (2 : Int32))).toNatClampNeg) = 0 then
    cl (F_X8_breaks v2 (xs ((v3 + (1 : Int32))).toNatClampNeg) (0 : Int32) h174) fun r179 h180 =>
    if r173 = r179 then
    L_L_law_18 xs L v1 v2 κ1025 f (v3 + (5 : Int32)) h180
    else
    none
    else
    cl (F_X8_breaks v2 (xs ((v3 + (1 : Int32))).toNatClampNeg) (1 : Int32) h174) fun r183 h184 =>
    if r173 = r183 then
    L_L_law_18 xs L v1 v2 κ1025 f (v3 + (5 : Int32)) h184
    else
    none
    else
    cl (F_X7_breaks v1 (xs ((v3 + (1 : Int32))).toNatClampNeg) (1 : Int32) h) fun r187 h188 =>
    ck (inb (v3 + (1 : Int32)) L) <|
    ck (inb (v3 + (2 : Int32)) L) <|
    if (xs ((v3 + (2 : Int32))).toNatClampNeg) = 0 then
    cl (F_X8_breaks v2 (xs ((v3 + (1 : Int32))).toNatClampNeg) (0 : Int32) h188) fun r193 h194 =>
    if r187 = r193 then
    L_L_law_18 xs L v1 v2 κ1025 f (v3 + (5 : Int32)) h194
    else
    none
    else
    cl (F_X8_breaks v2 (xs ((v3 + (1 : Int32))).toNatClampNeg) (1 : Int32) h188) fun r197 h198 =>
    if r187 = r197 then
    L_L_law_18 xs L v1 v2 κ1025 f (v3 + (5 : Int32)) h198
    else
    none
    else
    if ((xs (v3).toNatClampNeg) &&& (31 : Int32)) = (15 : Int32) then
    ck (inb (v3 + (1 : Int32)) L) <|
    ck (inb (v3 + (2 : Int32)) L) <|
    cl (F_X7_right v1 (xs ((v3 + (1 : Int32))).toNatClampNeg) (xs ((v3 + (2 : Int32))).toNatClampNeg) h) fun r161 h162 =>
    ck (inb (v3 + (1 : Int32)) L) <|
    ck (inb (v3 + (2 : Int32)) L) <|
    cl (F_X8_right v2 (xs ((v3 + (1 : Int32))).toNatClampNeg) (xs ((v3 + (2 : Int32))).toNatClampNeg) h162) fun r166 h167 =>
    if r161 = r166 then
    L_L_law_18 xs L v1 v2 κ1025 f (v3 + (5 : Int32)) h167
    else
    none
    else
    if ((xs (v3).toNatClampNeg) &&& (31 : Int32)) = (16 : Int32) then
    ck (inb (v3 + (1 : Int32)) L) <|
    ck (inb (v3 + (2 : Int32)) L) <|
    cl (F_X7_toll v1 (xs ((v3 + (1 : Int32))).toNatClampNeg) (xs ((v3 + (2 : Int32))).toNatClampNeg) h) fun r150 h151 =>
    ck (inb (v3 + (1 : Int32)) L) <|
    ck (inb (v3 + (2 : Int32)) L) <|
    cl (F_X8_toll v2 (xs ((v3 + (1 : Int32))).toNatClampNeg) (xs ((v3 + (2 : Int32))).toNatClampNeg) h151) fun r155 h156 =>
    if r150 = r155 then
    L_L_law_18 xs L v1 v2 κ1025 f (v3 + (5 : Int32)) h156
    else
    none
    else
    if ((xs (v3).toNatClampNeg) &&& (31 : Int32)) = (17 : Int32) then
    ck (inb (v3 + (1 : Int32)) L) <|
    ck (inb (v3 + (2 : Int32)) L) <|
    ck (inb (v3 + (3 : Int32)) L) <|
    ck (inb (v3 + (4 : Int32)) L) <|
    cl (F_X7_price v1 (xs ((v3 + (1 : Int32))).toNatClampNeg) (xs ((v3 + (2 : Int32))).toNatClampNeg) (xs ((v3 + (3 : Int32))).toNatClampNeg) (xs ((v3 + (4 : Int32))).toNatClampNeg) h) fun r137 h138 =>
    ck (inb (v3 + (1 : Int32)) L) <|
    ck (inb (v3 + (2 : Int32)) L) <|
    ck (inb (v3 + (3 : Int32)) L) <|
    ck (inb (v3 + (4 : Int32)) L) <|
    cl (F_X8_price v2 (xs ((v3 + (1 : Int32))).toNatClampNeg) (xs ((v3 + (2 : Int32))).toNatClampNeg) (xs ((v3 + (3 : Int32))).toNatClampNeg) (xs ((v3 + (4 : Int32))).toNatClampNeg) h138) fun r144 h145 =>
    if r137 = r144 then
    L_L_law_18 xs L v1 v2 κ1025 f (v3 + (5 : Int32)) h145
    else
    none
    else
    if ((xs (v3).toNatClampNeg) &&& (31 : Int32)) = (18 : Int32) then
    ck (inb (v3 + (1 : Int32)) L) <|
    cl (F_X7_sell v1 (xs ((v3 + (1 : Int32))).toNatClampNeg) h) fun r125 h126 =>
    ck (inb (v3 + (1 : Int32)) L) <|
    cl (F_X8_sell v2 (xs ((v3 + (1 : Int32))).toNatClampNeg) h126) fun r129 h130 =>
    if r125 = r129 then
    L_L_law_18 xs L v1 v2 κ1025 f (v3 + (5 : Int32)) h130
    else
    none
    else
    if ((xs (v3).toNatClampNeg) &&& (31 : Int32)) = (19 : Int32) then
    ck (inb (v3 + (1 : Int32)) L) <|
    ck (inb (v3 + (2 : Int32)) L) <|
    cl (F_X7_advance v1 (xs ((v3 + (1 : Int32))).toNatClampNeg) (xs ((v3 + (2 : Int32))).toNatClampNeg) h) fun r115 h116 =>
    ck (inb (v3 + (1 : Int32)) L) <|
    ck (inb (v3 + (2 : Int32)) L) <|
    cl (F_X8_advance v2 (xs ((v3 + (1 : Int32))).toNatClampNeg) (xs ((v3 + (2 : Int32))).toNatClampNeg) h116) fun r120 h121 =>
    if r115 = r120 then
    L_L_law_18 xs L v1 v2 κ1025 f (v3 + (5 : Int32)) h121
    else
    none
    else
    if ((xs (v3).toNatClampNeg) &&& (31 : Int32)) = (20 : Int32) then
    ck (inb (v3 + (1 : Int32)) L) <|
    cl (F_X7_balance v1 (xs ((v3 + (1 : Int32))).toNatClampNeg) h) fun r105 h106 =>
    ck (inb (v3 + (1 : Int32)) L) <|
    cl (F_X8_balance v2 (xs ((v3 + (1 : Int32))).toNatClampNeg) h106) fun r109 h110 =>
    if r105 = r109 then
    L_L_law_18 xs L v1 v2 κ1025 f (v3 + (5 : Int32)) h110
    else
    none
    else
    if ((xs (v3).toNatClampNeg) &&& (31 : Int32)) = (21 : Int32) then
    ck (inb (v3 + (1 : Int32)) L) <|
    ck (inb (v3 + (2 : Int32)) L) <|
    cl (F_X7_best v1 (xs ((v3 + (1 : Int32))).toNatClampNeg) (xs ((v3 + (2 : Int32))).toNatClampNeg) h) fun r95 h96 =>
    ck (inb (v3 + (1 : Int32)) L) <|
    ck (inb (v3 + (2 : Int32)) L) <|
    cl (F_X8_best v2 (xs ((v3 + (1 : Int32))).toNatClampNeg) (xs ((v3 + (2 : Int32))).toNatClampNeg) h96) fun r100 h101 =>
    if r95 = r100 then
    L_L_law_18 xs L v1 v2 κ1025 f (v3 + (5 : Int32)) h101
    else
    none
    else
    if ((xs (v3).toNatClampNeg) &&& (31 : Int32)) = (22 : Int32) then
    ck (inb (v3 + (1 : Int32)) L) <|
    ck (inb (v3 + (2 : Int32)) L) <|
    cl (F_X7_passes v1 (xs ((v3 + (1 : Int32))).toNatClampNeg) (xs ((v3 + (2 : Int32))).toNatClampNeg) h) fun r84 h85 =>
    ck (inb (v3 + (1 : Int32)) L) <|
    ck (inb (v3 + (2 : Int32)) L) <|
    cl (F_X8_passes v2 (xs ((v3 + (1 : Int32))).toNatClampNeg) (xs ((v3 + (2 : Int32))).toNatClampNeg) h85) fun r89 h90 =>
    if r84 = r89 then
    L_L_law_18 xs L v1 v2 κ1025 f (v3 + (5 : Int32)) h90
    else
    none
    else
    if ((xs (v3).toNatClampNeg) &&& (31 : Int32)) = (23 : Int32) then
    ck (inb (v3 + (1 : Int32)) L) <|
    ck (inb (v3 + (2 : Int32)) L) <|
    cl (F_X7_told v1 (xs ((v3 + (1 : Int32))).toNatClampNeg) (xs ((v3 + (2 : Int32))).toNatClampNeg) h) fun r73 h74 =>
    ck (inb (v3 + (1 : Int32)) L) <|
    ck (inb (v3 + (2 : Int32)) L) <|
    cl (F_X8_told v2 (xs ((v3 + (1 : Int32))).toNatClampNeg) (xs ((v3 + (2 : Int32))).toNatClampNeg) h74) fun r78 h79 =>
    if r73 = r78 then
    L_L_law_18 xs L v1 v2 κ1025 f (v3 + (5 : Int32)) h79
    else
    none
    else
    if ((xs (v3).toNatClampNeg) &&& (31 : Int32)) = (24 : Int32) then
    ck (inb (v3 + (1 : Int32)) L) <|
    ck (inb (v3 + (2 : Int32)) L) <|
    cl (F_X7_raft v1 (xs ((v3 + (1 : Int32))).toNatClampNeg) (xs ((v3 + (2 : Int32))).toNatClampNeg) h) fun r62 h63 =>
    ck (inb (v3 + (1 : Int32)) L) <|
    ck (inb (v3 + (2 : Int32)) L) <|
    cl (F_X8_raft v2 (xs ((v3 + (1 : Int32))).toNatClampNeg) (xs ((v3 + (2 : Int32))).toNatClampNeg) h63) fun r67 h68 =>
    if r62 = r67 then
    L_L_law_18 xs L v1 v2 κ1025 f (v3 + (5 : Int32)) h68
    else
    none
    else
    if ((xs (v3).toNatClampNeg) &&& (31 : Int32)) = (25 : Int32) then
    ck (inb (v3 + (1 : Int32)) L) <|
    ck (inb (v3 + (2 : Int32)) L) <|
    cl (F_X7_crewed v1 (xs ((v3 + (1 : Int32))).toNatClampNeg) (xs ((v3 + (2 : Int32))).toNatClampNeg) h) fun r51 h52 =>
    ck (inb (v3 + (1 : Int32)) L) <|
    ck (inb (v3 + (2 : Int32)) L) <|
    cl (F_X8_crewed v2 (xs ((v3 + (1 : Int32))).toNatClampNeg) (xs ((v3 + (2 : Int32))).toNatClampNeg) h52) fun r56 h57 =>
    if r51 = r56 then
    L_L_law_18 xs L v1 v2 κ1025 f (v3 + (5 : Int32)) h57
    else
    none
    else
    if ((xs (v3).toNatClampNeg) &&& (31 : Int32)) = (26 : Int32) then
    ck (inb (v3 + (1 : Int32)) L) <|
    cl (F_X7_count v1 (xs ((v3 + (1 : Int32))).toNatClampNeg) h) fun r41 h42 =>
    ck (inb (v3 + (1 : Int32)) L) <|
    cl (F_X8_count v2 (xs ((v3 + (1 : Int32))).toNatClampNeg) h42) fun r45 h46 =>
    if r41 = r45 then
    L_L_law_18 xs L v1 v2 κ1025 f (v3 + (5 : Int32)) h46
    else
    none
    else
    L_L_law_18 xs L v1 v2 κ1025 f (v3 + (5 : Int32)) h


def F_law (xs : Nat → Int32) (L : Nat) (h : Hp) : Option (Int32 × Hp) :=
  lt (wN h 7 0) fun h1 =>
  cl (F_X7_init (pC h 7) h1) fun _ h4 =>
  lt (wN h4 8 0) fun h6 =>
  cl (F_X8_init (pC h4 8) h6) fun _ h9 =>
  L_L_law_18 xs L (pC h 7) (pC h4 8) (fun h367 =>
  some ((1 : Int32), h367)) FL (0 : Int32) h9

set_option maxHeartbeats 4000000 in
set_option maxRecDepth 100000 in
theorem t_L_law_18 {β : Type} {J : JT} {xs : Nat → Int32} {L : Nat} (hJ : Rules cL_law RL 4 9 601142 7298822 False J) (hS : ∀ {pc a b : Nat} {ls : List (Option AV)} {st : List AV} {h : Hp} {x : Int32}, decode cL_law pc = .ok (.iaload, 1) → inb x L = true → J (pc + 1) ls (.inl (xs x.toNatClampNeg) :: st) h a b → J pc ls (.inl x :: .inr (99, some 0) :: st) h a b) (hSl : ∀ {pc a b : Nat} {ls : List (Option AV)} {st : List AV} {h : Hp}, decode cL_law pc = .ok (.arraylength, 1) → J (pc + 1) ls (.inl (Int32.ofNat L) :: st) h a b → J pc ls (.inr (99, some 0) :: st) h a b) {v1 : Nat} {v2 : Nat} {κ1025 : Hp → Option β} {out : β}
    (hk1025 : ∀ (h : Hp) (a b : Nat), a ≤ 601142 → b ≤ 7298822 → κ1025 h = some out → J 1025 [none, none, none, none] [] h a b)
    : ∀ (f : Nat) (v3 : Int32) (h : Hp) (a b : Nat), a + 4 * f ≤ 601142 → b + 26 * f ≤ 7298822 → L_L_law_18 xs L v1 v2 κ1025 f v3 h = some out → J 18 [some (.inr (99, (some 0))), some (.inr (7, (some v1))), some (.inr (8, (some v2))), some (.inl v3)] [] h a b := by
  intro f
  induction f with
  | zero => intro v3 h a b ha hb hF; simp [L_L_law_18] at hF
  | succ f ih =>
    intro v3 h a b ha hb hF
    rw [L_L_law_18] at hF
    refine hJ.iload_n (i := 3) dL_law_18 rfl rfl ?_
    refine hJ.aload_n (i := 0) dL_law_19 rfl rfl ?_
    refine hSl dL_law_20 ?_
    refine hJ.iconst (v := 5) dL_law_21 (by decide) ?_
    refine hJ.isub dL_law_22 ?_
    refine hJ.icmp_gt (tgt := 1025) dL_law_23 (by decide) (fun e11 => ?_) (fun e11 => ?_)
    · replace hF := ite_T e11 hF
      refine hJ.forget (ls2 := [none, none, none, none]) trivial ?_
      exact hk1025 h _ _ (by omega) (by omega) hF
    · replace hF := ite_F e11 hF
      refine hJ.aload_n (i := 0) dL_law_26 rfl rfl ?_
      refine hJ.iload_n (i := 3) dL_law_27 rfl rfl ?_
      replace hF := ck_S hF
      obtain ⟨c12, hF⟩ := hF
      refine hS dL_law_28 c12 ?_
      refine hJ.bipush (v := 31) dL_law_29 (by decide) ?_
      refine hJ.iand dL_law_31 ?_
      by_cases e13 : ((xs (v3).toNatClampNeg) &&& (31 : Int32)) = (0 : Int32)
      · replace hF := ite_T e13 hF
        refine hJ.tabIn (off := 124) (tgt := 156) dL_law_32 (by rw [e13]; decide) (by rw [e13]; decide) (by rw [e13]; decide) (by decide) ?_
        refine hJ.aload_n (i := 1) dL_law_156 rfl rfl ?_
        refine hJ.aload_n (i := 0) dL_law_157 rfl rfl ?_
        refine hJ.iload_n (i := 3) dL_law_158 rfl rfl ?_
        refine hJ.iconst (v := 1) dL_law_159 (by decide) ?_
        refine hJ.iadd dL_law_160 ?_
        replace hF := ck_S hF
        obtain ⟨c330, hF⟩ := hF
        refine hS dL_law_161 c330 ?_
        refine hJ.aload_n (i := 0) dL_law_162 rfl rfl ?_
        refine hJ.iload_n (i := 3) dL_law_163 rfl rfl ?_
        refine hJ.iconst (v := 2) dL_law_164 (by decide) ?_
        refine hJ.iadd dL_law_165 ?_
        replace hF := ck_S hF
        obtain ⟨c331, hF⟩ := hF
        refine hS dL_law_166 c331 ?_
        refine hJ.aload_n (i := 0) dL_law_167 rfl rfl ?_
        refine hJ.iload_n (i := 3) dL_law_168 rfl rfl ?_
        refine hJ.iconst (v := 3) dL_law_169 (by decide) ?_
        refine hJ.iadd dL_law_170 ?_
        replace hF := ck_S hF
        obtain ⟨c332, hF⟩ := hF
        refine hS dL_law_171 c332 ?_
        refine hJ.aload_n (i := 0) dL_law_172 rfl rfl ?_
        refine hJ.iload_n (i := 3) dL_law_173 rfl rfl ?_
        refine hJ.iconst (v := 4) dL_law_174 (by decide) ?_
        refine hJ.iadd dL_law_175 ?_
        replace hF := ck_S hF
        obtain ⟨c333, hF⟩ := hF
        refine hS dL_law_176 c333 ?_
        refine hJ.if_eq (tgt := 184) dL_law_177 (by decide) (fun e334 => ?_) (fun e334 => ?_)
        · replace hF := ite_T e334 hF
          refine hJ.iconst (v := 0) dL_law_184 (by decide) ?_
          replace hF := cl_S hF
          obtain ⟨r335, h336, ec337, hF⟩ := hF
          refine hJ.callV (as := [.inl (xs ((v3 + (1 : Int32))).toNatClampNeg), .inl (xs ((v3 + (2 : Int32))).toNatClampNeg), .inl (xs ((v3 + (3 : Int32))).toNatClampNeg), .inl (0 : Int32)]) (st := []) dL_law_185 w_RL_13 ⟨by decide, rfl⟩ rfl (c_X7_station ec337) (by decide) (by omega) (by omega) rfl (Nat.le_of_ble_eq_true rfl) rfl ?_
          refine hJ.aload_n (i := 2) dL_law_188 rfl rfl ?_
          refine hJ.aload_n (i := 0) dL_law_189 rfl rfl ?_
          refine hJ.iload_n (i := 3) dL_law_190 rfl rfl ?_
          refine hJ.iconst (v := 1) dL_law_191 (by decide) ?_
          refine hJ.iadd dL_law_192 ?_
          replace hF := ck_S hF
          obtain ⟨c338, hF⟩ := hF
          refine hS dL_law_193 c338 ?_
          refine hJ.aload_n (i := 0) dL_law_194 rfl rfl ?_
          refine hJ.iload_n (i := 3) dL_law_195 rfl rfl ?_
          refine hJ.iconst (v := 2) dL_law_196 (by decide) ?_
          refine hJ.iadd dL_law_197 ?_
          replace hF := ck_S hF
          obtain ⟨c339, hF⟩ := hF
          refine hS dL_law_198 c339 ?_
          refine hJ.aload_n (i := 0) dL_law_199 rfl rfl ?_
          refine hJ.iload_n (i := 3) dL_law_200 rfl rfl ?_
          refine hJ.iconst (v := 3) dL_law_201 (by decide) ?_
          refine hJ.iadd dL_law_202 ?_
          replace hF := ck_S hF
          obtain ⟨c340, hF⟩ := hF
          refine hS dL_law_203 c340 ?_
          refine hJ.aload_n (i := 0) dL_law_204 rfl rfl ?_
          refine hJ.iload_n (i := 3) dL_law_205 rfl rfl ?_
          refine hJ.iconst (v := 4) dL_law_206 (by decide) ?_
          refine hJ.iadd dL_law_207 ?_
          replace hF := ck_S hF
          obtain ⟨c341, hF⟩ := hF
          refine hS dL_law_208 c341 ?_
          refine hJ.if_eq (tgt := 216) dL_law_209 (by decide) (fun e342 => ?_) (fun e342 => ?_)
          · replace hF := ite_T e342 hF
            refine hJ.iconst (v := 0) dL_law_216 (by decide) ?_
            replace hF := cl_S hF
            obtain ⟨r343, h344, ec345, hF⟩ := hF
            refine hJ.callV (as := [.inl (xs ((v3 + (1 : Int32))).toNatClampNeg), .inl (xs ((v3 + (2 : Int32))).toNatClampNeg), .inl (xs ((v3 + (3 : Int32))).toNatClampNeg), .inl (0 : Int32)]) (st := [.inl r335]) dL_law_217 w_RL_17 ⟨by decide, rfl⟩ rfl (c_X8_station ec345) (by decide) (by omega) (by omega) rfl (Nat.le_of_ble_eq_true rfl) rfl ?_
            refine hJ.icmp_eq (tgt := 1019) dL_law_220 (by decide) (fun e346 => ?_) (fun e346 => ?_)
            · replace hF := ite_T e346 hF
              refine hJ.iinc (i := 3) (v := (v3 + (5 : Int32))) (ls2 := [some (.inr (99, (some 0))), some (.inr (7, (some v1))), some (.inr (8, (some v2))), some (.inl (v3 + (5 : Int32)))]) dL_law_1019 rfl (addI (by decide)) (by decide) rfl ?_
              refine hJ.goto (tgt := 18) dL_law_1022 (by decide) ?_
              refine hJ.forget (ls2 := [some (.inr (99, (some 0))), some (.inr (7, (some v1))), some (.inr (8, (some v2))), some (.inl (v3 + (5 : Int32)))]) ⟨rfl, rfl, rfl, rfl, trivial⟩ ?_
              exact ih (v3 + (5 : Int32)) h344 _ _ (by omega) (by omega) hF
            · replace hF := ite_F e346 hF
              cases hF
          · replace hF := ite_F e342 hF
            refine hJ.iconst (v := 1) dL_law_212 (by decide) ?_
            refine hJ.goto (tgt := 217) dL_law_213 (by decide) ?_
            replace hF := cl_S hF
            obtain ⟨r347, h348, ec349, hF⟩ := hF
            refine hJ.callV (as := [.inl (xs ((v3 + (1 : Int32))).toNatClampNeg), .inl (xs ((v3 + (2 : Int32))).toNatClampNeg), .inl (xs ((v3 + (3 : Int32))).toNatClampNeg), .inl (1 : Int32)]) (st := [.inl r335]) dL_law_217 w_RL_17 ⟨by decide, rfl⟩ rfl (c_X8_station ec349) (by decide) (by omega) (by omega) rfl (Nat.le_of_ble_eq_true rfl) rfl ?_
            refine hJ.icmp_eq (tgt := 1019) dL_law_220 (by decide) (fun e350 => ?_) (fun e350 => ?_)
            · replace hF := ite_T e350 hF
              refine hJ.iinc (i := 3) (v := (v3 + (5 : Int32))) (ls2 := [some (.inr (99, (some 0))), some (.inr (7, (some v1))), some (.inr (8, (some v2))), some (.inl (v3 + (5 : Int32)))]) dL_law_1019 rfl (addI (by decide)) (by decide) rfl ?_
              refine hJ.goto (tgt := 18) dL_law_1022 (by decide) ?_
              refine hJ.forget (ls2 := [some (.inr (99, (some 0))), some (.inr (7, (some v1))), some (.inr (8, (some v2))), some (.inl (v3 + (5 : Int32)))]) ⟨rfl, rfl, rfl, rfl, trivial⟩ ?_
              exact ih (v3 + (5 : Int32)) h348 _ _ (by omega) (by omega) hF
            · replace hF := ite_F e350 hF
              cases hF
        · replace hF := ite_F e334 hF
          refine hJ.iconst (v := 1) dL_law_180 (by decide) ?_
          refine hJ.goto (tgt := 185) dL_law_181 (by decide) ?_
          replace hF := cl_S hF
          obtain ⟨r351, h352, ec353, hF⟩ := hF
          refine hJ.callV (as := [.inl (xs ((v3 + (1 : Int32))).toNatClampNeg), .inl (xs ((v3 + (2 : Int32))).toNatClampNeg), .inl (xs ((v3 + (3 : Int32))).toNatClampNeg), .inl (1 : Int32)]) (st := []) dL_law_185 w_RL_13 ⟨by decide, rfl⟩ rfl (c_X7_station ec353) (by decide) (by omega) (by omega) rfl (Nat.le_of_ble_eq_true rfl) rfl ?_
          refine hJ.aload_n (i := 2) dL_law_188 rfl rfl ?_
          refine hJ.aload_n (i := 0) dL_law_189 rfl rfl ?_
          refine hJ.iload_n (i := 3) dL_law_190 rfl rfl ?_
          refine hJ.iconst (v := 1) dL_law_191 (by decide) ?_
          refine hJ.iadd dL_law_192 ?_
          replace hF := ck_S hF
          obtain ⟨c354, hF⟩ := hF
          refine hS dL_law_193 c354 ?_
          refine hJ.aload_n (i := 0) dL_law_194 rfl rfl ?_
          refine hJ.iload_n (i := 3) dL_law_195 rfl rfl ?_
          refine hJ.iconst (v := 2) dL_law_196 (by decide) ?_
          refine hJ.iadd dL_law_197 ?_
          replace hF := ck_S hF
          obtain ⟨c355, hF⟩ := hF
          refine hS dL_law_198 c355 ?_
          refine hJ.aload_n (i := 0) dL_law_199 rfl rfl ?_
          refine hJ.iload_n (i := 3) dL_law_200 rfl rfl ?_
          refine hJ.iconst (v := 3) dL_law_201 (by decide) ?_
          refine hJ.iadd dL_law_202 ?_
          replace hF := ck_S hF
          obtain ⟨c356, hF⟩ := hF
          refine hS dL_law_203 c356 ?_
          refine hJ.aload_n (i := 0) dL_law_204 rfl rfl ?_
          refine hJ.iload_n (i := 3) dL_law_205 rfl rfl ?_
          refine hJ.iconst (v := 4) dL_law_206 (by decide) ?_
          refine hJ.iadd dL_law_207 ?_
          replace hF := ck_S hF
          obtain ⟨c357, hF⟩ := hF
          refine hS dL_law_208 c357 ?_
          refine hJ.if_eq (tgt := 216) dL_law_209 (by decide) (fun e358 => ?_) (fun e358 => ?_)
          · replace hF := ite_T e358 hF
            refine hJ.iconst (v := 0) dL_law_216 (by decide) ?_
            replace hF := cl_S hF
            obtain ⟨r359, h360, ec361, hF⟩ := hF
            refine hJ.callV (as := [.inl (xs ((v3 + (1 : Int32))).toNatClampNeg), .inl (xs ((v3 + (2 : Int32))).toNatClampNeg), .inl (xs ((v3 + (3 : Int32))).toNatClampNeg), .inl (0 : Int32)]) (st := [.inl r351]) dL_law_217 w_RL_17 ⟨by decide, rfl⟩ rfl (c_X8_station ec361) (by decide) (by omega) (by omega) rfl (Nat.le_of_ble_eq_true rfl) rfl ?_
            refine hJ.icmp_eq (tgt := 1019) dL_law_220 (by decide) (fun e362 => ?_) (fun e362 => ?_)
            · replace hF := ite_T e362 hF
              refine hJ.iinc (i := 3) (v := (v3 + (5 : Int32))) (ls2 := [some (.inr (99, (some 0))), some (.inr (7, (some v1))), some (.inr (8, (some v2))), some (.inl (v3 + (5 : Int32)))]) dL_law_1019 rfl (addI (by decide)) (by decide) rfl ?_
              refine hJ.goto (tgt := 18) dL_law_1022 (by decide) ?_
              refine hJ.forget (ls2 := [some (.inr (99, (some 0))), some (.inr (7, (some v1))), some (.inr (8, (some v2))), some (.inl (v3 + (5 : Int32)))]) ⟨rfl, rfl, rfl, rfl, trivial⟩ ?_
              exact ih (v3 + (5 : Int32)) h360 _ _ (by omega) (by omega) hF
            · replace hF := ite_F e362 hF
              cases hF
          · replace hF := ite_F e358 hF
            refine hJ.iconst (v := 1) dL_law_212 (by decide) ?_
            refine hJ.goto (tgt := 217) dL_law_213 (by decide) ?_
            replace hF := cl_S hF
            obtain ⟨r363, h364, ec365, hF⟩ := hF
            refine hJ.callV (as := [.inl (xs ((v3 + (1 : Int32))).toNatClampNeg), .inl (xs ((v3 + (2 : Int32))).toNatClampNeg), .inl (xs ((v3 + (3 : Int32))).toNatClampNeg), .inl (1 : Int32)]) (st := [.inl r351]) dL_law_217 w_RL_17 ⟨by decide, rfl⟩ rfl (c_X8_station ec365) (by decide) (by omega) (by omega) rfl (Nat.le_of_ble_eq_true rfl) rfl ?_
            refine hJ.icmp_eq (tgt := 1019) dL_law_220 (by decide) (fun e366 => ?_) (fun e366 => ?_)
            · replace hF := ite_T e366 hF
              refine hJ.iinc (i := 3) (v := (v3 + (5 : Int32))) (ls2 := [some (.inr (99, (some 0))), some (.inr (7, (some v1))), some (.inr (8, (some v2))), some (.inl (v3 + (5 : Int32)))]) dL_law_1019 rfl (addI (by decide)) (by decide) rfl ?_
              refine hJ.goto (tgt := 18) dL_law_1022 (by decide) ?_
              refine hJ.forget (ls2 := [some (.inr (99, (some 0))), some (.inr (7, (some v1))), some (.inr (8, (some v2))), some (.inl (v3 + (5 : Int32)))]) ⟨rfl, rfl, rfl, rfl, trivial⟩ ?_
              exact ih (v3 + (5 : Int32)) h364 _ _ (by omega) (by omega) hF
            · replace hF := ite_F e366 hF
              cases hF
      · replace hF := ite_F e13 hF
        by_cases e14 : ((xs (v3).toNatClampNeg) &&& (31 : Int32)) = (1 : Int32)
        · replace hF := ite_T e14 hF
          refine hJ.tabIn (off := 193) (tgt := 225) dL_law_32 (by rw [e14]; decide) (by rw [e14]; decide) (by rw [e14]; decide) (by decide) ?_
          refine hJ.aload_n (i := 1) dL_law_225 rfl rfl ?_
          refine hJ.aload_n (i := 0) dL_law_226 rfl rfl ?_
          refine hJ.iload_n (i := 3) dL_law_227 rfl rfl ?_
          refine hJ.iconst (v := 1) dL_law_228 (by decide) ?_
          refine hJ.iadd dL_law_229 ?_
          replace hF := ck_S hF
          obtain ⟨c317, hF⟩ := hF
          refine hS dL_law_230 c317 ?_
          refine hJ.aload_n (i := 0) dL_law_231 rfl rfl ?_
          refine hJ.iload_n (i := 3) dL_law_232 rfl rfl ?_
          refine hJ.iconst (v := 2) dL_law_233 (by decide) ?_
          refine hJ.iadd dL_law_234 ?_
          replace hF := ck_S hF
          obtain ⟨c318, hF⟩ := hF
          refine hS dL_law_235 c318 ?_
          refine hJ.aload_n (i := 0) dL_law_236 rfl rfl ?_
          refine hJ.iload_n (i := 3) dL_law_237 rfl rfl ?_
          refine hJ.iconst (v := 3) dL_law_238 (by decide) ?_
          refine hJ.iadd dL_law_239 ?_
          replace hF := ck_S hF
          obtain ⟨c319, hF⟩ := hF
          refine hS dL_law_240 c319 ?_
          replace hF := cl_S hF
          obtain ⟨r320, h321, ec322, hF⟩ := hF
          refine hJ.callV (as := [.inl (xs ((v3 + (1 : Int32))).toNatClampNeg), .inl (xs ((v3 + (2 : Int32))).toNatClampNeg), .inl (xs ((v3 + (3 : Int32))).toNatClampNeg)]) (st := []) dL_law_241 w_RL_18 ⟨by decide, rfl⟩ rfl (c_X7_trunk ec322) (by decide) (by omega) (by omega) rfl (Nat.le_of_ble_eq_true rfl) rfl ?_
          refine hJ.aload_n (i := 2) dL_law_244 rfl rfl ?_
          refine hJ.aload_n (i := 0) dL_law_245 rfl rfl ?_
          refine hJ.iload_n (i := 3) dL_law_246 rfl rfl ?_
          refine hJ.iconst (v := 1) dL_law_247 (by decide) ?_
          refine hJ.iadd dL_law_248 ?_
          replace hF := ck_S hF
          obtain ⟨c323, hF⟩ := hF
          refine hS dL_law_249 c323 ?_
          refine hJ.aload_n (i := 0) dL_law_250 rfl rfl ?_
          refine hJ.iload_n (i := 3) dL_law_251 rfl rfl ?_
          refine hJ.iconst (v := 2) dL_law_252 (by decide) ?_
          refine hJ.iadd dL_law_253 ?_
          replace hF := ck_S hF
          obtain ⟨c324, hF⟩ := hF
          refine hS dL_law_254 c324 ?_
          refine hJ.aload_n (i := 0) dL_law_255 rfl rfl ?_
          refine hJ.iload_n (i := 3) dL_law_256 rfl rfl ?_
          refine hJ.iconst (v := 3) dL_law_257 (by decide) ?_
          refine hJ.iadd dL_law_258 ?_
          replace hF := ck_S hF
          obtain ⟨c325, hF⟩ := hF
          refine hS dL_law_259 c325 ?_
          replace hF := cl_S hF
          obtain ⟨r326, h327, ec328, hF⟩ := hF
          refine hJ.callV (as := [.inl (xs ((v3 + (1 : Int32))).toNatClampNeg), .inl (xs ((v3 + (2 : Int32))).toNatClampNeg), .inl (xs ((v3 + (3 : Int32))).toNatClampNeg)]) (st := [.inl r320]) dL_law_260 w_RL_22 ⟨by decide, rfl⟩ rfl (c_X8_trunk ec328) (by decide) (by omega) (by omega) rfl (Nat.le_of_ble_eq_true rfl) rfl ?_
          refine hJ.icmp_eq (tgt := 1019) dL_law_263 (by decide) (fun e329 => ?_) (fun e329 => ?_)
          · replace hF := ite_T e329 hF
            refine hJ.iinc (i := 3) (v := (v3 + (5 : Int32))) (ls2 := [some (.inr (99, (some 0))), some (.inr (7, (some v1))), some (.inr (8, (some v2))), some (.inl (v3 + (5 : Int32)))]) dL_law_1019 rfl (addI (by decide)) (by decide) rfl ?_
            refine hJ.goto (tgt := 18) dL_law_1022 (by decide) ?_
            refine hJ.forget (ls2 := [some (.inr (99, (some 0))), some (.inr (7, (some v1))), some (.inr (8, (some v2))), some (.inl (v3 + (5 : Int32)))]) ⟨rfl, rfl, rfl, rfl, trivial⟩ ?_
            exact ih (v3 + (5 : Int32)) h327 _ _ (by omega) (by omega) hF
          · replace hF := ite_F e329 hF
            cases hF
        · replace hF := ite_F e14 hF
          by_cases e15 : ((xs (v3).toNatClampNeg) &&& (31 : Int32)) = (2 : Int32)
          · replace hF := ite_T e15 hF
            refine hJ.tabIn (off := 236) (tgt := 268) dL_law_32 (by rw [e15]; decide) (by rw [e15]; decide) (by rw [e15]; decide) (by decide) ?_
            refine hJ.aload_n (i := 1) dL_law_268 rfl rfl ?_
            refine hJ.aload_n (i := 0) dL_law_269 rfl rfl ?_
            refine hJ.iload_n (i := 3) dL_law_270 rfl rfl ?_
            refine hJ.iconst (v := 1) dL_law_271 (by decide) ?_
            refine hJ.iadd dL_law_272 ?_
            replace hF := ck_S hF
            obtain ⟨c308, hF⟩ := hF
            refine hS dL_law_273 c308 ?_
            replace hF := cl_S hF
            obtain ⟨r309, h310, ec311, hF⟩ := hF
            refine hJ.callV (as := [.inl (xs ((v3 + (1 : Int32))).toNatClampNeg)]) (st := []) dL_law_274 w_RL_23 ⟨by decide, rfl⟩ rfl (c_X7_find ec311) (by decide) (by omega) (by omega) rfl (Nat.le_of_ble_eq_true rfl) rfl ?_
            refine hJ.aload_n (i := 2) dL_law_277 rfl rfl ?_
            refine hJ.aload_n (i := 0) dL_law_278 rfl rfl ?_
            refine hJ.iload_n (i := 3) dL_law_279 rfl rfl ?_
            refine hJ.iconst (v := 1) dL_law_280 (by decide) ?_
            refine hJ.iadd dL_law_281 ?_
            replace hF := ck_S hF
            obtain ⟨c312, hF⟩ := hF
            refine hS dL_law_282 c312 ?_
            replace hF := cl_S hF
            obtain ⟨r313, h314, ec315, hF⟩ := hF
            refine hJ.callV (as := [.inl (xs ((v3 + (1 : Int32))).toNatClampNeg)]) (st := [.inl r309]) dL_law_283 w_RL_27 ⟨by decide, rfl⟩ rfl (c_X8_find ec315) (by decide) (by omega) (by omega) rfl (Nat.le_of_ble_eq_true rfl) rfl ?_
            refine hJ.icmp_eq (tgt := 1019) dL_law_286 (by decide) (fun e316 => ?_) (fun e316 => ?_)
            · replace hF := ite_T e316 hF
              refine hJ.iinc (i := 3) (v := (v3 + (5 : Int32))) (ls2 := [some (.inr (99, (some 0))), some (.inr (7, (some v1))), some (.inr (8, (some v2))), some (.inl (v3 + (5 : Int32)))]) dL_law_1019 rfl (addI (by decide)) (by decide) rfl ?_
              refine hJ.goto (tgt := 18) dL_law_1022 (by decide) ?_
              refine hJ.forget (ls2 := [some (.inr (99, (some 0))), some (.inr (7, (some v1))), some (.inr (8, (some v2))), some (.inl (v3 + (5 : Int32)))]) ⟨rfl, rfl, rfl, rfl, trivial⟩ ?_
              exact ih (v3 + (5 : Int32)) h314 _ _ (by omega) (by omega) hF
            · replace hF := ite_F e316 hF
              cases hF
          · replace hF := ite_F e15 hF
            by_cases e16 : ((xs (v3).toNatClampNeg) &&& (31 : Int32)) = (3 : Int32)
            · replace hF := ite_T e16 hF
              refine hJ.tabIn (off := 259) (tgt := 291) dL_law_32 (by rw [e16]; decide) (by rw [e16]; decide) (by rw [e16]; decide) (by decide) ?_
              refine hJ.aload_n (i := 1) dL_law_291 rfl rfl ?_
              refine hJ.aload_n (i := 0) dL_law_292 rfl rfl ?_
              refine hJ.iload_n (i := 3) dL_law_293 rfl rfl ?_
              refine hJ.iconst (v := 1) dL_law_294 (by decide) ?_
              refine hJ.iadd dL_law_295 ?_
              replace hF := ck_S hF
              obtain ⟨c299, hF⟩ := hF
              refine hS dL_law_296 c299 ?_
              replace hF := cl_S hF
              obtain ⟨r300, h301, ec302, hF⟩ := hF
              refine hJ.callV (as := [.inl (xs ((v3 + (1 : Int32))).toNatClampNeg)]) (st := []) dL_law_297 w_RL_28 ⟨by decide, rfl⟩ rfl (c_X7_put ec302) (by decide) (by omega) (by omega) rfl (Nat.le_of_ble_eq_true rfl) rfl ?_
              refine hJ.aload_n (i := 2) dL_law_300 rfl rfl ?_
              refine hJ.aload_n (i := 0) dL_law_301 rfl rfl ?_
              refine hJ.iload_n (i := 3) dL_law_302 rfl rfl ?_
              refine hJ.iconst (v := 1) dL_law_303 (by decide) ?_
              refine hJ.iadd dL_law_304 ?_
              replace hF := ck_S hF
              obtain ⟨c303, hF⟩ := hF
              refine hS dL_law_305 c303 ?_
              replace hF := cl_S hF
              obtain ⟨r304, h305, ec306, hF⟩ := hF
              refine hJ.callV (as := [.inl (xs ((v3 + (1 : Int32))).toNatClampNeg)]) (st := [.inl r300]) dL_law_306 w_RL_31 ⟨by decide, rfl⟩ rfl (c_X8_put ec306) (by decide) (by omega) (by omega) rfl (Nat.le_of_ble_eq_true rfl) rfl ?_
              refine hJ.icmp_eq (tgt := 1019) dL_law_309 (by decide) (fun e307 => ?_) (fun e307 => ?_)
              · replace hF := ite_T e307 hF
                refine hJ.iinc (i := 3) (v := (v3 + (5 : Int32))) (ls2 := [some (.inr (99, (some 0))), some (.inr (7, (some v1))), some (.inr (8, (some v2))), some (.inl (v3 + (5 : Int32)))]) dL_law_1019 rfl (addI (by decide)) (by decide) rfl ?_
                refine hJ.goto (tgt := 18) dL_law_1022 (by decide) ?_
                refine hJ.forget (ls2 := [some (.inr (99, (some 0))), some (.inr (7, (some v1))), some (.inr (8, (some v2))), some (.inl (v3 + (5 : Int32)))]) ⟨rfl, rfl, rfl, rfl, trivial⟩ ?_
                exact ih (v3 + (5 : Int32)) h305 _ _ (by omega) (by omega) hF
              · replace hF := ite_F e307 hF
                cases hF
            · replace hF := ite_F e16 hF
              by_cases e17 : ((xs (v3).toNatClampNeg) &&& (31 : Int32)) = (4 : Int32)
              · replace hF := ite_T e17 hF
                refine hJ.tabIn (off := 282) (tgt := 314) dL_law_32 (by rw [e17]; decide) (by rw [e17]; decide) (by rw [e17]; decide) (by decide) ?_
                refine hJ.aload_n (i := 1) dL_law_314 rfl rfl ?_
                replace hF := cl_S hF
                obtain ⟨r292, h293, ec294, hF⟩ := hF
                refine hJ.callV (as := []) (st := []) dL_law_315 w_RL_32 ⟨by decide, rfl⟩ rfl (c_X7_bind ec294) (by decide) (by omega) (by omega) rfl (Nat.le_of_ble_eq_true rfl) rfl ?_
                refine hJ.aload_n (i := 2) dL_law_318 rfl rfl ?_
                replace hF := cl_S hF
                obtain ⟨r295, h296, ec297, hF⟩ := hF
                refine hJ.callV (as := []) (st := [.inl r292]) dL_law_319 w_RL_36 ⟨by decide, rfl⟩ rfl (c_X8_bind ec297) (by decide) (by omega) (by omega) rfl (Nat.le_of_ble_eq_true rfl) rfl ?_
                refine hJ.icmp_eq (tgt := 1019) dL_law_322 (by decide) (fun e298 => ?_) (fun e298 => ?_)
                · replace hF := ite_T e298 hF
                  refine hJ.iinc (i := 3) (v := (v3 + (5 : Int32))) (ls2 := [some (.inr (99, (some 0))), some (.inr (7, (some v1))), some (.inr (8, (some v2))), some (.inl (v3 + (5 : Int32)))]) dL_law_1019 rfl (addI (by decide)) (by decide) rfl ?_
                  refine hJ.goto (tgt := 18) dL_law_1022 (by decide) ?_
                  refine hJ.forget (ls2 := [some (.inr (99, (some 0))), some (.inr (7, (some v1))), some (.inr (8, (some v2))), some (.inl (v3 + (5 : Int32)))]) ⟨rfl, rfl, rfl, rfl, trivial⟩ ?_
                  exact ih (v3 + (5 : Int32)) h296 _ _ (by omega) (by omega) hF
                · replace hF := ite_F e298 hF
                  cases hF
              · replace hF := ite_F e17 hF
                by_cases e18 : ((xs (v3).toNatClampNeg) &&& (31 : Int32)) = (5 : Int32)
                · replace hF := ite_T e18 hF
                  refine hJ.tabIn (off := 295) (tgt := 327) dL_law_32 (by rw [e18]; decide) (by rw [e18]; decide) (by rw [e18]; decide) (by decide) ?_
                  refine hJ.aload_n (i := 1) dL_law_327 rfl rfl ?_
                  refine hJ.aload_n (i := 0) dL_law_328 rfl rfl ?_
                  refine hJ.iload_n (i := 3) dL_law_329 rfl rfl ?_
                  refine hJ.iconst (v := 1) dL_law_330 (by decide) ?_
                  refine hJ.iadd dL_law_331 ?_
                  replace hF := ck_S hF
                  obtain ⟨c281, hF⟩ := hF
                  refine hS dL_law_332 c281 ?_
                  refine hJ.aload_n (i := 0) dL_law_333 rfl rfl ?_
                  refine hJ.iload_n (i := 3) dL_law_334 rfl rfl ?_
                  refine hJ.iconst (v := 2) dL_law_335 (by decide) ?_
                  refine hJ.iadd dL_law_336 ?_
                  replace hF := ck_S hF
                  obtain ⟨c282, hF⟩ := hF
                  refine hS dL_law_337 c282 ?_
                  replace hF := cl_S hF
                  obtain ⟨r283, h284, ec285, hF⟩ := hF
                  refine hJ.callV (as := [.inl (xs ((v3 + (1 : Int32))).toNatClampNeg), .inl (xs ((v3 + (2 : Int32))).toNatClampNeg)]) (st := []) dL_law_338 w_RL_37 ⟨by decide, rfl⟩ rfl (c_X7_join ec285) (by decide) (by omega) (by omega) rfl (Nat.le_of_ble_eq_true rfl) rfl ?_
                  refine hJ.aload_n (i := 2) dL_law_341 rfl rfl ?_
                  refine hJ.aload_n (i := 0) dL_law_342 rfl rfl ?_
                  refine hJ.iload_n (i := 3) dL_law_343 rfl rfl ?_
                  refine hJ.iconst (v := 1) dL_law_344 (by decide) ?_
                  refine hJ.iadd dL_law_345 ?_
                  replace hF := ck_S hF
                  obtain ⟨c286, hF⟩ := hF
                  refine hS dL_law_346 c286 ?_
                  refine hJ.aload_n (i := 0) dL_law_347 rfl rfl ?_
                  refine hJ.iload_n (i := 3) dL_law_348 rfl rfl ?_
                  refine hJ.iconst (v := 2) dL_law_349 (by decide) ?_
                  refine hJ.iadd dL_law_350 ?_
                  replace hF := ck_S hF
                  obtain ⟨c287, hF⟩ := hF
                  refine hS dL_law_351 c287 ?_
                  replace hF := cl_S hF
                  obtain ⟨r288, h289, ec290, hF⟩ := hF
                  refine hJ.callV (as := [.inl (xs ((v3 + (1 : Int32))).toNatClampNeg), .inl (xs ((v3 + (2 : Int32))).toNatClampNeg)]) (st := [.inl r283]) dL_law_352 w_RL_41 ⟨by decide, rfl⟩ rfl (c_X8_join ec290) (by decide) (by omega) (by omega) rfl (Nat.le_of_ble_eq_true rfl) rfl ?_
                  refine hJ.icmp_eq (tgt := 1019) dL_law_355 (by decide) (fun e291 => ?_) (fun e291 => ?_)
                  · replace hF := ite_T e291 hF
                    refine hJ.iinc (i := 3) (v := (v3 + (5 : Int32))) (ls2 := [some (.inr (99, (some 0))), some (.inr (7, (some v1))), some (.inr (8, (some v2))), some (.inl (v3 + (5 : Int32)))]) dL_law_1019 rfl (addI (by decide)) (by decide) rfl ?_
                    refine hJ.goto (tgt := 18) dL_law_1022 (by decide) ?_
                    refine hJ.forget (ls2 := [some (.inr (99, (some 0))), some (.inr (7, (some v1))), some (.inr (8, (some v2))), some (.inl (v3 + (5 : Int32)))]) ⟨rfl, rfl, rfl, rfl, trivial⟩ ?_
                    exact ih (v3 + (5 : Int32)) h289 _ _ (by omega) (by omega) hF
                  · replace hF := ite_F e291 hF
                    cases hF
                · replace hF := ite_F e18 hF
                  by_cases e19 : ((xs (v3).toNatClampNeg) &&& (31 : Int32)) = (6 : Int32)
                  · replace hF := ite_T e19 hF
                    refine hJ.tabIn (off := 328) (tgt := 360) dL_law_32 (by rw [e19]; decide) (by rw [e19]; decide) (by rw [e19]; decide) (by decide) ?_
                    refine hJ.aload_n (i := 1) dL_law_360 rfl rfl ?_
                    refine hJ.aload_n (i := 0) dL_law_361 rfl rfl ?_
                    refine hJ.iload_n (i := 3) dL_law_362 rfl rfl ?_
                    refine hJ.iconst (v := 1) dL_law_363 (by decide) ?_
                    refine hJ.iadd dL_law_364 ?_
                    replace hF := ck_S hF
                    obtain ⟨c270, hF⟩ := hF
                    refine hS dL_law_365 c270 ?_
                    refine hJ.aload_n (i := 0) dL_law_366 rfl rfl ?_
                    refine hJ.iload_n (i := 3) dL_law_367 rfl rfl ?_
                    refine hJ.iconst (v := 2) dL_law_368 (by decide) ?_
                    refine hJ.iadd dL_law_369 ?_
                    replace hF := ck_S hF
                    obtain ⟨c271, hF⟩ := hF
                    refine hS dL_law_370 c271 ?_
                    replace hF := cl_S hF
                    obtain ⟨r272, h273, ec274, hF⟩ := hF
                    refine hJ.callV (as := [.inl (xs ((v3 + (1 : Int32))).toNatClampNeg), .inl (xs ((v3 + (2 : Int32))).toNatClampNeg)]) (st := []) dL_law_371 w_RL_42 ⟨by decide, rfl⟩ rfl (c_X7_part ec274) (by decide) (by omega) (by omega) rfl (Nat.le_of_ble_eq_true rfl) rfl ?_
                    refine hJ.aload_n (i := 2) dL_law_374 rfl rfl ?_
                    refine hJ.aload_n (i := 0) dL_law_375 rfl rfl ?_
                    refine hJ.iload_n (i := 3) dL_law_376 rfl rfl ?_
                    refine hJ.iconst (v := 1) dL_law_377 (by decide) ?_
                    refine hJ.iadd dL_law_378 ?_
                    replace hF := ck_S hF
                    obtain ⟨c275, hF⟩ := hF
                    refine hS dL_law_379 c275 ?_
                    refine hJ.aload_n (i := 0) dL_law_380 rfl rfl ?_
                    refine hJ.iload_n (i := 3) dL_law_381 rfl rfl ?_
                    refine hJ.iconst (v := 2) dL_law_382 (by decide) ?_
                    refine hJ.iadd dL_law_383 ?_
                    replace hF := ck_S hF
                    obtain ⟨c276, hF⟩ := hF
                    refine hS dL_law_384 c276 ?_
                    replace hF := cl_S hF
                    obtain ⟨r277, h278, ec279, hF⟩ := hF
                    refine hJ.callV (as := [.inl (xs ((v3 + (1 : Int32))).toNatClampNeg), .inl (xs ((v3 + (2 : Int32))).toNatClampNeg)]) (st := [.inl r272]) dL_law_385 w_RL_46 ⟨by decide, rfl⟩ rfl (c_X8_part ec279) (by decide) (by omega) (by omega) rfl (Nat.le_of_ble_eq_true rfl) rfl ?_
                    refine hJ.icmp_eq (tgt := 1019) dL_law_388 (by decide) (fun e280 => ?_) (fun e280 => ?_)
                    · replace hF := ite_T e280 hF
                      refine hJ.iinc (i := 3) (v := (v3 + (5 : Int32))) (ls2 := [some (.inr (99, (some 0))), some (.inr (7, (some v1))), some (.inr (8, (some v2))), some (.inl (v3 + (5 : Int32)))]) dL_law_1019 rfl (addI (by decide)) (by decide) rfl ?_
                      refine hJ.goto (tgt := 18) dL_law_1022 (by decide) ?_
                      refine hJ.forget (ls2 := [some (.inr (99, (some 0))), some (.inr (7, (some v1))), some (.inr (8, (some v2))), some (.inl (v3 + (5 : Int32)))]) ⟨rfl, rfl, rfl, rfl, trivial⟩ ?_
                      exact ih (v3 + (5 : Int32)) h278 _ _ (by omega) (by omega) hF
                    · replace hF := ite_F e280 hF
                      cases hF
                  · replace hF := ite_F e19 hF
                    by_cases e20 : ((xs (v3).toNatClampNeg) &&& (31 : Int32)) = (7 : Int32)
                    · replace hF := ite_T e20 hF
                      refine hJ.tabIn (off := 361) (tgt := 393) dL_law_32 (by rw [e20]; decide) (by rw [e20]; decide) (by rw [e20]; decide) (by decide) ?_
                      refine hJ.aload_n (i := 1) dL_law_393 rfl rfl ?_
                      refine hJ.aload_n (i := 0) dL_law_394 rfl rfl ?_
                      refine hJ.iload_n (i := 3) dL_law_395 rfl rfl ?_
                      refine hJ.iconst (v := 1) dL_law_396 (by decide) ?_
                      refine hJ.iadd dL_law_397 ?_
                      replace hF := ck_S hF
                      obtain ⟨c261, hF⟩ := hF
                      refine hS dL_law_398 c261 ?_
                      replace hF := cl_S hF
                      obtain ⟨r262, h263, ec264, hF⟩ := hF
                      refine hJ.callV (as := [.inl (xs ((v3 + (1 : Int32))).toNatClampNeg)]) (st := []) dL_law_399 w_RL_47 ⟨by decide, rfl⟩ rfl (c_X7_unbind ec264) (by decide) (by omega) (by omega) rfl (Nat.le_of_ble_eq_true rfl) rfl ?_
                      refine hJ.aload_n (i := 2) dL_law_402 rfl rfl ?_
                      refine hJ.aload_n (i := 0) dL_law_403 rfl rfl ?_
                      refine hJ.iload_n (i := 3) dL_law_404 rfl rfl ?_
                      refine hJ.iconst (v := 1) dL_law_405 (by decide) ?_
                      refine hJ.iadd dL_law_406 ?_
                      replace hF := ck_S hF
                      obtain ⟨c265, hF⟩ := hF
                      refine hS dL_law_407 c265 ?_
                      replace hF := cl_S hF
                      obtain ⟨r266, h267, ec268, hF⟩ := hF
                      refine hJ.callV (as := [.inl (xs ((v3 + (1 : Int32))).toNatClampNeg)]) (st := [.inl r262]) dL_law_408 w_RL_51 ⟨by decide, rfl⟩ rfl (c_X8_unbind ec268) (by decide) (by omega) (by omega) rfl (Nat.le_of_ble_eq_true rfl) rfl ?_
                      refine hJ.icmp_eq (tgt := 1019) dL_law_411 (by decide) (fun e269 => ?_) (fun e269 => ?_)
                      · replace hF := ite_T e269 hF
                        refine hJ.iinc (i := 3) (v := (v3 + (5 : Int32))) (ls2 := [some (.inr (99, (some 0))), some (.inr (7, (some v1))), some (.inr (8, (some v2))), some (.inl (v3 + (5 : Int32)))]) dL_law_1019 rfl (addI (by decide)) (by decide) rfl ?_
                        refine hJ.goto (tgt := 18) dL_law_1022 (by decide) ?_
                        refine hJ.forget (ls2 := [some (.inr (99, (some 0))), some (.inr (7, (some v1))), some (.inr (8, (some v2))), some (.inl (v3 + (5 : Int32)))]) ⟨rfl, rfl, rfl, rfl, trivial⟩ ?_
                        exact ih (v3 + (5 : Int32)) h267 _ _ (by omega) (by omega) hF
                      · replace hF := ite_F e269 hF
                        cases hF
                    · replace hF := ite_F e20 hF
                      by_cases e21 : ((xs (v3).toNatClampNeg) &&& (31 : Int32)) = (8 : Int32)
                      · replace hF := ite_T e21 hF
                        refine hJ.tabIn (off := 384) (tgt := 416) dL_law_32 (by rw [e21]; decide) (by rw [e21]; decide) (by rw [e21]; decide) (by decide) ?_
                        refine hJ.aload_n (i := 1) dL_law_416 rfl rfl ?_
                        refine hJ.aload_n (i := 0) dL_law_417 rfl rfl ?_
                        refine hJ.iload_n (i := 3) dL_law_418 rfl rfl ?_
                        refine hJ.iconst (v := 1) dL_law_419 (by decide) ?_
                        refine hJ.iadd dL_law_420 ?_
                        replace hF := ck_S hF
                        obtain ⟨c252, hF⟩ := hF
                        refine hS dL_law_421 c252 ?_
                        replace hF := cl_S hF
                        obtain ⟨r253, h254, ec255, hF⟩ := hF
                        refine hJ.callV (as := [.inl (xs ((v3 + (1 : Int32))).toNatClampNeg)]) (st := []) dL_law_422 w_RL_52 ⟨by decide, rfl⟩ rfl (c_X7_crew ec255) (by decide) (by omega) (by omega) rfl (Nat.le_of_ble_eq_true rfl) rfl ?_
                        refine hJ.aload_n (i := 2) dL_law_425 rfl rfl ?_
                        refine hJ.aload_n (i := 0) dL_law_426 rfl rfl ?_
                        refine hJ.iload_n (i := 3) dL_law_427 rfl rfl ?_
                        refine hJ.iconst (v := 1) dL_law_428 (by decide) ?_
                        refine hJ.iadd dL_law_429 ?_
                        replace hF := ck_S hF
                        obtain ⟨c256, hF⟩ := hF
                        refine hS dL_law_430 c256 ?_
                        replace hF := cl_S hF
                        obtain ⟨r257, h258, ec259, hF⟩ := hF
                        refine hJ.callV (as := [.inl (xs ((v3 + (1 : Int32))).toNatClampNeg)]) (st := [.inl r253]) dL_law_431 w_RL_55 ⟨by decide, rfl⟩ rfl (c_X8_crew ec259) (by decide) (by omega) (by omega) rfl (Nat.le_of_ble_eq_true rfl) rfl ?_
                        refine hJ.icmp_eq (tgt := 1019) dL_law_434 (by decide) (fun e260 => ?_) (fun e260 => ?_)
                        · replace hF := ite_T e260 hF
                          refine hJ.iinc (i := 3) (v := (v3 + (5 : Int32))) (ls2 := [some (.inr (99, (some 0))), some (.inr (7, (some v1))), some (.inr (8, (some v2))), some (.inl (v3 + (5 : Int32)))]) dL_law_1019 rfl (addI (by decide)) (by decide) rfl ?_
                          refine hJ.goto (tgt := 18) dL_law_1022 (by decide) ?_
                          refine hJ.forget (ls2 := [some (.inr (99, (some 0))), some (.inr (7, (some v1))), some (.inr (8, (some v2))), some (.inl (v3 + (5 : Int32)))]) ⟨rfl, rfl, rfl, rfl, trivial⟩ ?_
                          exact ih (v3 + (5 : Int32)) h258 _ _ (by omega) (by omega) hF
                        · replace hF := ite_F e260 hF
                          cases hF
                      · replace hF := ite_F e21 hF
                        by_cases e22 : ((xs (v3).toNatClampNeg) &&& (31 : Int32)) = (9 : Int32)
                        · replace hF := ite_T e22 hF
                          refine hJ.tabIn (off := 407) (tgt := 439) dL_law_32 (by rw [e22]; decide) (by rw [e22]; decide) (by rw [e22]; decide) (by decide) ?_
                          refine hJ.aload_n (i := 1) dL_law_439 rfl rfl ?_
                          refine hJ.aload_n (i := 0) dL_law_440 rfl rfl ?_
                          refine hJ.iload_n (i := 3) dL_law_441 rfl rfl ?_
                          refine hJ.iconst (v := 1) dL_law_442 (by decide) ?_
                          refine hJ.iadd dL_law_443 ?_
                          replace hF := ck_S hF
                          obtain ⟨c241, hF⟩ := hF
                          refine hS dL_law_444 c241 ?_
                          refine hJ.aload_n (i := 0) dL_law_445 rfl rfl ?_
                          refine hJ.iload_n (i := 3) dL_law_446 rfl rfl ?_
                          refine hJ.iconst (v := 2) dL_law_447 (by decide) ?_
                          refine hJ.iadd dL_law_448 ?_
                          replace hF := ck_S hF
                          obtain ⟨c242, hF⟩ := hF
                          refine hS dL_law_449 c242 ?_
                          replace hF := cl_S hF
                          obtain ⟨r243, h244, ec245, hF⟩ := hF
                          refine hJ.callV (as := [.inl (xs ((v3 + (1 : Int32))).toNatClampNeg), .inl (xs ((v3 + (2 : Int32))).toNatClampNeg)]) (st := []) dL_law_450 w_RL_56 ⟨by decide, rfl⟩ rfl (c_X7_ready ec245) (by decide) (by omega) (by omega) rfl (Nat.le_of_ble_eq_true rfl) rfl ?_
                          refine hJ.aload_n (i := 2) dL_law_453 rfl rfl ?_
                          refine hJ.aload_n (i := 0) dL_law_454 rfl rfl ?_
                          refine hJ.iload_n (i := 3) dL_law_455 rfl rfl ?_
                          refine hJ.iconst (v := 1) dL_law_456 (by decide) ?_
                          refine hJ.iadd dL_law_457 ?_
                          replace hF := ck_S hF
                          obtain ⟨c246, hF⟩ := hF
                          refine hS dL_law_458 c246 ?_
                          refine hJ.aload_n (i := 0) dL_law_459 rfl rfl ?_
                          refine hJ.iload_n (i := 3) dL_law_460 rfl rfl ?_
                          refine hJ.iconst (v := 2) dL_law_461 (by decide) ?_
                          refine hJ.iadd dL_law_462 ?_
                          replace hF := ck_S hF
                          obtain ⟨c247, hF⟩ := hF
                          refine hS dL_law_463 c247 ?_
                          replace hF := cl_S hF
                          obtain ⟨r248, h249, ec250, hF⟩ := hF
                          refine hJ.callV (as := [.inl (xs ((v3 + (1 : Int32))).toNatClampNeg), .inl (xs ((v3 + (2 : Int32))).toNatClampNeg)]) (st := [.inl r243]) dL_law_464 w_RL_59 ⟨by decide, rfl⟩ rfl (c_X8_ready ec250) (by decide) (by omega) (by omega) rfl (Nat.le_of_ble_eq_true rfl) rfl ?_
                          refine hJ.icmp_eq (tgt := 1019) dL_law_467 (by decide) (fun e251 => ?_) (fun e251 => ?_)
                          · replace hF := ite_T e251 hF
                            refine hJ.iinc (i := 3) (v := (v3 + (5 : Int32))) (ls2 := [some (.inr (99, (some 0))), some (.inr (7, (some v1))), some (.inr (8, (some v2))), some (.inl (v3 + (5 : Int32)))]) dL_law_1019 rfl (addI (by decide)) (by decide) rfl ?_
                            refine hJ.goto (tgt := 18) dL_law_1022 (by decide) ?_
                            refine hJ.forget (ls2 := [some (.inr (99, (some 0))), some (.inr (7, (some v1))), some (.inr (8, (some v2))), some (.inl (v3 + (5 : Int32)))]) ⟨rfl, rfl, rfl, rfl, trivial⟩ ?_
                            exact ih (v3 + (5 : Int32)) h249 _ _ (by omega) (by omega) hF
                          · replace hF := ite_F e251 hF
                            cases hF
                        · replace hF := ite_F e22 hF
                          by_cases e23 : ((xs (v3).toNatClampNeg) &&& (31 : Int32)) = (10 : Int32)
                          · replace hF := ite_T e23 hF
                            refine hJ.tabIn (off := 440) (tgt := 472) dL_law_32 (by rw [e23]; decide) (by rw [e23]; decide) (by rw [e23]; decide) (by decide) ?_
                            refine hJ.aload_n (i := 1) dL_law_472 rfl rfl ?_
                            refine hJ.aload_n (i := 0) dL_law_473 rfl rfl ?_
                            refine hJ.iload_n (i := 3) dL_law_474 rfl rfl ?_
                            refine hJ.iconst (v := 1) dL_law_475 (by decide) ?_
                            refine hJ.iadd dL_law_476 ?_
                            replace hF := ck_S hF
                            obtain ⟨c232, hF⟩ := hF
                            refine hS dL_law_477 c232 ?_
                            replace hF := cl_S hF
                            obtain ⟨r233, h234, ec235, hF⟩ := hF
                            refine hJ.callV (as := [.inl (xs ((v3 + (1 : Int32))).toNatClampNeg)]) (st := []) dL_law_478 w_RL_60 ⟨by decide, rfl⟩ rfl (c_X7_tie ec235) (by decide) (by omega) (by omega) rfl (Nat.le_of_ble_eq_true rfl) rfl ?_
                            refine hJ.aload_n (i := 2) dL_law_481 rfl rfl ?_
                            refine hJ.aload_n (i := 0) dL_law_482 rfl rfl ?_
                            refine hJ.iload_n (i := 3) dL_law_483 rfl rfl ?_
                            refine hJ.iconst (v := 1) dL_law_484 (by decide) ?_
                            refine hJ.iadd dL_law_485 ?_
                            replace hF := ck_S hF
                            obtain ⟨c236, hF⟩ := hF
                            refine hS dL_law_486 c236 ?_
                            replace hF := cl_S hF
                            obtain ⟨r237, h238, ec239, hF⟩ := hF
                            refine hJ.callV (as := [.inl (xs ((v3 + (1 : Int32))).toNatClampNeg)]) (st := [.inl r233]) dL_law_487 w_RL_63 ⟨by decide, rfl⟩ rfl (c_X8_tie ec239) (by decide) (by omega) (by omega) rfl (Nat.le_of_ble_eq_true rfl) rfl ?_
                            refine hJ.icmp_eq (tgt := 1019) dL_law_490 (by decide) (fun e240 => ?_) (fun e240 => ?_)
                            · replace hF := ite_T e240 hF
                              refine hJ.iinc (i := 3) (v := (v3 + (5 : Int32))) (ls2 := [some (.inr (99, (some 0))), some (.inr (7, (some v1))), some (.inr (8, (some v2))), some (.inl (v3 + (5 : Int32)))]) dL_law_1019 rfl (addI (by decide)) (by decide) rfl ?_
                              refine hJ.goto (tgt := 18) dL_law_1022 (by decide) ?_
                              refine hJ.forget (ls2 := [some (.inr (99, (some 0))), some (.inr (7, (some v1))), some (.inr (8, (some v2))), some (.inl (v3 + (5 : Int32)))]) ⟨rfl, rfl, rfl, rfl, trivial⟩ ?_
                              exact ih (v3 + (5 : Int32)) h238 _ _ (by omega) (by omega) hF
                            · replace hF := ite_F e240 hF
                              cases hF
                          · replace hF := ite_F e23 hF
                            by_cases e24 : ((xs (v3).toNatClampNeg) &&& (31 : Int32)) = (11 : Int32)
                            · replace hF := ite_T e24 hF
                              refine hJ.tabIn (off := 463) (tgt := 495) dL_law_32 (by rw [e24]; decide) (by rw [e24]; decide) (by rw [e24]; decide) (by decide) ?_
                              refine hJ.aload_n (i := 1) dL_law_495 rfl rfl ?_
                              refine hJ.aload_n (i := 0) dL_law_496 rfl rfl ?_
                              refine hJ.iload_n (i := 3) dL_law_497 rfl rfl ?_
                              refine hJ.iconst (v := 1) dL_law_498 (by decide) ?_
                              refine hJ.iadd dL_law_499 ?_
                              replace hF := ck_S hF
                              obtain ⟨c223, hF⟩ := hF
                              refine hS dL_law_500 c223 ?_
                              replace hF := cl_S hF
                              obtain ⟨r224, h225, ec226, hF⟩ := hF
                              refine hJ.callV (as := [.inl (xs ((v3 + (1 : Int32))).toNatClampNeg)]) (st := []) dL_law_501 w_RL_64 ⟨by decide, rfl⟩ rfl (c_X7_walk ec226) (by decide) (by omega) (by omega) rfl (Nat.le_of_ble_eq_true rfl) rfl ?_
                              refine hJ.aload_n (i := 2) dL_law_504 rfl rfl ?_
                              refine hJ.aload_n (i := 0) dL_law_505 rfl rfl ?_
                              refine hJ.iload_n (i := 3) dL_law_506 rfl rfl ?_
                              refine hJ.iconst (v := 1) dL_law_507 (by decide) ?_
                              refine hJ.iadd dL_law_508 ?_
                              replace hF := ck_S hF
                              obtain ⟨c227, hF⟩ := hF
                              refine hS dL_law_509 c227 ?_
                              replace hF := cl_S hF
                              obtain ⟨r228, h229, ec230, hF⟩ := hF
                              refine hJ.callV (as := [.inl (xs ((v3 + (1 : Int32))).toNatClampNeg)]) (st := [.inl r224]) dL_law_510 w_RL_67 ⟨by decide, rfl⟩ rfl (c_X8_walk ec230) (by decide) (by omega) (by omega) rfl (Nat.le_of_ble_eq_true rfl) rfl ?_
                              refine hJ.icmp_eq (tgt := 1019) dL_law_513 (by decide) (fun e231 => ?_) (fun e231 => ?_)
                              · replace hF := ite_T e231 hF
                                refine hJ.iinc (i := 3) (v := (v3 + (5 : Int32))) (ls2 := [some (.inr (99, (some 0))), some (.inr (7, (some v1))), some (.inr (8, (some v2))), some (.inl (v3 + (5 : Int32)))]) dL_law_1019 rfl (addI (by decide)) (by decide) rfl ?_
                                refine hJ.goto (tgt := 18) dL_law_1022 (by decide) ?_
                                refine hJ.forget (ls2 := [some (.inr (99, (some 0))), some (.inr (7, (some v1))), some (.inr (8, (some v2))), some (.inl (v3 + (5 : Int32)))]) ⟨rfl, rfl, rfl, rfl, trivial⟩ ?_
                                exact ih (v3 + (5 : Int32)) h229 _ _ (by omega) (by omega) hF
                              · replace hF := ite_F e231 hF
                                cases hF
                            · replace hF := ite_F e24 hF
                              by_cases e25 : ((xs (v3).toNatClampNeg) &&& (31 : Int32)) = (12 : Int32)
                              · replace hF := ite_T e25 hF
                                refine hJ.tabIn (off := 486) (tgt := 518) dL_law_32 (by rw [e25]; decide) (by rw [e25]; decide) (by rw [e25]; decide) (by decide) ?_
                                refine hJ.aload_n (i := 1) dL_law_518 rfl rfl ?_
                                refine hJ.aload_n (i := 0) dL_law_519 rfl rfl ?_
                                refine hJ.iload_n (i := 3) dL_law_520 rfl rfl ?_
                                refine hJ.iconst (v := 1) dL_law_521 (by decide) ?_
                                refine hJ.iadd dL_law_522 ?_
                                replace hF := ck_S hF
                                obtain ⟨c214, hF⟩ := hF
                                refine hS dL_law_523 c214 ?_
                                replace hF := cl_S hF
                                obtain ⟨r215, h216, ec217, hF⟩ := hF
                                refine hJ.callV (as := [.inl (xs ((v3 + (1 : Int32))).toNatClampNeg)]) (st := []) dL_law_524 w_RL_68 ⟨by decide, rfl⟩ rfl (c_X7_go ec217) (by decide) (by omega) (by omega) rfl (Nat.le_of_ble_eq_true rfl) rfl ?_
                                refine hJ.aload_n (i := 2) dL_law_527 rfl rfl ?_
                                refine hJ.aload_n (i := 0) dL_law_528 rfl rfl ?_
                                refine hJ.iload_n (i := 3) dL_law_529 rfl rfl ?_
                                refine hJ.iconst (v := 1) dL_law_530 (by decide) ?_
                                refine hJ.iadd dL_law_531 ?_
                                replace hF := ck_S hF
                                obtain ⟨c218, hF⟩ := hF
                                refine hS dL_law_532 c218 ?_
                                replace hF := cl_S hF
                                obtain ⟨r219, h220, ec221, hF⟩ := hF
                                refine hJ.callV (as := [.inl (xs ((v3 + (1 : Int32))).toNatClampNeg)]) (st := [.inl r215]) dL_law_533 w_RL_71 ⟨by decide, rfl⟩ rfl (c_X8_go ec221) (by decide) (by omega) (by omega) rfl (Nat.le_of_ble_eq_true rfl) rfl ?_
                                refine hJ.icmp_eq (tgt := 1019) dL_law_536 (by decide) (fun e222 => ?_) (fun e222 => ?_)
                                · replace hF := ite_T e222 hF
                                  refine hJ.iinc (i := 3) (v := (v3 + (5 : Int32))) (ls2 := [some (.inr (99, (some 0))), some (.inr (7, (some v1))), some (.inr (8, (some v2))), some (.inl (v3 + (5 : Int32)))]) dL_law_1019 rfl (addI (by decide)) (by decide) rfl ?_
                                  refine hJ.goto (tgt := 18) dL_law_1022 (by decide) ?_
                                  refine hJ.forget (ls2 := [some (.inr (99, (some 0))), some (.inr (7, (some v1))), some (.inr (8, (some v2))), some (.inl (v3 + (5 : Int32)))]) ⟨rfl, rfl, rfl, rfl, trivial⟩ ?_
                                  exact ih (v3 + (5 : Int32)) h220 _ _ (by omega) (by omega) hF
                                · replace hF := ite_F e222 hF
                                  cases hF
                              · replace hF := ite_F e25 hF
                                by_cases e26 : ((xs (v3).toNatClampNeg) &&& (31 : Int32)) = (13 : Int32)
                                · replace hF := ite_T e26 hF
                                  refine hJ.tabIn (off := 509) (tgt := 541) dL_law_32 (by rw [e26]; decide) (by rw [e26]; decide) (by rw [e26]; decide) (by decide) ?_
                                  refine hJ.aload_n (i := 1) dL_law_541 rfl rfl ?_
                                  refine hJ.aload_n (i := 0) dL_law_542 rfl rfl ?_
                                  refine hJ.iload_n (i := 3) dL_law_543 rfl rfl ?_
                                  refine hJ.iconst (v := 1) dL_law_544 (by decide) ?_
                                  refine hJ.iadd dL_law_545 ?_
                                  replace hF := ck_S hF
                                  obtain ⟨c201, hF⟩ := hF
                                  refine hS dL_law_546 c201 ?_
                                  refine hJ.aload_n (i := 0) dL_law_547 rfl rfl ?_
                                  refine hJ.iload_n (i := 3) dL_law_548 rfl rfl ?_
                                  refine hJ.iconst (v := 2) dL_law_549 (by decide) ?_
                                  refine hJ.iadd dL_law_550 ?_
                                  replace hF := ck_S hF
                                  obtain ⟨c202, hF⟩ := hF
                                  refine hS dL_law_551 c202 ?_
                                  refine hJ.aload_n (i := 0) dL_law_552 rfl rfl ?_
                                  refine hJ.iload_n (i := 3) dL_law_553 rfl rfl ?_
                                  refine hJ.iconst (v := 3) dL_law_554 (by decide) ?_
                                  refine hJ.iadd dL_law_555 ?_
                                  replace hF := ck_S hF
                                  obtain ⟨c203, hF⟩ := hF
                                  refine hS dL_law_556 c203 ?_
                                  replace hF := cl_S hF
                                  obtain ⟨r204, h205, ec206, hF⟩ := hF
                                  refine hJ.callV (as := [.inl (xs ((v3 + (1 : Int32))).toNatClampNeg), .inl (xs ((v3 + (2 : Int32))).toNatClampNeg), .inl (xs ((v3 + (3 : Int32))).toNatClampNeg)]) (st := []) dL_law_557 w_RL_72 ⟨by decide, rfl⟩ rfl (c_X7_storm ec206) (by decide) (by omega) (by omega) rfl (Nat.le_of_ble_eq_true rfl) rfl ?_
                                  refine hJ.aload_n (i := 2) dL_law_560 rfl rfl ?_
                                  refine hJ.aload_n (i := 0) dL_law_561 rfl rfl ?_
                                  refine hJ.iload_n (i := 3) dL_law_562 rfl rfl ?_
                                  refine hJ.iconst (v := 1) dL_law_563 (by decide) ?_
                                  refine hJ.iadd dL_law_564 ?_
                                  replace hF := ck_S hF
                                  obtain ⟨c207, hF⟩ := hF
                                  refine hS dL_law_565 c207 ?_
                                  refine hJ.aload_n (i := 0) dL_law_566 rfl rfl ?_
                                  refine hJ.iload_n (i := 3) dL_law_567 rfl rfl ?_
                                  refine hJ.iconst (v := 2) dL_law_568 (by decide) ?_
                                  refine hJ.iadd dL_law_569 ?_
                                  replace hF := ck_S hF
                                  obtain ⟨c208, hF⟩ := hF
                                  refine hS dL_law_570 c208 ?_
                                  refine hJ.aload_n (i := 0) dL_law_571 rfl rfl ?_
                                  refine hJ.iload_n (i := 3) dL_law_572 rfl rfl ?_
                                  refine hJ.iconst (v := 3) dL_law_573 (by decide) ?_
                                  refine hJ.iadd dL_law_574 ?_
                                  replace hF := ck_S hF
                                  obtain ⟨c209, hF⟩ := hF
                                  refine hS dL_law_575 c209 ?_
                                  replace hF := cl_S hF
                                  obtain ⟨r210, h211, ec212, hF⟩ := hF
                                  refine hJ.callV (as := [.inl (xs ((v3 + (1 : Int32))).toNatClampNeg), .inl (xs ((v3 + (2 : Int32))).toNatClampNeg), .inl (xs ((v3 + (3 : Int32))).toNatClampNeg)]) (st := [.inl r204]) dL_law_576 w_RL_76 ⟨by decide, rfl⟩ rfl (c_X8_storm ec212) (by decide) (by omega) (by omega) rfl (Nat.le_of_ble_eq_true rfl) rfl ?_
                                  refine hJ.icmp_eq (tgt := 1019) dL_law_579 (by decide) (fun e213 => ?_) (fun e213 => ?_)
                                  · replace hF := ite_T e213 hF
                                    refine hJ.iinc (i := 3) (v := (v3 + (5 : Int32))) (ls2 := [some (.inr (99, (some 0))), some (.inr (7, (some v1))), some (.inr (8, (some v2))), some (.inl (v3 + (5 : Int32)))]) dL_law_1019 rfl (addI (by decide)) (by decide) rfl ?_
                                    refine hJ.goto (tgt := 18) dL_law_1022 (by decide) ?_
                                    refine hJ.forget (ls2 := [some (.inr (99, (some 0))), some (.inr (7, (some v1))), some (.inr (8, (some v2))), some (.inl (v3 + (5 : Int32)))]) ⟨rfl, rfl, rfl, rfl, trivial⟩ ?_
                                    exact ih (v3 + (5 : Int32)) h211 _ _ (by omega) (by omega) hF
                                  · replace hF := ite_F e213 hF
                                    cases hF
                                · replace hF := ite_F e26 hF
                                  by_cases e27 : ((xs (v3).toNatClampNeg) &&& (31 : Int32)) = (14 : Int32)
                                  · replace hF := ite_T e27 hF
                                    refine hJ.tabIn (off := 552) (tgt := 584) dL_law_32 (by rw [e27]; decide) (by rw [e27]; decide) (by rw [e27]; decide) (by decide) ?_
                                    refine hJ.aload_n (i := 1) dL_law_584 rfl rfl ?_
                                    refine hJ.aload_n (i := 0) dL_law_585 rfl rfl ?_
                                    refine hJ.iload_n (i := 3) dL_law_586 rfl rfl ?_
                                    refine hJ.iconst (v := 1) dL_law_587 (by decide) ?_
                                    refine hJ.iadd dL_law_588 ?_
                                    replace hF := ck_S hF
                                    obtain ⟨c170, hF⟩ := hF
                                    refine hS dL_law_589 c170 ?_
                                    refine hJ.aload_n (i := 0) dL_law_590 rfl rfl ?_
                                    refine hJ.iload_n (i := 3) dL_law_591 rfl rfl ?_
                                    refine hJ.iconst (v := 2) dL_law_592 (by decide) ?_
                                    refine hJ.iadd dL_law_593 ?_
                                    replace hF := ck_S hF
                                    obtain ⟨c171, hF⟩ := hF
                                    refine hS dL_law_594 c171 ?_
                                    refine hJ.if_eq (tgt := 602) dL_law_595 (by decide) (fun e172 => ?_) (fun e172 => ?_)
                                    · replace hF := ite_T e172 hF
                                      refine hJ.iconst (v := 0) dL_law_602 (by decide) ?_
                                      replace hF := cl_S hF
                                      obtain ⟨r173, h174, ec175, hF⟩ := hF
                                      refine hJ.callV (as := [.inl (xs ((v3 + (1 : Int32))).toNatClampNeg), .inl (0 : Int32)]) (st := []) dL_law_603 w_RL_77 ⟨by decide, rfl⟩ rfl (c_X7_breaks ec175) (by decide) (by omega) (by omega) rfl (Nat.le_of_ble_eq_true rfl) rfl ?_
                                      refine hJ.aload_n (i := 2) dL_law_606 rfl rfl ?_
                                      refine hJ.aload_n (i := 0) dL_law_607 rfl rfl ?_
                                      refine hJ.iload_n (i := 3) dL_law_608 rfl rfl ?_
                                      refine hJ.iconst (v := 1) dL_law_609 (by decide) ?_
                                      refine hJ.iadd dL_law_610 ?_
                                      replace hF := ck_S hF
                                      obtain ⟨c176, hF⟩ := hF
                                      refine hS dL_law_611 c176 ?_
                                      refine hJ.aload_n (i := 0) dL_law_612 rfl rfl ?_
                                      refine hJ.iload_n (i := 3) dL_law_613 rfl rfl ?_
                                      refine hJ.iconst (v := 2) dL_law_614 (by decide) ?_
                                      refine hJ.iadd dL_law_615 ?_
                                      replace hF := ck_S hF
                                      obtain ⟨c177, hF⟩ := hF
                                      refine hS dL_law_616 c177 ?_
                                      refine hJ.if_eq (tgt := 624) dL_law_617 (by decide) (fun e178 => ?_) (fun e178 => ?_)
                                      · replace hF := ite_T e178 hF
                                        refine hJ.iconst (v := 0) dL_law_624 (by decide) ?_
                                        replace hF := cl_S hF
                                        obtain ⟨r179, h180, ec181, hF⟩ := hF
                                        refine hJ.callV (as := [.inl (xs ((v3 + (1 : Int32))).toNatClampNeg), .inl (0 : Int32)]) (st := [.inl r173]) dL_law_625 w_RL_81 ⟨by decide, rfl⟩ rfl (c_X8_breaks ec181) (by decide) (by omega) (by omega) rfl (Nat.le_of_ble_eq_true rfl) rfl ?_
                                        refine hJ.icmp_eq (tgt := 1019) dL_law_628 (by decide) (fun e182 => ?_) (fun e182 => ?_)
                                        · replace hF := ite_T e182 hF
                                          refine hJ.iinc (i := 3) (v := (v3 + (5 : Int32))) (ls2 := [some (.inr (99, (some 0))), some (.inr (7, (some v1))), some (.inr (8, (some v2))), some (.inl (v3 + (5 : Int32)))]) dL_law_1019 rfl (addI (by decide)) (by decide) rfl ?_
                                          refine hJ.goto (tgt := 18) dL_law_1022 (by decide) ?_
                                          refine hJ.forget (ls2 := [some (.inr (99, (some 0))), some (.inr (7, (some v1))), some (.inr (8, (some v2))), some (.inl (v3 + (5 : Int32)))]) ⟨rfl, rfl, rfl, rfl, trivial⟩ ?_
                                          exact ih (v3 + (5 : Int32)) h180 _ _ (by omega) (by omega) hF
                                        · replace hF := ite_F e182 hF
                                          cases hF
                                      · replace hF := ite_F e178 hF
                                        refine hJ.iconst (v := 1) dL_law_620 (by decide) ?_
                                        refine hJ.goto (tgt := 625) dL_law_621 (by decide) ?_
                                        replace hF := cl_S hF
                                        obtain ⟨r183, h184, ec185, hF⟩ := hF
                                        refine hJ.callV (as := [.inl (xs ((v3 + (1 : Int32))).toNatClampNeg), .inl (1 : Int32)]) (st := [.inl r173]) dL_law_625 w_RL_81 ⟨by decide, rfl⟩ rfl (c_X8_breaks ec185) (by decide) (by omega) (by omega) rfl (Nat.le_of_ble_eq_true rfl) rfl ?_
                                        refine hJ.icmp_eq (tgt := 1019) dL_law_628 (by decide) (fun e186 => ?_) (fun e186 => ?_)
                                        · replace hF := ite_T e186 hF
                                          refine hJ.iinc (i := 3) (v := (v3 + (5 : Int32))) (ls2 := [some (.inr (99, (some 0))), some (.inr (7, (some v1))), some (.inr (8, (some v2))), some (.inl (v3 + (5 : Int32)))]) dL_law_1019 rfl (addI (by decide)) (by decide) rfl ?_
                                          refine hJ.goto (tgt := 18) dL_law_1022 (by decide) ?_
                                          refine hJ.forget (ls2 := [some (.inr (99, (some 0))), some (.inr (7, (some v1))), some (.inr (8, (some v2))), some (.inl (v3 + (5 : Int32)))]) ⟨rfl, rfl, rfl, rfl, trivial⟩ ?_
                                          exact ih (v3 + (5 : Int32)) h184 _ _ (by omega) (by omega) hF
                                        · replace hF := ite_F e186 hF
                                          cases hF
                                    · replace hF := ite_F e172 hF
                                      refine hJ.iconst (v := 1) dL_law_598 (by decide) ?_
                                      refine hJ.goto (tgt := 603) dL_law_599 (by decide) ?_
                                      replace hF := cl_S hF
                                      obtain ⟨r187, h188, ec189, hF⟩ := hF
                                      refine hJ.callV (as := [.inl (xs ((v3 + (1 : Int32))).toNatClampNeg), .inl (1 : Int32)]) (st := []) dL_law_603 w_RL_77 ⟨by decide, rfl⟩ rfl (c_X7_breaks ec189) (by decide) (by omega) (by omega) rfl (Nat.le_of_ble_eq_true rfl) rfl ?_
                                      refine hJ.aload_n (i := 2) dL_law_606 rfl rfl ?_
                                      refine hJ.aload_n (i := 0) dL_law_607 rfl rfl ?_
                                      refine hJ.iload_n (i := 3) dL_law_608 rfl rfl ?_
                                      refine hJ.iconst (v := 1) dL_law_609 (by decide) ?_
                                      refine hJ.iadd dL_law_610 ?_
                                      replace hF := ck_S hF
                                      obtain ⟨c190, hF⟩ := hF
                                      refine hS dL_law_611 c190 ?_
                                      refine hJ.aload_n (i := 0) dL_law_612 rfl rfl ?_
                                      refine hJ.iload_n (i := 3) dL_law_613 rfl rfl ?_
                                      refine hJ.iconst (v := 2) dL_law_614 (by decide) ?_
                                      refine hJ.iadd dL_law_615 ?_
                                      replace hF := ck_S hF
                                      obtain ⟨c191, hF⟩ := hF
                                      refine hS dL_law_616 c191 ?_
                                      refine hJ.if_eq (tgt := 624) dL_law_617 (by decide) (fun e192 => ?_) (fun e192 => ?_)
                                      · replace hF := ite_T e192 hF
                                        refine hJ.iconst (v := 0) dL_law_624 (by decide) ?_
                                        replace hF := cl_S hF
                                        obtain ⟨r193, h194, ec195, hF⟩ := hF
                                        refine hJ.callV (as := [.inl (xs ((v3 + (1 : Int32))).toNatClampNeg), .inl (0 : Int32)]) (st := [.inl r187]) dL_law_625 w_RL_81 ⟨by decide, rfl⟩ rfl (c_X8_breaks ec195) (by decide) (by omega) (by omega) rfl (Nat.le_of_ble_eq_true rfl) rfl ?_
                                        refine hJ.icmp_eq (tgt := 1019) dL_law_628 (by decide) (fun e196 => ?_) (fun e196 => ?_)
                                        · replace hF := ite_T e196 hF
                                          refine hJ.iinc (i := 3) (v := (v3 + (5 : Int32))) (ls2 := [some (.inr (99, (some 0))), some (.inr (7, (some v1))), some (.inr (8, (some v2))), some (.inl (v3 + (5 : Int32)))]) dL_law_1019 rfl (addI (by decide)) (by decide) rfl ?_
                                          refine hJ.goto (tgt := 18) dL_law_1022 (by decide) ?_
                                          refine hJ.forget (ls2 := [some (.inr (99, (some 0))), some (.inr (7, (some v1))), some (.inr (8, (some v2))), some (.inl (v3 + (5 : Int32)))]) ⟨rfl, rfl, rfl, rfl, trivial⟩ ?_
                                          exact ih (v3 + (5 : Int32)) h194 _ _ (by omega) (by omega) hF
                                        · replace hF := ite_F e196 hF
                                          cases hF
                                      · replace hF := ite_F e192 hF
                                        refine hJ.iconst (v := 1) dL_law_620 (by decide) ?_
                                        refine hJ.goto (tgt := 625) dL_law_621 (by decide) ?_
                                        replace hF := cl_S hF
                                        obtain ⟨r197, h198, ec199, hF⟩ := hF
                                        refine hJ.callV (as := [.inl (xs ((v3 + (1 : Int32))).toNatClampNeg), .inl (1 : Int32)]) (st := [.inl r187]) dL_law_625 w_RL_81 ⟨by decide, rfl⟩ rfl (c_X8_breaks ec199) (by decide) (by omega) (by omega) rfl (Nat.le_of_ble_eq_true rfl) rfl ?_
                                        refine hJ.icmp_eq (tgt := 1019) dL_law_628 (by decide) (fun e200 => ?_) (fun e200 => ?_)
                                        · replace hF := ite_T e200 hF
                                          refine hJ.iinc (i := 3) (v := (v3 + (5 : Int32))) (ls2 := [some (.inr (99, (some 0))), some (.inr (7, (some v1))), some (.inr (8, (some v2))), some (.inl (v3 + (5 : Int32)))]) dL_law_1019 rfl (addI (by decide)) (by decide) rfl ?_
                                          refine hJ.goto (tgt := 18) dL_law_1022 (by decide) ?_
                                          refine hJ.forget (ls2 := [some (.inr (99, (some 0))), some (.inr (7, (some v1))), some (.inr (8, (some v2))), some (.inl (v3 + (5 : Int32)))]) ⟨rfl, rfl, rfl, rfl, trivial⟩ ?_
                                          exact ih (v3 + (5 : Int32)) h198 _ _ (by omega) (by omega) hF
                                        · replace hF := ite_F e200 hF
                                          cases hF
                                  · replace hF := ite_F e27 hF
                                    by_cases e28 : ((xs (v3).toNatClampNeg) &&& (31 : Int32)) = (15 : Int32)
                                    · replace hF := ite_T e28 hF
                                      refine hJ.tabIn (off := 601) (tgt := 633) dL_law_32 (by rw [e28]; decide) (by rw [e28]; decide) (by rw [e28]; decide) (by decide) ?_
                                      refine hJ.aload_n (i := 1) dL_law_633 rfl rfl ?_
                                      refine hJ.aload_n (i := 0) dL_law_634 rfl rfl ?_
                                      refine hJ.iload_n (i := 3) dL_law_635 rfl rfl ?_
                                      refine hJ.iconst (v := 1) dL_law_636 (by decide) ?_
                                      refine hJ.iadd dL_law_637 ?_
                                      replace hF := ck_S hF
                                      obtain ⟨c159, hF⟩ := hF
                                      refine hS dL_law_638 c159 ?_
                                      refine hJ.aload_n (i := 0) dL_law_639 rfl rfl ?_
                                      refine hJ.iload_n (i := 3) dL_law_640 rfl rfl ?_
                                      refine hJ.iconst (v := 2) dL_law_641 (by decide) ?_
                                      refine hJ.iadd dL_law_642 ?_
                                      replace hF := ck_S hF
                                      obtain ⟨c160, hF⟩ := hF
                                      refine hS dL_law_643 c160 ?_
                                      replace hF := cl_S hF
                                      obtain ⟨r161, h162, ec163, hF⟩ := hF
                                      refine hJ.callV (as := [.inl (xs ((v3 + (1 : Int32))).toNatClampNeg), .inl (xs ((v3 + (2 : Int32))).toNatClampNeg)]) (st := []) dL_law_644 w_RL_82 ⟨by decide, rfl⟩ rfl (c_X7_right ec163) (by decide) (by omega) (by omega) rfl (Nat.le_of_ble_eq_true rfl) rfl ?_
                                      refine hJ.aload_n (i := 2) dL_law_647 rfl rfl ?_
                                      refine hJ.aload_n (i := 0) dL_law_648 rfl rfl ?_
                                      refine hJ.iload_n (i := 3) dL_law_649 rfl rfl ?_
                                      refine hJ.iconst (v := 1) dL_law_650 (by decide) ?_
                                      refine hJ.iadd dL_law_651 ?_
                                      replace hF := ck_S hF
                                      obtain ⟨c164, hF⟩ := hF
                                      refine hS dL_law_652 c164 ?_
                                      refine hJ.aload_n (i := 0) dL_law_653 rfl rfl ?_
                                      refine hJ.iload_n (i := 3) dL_law_654 rfl rfl ?_
                                      refine hJ.iconst (v := 2) dL_law_655 (by decide) ?_
                                      refine hJ.iadd dL_law_656 ?_
                                      replace hF := ck_S hF
                                      obtain ⟨c165, hF⟩ := hF
                                      refine hS dL_law_657 c165 ?_
                                      replace hF := cl_S hF
                                      obtain ⟨r166, h167, ec168, hF⟩ := hF
                                      refine hJ.callV (as := [.inl (xs ((v3 + (1 : Int32))).toNatClampNeg), .inl (xs ((v3 + (2 : Int32))).toNatClampNeg)]) (st := [.inl r161]) dL_law_658 w_RL_85 ⟨by decide, rfl⟩ rfl (c_X8_right ec168) (by decide) (by omega) (by omega) rfl (Nat.le_of_ble_eq_true rfl) rfl ?_
                                      refine hJ.icmp_eq (tgt := 1019) dL_law_661 (by decide) (fun e169 => ?_) (fun e169 => ?_)
                                      · replace hF := ite_T e169 hF
                                        refine hJ.iinc (i := 3) (v := (v3 + (5 : Int32))) (ls2 := [some (.inr (99, (some 0))), some (.inr (7, (some v1))), some (.inr (8, (some v2))), some (.inl (v3 + (5 : Int32)))]) dL_law_1019 rfl (addI (by decide)) (by decide) rfl ?_
                                        refine hJ.goto (tgt := 18) dL_law_1022 (by decide) ?_
                                        refine hJ.forget (ls2 := [some (.inr (99, (some 0))), some (.inr (7, (some v1))), some (.inr (8, (some v2))), some (.inl (v3 + (5 : Int32)))]) ⟨rfl, rfl, rfl, rfl, trivial⟩ ?_
                                        exact ih (v3 + (5 : Int32)) h167 _ _ (by omega) (by omega) hF
                                      · replace hF := ite_F e169 hF
                                        cases hF
                                    · replace hF := ite_F e28 hF
                                      by_cases e29 : ((xs (v3).toNatClampNeg) &&& (31 : Int32)) = (16 : Int32)
                                      · replace hF := ite_T e29 hF
                                        refine hJ.tabIn (off := 634) (tgt := 666) dL_law_32 (by rw [e29]; decide) (by rw [e29]; decide) (by rw [e29]; decide) (by decide) ?_
                                        refine hJ.aload_n (i := 1) dL_law_666 rfl rfl ?_
                                        refine hJ.aload_n (i := 0) dL_law_667 rfl rfl ?_
                                        refine hJ.iload_n (i := 3) dL_law_668 rfl rfl ?_
                                        refine hJ.iconst (v := 1) dL_law_669 (by decide) ?_
                                        refine hJ.iadd dL_law_670 ?_
                                        replace hF := ck_S hF
                                        obtain ⟨c148, hF⟩ := hF
                                        refine hS dL_law_671 c148 ?_
                                        refine hJ.aload_n (i := 0) dL_law_672 rfl rfl ?_
                                        refine hJ.iload_n (i := 3) dL_law_673 rfl rfl ?_
                                        refine hJ.iconst (v := 2) dL_law_674 (by decide) ?_
                                        refine hJ.iadd dL_law_675 ?_
                                        replace hF := ck_S hF
                                        obtain ⟨c149, hF⟩ := hF
                                        refine hS dL_law_676 c149 ?_
                                        replace hF := cl_S hF
                                        obtain ⟨r150, h151, ec152, hF⟩ := hF
                                        refine hJ.callV (as := [.inl (xs ((v3 + (1 : Int32))).toNatClampNeg), .inl (xs ((v3 + (2 : Int32))).toNatClampNeg)]) (st := []) dL_law_677 w_RL_86 ⟨by decide, rfl⟩ rfl (c_X7_toll ec152) (by decide) (by omega) (by omega) rfl (Nat.le_of_ble_eq_true rfl) rfl ?_
                                        refine hJ.aload_n (i := 2) dL_law_680 rfl rfl ?_
                                        refine hJ.aload_n (i := 0) dL_law_681 rfl rfl ?_
                                        refine hJ.iload_n (i := 3) dL_law_682 rfl rfl ?_
                                        refine hJ.iconst (v := 1) dL_law_683 (by decide) ?_
                                        refine hJ.iadd dL_law_684 ?_
                                        replace hF := ck_S hF
                                        obtain ⟨c153, hF⟩ := hF
                                        refine hS dL_law_685 c153 ?_
                                        refine hJ.aload_n (i := 0) dL_law_686 rfl rfl ?_
                                        refine hJ.iload_n (i := 3) dL_law_687 rfl rfl ?_
                                        refine hJ.iconst (v := 2) dL_law_688 (by decide) ?_
                                        refine hJ.iadd dL_law_689 ?_
                                        replace hF := ck_S hF
                                        obtain ⟨c154, hF⟩ := hF
                                        refine hS dL_law_690 c154 ?_
                                        replace hF := cl_S hF
                                        obtain ⟨r155, h156, ec157, hF⟩ := hF
                                        refine hJ.callV (as := [.inl (xs ((v3 + (1 : Int32))).toNatClampNeg), .inl (xs ((v3 + (2 : Int32))).toNatClampNeg)]) (st := [.inl r150]) dL_law_691 w_RL_89 ⟨by decide, rfl⟩ rfl (c_X8_toll ec157) (by decide) (by omega) (by omega) rfl (Nat.le_of_ble_eq_true rfl) rfl ?_
                                        refine hJ.icmp_eq (tgt := 1019) dL_law_694 (by decide) (fun e158 => ?_) (fun e158 => ?_)
                                        · replace hF := ite_T e158 hF
                                          refine hJ.iinc (i := 3) (v := (v3 + (5 : Int32))) (ls2 := [some (.inr (99, (some 0))), some (.inr (7, (some v1))), some (.inr (8, (some v2))), some (.inl (v3 + (5 : Int32)))]) dL_law_1019 rfl (addI (by decide)) (by decide) rfl ?_
                                          refine hJ.goto (tgt := 18) dL_law_1022 (by decide) ?_
                                          refine hJ.forget (ls2 := [some (.inr (99, (some 0))), some (.inr (7, (some v1))), some (.inr (8, (some v2))), some (.inl (v3 + (5 : Int32)))]) ⟨rfl, rfl, rfl, rfl, trivial⟩ ?_
                                          exact ih (v3 + (5 : Int32)) h156 _ _ (by omega) (by omega) hF
                                        · replace hF := ite_F e158 hF
                                          cases hF
                                      · replace hF := ite_F e29 hF
                                        by_cases e30 : ((xs (v3).toNatClampNeg) &&& (31 : Int32)) = (17 : Int32)
                                        · replace hF := ite_T e30 hF
                                          refine hJ.tabIn (off := 667) (tgt := 699) dL_law_32 (by rw [e30]; decide) (by rw [e30]; decide) (by rw [e30]; decide) (by decide) ?_
                                          refine hJ.aload_n (i := 1) dL_law_699 rfl rfl ?_
                                          refine hJ.aload_n (i := 0) dL_law_700 rfl rfl ?_
                                          refine hJ.iload_n (i := 3) dL_law_701 rfl rfl ?_
                                          refine hJ.iconst (v := 1) dL_law_702 (by decide) ?_
                                          refine hJ.iadd dL_law_703 ?_
                                          replace hF := ck_S hF
                                          obtain ⟨c133, hF⟩ := hF
                                          refine hS dL_law_704 c133 ?_
                                          refine hJ.aload_n (i := 0) dL_law_705 rfl rfl ?_
                                          refine hJ.iload_n (i := 3) dL_law_706 rfl rfl ?_
                                          refine hJ.iconst (v := 2) dL_law_707 (by decide) ?_
                                          refine hJ.iadd dL_law_708 ?_
                                          replace hF := ck_S hF
                                          obtain ⟨c134, hF⟩ := hF
                                          refine hS dL_law_709 c134 ?_
                                          refine hJ.aload_n (i := 0) dL_law_710 rfl rfl ?_
                                          refine hJ.iload_n (i := 3) dL_law_711 rfl rfl ?_
                                          refine hJ.iconst (v := 3) dL_law_712 (by decide) ?_
                                          refine hJ.iadd dL_law_713 ?_
                                          replace hF := ck_S hF
                                          obtain ⟨c135, hF⟩ := hF
                                          refine hS dL_law_714 c135 ?_
                                          refine hJ.aload_n (i := 0) dL_law_715 rfl rfl ?_
                                          refine hJ.iload_n (i := 3) dL_law_716 rfl rfl ?_
                                          refine hJ.iconst (v := 4) dL_law_717 (by decide) ?_
                                          refine hJ.iadd dL_law_718 ?_
                                          replace hF := ck_S hF
                                          obtain ⟨c136, hF⟩ := hF
                                          refine hS dL_law_719 c136 ?_
                                          replace hF := cl_S hF
                                          obtain ⟨r137, h138, ec139, hF⟩ := hF
                                          refine hJ.callV (as := [.inl (xs ((v3 + (1 : Int32))).toNatClampNeg), .inl (xs ((v3 + (2 : Int32))).toNatClampNeg), .inl (xs ((v3 + (3 : Int32))).toNatClampNeg), .inl (xs ((v3 + (4 : Int32))).toNatClampNeg)]) (st := []) dL_law_720 w_RL_90 ⟨by decide, rfl⟩ rfl (c_X7_price ec139) (by decide) (by omega) (by omega) rfl (Nat.le_of_ble_eq_true rfl) rfl ?_
                                          refine hJ.aload_n (i := 2) dL_law_723 rfl rfl ?_
                                          refine hJ.aload_n (i := 0) dL_law_724 rfl rfl ?_
                                          refine hJ.iload_n (i := 3) dL_law_725 rfl rfl ?_
                                          refine hJ.iconst (v := 1) dL_law_726 (by decide) ?_
                                          refine hJ.iadd dL_law_727 ?_
                                          replace hF := ck_S hF
                                          obtain ⟨c140, hF⟩ := hF
                                          refine hS dL_law_728 c140 ?_
                                          refine hJ.aload_n (i := 0) dL_law_729 rfl rfl ?_
                                          refine hJ.iload_n (i := 3) dL_law_730 rfl rfl ?_
                                          refine hJ.iconst (v := 2) dL_law_731 (by decide) ?_
                                          refine hJ.iadd dL_law_732 ?_
                                          replace hF := ck_S hF
                                          obtain ⟨c141, hF⟩ := hF
                                          refine hS dL_law_733 c141 ?_
                                          refine hJ.aload_n (i := 0) dL_law_734 rfl rfl ?_
                                          refine hJ.iload_n (i := 3) dL_law_735 rfl rfl ?_
                                          refine hJ.iconst (v := 3) dL_law_736 (by decide) ?_
                                          refine hJ.iadd dL_law_737 ?_
                                          replace hF := ck_S hF
                                          obtain ⟨c142, hF⟩ := hF
                                          refine hS dL_law_738 c142 ?_
                                          refine hJ.aload_n (i := 0) dL_law_739 rfl rfl ?_
                                          refine hJ.iload_n (i := 3) dL_law_740 rfl rfl ?_
                                          refine hJ.iconst (v := 4) dL_law_741 (by decide) ?_
                                          refine hJ.iadd dL_law_742 ?_
                                          replace hF := ck_S hF
                                          obtain ⟨c143, hF⟩ := hF
                                          refine hS dL_law_743 c143 ?_
                                          replace hF := cl_S hF
                                          obtain ⟨r144, h145, ec146, hF⟩ := hF
                                          refine hJ.callV (as := [.inl (xs ((v3 + (1 : Int32))).toNatClampNeg), .inl (xs ((v3 + (2 : Int32))).toNatClampNeg), .inl (xs ((v3 + (3 : Int32))).toNatClampNeg), .inl (xs ((v3 + (4 : Int32))).toNatClampNeg)]) (st := [.inl r137]) dL_law_744 w_RL_94 ⟨by decide, rfl⟩ rfl (c_X8_price ec146) (by decide) (by omega) (by omega) rfl (Nat.le_of_ble_eq_true rfl) rfl ?_
                                          refine hJ.icmp_eq (tgt := 1019) dL_law_747 (by decide) (fun e147 => ?_) (fun e147 => ?_)
                                          · replace hF := ite_T e147 hF
                                            refine hJ.iinc (i := 3) (v := (v3 + (5 : Int32))) (ls2 := [some (.inr (99, (some 0))), some (.inr (7, (some v1))), some (.inr (8, (some v2))), some (.inl (v3 + (5 : Int32)))]) dL_law_1019 rfl (addI (by decide)) (by decide) rfl ?_
                                            refine hJ.goto (tgt := 18) dL_law_1022 (by decide) ?_
                                            refine hJ.forget (ls2 := [some (.inr (99, (some 0))), some (.inr (7, (some v1))), some (.inr (8, (some v2))), some (.inl (v3 + (5 : Int32)))]) ⟨rfl, rfl, rfl, rfl, trivial⟩ ?_
                                            exact ih (v3 + (5 : Int32)) h145 _ _ (by omega) (by omega) hF
                                          · replace hF := ite_F e147 hF
                                            cases hF
                                        · replace hF := ite_F e30 hF
                                          by_cases e31 : ((xs (v3).toNatClampNeg) &&& (31 : Int32)) = (18 : Int32)
                                          · replace hF := ite_T e31 hF
                                            refine hJ.tabIn (off := 720) (tgt := 752) dL_law_32 (by rw [e31]; decide) (by rw [e31]; decide) (by rw [e31]; decide) (by decide) ?_
                                            refine hJ.aload_n (i := 1) dL_law_752 rfl rfl ?_
                                            refine hJ.aload_n (i := 0) dL_law_753 rfl rfl ?_
                                            refine hJ.iload_n (i := 3) dL_law_754 rfl rfl ?_
                                            refine hJ.iconst (v := 1) dL_law_755 (by decide) ?_
                                            refine hJ.iadd dL_law_756 ?_
                                            replace hF := ck_S hF
                                            obtain ⟨c124, hF⟩ := hF
                                            refine hS dL_law_757 c124 ?_
                                            replace hF := cl_S hF
                                            obtain ⟨r125, h126, ec127, hF⟩ := hF
                                            refine hJ.callV (as := [.inl (xs ((v3 + (1 : Int32))).toNatClampNeg)]) (st := []) dL_law_758 w_RL_95 ⟨by decide, rfl⟩ rfl (c_X7_sell ec127) (by decide) (by omega) (by omega) rfl (Nat.le_of_ble_eq_true rfl) rfl ?_
                                            refine hJ.aload_n (i := 2) dL_law_761 rfl rfl ?_
                                            refine hJ.aload_n (i := 0) dL_law_762 rfl rfl ?_
                                            refine hJ.iload_n (i := 3) dL_law_763 rfl rfl ?_
                                            refine hJ.iconst (v := 1) dL_law_764 (by decide) ?_
                                            refine hJ.iadd dL_law_765 ?_
                                            replace hF := ck_S hF
                                            obtain ⟨c128, hF⟩ := hF
                                            refine hS dL_law_766 c128 ?_
                                            replace hF := cl_S hF
                                            obtain ⟨r129, h130, ec131, hF⟩ := hF
                                            refine hJ.callV (as := [.inl (xs ((v3 + (1 : Int32))).toNatClampNeg)]) (st := [.inl r125]) dL_law_767 w_RL_98 ⟨by decide, rfl⟩ rfl (c_X8_sell ec131) (by decide) (by omega) (by omega) rfl (Nat.le_of_ble_eq_true rfl) rfl ?_
                                            refine hJ.icmp_eq (tgt := 1019) dL_law_770 (by decide) (fun e132 => ?_) (fun e132 => ?_)
                                            · replace hF := ite_T e132 hF
                                              refine hJ.iinc (i := 3) (v := (v3 + (5 : Int32))) (ls2 := [some (.inr (99, (some 0))), some (.inr (7, (some v1))), some (.inr (8, (some v2))), some (.inl (v3 + (5 : Int32)))]) dL_law_1019 rfl (addI (by decide)) (by decide) rfl ?_
                                              refine hJ.goto (tgt := 18) dL_law_1022 (by decide) ?_
                                              refine hJ.forget (ls2 := [some (.inr (99, (some 0))), some (.inr (7, (some v1))), some (.inr (8, (some v2))), some (.inl (v3 + (5 : Int32)))]) ⟨rfl, rfl, rfl, rfl, trivial⟩ ?_
                                              exact ih (v3 + (5 : Int32)) h130 _ _ (by omega) (by omega) hF
                                            · replace hF := ite_F e132 hF
                                              cases hF
                                          · replace hF := ite_F e31 hF
                                            by_cases e32 : ((xs (v3).toNatClampNeg) &&& (31 : Int32)) = (19 : Int32)
                                            · replace hF := ite_T e32 hF
                                              refine hJ.tabIn (off := 743) (tgt := 775) dL_law_32 (by rw [e32]; decide) (by rw [e32]; decide) (by rw [e32]; decide) (by decide) ?_
                                              refine hJ.aload_n (i := 1) dL_law_775 rfl rfl ?_
                                              refine hJ.aload_n (i := 0) dL_law_776 rfl rfl ?_
                                              refine hJ.iload_n (i := 3) dL_law_777 rfl rfl ?_
                                              refine hJ.iconst (v := 1) dL_law_778 (by decide) ?_
                                              refine hJ.iadd dL_law_779 ?_
                                              replace hF := ck_S hF
                                              obtain ⟨c113, hF⟩ := hF
                                              refine hS dL_law_780 c113 ?_
                                              refine hJ.aload_n (i := 0) dL_law_781 rfl rfl ?_
                                              refine hJ.iload_n (i := 3) dL_law_782 rfl rfl ?_
                                              refine hJ.iconst (v := 2) dL_law_783 (by decide) ?_
                                              refine hJ.iadd dL_law_784 ?_
                                              replace hF := ck_S hF
                                              obtain ⟨c114, hF⟩ := hF
                                              refine hS dL_law_785 c114 ?_
                                              replace hF := cl_S hF
                                              obtain ⟨r115, h116, ec117, hF⟩ := hF
                                              refine hJ.callV (as := [.inl (xs ((v3 + (1 : Int32))).toNatClampNeg), .inl (xs ((v3 + (2 : Int32))).toNatClampNeg)]) (st := []) dL_law_786 w_RL_99 ⟨by decide, rfl⟩ rfl (c_X7_advance ec117) (by decide) (by omega) (by omega) rfl (Nat.le_of_ble_eq_true rfl) rfl ?_
                                              refine hJ.aload_n (i := 2) dL_law_789 rfl rfl ?_
                                              refine hJ.aload_n (i := 0) dL_law_790 rfl rfl ?_
                                              refine hJ.iload_n (i := 3) dL_law_791 rfl rfl ?_
                                              refine hJ.iconst (v := 1) dL_law_792 (by decide) ?_
                                              refine hJ.iadd dL_law_793 ?_
                                              replace hF := ck_S hF
                                              obtain ⟨c118, hF⟩ := hF
                                              refine hS dL_law_794 c118 ?_
                                              refine hJ.aload_n (i := 0) dL_law_795 rfl rfl ?_
                                              refine hJ.iload_n (i := 3) dL_law_796 rfl rfl ?_
                                              refine hJ.iconst (v := 2) dL_law_797 (by decide) ?_
                                              refine hJ.iadd dL_law_798 ?_
                                              replace hF := ck_S hF
                                              obtain ⟨c119, hF⟩ := hF
                                              refine hS dL_law_799 c119 ?_
                                              replace hF := cl_S hF
                                              obtain ⟨r120, h121, ec122, hF⟩ := hF
                                              refine hJ.callV (as := [.inl (xs ((v3 + (1 : Int32))).toNatClampNeg), .inl (xs ((v3 + (2 : Int32))).toNatClampNeg)]) (st := [.inl r115]) dL_law_800 w_RL_102 ⟨by decide, rfl⟩ rfl (c_X8_advance ec122) (by decide) (by omega) (by omega) rfl (Nat.le_of_ble_eq_true rfl) rfl ?_
                                              refine hJ.icmp_eq (tgt := 1019) dL_law_803 (by decide) (fun e123 => ?_) (fun e123 => ?_)
                                              · replace hF := ite_T e123 hF
                                                refine hJ.iinc (i := 3) (v := (v3 + (5 : Int32))) (ls2 := [some (.inr (99, (some 0))), some (.inr (7, (some v1))), some (.inr (8, (some v2))), some (.inl (v3 + (5 : Int32)))]) dL_law_1019 rfl (addI (by decide)) (by decide) rfl ?_
                                                refine hJ.goto (tgt := 18) dL_law_1022 (by decide) ?_
                                                refine hJ.forget (ls2 := [some (.inr (99, (some 0))), some (.inr (7, (some v1))), some (.inr (8, (some v2))), some (.inl (v3 + (5 : Int32)))]) ⟨rfl, rfl, rfl, rfl, trivial⟩ ?_
                                                exact ih (v3 + (5 : Int32)) h121 _ _ (by omega) (by omega) hF
                                              · replace hF := ite_F e123 hF
                                                cases hF
                                            · replace hF := ite_F e32 hF
                                              by_cases e33 : ((xs (v3).toNatClampNeg) &&& (31 : Int32)) = (20 : Int32)
                                              · replace hF := ite_T e33 hF
                                                refine hJ.tabIn (off := 776) (tgt := 808) dL_law_32 (by rw [e33]; decide) (by rw [e33]; decide) (by rw [e33]; decide) (by decide) ?_
                                                refine hJ.aload_n (i := 1) dL_law_808 rfl rfl ?_
                                                refine hJ.aload_n (i := 0) dL_law_809 rfl rfl ?_
                                                refine hJ.iload_n (i := 3) dL_law_810 rfl rfl ?_
                                                refine hJ.iconst (v := 1) dL_law_811 (by decide) ?_
                                                refine hJ.iadd dL_law_812 ?_
                                                replace hF := ck_S hF
                                                obtain ⟨c104, hF⟩ := hF
                                                refine hS dL_law_813 c104 ?_
                                                replace hF := cl_S hF
                                                obtain ⟨r105, h106, ec107, hF⟩ := hF
                                                refine hJ.callV (as := [.inl (xs ((v3 + (1 : Int32))).toNatClampNeg)]) (st := []) dL_law_814 w_RL_103 ⟨by decide, rfl⟩ rfl (c_X7_balance ec107) (by decide) (by omega) (by omega) rfl (Nat.le_of_ble_eq_true rfl) rfl ?_
                                                refine hJ.aload_n (i := 2) dL_law_817 rfl rfl ?_
                                                refine hJ.aload_n (i := 0) dL_law_818 rfl rfl ?_
                                                refine hJ.iload_n (i := 3) dL_law_819 rfl rfl ?_
                                                refine hJ.iconst (v := 1) dL_law_820 (by decide) ?_
                                                refine hJ.iadd dL_law_821 ?_
                                                replace hF := ck_S hF
                                                obtain ⟨c108, hF⟩ := hF
                                                refine hS dL_law_822 c108 ?_
                                                replace hF := cl_S hF
                                                obtain ⟨r109, h110, ec111, hF⟩ := hF
                                                refine hJ.callV (as := [.inl (xs ((v3 + (1 : Int32))).toNatClampNeg)]) (st := [.inl r105]) dL_law_823 w_RL_106 ⟨by decide, rfl⟩ rfl (c_X8_balance ec111) (by decide) (by omega) (by omega) rfl (Nat.le_of_ble_eq_true rfl) rfl ?_
                                                refine hJ.icmp_eq (tgt := 1019) dL_law_826 (by decide) (fun e112 => ?_) (fun e112 => ?_)
                                                · replace hF := ite_T e112 hF
                                                  refine hJ.iinc (i := 3) (v := (v3 + (5 : Int32))) (ls2 := [some (.inr (99, (some 0))), some (.inr (7, (some v1))), some (.inr (8, (some v2))), some (.inl (v3 + (5 : Int32)))]) dL_law_1019 rfl (addI (by decide)) (by decide) rfl ?_
                                                  refine hJ.goto (tgt := 18) dL_law_1022 (by decide) ?_
                                                  refine hJ.forget (ls2 := [some (.inr (99, (some 0))), some (.inr (7, (some v1))), some (.inr (8, (some v2))), some (.inl (v3 + (5 : Int32)))]) ⟨rfl, rfl, rfl, rfl, trivial⟩ ?_
                                                  exact ih (v3 + (5 : Int32)) h110 _ _ (by omega) (by omega) hF
                                                · replace hF := ite_F e112 hF
                                                  cases hF
                                              · replace hF := ite_F e33 hF
                                                by_cases e34 : ((xs (v3).toNatClampNeg) &&& (31 : Int32)) = (21 : Int32)
                                                · replace hF := ite_T e34 hF
                                                  refine hJ.tabIn (off := 799) (tgt := 831) dL_law_32 (by rw [e34]; decide) (by rw [e34]; decide) (by rw [e34]; decide) (by decide) ?_
                                                  refine hJ.aload_n (i := 1) dL_law_831 rfl rfl ?_
                                                  refine hJ.aload_n (i := 0) dL_law_832 rfl rfl ?_
                                                  refine hJ.iload_n (i := 3) dL_law_833 rfl rfl ?_
                                                  refine hJ.iconst (v := 1) dL_law_834 (by decide) ?_
                                                  refine hJ.iadd dL_law_835 ?_
                                                  replace hF := ck_S hF
                                                  obtain ⟨c93, hF⟩ := hF
                                                  refine hS dL_law_836 c93 ?_
                                                  refine hJ.aload_n (i := 0) dL_law_837 rfl rfl ?_
                                                  refine hJ.iload_n (i := 3) dL_law_838 rfl rfl ?_
                                                  refine hJ.iconst (v := 2) dL_law_839 (by decide) ?_
                                                  refine hJ.iadd dL_law_840 ?_
                                                  replace hF := ck_S hF
                                                  obtain ⟨c94, hF⟩ := hF
                                                  refine hS dL_law_841 c94 ?_
                                                  replace hF := cl_S hF
                                                  obtain ⟨r95, h96, ec97, hF⟩ := hF
                                                  refine hJ.callV (as := [.inl (xs ((v3 + (1 : Int32))).toNatClampNeg), .inl (xs ((v3 + (2 : Int32))).toNatClampNeg)]) (st := []) dL_law_842 w_RL_107 ⟨by decide, rfl⟩ rfl (c_X7_best ec97) (by decide) (by omega) (by omega) rfl (Nat.le_of_ble_eq_true rfl) rfl ?_
                                                  refine hJ.aload_n (i := 2) dL_law_845 rfl rfl ?_
                                                  refine hJ.aload_n (i := 0) dL_law_846 rfl rfl ?_
                                                  refine hJ.iload_n (i := 3) dL_law_847 rfl rfl ?_
                                                  refine hJ.iconst (v := 1) dL_law_848 (by decide) ?_
                                                  refine hJ.iadd dL_law_849 ?_
                                                  replace hF := ck_S hF
                                                  obtain ⟨c98, hF⟩ := hF
                                                  refine hS dL_law_850 c98 ?_
                                                  refine hJ.aload_n (i := 0) dL_law_851 rfl rfl ?_
                                                  refine hJ.iload_n (i := 3) dL_law_852 rfl rfl ?_
                                                  refine hJ.iconst (v := 2) dL_law_853 (by decide) ?_
                                                  refine hJ.iadd dL_law_854 ?_
                                                  replace hF := ck_S hF
                                                  obtain ⟨c99, hF⟩ := hF
                                                  refine hS dL_law_855 c99 ?_
                                                  replace hF := cl_S hF
                                                  obtain ⟨r100, h101, ec102, hF⟩ := hF
                                                  refine hJ.callV (as := [.inl (xs ((v3 + (1 : Int32))).toNatClampNeg), .inl (xs ((v3 + (2 : Int32))).toNatClampNeg)]) (st := [.inl r95]) dL_law_856 w_RL_110 ⟨by decide, rfl⟩ rfl (c_X8_best ec102) (by decide) (by omega) (by omega) rfl (Nat.le_of_ble_eq_true rfl) rfl ?_
                                                  refine hJ.icmp_eq (tgt := 1019) dL_law_859 (by decide) (fun e103 => ?_) (fun e103 => ?_)
                                                  · replace hF := ite_T e103 hF
                                                    refine hJ.iinc (i := 3) (v := (v3 + (5 : Int32))) (ls2 := [some (.inr (99, (some 0))), some (.inr (7, (some v1))), some (.inr (8, (some v2))), some (.inl (v3 + (5 : Int32)))]) dL_law_1019 rfl (addI (by decide)) (by decide) rfl ?_
                                                    refine hJ.goto (tgt := 18) dL_law_1022 (by decide) ?_
                                                    refine hJ.forget (ls2 := [some (.inr (99, (some 0))), some (.inr (7, (some v1))), some (.inr (8, (some v2))), some (.inl (v3 + (5 : Int32)))]) ⟨rfl, rfl, rfl, rfl, trivial⟩ ?_
                                                    exact ih (v3 + (5 : Int32)) h101 _ _ (by omega) (by omega) hF
                                                  · replace hF := ite_F e103 hF
                                                    cases hF
                                                · replace hF := ite_F e34 hF
                                                  by_cases e35 : ((xs (v3).toNatClampNeg) &&& (31 : Int32)) = (22 : Int32)
                                                  · replace hF := ite_T e35 hF
                                                    refine hJ.tabIn (off := 832) (tgt := 864) dL_law_32 (by rw [e35]; decide) (by rw [e35]; decide) (by rw [e35]; decide) (by decide) ?_
                                                    refine hJ.aload_n (i := 1) dL_law_864 rfl rfl ?_
                                                    refine hJ.aload_n (i := 0) dL_law_865 rfl rfl ?_
                                                    refine hJ.iload_n (i := 3) dL_law_866 rfl rfl ?_
                                                    refine hJ.iconst (v := 1) dL_law_867 (by decide) ?_
                                                    refine hJ.iadd dL_law_868 ?_
                                                    replace hF := ck_S hF
                                                    obtain ⟨c82, hF⟩ := hF
                                                    refine hS dL_law_869 c82 ?_
                                                    refine hJ.aload_n (i := 0) dL_law_870 rfl rfl ?_
                                                    refine hJ.iload_n (i := 3) dL_law_871 rfl rfl ?_
                                                    refine hJ.iconst (v := 2) dL_law_872 (by decide) ?_
                                                    refine hJ.iadd dL_law_873 ?_
                                                    replace hF := ck_S hF
                                                    obtain ⟨c83, hF⟩ := hF
                                                    refine hS dL_law_874 c83 ?_
                                                    replace hF := cl_S hF
                                                    obtain ⟨r84, h85, ec86, hF⟩ := hF
                                                    refine hJ.callV (as := [.inl (xs ((v3 + (1 : Int32))).toNatClampNeg), .inl (xs ((v3 + (2 : Int32))).toNatClampNeg)]) (st := []) dL_law_875 w_RL_111 ⟨by decide, rfl⟩ rfl (c_X7_passes ec86) (by decide) (by omega) (by omega) rfl (Nat.le_of_ble_eq_true rfl) rfl ?_
                                                    refine hJ.aload_n (i := 2) dL_law_878 rfl rfl ?_
                                                    refine hJ.aload_n (i := 0) dL_law_879 rfl rfl ?_
                                                    refine hJ.iload_n (i := 3) dL_law_880 rfl rfl ?_
                                                    refine hJ.iconst (v := 1) dL_law_881 (by decide) ?_
                                                    refine hJ.iadd dL_law_882 ?_
                                                    replace hF := ck_S hF
                                                    obtain ⟨c87, hF⟩ := hF
                                                    refine hS dL_law_883 c87 ?_
                                                    refine hJ.aload_n (i := 0) dL_law_884 rfl rfl ?_
                                                    refine hJ.iload_n (i := 3) dL_law_885 rfl rfl ?_
                                                    refine hJ.iconst (v := 2) dL_law_886 (by decide) ?_
                                                    refine hJ.iadd dL_law_887 ?_
                                                    replace hF := ck_S hF
                                                    obtain ⟨c88, hF⟩ := hF
                                                    refine hS dL_law_888 c88 ?_
                                                    replace hF := cl_S hF
                                                    obtain ⟨r89, h90, ec91, hF⟩ := hF
                                                    refine hJ.callV (as := [.inl (xs ((v3 + (1 : Int32))).toNatClampNeg), .inl (xs ((v3 + (2 : Int32))).toNatClampNeg)]) (st := [.inl r84]) dL_law_889 w_RL_114 ⟨by decide, rfl⟩ rfl (c_X8_passes ec91) (by decide) (by omega) (by omega) rfl (Nat.le_of_ble_eq_true rfl) rfl ?_
                                                    refine hJ.icmp_eq (tgt := 1019) dL_law_892 (by decide) (fun e92 => ?_) (fun e92 => ?_)
                                                    · replace hF := ite_T e92 hF
                                                      refine hJ.iinc (i := 3) (v := (v3 + (5 : Int32))) (ls2 := [some (.inr (99, (some 0))), some (.inr (7, (some v1))), some (.inr (8, (some v2))), some (.inl (v3 + (5 : Int32)))]) dL_law_1019 rfl (addI (by decide)) (by decide) rfl ?_
                                                      refine hJ.goto (tgt := 18) dL_law_1022 (by decide) ?_
                                                      refine hJ.forget (ls2 := [some (.inr (99, (some 0))), some (.inr (7, (some v1))), some (.inr (8, (some v2))), some (.inl (v3 + (5 : Int32)))]) ⟨rfl, rfl, rfl, rfl, trivial⟩ ?_
                                                      exact ih (v3 + (5 : Int32)) h90 _ _ (by omega) (by omega) hF
                                                    · replace hF := ite_F e92 hF
                                                      cases hF
                                                  · replace hF := ite_F e35 hF
                                                    by_cases e36 : ((xs (v3).toNatClampNeg) &&& (31 : Int32)) = (23 : Int32)
                                                    · replace hF := ite_T e36 hF
                                                      refine hJ.tabIn (off := 865) (tgt := 897) dL_law_32 (by rw [e36]; decide) (by rw [e36]; decide) (by rw [e36]; decide) (by decide) ?_
                                                      refine hJ.aload_n (i := 1) dL_law_897 rfl rfl ?_
                                                      refine hJ.aload_n (i := 0) dL_law_898 rfl rfl ?_
                                                      refine hJ.iload_n (i := 3) dL_law_899 rfl rfl ?_
                                                      refine hJ.iconst (v := 1) dL_law_900 (by decide) ?_
                                                      refine hJ.iadd dL_law_901 ?_
                                                      replace hF := ck_S hF
                                                      obtain ⟨c71, hF⟩ := hF
                                                      refine hS dL_law_902 c71 ?_
                                                      refine hJ.aload_n (i := 0) dL_law_903 rfl rfl ?_
                                                      refine hJ.iload_n (i := 3) dL_law_904 rfl rfl ?_
                                                      refine hJ.iconst (v := 2) dL_law_905 (by decide) ?_
                                                      refine hJ.iadd dL_law_906 ?_
                                                      replace hF := ck_S hF
                                                      obtain ⟨c72, hF⟩ := hF
                                                      refine hS dL_law_907 c72 ?_
                                                      replace hF := cl_S hF
                                                      obtain ⟨r73, h74, ec75, hF⟩ := hF
                                                      refine hJ.callV (as := [.inl (xs ((v3 + (1 : Int32))).toNatClampNeg), .inl (xs ((v3 + (2 : Int32))).toNatClampNeg)]) (st := []) dL_law_908 w_RL_115 ⟨by decide, rfl⟩ rfl (c_X7_told ec75) (by decide) (by omega) (by omega) rfl (Nat.le_of_ble_eq_true rfl) rfl ?_
                                                      refine hJ.aload_n (i := 2) dL_law_911 rfl rfl ?_
                                                      refine hJ.aload_n (i := 0) dL_law_912 rfl rfl ?_
                                                      refine hJ.iload_n (i := 3) dL_law_913 rfl rfl ?_
                                                      refine hJ.iconst (v := 1) dL_law_914 (by decide) ?_
                                                      refine hJ.iadd dL_law_915 ?_
                                                      replace hF := ck_S hF
                                                      obtain ⟨c76, hF⟩ := hF
                                                      refine hS dL_law_916 c76 ?_
                                                      refine hJ.aload_n (i := 0) dL_law_917 rfl rfl ?_
                                                      refine hJ.iload_n (i := 3) dL_law_918 rfl rfl ?_
                                                      refine hJ.iconst (v := 2) dL_law_919 (by decide) ?_
                                                      refine hJ.iadd dL_law_920 ?_
                                                      replace hF := ck_S hF
                                                      obtain ⟨c77, hF⟩ := hF
                                                      refine hS dL_law_921 c77 ?_
                                                      replace hF := cl_S hF
                                                      obtain ⟨r78, h79, ec80, hF⟩ := hF
                                                      refine hJ.callV (as := [.inl (xs ((v3 + (1 : Int32))).toNatClampNeg), .inl (xs ((v3 + (2 : Int32))).toNatClampNeg)]) (st := [.inl r73]) dL_law_922 w_RL_118 ⟨by decide, rfl⟩ rfl (c_X8_told ec80) (by decide) (by omega) (by omega) rfl (Nat.le_of_ble_eq_true rfl) rfl ?_
                                                      refine hJ.icmp_eq (tgt := 1019) dL_law_925 (by decide) (fun e81 => ?_) (fun e81 => ?_)
                                                      · replace hF := ite_T e81 hF
                                                        refine hJ.iinc (i := 3) (v := (v3 + (5 : Int32))) (ls2 := [some (.inr (99, (some 0))), some (.inr (7, (some v1))), some (.inr (8, (some v2))), some (.inl (v3 + (5 : Int32)))]) dL_law_1019 rfl (addI (by decide)) (by decide) rfl ?_
                                                        refine hJ.goto (tgt := 18) dL_law_1022 (by decide) ?_
                                                        refine hJ.forget (ls2 := [some (.inr (99, (some 0))), some (.inr (7, (some v1))), some (.inr (8, (some v2))), some (.inl (v3 + (5 : Int32)))]) ⟨rfl, rfl, rfl, rfl, trivial⟩ ?_
                                                        exact ih (v3 + (5 : Int32)) h79 _ _ (by omega) (by omega) hF
                                                      · replace hF := ite_F e81 hF
                                                        cases hF
                                                    · replace hF := ite_F e36 hF
                                                      by_cases e37 : ((xs (v3).toNatClampNeg) &&& (31 : Int32)) = (24 : Int32)
                                                      · replace hF := ite_T e37 hF
                                                        refine hJ.tabIn (off := 898) (tgt := 930) dL_law_32 (by rw [e37]; decide) (by rw [e37]; decide) (by rw [e37]; decide) (by decide) ?_
                                                        refine hJ.aload_n (i := 1) dL_law_930 rfl rfl ?_
                                                        refine hJ.aload_n (i := 0) dL_law_931 rfl rfl ?_
                                                        refine hJ.iload_n (i := 3) dL_law_932 rfl rfl ?_
                                                        refine hJ.iconst (v := 1) dL_law_933 (by decide) ?_
                                                        refine hJ.iadd dL_law_934 ?_
                                                        replace hF := ck_S hF
                                                        obtain ⟨c60, hF⟩ := hF
                                                        refine hS dL_law_935 c60 ?_
                                                        refine hJ.aload_n (i := 0) dL_law_936 rfl rfl ?_
                                                        refine hJ.iload_n (i := 3) dL_law_937 rfl rfl ?_
                                                        refine hJ.iconst (v := 2) dL_law_938 (by decide) ?_
                                                        refine hJ.iadd dL_law_939 ?_
                                                        replace hF := ck_S hF
                                                        obtain ⟨c61, hF⟩ := hF
                                                        refine hS dL_law_940 c61 ?_
                                                        replace hF := cl_S hF
                                                        obtain ⟨r62, h63, ec64, hF⟩ := hF
                                                        refine hJ.callV (as := [.inl (xs ((v3 + (1 : Int32))).toNatClampNeg), .inl (xs ((v3 + (2 : Int32))).toNatClampNeg)]) (st := []) dL_law_941 w_RL_119 ⟨by decide, rfl⟩ rfl (c_X7_raft ec64) (by decide) (by omega) (by omega) rfl (Nat.le_of_ble_eq_true rfl) rfl ?_
                                                        refine hJ.aload_n (i := 2) dL_law_944 rfl rfl ?_
                                                        refine hJ.aload_n (i := 0) dL_law_945 rfl rfl ?_
                                                        refine hJ.iload_n (i := 3) dL_law_946 rfl rfl ?_
                                                        refine hJ.iconst (v := 1) dL_law_947 (by decide) ?_
                                                        refine hJ.iadd dL_law_948 ?_
                                                        replace hF := ck_S hF
                                                        obtain ⟨c65, hF⟩ := hF
                                                        refine hS dL_law_949 c65 ?_
                                                        refine hJ.aload_n (i := 0) dL_law_950 rfl rfl ?_
                                                        refine hJ.iload_n (i := 3) dL_law_951 rfl rfl ?_
                                                        refine hJ.iconst (v := 2) dL_law_952 (by decide) ?_
                                                        refine hJ.iadd dL_law_953 ?_
                                                        replace hF := ck_S hF
                                                        obtain ⟨c66, hF⟩ := hF
                                                        refine hS dL_law_954 c66 ?_
                                                        replace hF := cl_S hF
                                                        obtain ⟨r67, h68, ec69, hF⟩ := hF
                                                        refine hJ.callV (as := [.inl (xs ((v3 + (1 : Int32))).toNatClampNeg), .inl (xs ((v3 + (2 : Int32))).toNatClampNeg)]) (st := [.inl r62]) dL_law_955 w_RL_122 ⟨by decide, rfl⟩ rfl (c_X8_raft ec69) (by decide) (by omega) (by omega) rfl (Nat.le_of_ble_eq_true rfl) rfl ?_
                                                        refine hJ.icmp_eq (tgt := 1019) dL_law_958 (by decide) (fun e70 => ?_) (fun e70 => ?_)
                                                        · replace hF := ite_T e70 hF
                                                          refine hJ.iinc (i := 3) (v := (v3 + (5 : Int32))) (ls2 := [some (.inr (99, (some 0))), some (.inr (7, (some v1))), some (.inr (8, (some v2))), some (.inl (v3 + (5 : Int32)))]) dL_law_1019 rfl (addI (by decide)) (by decide) rfl ?_
                                                          refine hJ.goto (tgt := 18) dL_law_1022 (by decide) ?_
                                                          refine hJ.forget (ls2 := [some (.inr (99, (some 0))), some (.inr (7, (some v1))), some (.inr (8, (some v2))), some (.inl (v3 + (5 : Int32)))]) ⟨rfl, rfl, rfl, rfl, trivial⟩ ?_
                                                          exact ih (v3 + (5 : Int32)) h68 _ _ (by omega) (by omega) hF
                                                        · replace hF := ite_F e70 hF
                                                          cases hF
                                                      · replace hF := ite_F e37 hF
                                                        by_cases e38 : ((xs (v3).toNatClampNeg) &&& (31 : Int32)) = (25 : Int32)
                                                        · replace hF := ite_T e38 hF
                                                          refine hJ.tabIn (off := 931) (tgt := 963) dL_law_32 (by rw [e38]; decide) (by rw [e38]; decide) (by rw [e38]; decide) (by decide) ?_
                                                          refine hJ.aload_n (i := 1) dL_law_963 rfl rfl ?_
                                                          refine hJ.aload_n (i := 0) dL_law_964 rfl rfl ?_
                                                          refine hJ.iload_n (i := 3) dL_law_965 rfl rfl ?_
                                                          refine hJ.iconst (v := 1) dL_law_966 (by decide) ?_
                                                          refine hJ.iadd dL_law_967 ?_
                                                          replace hF := ck_S hF
                                                          obtain ⟨c49, hF⟩ := hF
                                                          refine hS dL_law_968 c49 ?_
                                                          refine hJ.aload_n (i := 0) dL_law_969 rfl rfl ?_
                                                          refine hJ.iload_n (i := 3) dL_law_970 rfl rfl ?_
                                                          refine hJ.iconst (v := 2) dL_law_971 (by decide) ?_
                                                          refine hJ.iadd dL_law_972 ?_
                                                          replace hF := ck_S hF
                                                          obtain ⟨c50, hF⟩ := hF
                                                          refine hS dL_law_973 c50 ?_
                                                          replace hF := cl_S hF
                                                          obtain ⟨r51, h52, ec53, hF⟩ := hF
                                                          refine hJ.callV (as := [.inl (xs ((v3 + (1 : Int32))).toNatClampNeg), .inl (xs ((v3 + (2 : Int32))).toNatClampNeg)]) (st := []) dL_law_974 w_RL_123 ⟨by decide, rfl⟩ rfl (c_X7_crewed ec53) (by decide) (by omega) (by omega) rfl (Nat.le_of_ble_eq_true rfl) rfl ?_
                                                          refine hJ.aload_n (i := 2) dL_law_977 rfl rfl ?_
                                                          refine hJ.aload_n (i := 0) dL_law_978 rfl rfl ?_
                                                          refine hJ.iload_n (i := 3) dL_law_979 rfl rfl ?_
                                                          refine hJ.iconst (v := 1) dL_law_980 (by decide) ?_
                                                          refine hJ.iadd dL_law_981 ?_
                                                          replace hF := ck_S hF
                                                          obtain ⟨c54, hF⟩ := hF
                                                          refine hS dL_law_982 c54 ?_
                                                          refine hJ.aload_n (i := 0) dL_law_983 rfl rfl ?_
                                                          refine hJ.iload_n (i := 3) dL_law_984 rfl rfl ?_
                                                          refine hJ.iconst (v := 2) dL_law_985 (by decide) ?_
                                                          refine hJ.iadd dL_law_986 ?_
                                                          replace hF := ck_S hF
                                                          obtain ⟨c55, hF⟩ := hF
                                                          refine hS dL_law_987 c55 ?_
                                                          replace hF := cl_S hF
                                                          obtain ⟨r56, h57, ec58, hF⟩ := hF
                                                          refine hJ.callV (as := [.inl (xs ((v3 + (1 : Int32))).toNatClampNeg), .inl (xs ((v3 + (2 : Int32))).toNatClampNeg)]) (st := [.inl r51]) dL_law_988 w_RL_126 ⟨by decide, rfl⟩ rfl (c_X8_crewed ec58) (by decide) (by omega) (by omega) rfl (Nat.le_of_ble_eq_true rfl) rfl ?_
                                                          refine hJ.icmp_eq (tgt := 1019) dL_law_991 (by decide) (fun e59 => ?_) (fun e59 => ?_)
                                                          · replace hF := ite_T e59 hF
                                                            refine hJ.iinc (i := 3) (v := (v3 + (5 : Int32))) (ls2 := [some (.inr (99, (some 0))), some (.inr (7, (some v1))), some (.inr (8, (some v2))), some (.inl (v3 + (5 : Int32)))]) dL_law_1019 rfl (addI (by decide)) (by decide) rfl ?_
                                                            refine hJ.goto (tgt := 18) dL_law_1022 (by decide) ?_
                                                            refine hJ.forget (ls2 := [some (.inr (99, (some 0))), some (.inr (7, (some v1))), some (.inr (8, (some v2))), some (.inl (v3 + (5 : Int32)))]) ⟨rfl, rfl, rfl, rfl, trivial⟩ ?_
                                                            exact ih (v3 + (5 : Int32)) h57 _ _ (by omega) (by omega) hF
                                                          · replace hF := ite_F e59 hF
                                                            cases hF
                                                        · replace hF := ite_F e38 hF
                                                          by_cases e39 : ((xs (v3).toNatClampNeg) &&& (31 : Int32)) = (26 : Int32)
                                                          · replace hF := ite_T e39 hF
                                                            refine hJ.tabIn (off := 964) (tgt := 996) dL_law_32 (by rw [e39]; decide) (by rw [e39]; decide) (by rw [e39]; decide) (by decide) ?_
                                                            refine hJ.aload_n (i := 1) dL_law_996 rfl rfl ?_
                                                            refine hJ.aload_n (i := 0) dL_law_997 rfl rfl ?_
                                                            refine hJ.iload_n (i := 3) dL_law_998 rfl rfl ?_
                                                            refine hJ.iconst (v := 1) dL_law_999 (by decide) ?_
                                                            refine hJ.iadd dL_law_1000 ?_
                                                            replace hF := ck_S hF
                                                            obtain ⟨c40, hF⟩ := hF
                                                            refine hS dL_law_1001 c40 ?_
                                                            replace hF := cl_S hF
                                                            obtain ⟨r41, h42, ec43, hF⟩ := hF
                                                            refine hJ.callV (as := [.inl (xs ((v3 + (1 : Int32))).toNatClampNeg)]) (st := []) dL_law_1002 w_RL_127 ⟨by decide, rfl⟩ rfl (c_X7_count ec43) (by decide) (by omega) (by omega) rfl (Nat.le_of_ble_eq_true rfl) rfl ?_
                                                            refine hJ.aload_n (i := 2) dL_law_1005 rfl rfl ?_
                                                            refine hJ.aload_n (i := 0) dL_law_1006 rfl rfl ?_
                                                            refine hJ.iload_n (i := 3) dL_law_1007 rfl rfl ?_
                                                            refine hJ.iconst (v := 1) dL_law_1008 (by decide) ?_
                                                            refine hJ.iadd dL_law_1009 ?_
                                                            replace hF := ck_S hF
                                                            obtain ⟨c44, hF⟩ := hF
                                                            refine hS dL_law_1010 c44 ?_
                                                            replace hF := cl_S hF
                                                            obtain ⟨r45, h46, ec47, hF⟩ := hF
                                                            refine hJ.callV (as := [.inl (xs ((v3 + (1 : Int32))).toNatClampNeg)]) (st := [.inl r41]) dL_law_1011 w_RL_130 ⟨by decide, rfl⟩ rfl (c_X8_count ec47) (by decide) (by omega) (by omega) rfl (Nat.le_of_ble_eq_true rfl) rfl ?_
                                                            refine hJ.icmp_eq (tgt := 1019) dL_law_1014 (by decide) (fun e48 => ?_) (fun e48 => ?_)
                                                            · replace hF := ite_T e48 hF
                                                              refine hJ.iinc (i := 3) (v := (v3 + (5 : Int32))) (ls2 := [some (.inr (99, (some 0))), some (.inr (7, (some v1))), some (.inr (8, (some v2))), some (.inl (v3 + (5 : Int32)))]) dL_law_1019 rfl (addI (by decide)) (by decide) rfl ?_
                                                              refine hJ.goto (tgt := 18) dL_law_1022 (by decide) ?_
                                                              refine hJ.forget (ls2 := [some (.inr (99, (some 0))), some (.inr (7, (some v1))), some (.inr (8, (some v2))), some (.inl (v3 + (5 : Int32)))]) ⟨rfl, rfl, rfl, rfl, trivial⟩ ?_
                                                              exact ih (v3 + (5 : Int32)) h46 _ _ (by omega) (by omega) hF
                                                            · replace hF := ite_F e48 hF
                                                              cases hF
                                                          · replace hF := ite_F e39 hF
                                                            have z0 : (((xs (v3).toNatClampNeg) &&& (31 : Int32))).toInt ≠ 0 := i32_ne e13
                                                            have z1 : (((xs (v3).toNatClampNeg) &&& (31 : Int32))).toInt ≠ 1 := i32_ne e14
                                                            have z2 : (((xs (v3).toNatClampNeg) &&& (31 : Int32))).toInt ≠ 2 := i32_ne e15
                                                            have z3 : (((xs (v3).toNatClampNeg) &&& (31 : Int32))).toInt ≠ 3 := i32_ne e16
                                                            have z4 : (((xs (v3).toNatClampNeg) &&& (31 : Int32))).toInt ≠ 4 := i32_ne e17
                                                            have z5 : (((xs (v3).toNatClampNeg) &&& (31 : Int32))).toInt ≠ 5 := i32_ne e18
                                                            have z6 : (((xs (v3).toNatClampNeg) &&& (31 : Int32))).toInt ≠ 6 := i32_ne e19
                                                            have z7 : (((xs (v3).toNatClampNeg) &&& (31 : Int32))).toInt ≠ 7 := i32_ne e20
                                                            have z8 : (((xs (v3).toNatClampNeg) &&& (31 : Int32))).toInt ≠ 8 := i32_ne e21
                                                            have z9 : (((xs (v3).toNatClampNeg) &&& (31 : Int32))).toInt ≠ 9 := i32_ne e22
                                                            have z10 : (((xs (v3).toNatClampNeg) &&& (31 : Int32))).toInt ≠ 10 := i32_ne e23
                                                            have z11 : (((xs (v3).toNatClampNeg) &&& (31 : Int32))).toInt ≠ 11 := i32_ne e24
                                                            have z12 : (((xs (v3).toNatClampNeg) &&& (31 : Int32))).toInt ≠ 12 := i32_ne e25
                                                            have z13 : (((xs (v3).toNatClampNeg) &&& (31 : Int32))).toInt ≠ 13 := i32_ne e26
                                                            have z14 : (((xs (v3).toNatClampNeg) &&& (31 : Int32))).toInt ≠ 14 := i32_ne e27
                                                            have z15 : (((xs (v3).toNatClampNeg) &&& (31 : Int32))).toInt ≠ 15 := i32_ne e28
                                                            have z16 : (((xs (v3).toNatClampNeg) &&& (31 : Int32))).toInt ≠ 16 := i32_ne e29
                                                            have z17 : (((xs (v3).toNatClampNeg) &&& (31 : Int32))).toInt ≠ 17 := i32_ne e30
                                                            have z18 : (((xs (v3).toNatClampNeg) &&& (31 : Int32))).toInt ≠ 18 := i32_ne e31
                                                            have z19 : (((xs (v3).toNatClampNeg) &&& (31 : Int32))).toInt ≠ 19 := i32_ne e32
                                                            have z20 : (((xs (v3).toNatClampNeg) &&& (31 : Int32))).toInt ≠ 20 := i32_ne e33
                                                            have z21 : (((xs (v3).toNatClampNeg) &&& (31 : Int32))).toInt ≠ 21 := i32_ne e34
                                                            have z22 : (((xs (v3).toNatClampNeg) &&& (31 : Int32))).toInt ≠ 22 := i32_ne e35
                                                            have z23 : (((xs (v3).toNatClampNeg) &&& (31 : Int32))).toInt ≠ 23 := i32_ne e36
                                                            have z24 : (((xs (v3).toNatClampNeg) &&& (31 : Int32))).toInt ≠ 24 := i32_ne e37
                                                            have z25 : (((xs (v3).toNatClampNeg) &&& (31 : Int32))).toInt ≠ 25 := i32_ne e38
                                                            have z26 : (((xs (v3).toNatClampNeg) &&& (31 : Int32))).toInt ≠ 26 := i32_ne e39
                                                            refine hJ.tabOut (tgt := 1019) dL_law_32 (by omega) (by decide) ?_
                                                            refine hJ.iinc (i := 3) (v := (v3 + (5 : Int32))) (ls2 := [some (.inr (99, (some 0))), some (.inr (7, (some v1))), some (.inr (8, (some v2))), some (.inl (v3 + (5 : Int32)))]) dL_law_1019 rfl (addI (by decide)) (by decide) rfl ?_
                                                            refine hJ.goto (tgt := 18) dL_law_1022 (by decide) ?_
                                                            refine hJ.forget (ls2 := [some (.inr (99, (some 0))), some (.inr (7, (some v1))), some (.inr (8, (some v2))), some (.inl (v3 + (5 : Int32)))]) ⟨rfl, rfl, rfl, rfl, trivial⟩ ?_
                                                            exact ih (v3 + (5 : Int32)) h _ _ (by omega) (by omega) hF

set_option maxHeartbeats 4000000 in
set_option maxRecDepth 100000 in
theorem c_law {xs : Nat → Int32} {L : Nat} {h hh : Hp} {xr : Int32} (hF : F_law xs L h = some (xr, hh)) {J : JT} (hJ : Rules cL_law RL 4 9 601142 7298822 False J) (hS : ∀ {pc a b : Nat} {ls : List (Option AV)} {st : List AV} {h : Hp} {x : Int32}, decode cL_law pc = .ok (.iaload, 1) → inb x L = true → J (pc + 1) ls (.inl (xs x.toNatClampNeg) :: st) h a b → J pc ls (.inl x :: .inr (99, some 0) :: st) h a b) (hSl : ∀ {pc a b : Nat} {ls : List (Option AV)} {st : List AV} {h : Hp}, decode cL_law pc = .ok (.arraylength, 1) → J (pc + 1) ls (.inl (Int32.ofNat L) :: st) h a b → J pc ls (.inr (99, some 0) :: st) h a b) (hR : ∀ {pc a b : Nat} {ls : List (Option AV)}, decode cL_law pc = .ok (.ireturn, 1) → a ≤ 601142 → b ≤ 7298822 → J pc ls [.inl xr] hh a b) : J 0 [some (.inr (99, (some 0))), none, none, none] [] h 0 0 := by
  unfold F_law at hF
  replace hF := lt_S hF
  obtain ⟨h1, eh2, hF⟩ := hF
  refine hJ.new dL_law_0 o_RL_7 (by decide) (by decide) ?_
  rw [← eh2]
  refine hJ.dup dL_law_3 ?_
  replace hF := cl_S hF
  obtain ⟨r3, h4, ec5, hF⟩ := hF
  refine hJ.callI (as := []) (st := [.inr (7, (some (pC h 7)))]) dL_law_4 w_RL_9 rfl (c_X7_init ec5) (by decide) (by decide) (by decide) rfl (Nat.le_of_ble_eq_true rfl) rfl ?_
  refine hJ.astore_n (i := 1) (ls2 := [some (.inr (99, (some 0))), some (.inr (7, (some (pC h 7)))), none, none]) dL_law_7 rfl (by decide) rfl ?_
  replace hF := lt_S hF
  obtain ⟨h6, eh7, hF⟩ := hF
  refine hJ.new dL_law_8 o_RL_10 (by decide) (by decide) ?_
  rw [← eh7]
  refine hJ.dup dL_law_11 ?_
  replace hF := cl_S hF
  obtain ⟨r8, h9, ec10, hF⟩ := hF
  refine hJ.callI (as := []) (st := [.inr (8, (some (pC h4 8)))]) dL_law_12 w_RL_12 rfl (c_X8_init ec10) (by decide) (by decide) (by decide) rfl (Nat.le_of_ble_eq_true rfl) rfl ?_
  refine hJ.astore_n (i := 2) (ls2 := [some (.inr (99, (some 0))), some (.inr (7, (some (pC h 7)))), some (.inr (8, (some (pC h4 8)))), none]) dL_law_15 rfl (by decide) rfl ?_
  refine hJ.iconst (v := 0) dL_law_16 (by decide) ?_
  refine hJ.istore_n (i := 3) (ls2 := [some (.inr (99, (some 0))), some (.inr (7, (some (pC h 7)))), some (.inr (8, (some (pC h4 8)))), some (.inl (0 : Int32))]) dL_law_17 rfl (by decide) rfl ?_
  refine hJ.forget (ls2 := [some (.inr (99, (some 0))), some (.inr (7, (some (pC h 7)))), some (.inr (8, (some (pC h4 8)))), some (.inl (0 : Int32))]) ⟨rfl, rfl, rfl, rfl, trivial⟩ ?_
  refine t_L_law_18 hJ hS hSl (fun h367 a1 b1 ha1 hb1 hF => ?_) FL _ _ _ _ (by decide) (by decide) hF
  refine hJ.iconst (v := 1) dL_law_1025 (by decide) ?_
  obtain ⟨rfl, rfl⟩ := ret_S hF
  exact hR dL_law_1026 ha1 hb1
