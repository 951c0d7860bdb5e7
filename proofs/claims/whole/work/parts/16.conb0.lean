set_option maxHeartbeats 4000000 in
set_option maxRecDepth 100000 in
theorem t_X8_init_345 {β : Type} {J : JT} (hJ : Rules cX8_init RX8 2 1 43 2168 True J) {a b : Nat} (ha : a ≤ 43) (hb : b ≤ 2168) {v0 : Nat} {κ364 : Hp → Option β} {out : β}
    (hk364 : ∀ (h : Hp), κ364 h = some out → J 364 [none, none] [] h a b)
    : ∀ (f : Nat) (v1 : Int32) (h : Hp), L_X8_init_345 v0 κ364 f v1 h = some out → J 345 [some (.inr (8, (some v0))), some (.inl v1)] [] h a b := by
  intro f
  induction f with
  | zero => intro v1 h hF; simp [L_X8_init_345] at hF
  | succ f ih =>
    intro v1 h hF
    rw [L_X8_init_345] at hF
    refine hJ.iload_n (i := 1) dX8_init_345 rfl rfl ?_
    refine hJ.bipush (v := 8) dX8_init_346 (by decide) ?_
    refine hJ.icmp_ge (tgt := 364) dX8_init_348 (by decide) (fun e173 => ?_) (fun e173 => ?_)
    · replace hF := ite_T e173 hF
      refine hJ.forget (ls2 := [none, none]) trivial ?_
      exact hk364 h hF
    · replace hF := ite_F e173 hF
      refine hJ.aload_n (i := 0) dX8_init_351 rfl rfl ?_
      refine hJ.getR dX8_init_352 f_RX8_101 rfl ?_
      refine hJ.iload_n (i := 1) dX8_init_355 rfl rfl ?_
      refine hJ.iconst (v := 5) dX8_init_356 (by decide) ?_
      replace hF := nn_S hF
      obtain ⟨n174, e175, hF⟩ := hF
      rw [e175]
      replace hF := ck_S hF
      obtain ⟨c176, hF⟩ := hF
      replace hF := lt_S hF
      obtain ⟨h177, eh178, hF⟩ := hF
      refine hJ.iast dX8_init_357 a_55 rfl c176 ?_
      rw [← eh178]
      refine hJ.iinc (i := 1) (v := (v1 + (1 : Int32))) (ls2 := [some (.inr (8, (some v0))), some (.inl (v1 + (1 : Int32)))]) dX8_init_358 rfl (addI (by decide)) (by decide) rfl ?_
      refine hJ.goto (tgt := 345) dX8_init_361 (by decide) ?_
      refine hJ.forget (ls2 := [some (.inr (8, (some v0))), some (.inl (v1 + (1 : Int32)))]) ⟨rfl, rfl, trivial⟩ ?_
      exact ih (v1 + (1 : Int32)) h177 hF

set_option maxHeartbeats 4000000 in
set_option maxRecDepth 100000 in
theorem c_X8_init {x0 : Nat} {h hh : Hp} {xr : Unit} (hF : F_X8_init x0 h = some (xr, hh)) : Ctr yX8_init cX8_init 2 none 1 43 2168 [.inr (8, (some x0))] h none hh := by
  refine Ctr_v (own := RX8) (ini := True) (ls0 := [some (.inr (8, (some x0))), none]) (by decide) rfl (Nat.le_of_ble_eq_true rfl) (fun _ => rfl) rfl ?_
  intro J hJ hR
  unfold F_X8_init at hF
  refine hJ.aload_n (i := 0) dX8_init_0 rfl rfl ?_
  refine hJ.objInit dX8_init_1 w_RX8_1 rfl (by decide) (Nat.le_of_ble_eq_true rfl) ?_
  refine hJ.aload_n (i := 0) dX8_init_4 rfl rfl ?_
  refine hJ.bipush (v := 12) dX8_init_5 (by decide) ?_
  replace hF := lt_S hF
  obtain ⟨h1, eh2, hF⟩ := hF
  refine hJ.newa_int (N := 12) dX8_init_7 a_25 (by decide) (by decide) (by decide) (by decide) (by decide) ?_
  rw [← eh2]
  replace hF := lt_S hF
  obtain ⟨h3, eh4, hF⟩ := hF
  refine hJ.putRF dX8_init_9 f_RX8_9 rfl rfl trivial (Or.inr rfl) rfl ?_
  rw [← eh4]
  refine hJ.aload_n (i := 0) dX8_init_12 rfl rfl ?_
  refine hJ.bipush (v := 12) dX8_init_13 (by decide) ?_
  replace hF := lt_S hF
  obtain ⟨h5, eh6, hF⟩ := hF
  refine hJ.newa_int (N := 12) dX8_init_15 a_26 (by decide) (by decide) (by decide) (by decide) (by decide) ?_
  rw [← eh6]
  replace hF := lt_S hF
  obtain ⟨h7, eh8, hF⟩ := hF
  refine hJ.putRF dX8_init_17 f_RX8_13 rfl rfl trivial (Or.inr rfl) rfl ?_
  rw [← eh8]
  refine hJ.aload_n (i := 0) dX8_init_20 rfl rfl ?_
  refine hJ.bipush (v := 12) dX8_init_21 (by decide) ?_
  replace hF := lt_S hF
  obtain ⟨h9, eh10, hF⟩ := hF
  refine hJ.newa_int (N := 12) dX8_init_23 a_27 (by decide) (by decide) (by decide) (by decide) (by decide) ?_
  rw [← eh10]
  replace hF := lt_S hF
  obtain ⟨h11, eh12, hF⟩ := hF
  refine hJ.putRF dX8_init_25 f_RX8_16 rfl rfl trivial (Or.inr rfl) rfl ?_
  rw [← eh12]
  refine hJ.aload_n (i := 0) dX8_init_28 rfl rfl ?_
  refine hJ.bipush (v := 12) dX8_init_29 (by decide) ?_
  replace hF := lt_S hF
  obtain ⟨h13, eh14, hF⟩ := hF
  refine hJ.newa_int (N := 12) dX8_init_31 a_28 (by decide) (by decide) (by decide) (by decide) (by decide) ?_
  rw [← eh14]
  replace hF := lt_S hF
  obtain ⟨h15, eh16, hF⟩ := hF
  refine hJ.putRF dX8_init_33 f_RX8_19 rfl rfl trivial (Or.inr rfl) rfl ?_
  rw [← eh16]
  refine hJ.aload_n (i := 0) dX8_init_36 rfl rfl ?_
  refine hJ.bipush (v := 12) dX8_init_37 (by decide) ?_
  replace hF := lt_S hF
  obtain ⟨h17, eh18, hF⟩ := hF
  refine hJ.newa_int (N := 12) dX8_init_39 a_29 (by decide) (by decide) (by decide) (by decide) (by decide) ?_
  rw [← eh18]
  replace hF := lt_S hF
  obtain ⟨h19, eh20, hF⟩ := hF
  refine hJ.putRF dX8_init_41 f_RX8_22 rfl rfl trivial (Or.inr rfl) rfl ?_
  rw [← eh20]
  refine hJ.aload_n (i := 0) dX8_init_44 rfl rfl ?_
  refine hJ.bipush (v := 12) dX8_init_45 (by decide) ?_
  replace hF := lt_S hF
  obtain ⟨h21, eh22, hF⟩ := hF
  refine hJ.newa_int (N := 12) dX8_init_47 a_30 (by decide) (by decide) (by decide) (by decide) (by decide) ?_
  rw [← eh22]
  replace hF := lt_S hF
  obtain ⟨h23, eh24, hF⟩ := hF
  refine hJ.putRF dX8_init_49 f_RX8_25 rfl rfl trivial (Or.inr rfl) rfl ?_
  rw [← eh24]
  refine hJ.aload_n (i := 0) dX8_init_52 rfl rfl ?_
  refine hJ.bipush (v := 12) dX8_init_53 (by decide) ?_
  replace hF := lt_S hF
  obtain ⟨h25, eh26, hF⟩ := hF
  refine hJ.newa_boolean (N := 12) dX8_init_55 a_31 (by decide) (by decide) (by decide) (by decide) (by decide) ?_
  rw [← eh26]
  replace hF := lt_S hF
  obtain ⟨h27, eh28, hF⟩ := hF
  refine hJ.putRF dX8_init_57 f_RX8_28 rfl rfl trivial (Or.inr rfl) rfl ?_
  rw [← eh28]
  refine hJ.aload_n (i := 0) dX8_init_60 rfl rfl ?_
  refine hJ.bipush (v := 12) dX8_init_61 (by decide) ?_
  replace hF := lt_S hF
  obtain ⟨h29, eh30, hF⟩ := hF
  refine hJ.newa_int (N := 12) dX8_init_63 a_32 (by decide) (by decide) (by decide) (by decide) (by decide) ?_
  rw [← eh30]
  replace hF := lt_S hF
  obtain ⟨h31, eh32, hF⟩ := hF
  refine hJ.putRF dX8_init_65 f_RX8_32 rfl rfl trivial (Or.inr rfl) rfl ?_
  rw [← eh32]
  refine hJ.aload_n (i := 0) dX8_init_68 rfl rfl ?_
  refine hJ.bipush (v := 12) dX8_init_69 (by decide) ?_
  replace hF := lt_S hF
  obtain ⟨h33, eh34, hF⟩ := hF
  refine hJ.newa_int (N := 12) dX8_init_71 a_33 (by decide) (by decide) (by decide) (by decide) (by decide) ?_
  rw [← eh34]
  replace hF := lt_S hF
  obtain ⟨h35, eh36, hF⟩ := hF
  refine hJ.putRF dX8_init_73 f_RX8_35 rfl rfl trivial (Or.inr rfl) rfl ?_
  rw [← eh36]
  refine hJ.aload_n (i := 0) dX8_init_76 rfl rfl ?_
  refine hJ.bipush (v := 120) dX8_init_77 (by decide) ?_
  replace hF := lt_S hF
  obtain ⟨h37, eh38, hF⟩ := hF
  refine hJ.newa_int (N := 120) dX8_init_79 a_34 (by decide) (by decide) (by decide) (by decide) (by decide) ?_
  rw [← eh38]
  replace hF := lt_S hF
  obtain ⟨h39, eh40, hF⟩ := hF
  refine hJ.putRF dX8_init_81 f_RX8_38 rfl rfl trivial (Or.inr rfl) rfl ?_
  rw [← eh40]
  refine hJ.aload_n (i := 0) dX8_init_84 rfl rfl ?_
  refine hJ.bipush (v := 120) dX8_init_85 (by decide) ?_
  replace hF := lt_S hF
  obtain ⟨h41, eh42, hF⟩ := hF
  refine hJ.newa_int (N := 120) dX8_init_87 a_35 (by decide) (by decide) (by decide) (by decide) (by decide) ?_
  rw [← eh42]
  replace hF := lt_S hF
  obtain ⟨h43, eh44, hF⟩ := hF
  refine hJ.putRF dX8_init_89 f_RX8_41 rfl rfl trivial (Or.inr rfl) rfl ?_
  rw [← eh44]
  refine hJ.aload_n (i := 0) dX8_init_92 rfl rfl ?_
  refine hJ.bipush (v := 120) dX8_init_93 (by decide) ?_
  replace hF := lt_S hF
  obtain ⟨h45, eh46, hF⟩ := hF
  refine hJ.newa_int (N := 120) dX8_init_95 a_36 (by decide) (by decide) (by decide) (by decide) (by decide) ?_
  rw [← eh46]
  replace hF := lt_S hF
  obtain ⟨h47, eh48, hF⟩ := hF
  refine hJ.putRF dX8_init_97 f_RX8_44 rfl rfl trivial (Or.inr rfl) rfl ?_
  rw [← eh48]
  refine hJ.aload_n (i := 0) dX8_init_100 rfl rfl ?_
  refine hJ.bipush (v := 120) dX8_init_101 (by decide) ?_
  replace hF := lt_S hF
  obtain ⟨h49, eh50, hF⟩ := hF
  refine hJ.newa_int (N := 120) dX8_init_103 a_37 (by decide) (by decide) (by decide) (by decide) (by decide) ?_
  rw [← eh50]
  replace hF := lt_S hF
  obtain ⟨h51, eh52, hF⟩ := hF
  refine hJ.putRF dX8_init_105 f_RX8_47 rfl rfl trivial (Or.inr rfl) rfl ?_
  rw [← eh52]
  refine hJ.aload_n (i := 0) dX8_init_108 rfl rfl ?_
  refine hJ.bipush (v := 120) dX8_init_109 (by decide) ?_
  replace hF := lt_S hF
  obtain ⟨h53, eh54, hF⟩ := hF
  refine hJ.newa_int (N := 120) dX8_init_111 a_38 (by decide) (by decide) (by decide) (by decide) (by decide) ?_
  rw [← eh54]
  replace hF := lt_S hF
  obtain ⟨h55, eh56, hF⟩ := hF
  refine hJ.putRF dX8_init_113 f_RX8_50 rfl rfl trivial (Or.inr rfl) rfl ?_
  rw [← eh56]
  refine hJ.aload_n (i := 0) dX8_init_116 rfl rfl ?_
  refine hJ.bipush (v := 120) dX8_init_117 (by decide) ?_
  replace hF := lt_S hF
  obtain ⟨h57, eh58, hF⟩ := hF
  refine hJ.newa_int (N := 120) dX8_init_119 a_39 (by decide) (by decide) (by decide) (by decide) (by decide) ?_
  rw [← eh58]
  replace hF := lt_S hF
  obtain ⟨h59, eh60, hF⟩ := hF
  refine hJ.putRF dX8_init_121 f_RX8_53 rfl rfl trivial (Or.inr rfl) rfl ?_
  rw [← eh60]
  refine hJ.aload_n (i := 0) dX8_init_124 rfl rfl ?_
  refine hJ.bipush (v := 120) dX8_init_125 (by decide) ?_
  replace hF := lt_S hF
  obtain ⟨h61, eh62, hF⟩ := hF
  refine hJ.newa_int (N := 120) dX8_init_127 a_40 (by decide) (by decide) (by decide) (by decide) (by decide) ?_
  rw [← eh62]
  replace hF := lt_S hF
  obtain ⟨h63, eh64, hF⟩ := hF
  refine hJ.putRF dX8_init_129 f_RX8_56 rfl rfl trivial (Or.inr rfl) rfl ?_
  rw [← eh64]
  refine hJ.aload_n (i := 0) dX8_init_132 rfl rfl ?_
  refine hJ.bipush (v := 120) dX8_init_133 (by decide) ?_
  replace hF := lt_S hF
  obtain ⟨h65, eh66, hF⟩ := hF
  refine hJ.newa_int (N := 120) dX8_init_135 a_41 (by decide) (by decide) (by decide) (by decide) (by decide) ?_
  rw [← eh66]
  replace hF := lt_S hF
  obtain ⟨h67, eh68, hF⟩ := hF
  refine hJ.putRF dX8_init_137 f_RX8_59 rfl rfl trivial (Or.inr rfl) rfl ?_
  rw [← eh68]
  refine hJ.aload_n (i := 0) dX8_init_140 rfl rfl ?_
  refine hJ.bipush (v := 120) dX8_init_141 (by decide) ?_
  replace hF := lt_S hF
  obtain ⟨h69, eh70, hF⟩ := hF
  refine hJ.newa_int (N := 120) dX8_init_143 a_42 (by decide) (by decide) (by decide) (by decide) (by decide) ?_
  rw [← eh70]
  replace hF := lt_S hF
  obtain ⟨h71, eh72, hF⟩ := hF
  refine hJ.putRF dX8_init_145 f_RX8_62 rfl rfl trivial (Or.inr rfl) rfl ?_
  rw [← eh72]
  refine hJ.aload_n (i := 0) dX8_init_148 rfl rfl ?_
  refine hJ.bipush (v := 120) dX8_init_149 (by decide) ?_
  replace hF := lt_S hF
  obtain ⟨h73, eh74, hF⟩ := hF
  refine hJ.newa_int (N := 120) dX8_init_151 a_43 (by decide) (by decide) (by decide) (by decide) (by decide) ?_
  rw [← eh74]
  replace hF := lt_S hF
  obtain ⟨h75, eh76, hF⟩ := hF
  refine hJ.putRF dX8_init_153 f_RX8_65 rfl rfl trivial (Or.inr rfl) rfl ?_
  rw [← eh76]
  refine hJ.aload_n (i := 0) dX8_init_156 rfl rfl ?_
  refine hJ.bipush (v := 9) dX8_init_157 (by decide) ?_
  replace hF := lt_S hF
  obtain ⟨h77, eh78, hF⟩ := hF
  refine hJ.newa_int (N := 9) dX8_init_159 a_44 (by decide) (by decide) (by decide) (by decide) (by decide) ?_
  rw [← eh78]
  replace hF := lt_S hF
  obtain ⟨h79, eh80, hF⟩ := hF
  refine hJ.putRF dX8_init_161 f_RX8_68 rfl rfl trivial (Or.inr rfl) rfl ?_
  rw [← eh80]
  refine hJ.aload_n (i := 0) dX8_init_164 rfl rfl ?_
  refine hJ.bipush (v := 60) dX8_init_165 (by decide) ?_
  replace hF := lt_S hF
  obtain ⟨h81, eh82, hF⟩ := hF
  refine hJ.newa_int (N := 60) dX8_init_167 a_45 (by decide) (by decide) (by decide) (by decide) (by decide) ?_
  rw [← eh82]
  replace hF := lt_S hF
  obtain ⟨h83, eh84, hF⟩ := hF
  refine hJ.putRF dX8_init_169 f_RX8_71 rfl rfl trivial (Or.inr rfl) rfl ?_
  rw [← eh84]
  refine hJ.aload_n (i := 0) dX8_init_172 rfl rfl ?_
  refine hJ.bipush (v := 60) dX8_init_173 (by decide) ?_
  replace hF := lt_S hF
  obtain ⟨h85, eh86, hF⟩ := hF
  refine hJ.newa_int (N := 60) dX8_init_175 a_46 (by decide) (by decide) (by decide) (by decide) (by decide) ?_
  rw [← eh86]
  replace hF := lt_S hF
  obtain ⟨h87, eh88, hF⟩ := hF
  refine hJ.putRF dX8_init_177 f_RX8_74 rfl rfl trivial (Or.inr rfl) rfl ?_
  rw [← eh88]
  refine hJ.aload_n (i := 0) dX8_init_180 rfl rfl ?_
  refine hJ.bipush (v := 60) dX8_init_181 (by decide) ?_
  replace hF := lt_S hF
  obtain ⟨h89, eh90, hF⟩ := hF
  refine hJ.newa_int (N := 60) dX8_init_183 a_47 (by decide) (by decide) (by decide) (by decide) (by decide) ?_
  rw [← eh90]
  replace hF := lt_S hF
  obtain ⟨h91, eh92, hF⟩ := hF
  refine hJ.putRF dX8_init_185 f_RX8_77 rfl rfl trivial (Or.inr rfl) rfl ?_
  rw [← eh92]
  refine hJ.aload_n (i := 0) dX8_init_188 rfl rfl ?_
  refine hJ.bipush (v := 60) dX8_init_189 (by decide) ?_
  replace hF := lt_S hF
  obtain ⟨h93, eh94, hF⟩ := hF
  refine hJ.newa_int (N := 60) dX8_init_191 a_48 (by decide) (by decide) (by decide) (by decide) (by decide) ?_
  rw [← eh94]
  replace hF := lt_S hF
  obtain ⟨h95, eh96, hF⟩ := hF
  refine hJ.putRF dX8_init_193 f_RX8_80 rfl rfl trivial (Or.inr rfl) rfl ?_
  rw [← eh96]
  refine hJ.aload_n (i := 0) dX8_init_196 rfl rfl ?_
  refine hJ.bipush (v := 60) dX8_init_197 (by decide) ?_
  replace hF := lt_S hF
  obtain ⟨h97, eh98, hF⟩ := hF
  refine hJ.newa_int (N := 60) dX8_init_199 a_49 (by decide) (by decide) (by decide) (by decide) (by decide) ?_
  rw [← eh98]
  replace hF := lt_S hF
  obtain ⟨h99, eh100, hF⟩ := hF
  refine hJ.putRF dX8_init_201 f_RX8_83 rfl rfl trivial (Or.inr rfl) rfl ?_
  rw [← eh100]
  refine hJ.aload_n (i := 0) dX8_init_204 rfl rfl ?_
  refine hJ.bipush (v := 10) dX8_init_205 (by decide) ?_
  replace hF := lt_S hF
  obtain ⟨h101, eh102, hF⟩ := hF
  refine hJ.newa_int (N := 10) dX8_init_207 a_50 (by decide) (by decide) (by decide) (by decide) (by decide) ?_
  rw [← eh102]
  replace hF := lt_S hF
  obtain ⟨h103, eh104, hF⟩ := hF
  refine hJ.putRF dX8_init_209 f_RX8_86 rfl rfl trivial (Or.inr rfl) rfl ?_
  rw [← eh104]
  refine hJ.aload_n (i := 0) dX8_init_212 rfl rfl ?_
  refine hJ.bipush (v := 10) dX8_init_213 (by decide) ?_
  replace hF := lt_S hF
  obtain ⟨h105, eh106, hF⟩ := hF
  refine hJ.newa_int (N := 10) dX8_init_215 a_51 (by decide) (by decide) (by decide) (by decide) (by decide) ?_
  rw [← eh106]
  replace hF := lt_S hF
  obtain ⟨h107, eh108, hF⟩ := hF
  refine hJ.putRF dX8_init_217 f_RX8_89 rfl rfl trivial (Or.inr rfl) rfl ?_
  rw [← eh108]
  refine hJ.aload_n (i := 0) dX8_init_220 rfl rfl ?_
  refine hJ.bipush (v := 10) dX8_init_221 (by decide) ?_
  replace hF := lt_S hF
  obtain ⟨h109, eh110, hF⟩ := hF
  refine hJ.newa_int (N := 10) dX8_init_223 a_52 (by decide) (by decide) (by decide) (by decide) (by decide) ?_
  rw [← eh110]
  replace hF := lt_S hF
  obtain ⟨h111, eh112, hF⟩ := hF
  refine hJ.putRF dX8_init_225 f_RX8_92 rfl rfl trivial (Or.inr rfl) rfl ?_
  rw [← eh112]
  refine hJ.aload_n (i := 0) dX8_init_228 rfl rfl ?_
  refine hJ.bipush (v := 10) dX8_init_229 (by decide) ?_
  replace hF := lt_S hF
  obtain ⟨h113, eh114, hF⟩ := hF
  refine hJ.newa_int (N := 10) dX8_init_231 a_53 (by decide) (by decide) (by decide) (by decide) (by decide) ?_
  rw [← eh114]
  replace hF := lt_S hF
  obtain ⟨h115, eh116, hF⟩ := hF
  refine hJ.putRF dX8_init_233 f_RX8_95 rfl rfl trivial (Or.inr rfl) rfl ?_
  rw [← eh116]
  refine hJ.aload_n (i := 0) dX8_init_236 rfl rfl ?_
  refine hJ.bipush (v := 10) dX8_init_237 (by decide) ?_
  replace hF := lt_S hF
  obtain ⟨h117, eh118, hF⟩ := hF
  refine hJ.newa_int (N := 10) dX8_init_239 a_54 (by decide) (by decide) (by decide) (by decide) (by decide) ?_
  rw [← eh118]
  replace hF := lt_S hF
  obtain ⟨h119, eh120, hF⟩ := hF
  refine hJ.putRF dX8_init_241 f_RX8_98 rfl rfl trivial (Or.inr rfl) rfl ?_
  rw [← eh120]
  refine hJ.aload_n (i := 0) dX8_init_244 rfl rfl ?_
  refine hJ.bipush (v := 8) dX8_init_245 (by decide) ?_
  replace hF := lt_S hF
  obtain ⟨h121, eh122, hF⟩ := hF
  refine hJ.newa_int (N := 8) dX8_init_247 a_55 (by decide) (by decide) (by decide) (by decide) (by decide) ?_
  rw [← eh122]
  replace hF := lt_S hF
  obtain ⟨h123, eh124, hF⟩ := hF
  refine hJ.putRF dX8_init_249 f_RX8_101 rfl rfl trivial (Or.inr rfl) rfl ?_
  rw [← eh124]
  refine hJ.aload_n (i := 0) dX8_init_252 rfl rfl ?_
  refine hJ.bipush (v := 8) dX8_init_253 (by decide) ?_
  replace hF := lt_S hF
  obtain ⟨h125, eh126, hF⟩ := hF
  refine hJ.newa_int (N := 8) dX8_init_255 a_56 (by decide) (by decide) (by decide) (by decide) (by decide) ?_
  rw [← eh126]
  replace hF := lt_S hF
  obtain ⟨h127, eh128, hF⟩ := hF
  refine hJ.putRF dX8_init_257 f_RX8_104 rfl rfl trivial (Or.inr rfl) rfl ?_
  rw [← eh128]
  refine hJ.aload_n (i := 0) dX8_init_260 rfl rfl ?_
  refine hJ.bipush (v := 30) dX8_init_261 (by decide) ?_
  replace hF := lt_S hF
  obtain ⟨h129, eh130, hF⟩ := hF
  refine hJ.newa_int (N := 30) dX8_init_263 a_57 (by decide) (by decide) (by decide) (by decide) (by decide) ?_
  rw [← eh130]
  replace hF := lt_S hF
  obtain ⟨h131, eh132, hF⟩ := hF
  refine hJ.putRF dX8_init_265 f_RX8_107 rfl rfl trivial (Or.inr rfl) rfl ?_
  rw [← eh132]
  refine hJ.aload_n (i := 0) dX8_init_268 rfl rfl ?_
  refine hJ.bipush (v := 30) dX8_init_269 (by decide) ?_
  replace hF := lt_S hF
  obtain ⟨h133, eh134, hF⟩ := hF
  refine hJ.newa_int (N := 30) dX8_init_271 a_58 (by decide) (by decide) (by decide) (by decide) (by decide) ?_
  rw [← eh134]
  replace hF := lt_S hF
  obtain ⟨h135, eh136, hF⟩ := hF
  refine hJ.putRF dX8_init_273 f_RX8_110 rfl rfl trivial (Or.inr rfl) rfl ?_
  rw [← eh136]
  refine hJ.aload_n (i := 0) dX8_init_276 rfl rfl ?_
  refine hJ.bipush (v := 100) dX8_init_277 (by decide) ?_
  replace hF := lt_S hF
  obtain ⟨h137, eh138, hF⟩ := hF
  refine hJ.newa_int (N := 100) dX8_init_279 a_59 (by decide) (by decide) (by decide) (by decide) (by decide) ?_
  rw [← eh138]
  replace hF := lt_S hF
  obtain ⟨h139, eh140, hF⟩ := hF
  refine hJ.putRF dX8_init_281 f_RX8_113 rfl rfl trivial (Or.inr rfl) rfl ?_
  rw [← eh140]
  refine hJ.aload_n (i := 0) dX8_init_284 rfl rfl ?_
  refine hJ.bipush (v := 100) dX8_init_285 (by decide) ?_
  replace hF := lt_S hF
  obtain ⟨h141, eh142, hF⟩ := hF
  refine hJ.newa_int (N := 100) dX8_init_287 a_60 (by decide) (by decide) (by decide) (by decide) (by decide) ?_
  rw [← eh142]
  replace hF := lt_S hF
  obtain ⟨h143, eh144, hF⟩ := hF
  refine hJ.putRF dX8_init_289 f_RX8_116 rfl rfl trivial (Or.inr rfl) rfl ?_
  rw [← eh144]
  refine hJ.aload_n (i := 0) dX8_init_292 rfl rfl ?_
  refine hJ.bipush (v := 100) dX8_init_293 (by decide) ?_
  replace hF := lt_S hF
  obtain ⟨h145, eh146, hF⟩ := hF
  refine hJ.newa_int (N := 100) dX8_init_295 a_61 (by decide) (by decide) (by decide) (by decide) (by decide) ?_
  rw [← eh146]
  replace hF := lt_S hF
  obtain ⟨h147, eh148, hF⟩ := hF
  refine hJ.putRF dX8_init_297 f_RX8_119 rfl rfl trivial (Or.inr rfl) rfl ?_
  rw [← eh148]
  refine hJ.aload_n (i := 0) dX8_init_300 rfl rfl ?_
  refine hJ.bipush (v := 100) dX8_init_301 (by decide) ?_
  replace hF := lt_S hF
  obtain ⟨h149, eh150, hF⟩ := hF
  refine hJ.newa_int (N := 100) dX8_init_303 a_62 (by decide) (by decide) (by decide) (by decide) (by decide) ?_
  rw [← eh150]
  replace hF := lt_S hF
  obtain ⟨h151, eh152, hF⟩ := hF
  refine hJ.putRF dX8_init_305 f_RX8_122 rfl rfl trivial (Or.inr rfl) rfl ?_
  rw [← eh152]
  refine hJ.aload_n (i := 0) dX8_init_308 rfl rfl ?_
  refine hJ.iconst (v := 5) dX8_init_309 (by decide) ?_
  replace hF := lt_S hF
  obtain ⟨h153, eh154, hF⟩ := hF
  refine hJ.newa_int (N := 5) dX8_init_310 a_63 (by decide) (by decide) (by decide) (by decide) (by decide) ?_
  rw [← eh154]
  replace hF := lt_S hF
  obtain ⟨h155, eh156, hF⟩ := hF
  refine hJ.putRF dX8_init_312 f_RX8_125 rfl rfl trivial (Or.inr rfl) rfl ?_
  rw [← eh156]
  refine hJ.aload_n (i := 0) dX8_init_315 rfl rfl ?_
  refine hJ.iconst (v := 5) dX8_init_316 (by decide) ?_
  replace hF := lt_S hF
  obtain ⟨h157, eh158, hF⟩ := hF
  refine hJ.newa_int (N := 5) dX8_init_317 a_64 (by decide) (by decide) (by decide) (by decide) (by decide) ?_
  rw [← eh158]
  replace hF := lt_S hF
  obtain ⟨h159, eh160, hF⟩ := hF
  refine hJ.putRF dX8_init_319 f_RX8_128 rfl rfl trivial (Or.inr rfl) rfl ?_
  rw [← eh160]
  refine hJ.aload_n (i := 0) dX8_init_322 rfl rfl ?_
  refine hJ.iconst (v := 5) dX8_init_323 (by decide) ?_
  replace hF := lt_S hF
  obtain ⟨h161, eh162, hF⟩ := hF
  refine hJ.newa_int (N := 5) dX8_init_324 a_65 (by decide) (by decide) (by decide) (by decide) (by decide) ?_
  rw [← eh162]
  replace hF := lt_S hF
  obtain ⟨h163, eh164, hF⟩ := hF
  refine hJ.putRF dX8_init_326 f_RX8_131 rfl rfl trivial (Or.inr rfl) rfl ?_
  rw [← eh164]
  refine hJ.aload_n (i := 0) dX8_init_329 rfl rfl ?_
  refine hJ.iconst (v := 5) dX8_init_330 (by decide) ?_
  replace hF := lt_S hF
  obtain ⟨h165, eh166, hF⟩ := hF
  refine hJ.newa_int (N := 5) dX8_init_331 a_66 (by decide) (by decide) (by decide) (by decide) (by decide) ?_
  rw [← eh166]
  replace hF := lt_S hF
  obtain ⟨h167, eh168, hF⟩ := hF
  refine hJ.putRF dX8_init_333 f_RX8_134 rfl rfl trivial (Or.inr rfl) rfl ?_
  rw [← eh168]
  refine hJ.aload_n (i := 0) dX8_init_336 rfl rfl ?_
  refine hJ.iconst (v := 5) dX8_init_337 (by decide) ?_
  replace hF := lt_S hF
  obtain ⟨h169, eh170, hF⟩ := hF
  refine hJ.newa_int (N := 5) dX8_init_338 a_67 (by decide) (by decide) (by decide) (by decide) (by decide) ?_
  rw [← eh170]
  replace hF := lt_S hF
  obtain ⟨h171, eh172, hF⟩ := hF
  refine hJ.putRF dX8_init_340 f_RX8_137 rfl rfl trivial (Or.inr rfl) rfl ?_
  rw [← eh172]
  refine hJ.iconst (v := 0) dX8_init_343 (by decide) ?_
  refine hJ.istore_n (i := 1) (ls2 := [some (.inr (8, (some x0))), some (.inl (0 : Int32))]) dX8_init_344 rfl (by decide) rfl ?_
  refine hJ.forget (ls2 := [some (.inr (8, (some x0))), some (.inl (0 : Int32))]) ⟨rfl, rfl, trivial⟩ ?_
  refine t_X8_init_345 hJ (by decide) (by decide) (fun h179 hF => ?_) FU _ _ hF
  obtain ⟨-, rfl⟩ := ret_S hF
  exact hR dX8_init_364 (by decide) (by decide)

set_option maxHeartbeats 4000000 in
set_option maxRecDepth 100000 in
theorem c_X8_in {x0 : Int32} {x1 : Int32} {x2 : Int32} {h hh : Hp} {xr : Int32} (hF : F_X8_in x0 x1 x2 h = some (xr, hh)) : Ctr yX8_in cX8_in 3 (some .boolean) 0 0 0 [.inl x0, .inl x1, .inl x2] h (some (.inl xr)) hh := by
  refine Ctr_z (own := RX8) (ini := False) (ls0 := [some (.inl x0), some (.inl x1), some (.inl x2)]) (by decide) rfl (Nat.le_of_ble_eq_true rfl) (fun e => e.elim) rfl ?_
  intro J hJ hR
  unfold F_X8_in at hF
  refine hJ.iload_n (i := 0) dX8_in_0 rfl rfl ?_
  refine hJ.iload_n (i := 1) dX8_in_1 rfl rfl ?_
  refine hJ.icmp_lt (tgt := 14) dX8_in_2 (by decide) (fun e1 => ?_) (fun e1 => ?_)
  · replace hF := ite_T e1 hF
    refine hJ.iconst (v := 0) dX8_in_14 (by decide) ?_
    obtain ⟨rfl, rfl⟩ := ret_S hF
    exact hR dX8_in_15 (by decide) (by decide) (by decide)
  · replace hF := ite_F e1 hF
    refine hJ.iload_n (i := 0) dX8_in_5 rfl rfl ?_
    refine hJ.iload_n (i := 2) dX8_in_6 rfl rfl ?_
    refine hJ.icmp_gt (tgt := 14) dX8_in_7 (by decide) (fun e2 => ?_) (fun e2 => ?_)
    · replace hF := ite_T e2 hF
      refine hJ.iconst (v := 0) dX8_in_14 (by decide) ?_
      obtain ⟨rfl, rfl⟩ := ret_S hF
      exact hR dX8_in_15 (by decide) (by decide) (by decide)
    · replace hF := ite_F e2 hF
      refine hJ.iconst (v := 1) dX8_in_10 (by decide) ?_
      refine hJ.goto (tgt := 15) dX8_in_11 (by decide) ?_
      obtain ⟨rfl, rfl⟩ := ret_S hF
      exact hR dX8_in_15 (by decide) (by decide) (by decide)

set_option maxHeartbeats 4000000 in
set_option maxRecDepth 100000 in
theorem c_X8_isStation {x0 : Nat} {x1 : Int32} {h hh : Hp} {xr : Int32} (hF : F_X8_isStation x0 x1 h = some (xr, hh)) : Ctr yX8_isStation cX8_isStation 2 (some .boolean) 1 0 0 [.inr (8, (some x0)), .inl x1] h (some (.inl xr)) hh := by
  refine Ctr_z (own := RX8) (ini := False) (ls0 := [some (.inr (8, (some x0))), some (.inl x1)]) (by decide) rfl (Nat.le_of_ble_eq_true rfl) (fun e => e.elim) rfl ?_
  intro J hJ hR
  unfold F_X8_isStation at hF
  refine hJ.iload_n (i := 1) dX8_isStation_0 rfl rfl ?_
  refine hJ.iconst (v := 0) dX8_isStation_1 (by decide) ?_
  refine hJ.aload_n (i := 0) dX8_isStation_2 rfl rfl ?_
  refine hJ.getI dX8_isStation_3 f_RX8_140 rfl ?_
  refine hJ.iconst (v := 1) dX8_isStation_6 (by decide) ?_
  refine hJ.isub dX8_isStation_7 ?_
  replace hF := cl_S hF
  obtain ⟨r1, h2, ec3, hF⟩ := hF
  refine hJ.callS (as := [.inl x1, .inl (0 : Int32), .inl ((pI h 8 x0 1) - (1 : Int32))]) (st := []) dX8_isStation_8 w_RX8_144 (c_X8_in ec3) (by decide) (by decide) (by decide) rfl (Nat.le_of_ble_eq_true rfl) rfl ?_
  replace hF := ck_S hF
  obtain ⟨c4, hF⟩ := hF
  obtain ⟨rfl, rfl⟩ := ret_S hF
  exact hR dX8_isStation_11 (isz_S c4) (by decide) (by decide)

set_option maxHeartbeats 4000000 in
set_option maxRecDepth 100000 in
theorem c_X8_isTrunk {x0 : Nat} {x1 : Int32} {h hh : Hp} {xr : Int32} (hF : F_X8_isTrunk x0 x1 h = some (xr, hh)) : Ctr yX8_isTrunk cX8_isTrunk 2 (some .boolean) 1 0 0 [.inr (8, (some x0)), .inl x1] h (some (.inl xr)) hh := by
  refine Ctr_z (own := RX8) (ini := False) (ls0 := [some (.inr (8, (some x0))), some (.inl x1)]) (by decide) rfl (Nat.le_of_ble_eq_true rfl) (fun e => e.elim) rfl ?_
  intro J hJ hR
  unfold F_X8_isTrunk at hF
  refine hJ.iload_n (i := 1) dX8_isTrunk_0 rfl rfl ?_
  refine hJ.iconst (v := 0) dX8_isTrunk_1 (by decide) ?_
  refine hJ.aload_n (i := 0) dX8_isTrunk_2 rfl rfl ?_
  refine hJ.getI dX8_isTrunk_3 f_RX8_148 rfl ?_
  refine hJ.iconst (v := 1) dX8_isTrunk_6 (by decide) ?_
  refine hJ.isub dX8_isTrunk_7 ?_
  replace hF := cl_S hF
  obtain ⟨r1, h2, ec3, hF⟩ := hF
  refine hJ.callS (as := [.inl x1, .inl (0 : Int32), .inl ((pI h 8 x0 11) - (1 : Int32))]) (st := []) dX8_isTrunk_8 w_RX8_144 (c_X8_in ec3) (by decide) (by decide) (by decide) rfl (Nat.le_of_ble_eq_true rfl) rfl ?_
  replace hF := ck_S hF
  obtain ⟨c4, hF⟩ := hF
  obtain ⟨rfl, rfl⟩ := ret_S hF
  exact hR dX8_isTrunk_11 (isz_S c4) (by decide) (by decide)

set_option maxHeartbeats 4000000 in
set_option maxRecDepth 100000 in
theorem c_X8_isRaft {x0 : Nat} {x1 : Int32} {x2 : Int32} {h hh : Hp} {xr : Int32} (hF : F_X8_isRaft x0 x1 x2 h = some (xr, hh)) : Ctr yX8_isRaft cX8_isRaft 3 (some .boolean) 1 0 0 [.inr (8, (some x0)), .inl x1, .inl x2] h (some (.inl xr)) hh := by
  refine Ctr_z (own := RX8) (ini := False) (ls0 := [some (.inr (8, (some x0))), some (.inl x1), some (.inl x2)]) (by decide) rfl (Nat.le_of_ble_eq_true rfl) (fun e => e.elim) rfl ?_
  intro J hJ hR
  unfold F_X8_isRaft at hF
  refine hJ.iload_n (i := 1) dX8_isRaft_0 rfl rfl ?_
  refine hJ.iconst (v := 0) dX8_isRaft_1 (by decide) ?_
  refine hJ.aload_n (i := 0) dX8_isRaft_2 rfl rfl ?_
  refine hJ.getI dX8_isRaft_3 f_RX8_151 rfl ?_
  refine hJ.iconst (v := 1) dX8_isRaft_6 (by decide) ?_
  refine hJ.isub dX8_isRaft_7 ?_
  replace hF := cl_S hF
  obtain ⟨r1, h2, ec3, hF⟩ := hF
  refine hJ.callS (as := [.inl x1, .inl (0 : Int32), .inl ((pI h 8 x0 24) - (1 : Int32))]) (st := []) dX8_isRaft_8 w_RX8_144 (c_X8_in ec3) (by decide) (by decide) (by decide) rfl (Nat.le_of_ble_eq_true rfl) rfl ?_
  refine hJ.if_eq (tgt := 28) dX8_isRaft_11 (by decide) (fun e4 => ?_) (fun e4 => ?_)
  · replace hF := ite_T e4 hF
    refine hJ.iconst (v := 0) dX8_isRaft_28 (by decide) ?_
    obtain ⟨rfl, rfl⟩ := ret_S hF
    exact hR dX8_isRaft_29 (by decide) (by decide) (by decide)
  · replace hF := ite_F e4 hF
    refine hJ.aload_n (i := 0) dX8_isRaft_14 rfl rfl ?_
    refine hJ.getR dX8_isRaft_15 f_RX8_71 rfl ?_
    refine hJ.iload_n (i := 1) dX8_isRaft_18 rfl rfl ?_
    replace hF := nn_S hF
    obtain ⟨n5, e6, hF⟩ := hF
    rw [e6]
    replace hF := ck_S hF
    obtain ⟨c7, hF⟩ := hF
    refine hJ.iald dX8_isRaft_19 a_45 rfl c7 ?_
    refine hJ.iload_n (i := 2) dX8_isRaft_20 rfl rfl ?_
    refine hJ.icmp_ne (tgt := 28) dX8_isRaft_21 (by decide) (fun e8 => ?_) (fun e8 => ?_)
    · replace hF := ite_F e8 hF
      refine hJ.iconst (v := 0) dX8_isRaft_28 (by decide) ?_
      obtain ⟨rfl, rfl⟩ := ret_S hF
      exact hR dX8_isRaft_29 (by decide) (by decide) (by decide)
    · replace hF := ite_T e8 hF
      refine hJ.iconst (v := 1) dX8_isRaft_24 (by decide) ?_
      refine hJ.goto (tgt := 29) dX8_isRaft_25 (by decide) ?_
      obtain ⟨rfl, rfl⟩ := ret_S hF
      exact hR dX8_isRaft_29 (by decide) (by decide) (by decide)

set_option maxHeartbeats 4000000 in
set_option maxRecDepth 100000 in
theorem c_X8_station {x0 : Nat} {x1 : Int32} {x2 : Int32} {x3 : Int32} {x4 : Int32} {h hh : Hp} {xr : Int32} (hF : F_X8_station x0 x1 x2 x3 x4 h = some (xr, hh)) : Ctr yX8_station cX8_station 5 (some .int) 2 0 0 [.inr (8, (some x0)), .inl x1, .inl x2, .inl x3, .inl x4] h (some (.inl xr)) hh := by
  refine Ctr_i (own := RX8) (ini := False) (ls0 := [some (.inr (8, (some x0))), some (.inl x1), some (.inl x2), some (.inl x3), some (.inl x4)]) (by decide) rfl (Nat.le_of_ble_eq_true rfl) (fun e => e.elim) rfl ?_
  intro J hJ hR
  unfold F_X8_station at hF
  refine hJ.aload_n (i := 0) dX8_station_0 rfl rfl ?_
  refine hJ.getI dX8_station_1 f_RX8_140 rfl ?_
  refine hJ.bipush (v := 12) dX8_station_4 (by decide) ?_
  refine hJ.icmp_ne (tgt := 11) dX8_station_6 (by decide) (fun e1 => ?_) (fun e1 => ?_)
  · replace hF := ite_F e1 hF
    refine hJ.aload_n (i := 0) dX8_station_11 rfl rfl ?_
    refine hJ.getI dX8_station_12 f_RX8_140 rfl ?_
    refine hJ.if_le (tgt := 157) dX8_station_15 (by decide) (fun e2 => ?_) (fun e2 => ?_)
    · replace hF := ite_T e2 hF
      refine hJ.aload_n (i := 0) dX8_station_157 rfl rfl ?_
      refine hJ.getR dX8_station_158 f_RX8_28 rfl ?_
      refine hJ.aload_n (i := 0) dX8_station_161 rfl rfl ?_
      refine hJ.getI dX8_station_162 f_RX8_140 rfl ?_
      refine hJ.iload (i := 4) dX8_station_165 rfl ?_
      refine hJ.if_ne (tgt := 177) dX8_station_167 (by decide) (fun e3 => ?_) (fun e3 => ?_)
      · replace hF := ite_F e3 hF
        refine hJ.iconst (v := 1) dX8_station_177 (by decide) ?_
        refine hJ.goto (tgt := 182) dX8_station_178 (by decide) ?_
        replace hF := nn_S hF
        obtain ⟨n4, e5, hF⟩ := hF
        rw [e5]
        replace hF := ck_S hF
        obtain ⟨c6, hF⟩ := hF
        replace hF := lt_S hF
        obtain ⟨h7, eh8, hF⟩ := hF
        refine hJ.zast dX8_station_182 a_31 rfl c6 (by decide) ?_
        rw [← eh8]
        refine hJ.aload_n (i := 0) dX8_station_183 rfl rfl ?_
        refine hJ.dup dX8_station_184 ?_
        refine hJ.getI dX8_station_185 f_RX8_140 rfl ?_
        refine hJ.iconst (v := 1) dX8_station_188 (by decide) ?_
        refine hJ.iadd dX8_station_189 ?_
        replace hF := lt_S hF
        obtain ⟨h9, eh10, hF⟩ := hF
        refine hJ.putI dX8_station_190 f_RX8_140 rfl nar_i rfl ?_
        rw [← eh10]
        refine hJ.aload_n (i := 0) dX8_station_193 rfl rfl ?_
        refine hJ.getI dX8_station_194 f_RX8_140 rfl ?_
        refine hJ.iconst (v := 1) dX8_station_197 (by decide) ?_
        refine hJ.isub dX8_station_198 ?_
        obtain ⟨rfl, rfl⟩ := ret_S hF
        exact hR dX8_station_199 (by decide) (by decide)
      · replace hF := ite_T e3 hF
        refine hJ.aload_n (i := 0) dX8_station_170 rfl rfl ?_
        refine hJ.getI dX8_station_171 f_RX8_140 rfl ?_
        refine hJ.if_ne (tgt := 181) dX8_station_174 (by decide) (fun e11 => ?_) (fun e11 => ?_)
        · replace hF := ite_F e11 hF
          refine hJ.iconst (v := 0) dX8_station_181 (by decide) ?_
          replace hF := nn_S hF
          obtain ⟨n12, e13, hF⟩ := hF
          rw [e13]
          replace hF := ck_S hF
          obtain ⟨c14, hF⟩ := hF
          replace hF := lt_S hF
          obtain ⟨h15, eh16, hF⟩ := hF
          refine hJ.zast dX8_station_182 a_31 rfl c14 (by decide) ?_
          rw [← eh16]
          refine hJ.aload_n (i := 0) dX8_station_183 rfl rfl ?_
          refine hJ.dup dX8_station_184 ?_
          refine hJ.getI dX8_station_185 f_RX8_140 rfl ?_
          refine hJ.iconst (v := 1) dX8_station_188 (by decide) ?_
          refine hJ.iadd dX8_station_189 ?_
          replace hF := lt_S hF
          obtain ⟨h17, eh18, hF⟩ := hF
          refine hJ.putI dX8_station_190 f_RX8_140 rfl nar_i rfl ?_
          rw [← eh18]
          refine hJ.aload_n (i := 0) dX8_station_193 rfl rfl ?_
          refine hJ.getI dX8_station_194 f_RX8_140 rfl ?_
          refine hJ.iconst (v := 1) dX8_station_197 (by decide) ?_
          refine hJ.isub dX8_station_198 ?_
          obtain ⟨rfl, rfl⟩ := ret_S hF
          exact hR dX8_station_199 (by decide) (by decide)
        · replace hF := ite_T e11 hF
          refine hJ.iconst (v := 1) dX8_station_177 (by decide) ?_
          refine hJ.goto (tgt := 182) dX8_station_178 (by decide) ?_
          replace hF := nn_S hF
          obtain ⟨n19, e20, hF⟩ := hF
          rw [e20]
          replace hF := ck_S hF
          obtain ⟨c21, hF⟩ := hF
          replace hF := lt_S hF
          obtain ⟨h22, eh23, hF⟩ := hF
          refine hJ.zast dX8_station_182 a_31 rfl c21 (by decide) ?_
          rw [← eh23]
          refine hJ.aload_n (i := 0) dX8_station_183 rfl rfl ?_
          refine hJ.dup dX8_station_184 ?_
          refine hJ.getI dX8_station_185 f_RX8_140 rfl ?_
          refine hJ.iconst (v := 1) dX8_station_188 (by decide) ?_
          refine hJ.iadd dX8_station_189 ?_
          replace hF := lt_S hF
          obtain ⟨h24, eh25, hF⟩ := hF
          refine hJ.putI dX8_station_190 f_RX8_140 rfl nar_i rfl ?_
          rw [← eh25]
          refine hJ.aload_n (i := 0) dX8_station_193 rfl rfl ?_
          refine hJ.getI dX8_station_194 f_RX8_140 rfl ?_
          refine hJ.iconst (v := 1) dX8_station_197 (by decide) ?_
          refine hJ.isub dX8_station_198 ?_
          obtain ⟨rfl, rfl⟩ := ret_S hF
          exact hR dX8_station_199 (by decide) (by decide)
    · replace hF := ite_F e2 hF
      refine hJ.aload_n (i := 0) dX8_station_18 rfl rfl ?_
      refine hJ.iload_n (i := 1) dX8_station_19 rfl rfl ?_
      replace hF := cl_S hF
      obtain ⟨r26, h27, ec28, hF⟩ := hF
      refine hJ.callV (as := [.inl x1]) (st := []) dX8_station_20 w_RX8_154 ⟨by decide, rfl⟩ rfl (c_X8_isStation ec28) (by decide) (by decide) (by decide) rfl (Nat.le_of_ble_eq_true rfl) rfl ?_
      refine hJ.if_eq (tgt := 81) dX8_station_23 (by decide) (fun e29 => ?_) (fun e29 => ?_)
      · replace hF := ite_T e29 hF
        refine hJ.iconst (v := -1) dX8_station_81 (by decide) ?_
        obtain ⟨rfl, rfl⟩ := ret_S hF
        exact hR dX8_station_82 (by decide) (by decide)
      · replace hF := ite_F e29 hF
        refine hJ.iload_n (i := 2) dX8_station_26 rfl rfl ?_
        refine hJ.if_lt (tgt := 81) dX8_station_27 (by decide) (fun e30 => ?_) (fun e30 => ?_)
        · replace hF := ite_T e30 hF
          refine hJ.iconst (v := -1) dX8_station_81 (by decide) ?_
          obtain ⟨rfl, rfl⟩ := ret_S hF
          exact hR dX8_station_82 (by decide) (by decide)
        · replace hF := ite_F e30 hF
          refine hJ.iload_n (i := 2) dX8_station_30 rfl rfl ?_
          refine hJ.ldc dX8_station_31 k_RX8_158 ?_
          refine hJ.idiv dX8_station_33 (by decide) ?_
          refine hJ.iconst (v := 1) dX8_station_34 (by decide) ?_
          refine hJ.bipush (v := 20) dX8_station_35 (by decide) ?_
          replace hF := cl_S hF
          obtain ⟨r31, h32, ec33, hF⟩ := hF
          refine hJ.callS (as := [.inl (x2 / (100000 : Int32)), .inl (1 : Int32), .inl (20 : Int32)]) (st := []) dX8_station_37 w_RX8_144 (c_X8_in ec33) (by decide) (by decide) (by decide) rfl (Nat.le_of_ble_eq_true rfl) rfl ?_
          refine hJ.if_eq (tgt := 81) dX8_station_40 (by decide) (fun e34 => ?_) (fun e34 => ?_)
          · replace hF := ite_T e34 hF
            refine hJ.iconst (v := -1) dX8_station_81 (by decide) ?_
            obtain ⟨rfl, rfl⟩ := ret_S hF
            exact hR dX8_station_82 (by decide) (by decide)
          · replace hF := ite_F e34 hF
            refine hJ.iload_n (i := 2) dX8_station_43 rfl rfl ?_
            refine hJ.sipush (v := 1000) dX8_station_44 (by decide) ?_
            refine hJ.idiv dX8_station_47 (by decide) ?_
            refine hJ.bipush (v := 100) dX8_station_48 (by decide) ?_
            refine hJ.irem dX8_station_50 (by decide) ?_
            refine hJ.iconst (v := 1) dX8_station_51 (by decide) ?_
            refine hJ.bipush (v := 60) dX8_station_52 (by decide) ?_
            replace hF := cl_S hF
            obtain ⟨r35, h36, ec37, hF⟩ := hF
            refine hJ.callS (as := [.inl ((x2 / (1000 : Int32)) - (x2 / (1000 : Int32)) / (100 : Int32) * (100 : Int32)), .inl (1 : Int32), .inl (60 : Int32)]) (st := []) dX8_station_54 w_RX8_144 (c_X8_in ec37) (by decide) (by decide) (by decide) rfl (Nat.le_of_ble_eq_true rfl) rfl ?_
            refine hJ.if_eq (tgt := 81) dX8_station_57 (by decide) (fun e38 => ?_) (fun e38 => ?_)
            · replace hF := ite_T e38 hF
              refine hJ.iconst (v := -1) dX8_station_81 (by decide) ?_
              obtain ⟨rfl, rfl⟩ := ret_S hF
              exact hR dX8_station_82 (by decide) (by decide)
            · replace hF := ite_F e38 hF
              refine hJ.iload_n (i := 2) dX8_station_60 rfl rfl ?_
              refine hJ.sipush (v := 1000) dX8_station_61 (by decide) ?_
              refine hJ.irem dX8_station_64 (by decide) ?_
              refine hJ.bipush (v := 50) dX8_station_65 (by decide) ?_
              refine hJ.icmp_gt (tgt := 81) dX8_station_67 (by decide) (fun e39 => ?_) (fun e39 => ?_)
              · replace hF := ite_T e39 hF
                refine hJ.iconst (v := -1) dX8_station_81 (by decide) ?_
                obtain ⟨rfl, rfl⟩ := ret_S hF
                exact hR dX8_station_82 (by decide) (by decide)
              · replace hF := ite_F e39 hF
                refine hJ.iload_n (i := 3) dX8_station_70 rfl rfl ?_
                refine hJ.iconst (v := 0) dX8_station_71 (by decide) ?_
                refine hJ.sipush (v := 1000) dX8_station_72 (by decide) ?_
                replace hF := cl_S hF
                obtain ⟨r40, h41, ec42, hF⟩ := hF
                refine hJ.callS (as := [.inl x3, .inl (0 : Int32), .inl (1000 : Int32)]) (st := []) dX8_station_75 w_RX8_144 (c_X8_in ec42) (by decide) (by decide) (by decide) rfl (Nat.le_of_ble_eq_true rfl) rfl ?_
                refine hJ.if_ne (tgt := 83) dX8_station_78 (by decide) (fun e43 => ?_) (fun e43 => ?_)
                · replace hF := ite_F e43 hF
                  refine hJ.aload_n (i := 0) dX8_station_83 rfl rfl ?_
                  refine hJ.getR dX8_station_84 f_RX8_9 rfl ?_
                  refine hJ.aload_n (i := 0) dX8_station_87 rfl rfl ?_
                  refine hJ.getI dX8_station_88 f_RX8_140 rfl ?_
                  refine hJ.iload_n (i := 1) dX8_station_91 rfl rfl ?_
                  replace hF := nn_S hF
                  obtain ⟨n44, e45, hF⟩ := hF
                  rw [e45]
                  replace hF := ck_S hF
                  obtain ⟨c46, hF⟩ := hF
                  replace hF := lt_S hF
                  obtain ⟨h47, eh48, hF⟩ := hF
                  refine hJ.iast dX8_station_92 a_25 rfl c46 ?_
                  rw [← eh48]
                  refine hJ.aload_n (i := 0) dX8_station_93 rfl rfl ?_
                  refine hJ.getR dX8_station_94 f_RX8_13 rfl ?_
                  refine hJ.aload_n (i := 0) dX8_station_97 rfl rfl ?_
                  refine hJ.getI dX8_station_98 f_RX8_140 rfl ?_
                  refine hJ.iload_n (i := 2) dX8_station_101 rfl rfl ?_
                  refine hJ.ldc dX8_station_102 k_RX8_158 ?_
                  refine hJ.idiv dX8_station_104 (by decide) ?_
                  replace hF := nn_S hF
                  obtain ⟨n49, e50, hF⟩ := hF
                  rw [e50]
                  replace hF := ck_S hF
                  obtain ⟨c51, hF⟩ := hF
                  replace hF := lt_S hF
                  obtain ⟨h52, eh53, hF⟩ := hF
                  refine hJ.iast dX8_station_105 a_26 rfl c51 ?_
                  rw [← eh53]
                  refine hJ.aload_n (i := 0) dX8_station_106 rfl rfl ?_
                  refine hJ.getR dX8_station_107 f_RX8_16 rfl ?_
                  refine hJ.aload_n (i := 0) dX8_station_110 rfl rfl ?_
                  refine hJ.getI dX8_station_111 f_RX8_140 rfl ?_
                  refine hJ.iload_n (i := 2) dX8_station_114 rfl rfl ?_
                  refine hJ.sipush (v := 1000) dX8_station_115 (by decide) ?_
                  refine hJ.idiv dX8_station_118 (by decide) ?_
                  refine hJ.bipush (v := 100) dX8_station_119 (by decide) ?_
                  refine hJ.irem dX8_station_121 (by decide) ?_
                  replace hF := nn_S hF
                  obtain ⟨n54, e55, hF⟩ := hF
                  rw [e55]
                  replace hF := ck_S hF
                  obtain ⟨c56, hF⟩ := hF
                  replace hF := lt_S hF
                  obtain ⟨h57, eh58, hF⟩ := hF
                  refine hJ.iast dX8_station_122 a_27 rfl c56 ?_
                  rw [← eh58]
                  refine hJ.aload_n (i := 0) dX8_station_123 rfl rfl ?_
                  refine hJ.getR dX8_station_124 f_RX8_19 rfl ?_
                  refine hJ.aload_n (i := 0) dX8_station_127 rfl rfl ?_
                  refine hJ.getI dX8_station_128 f_RX8_140 rfl ?_
                  refine hJ.iload_n (i := 2) dX8_station_131 rfl rfl ?_
                  refine hJ.sipush (v := 1000) dX8_station_132 (by decide) ?_
                  refine hJ.irem dX8_station_135 (by decide) ?_
                  replace hF := nn_S hF
                  obtain ⟨n59, e60, hF⟩ := hF
                  rw [e60]
                  replace hF := ck_S hF
                  obtain ⟨c61, hF⟩ := hF
                  replace hF := lt_S hF
                  obtain ⟨h62, eh63, hF⟩ := hF
                  refine hJ.iast dX8_station_136 a_28 rfl c61 ?_
                  rw [← eh63]
                  refine hJ.aload_n (i := 0) dX8_station_137 rfl rfl ?_
                  refine hJ.getR dX8_station_138 f_RX8_22 rfl ?_
                  refine hJ.aload_n (i := 0) dX8_station_141 rfl rfl ?_
                  refine hJ.getI dX8_station_142 f_RX8_140 rfl ?_
                  refine hJ.iload_n (i := 3) dX8_station_145 rfl rfl ?_
                  replace hF := nn_S hF
                  obtain ⟨n64, e65, hF⟩ := hF
                  rw [e65]
                  replace hF := ck_S hF
                  obtain ⟨c66, hF⟩ := hF
                  replace hF := lt_S hF
                  obtain ⟨h67, eh68, hF⟩ := hF
                  refine hJ.iast dX8_station_146 a_29 rfl c66 ?_
                  rw [← eh68]
                  refine hJ.aload_n (i := 0) dX8_station_147 rfl rfl ?_
                  refine hJ.getR dX8_station_148 f_RX8_25 rfl ?_
                  refine hJ.aload_n (i := 0) dX8_station_151 rfl rfl ?_
                  refine hJ.getI dX8_station_152 f_RX8_140 rfl ?_
                  refine hJ.iload_n (i := 3) dX8_station_155 rfl rfl ?_
                  replace hF := nn_S hF
                  obtain ⟨n69, e70, hF⟩ := hF
                  rw [e70]
                  replace hF := ck_S hF
                  obtain ⟨c71, hF⟩ := hF
                  replace hF := lt_S hF
                  obtain ⟨h72, eh73, hF⟩ := hF
                  refine hJ.iast dX8_station_156 a_30 rfl c71 ?_
                  rw [← eh73]
                  refine hJ.aload_n (i := 0) dX8_station_157 rfl rfl ?_
                  refine hJ.getR dX8_station_158 f_RX8_28 rfl ?_
                  refine hJ.aload_n (i := 0) dX8_station_161 rfl rfl ?_
                  refine hJ.getI dX8_station_162 f_RX8_140 rfl ?_
                  refine hJ.iload (i := 4) dX8_station_165 rfl ?_
                  refine hJ.if_ne (tgt := 177) dX8_station_167 (by decide) (fun e74 => ?_) (fun e74 => ?_)
                  · replace hF := ite_F e74 hF
                    refine hJ.iconst (v := 1) dX8_station_177 (by decide) ?_
                    refine hJ.goto (tgt := 182) dX8_station_178 (by decide) ?_
                    replace hF := nn_S hF
                    obtain ⟨n75, e76, hF⟩ := hF
                    rw [e76]
                    replace hF := ck_S hF
                    obtain ⟨c77, hF⟩ := hF
                    replace hF := lt_S hF
                    obtain ⟨h78, eh79, hF⟩ := hF
                    refine hJ.zast dX8_station_182 a_31 rfl c77 (by decide) ?_
                    rw [← eh79]
                    refine hJ.aload_n (i := 0) dX8_station_183 rfl rfl ?_
                    refine hJ.dup dX8_station_184 ?_
                    refine hJ.getI dX8_station_185 f_RX8_140 rfl ?_
                    refine hJ.iconst (v := 1) dX8_station_188 (by decide) ?_
                    refine hJ.iadd dX8_station_189 ?_
                    replace hF := lt_S hF
                    obtain ⟨h80, eh81, hF⟩ := hF
                    refine hJ.putI dX8_station_190 f_RX8_140 rfl nar_i rfl ?_
                    rw [← eh81]
                    refine hJ.aload_n (i := 0) dX8_station_193 rfl rfl ?_
                    refine hJ.getI dX8_station_194 f_RX8_140 rfl ?_
                    refine hJ.iconst (v := 1) dX8_station_197 (by decide) ?_
                    refine hJ.isub dX8_station_198 ?_
                    obtain ⟨rfl, rfl⟩ := ret_S hF
                    exact hR dX8_station_199 (by decide) (by decide)
                  · replace hF := ite_T e74 hF
                    refine hJ.aload_n (i := 0) dX8_station_170 rfl rfl ?_
                    refine hJ.getI dX8_station_171 f_RX8_140 rfl ?_
                    refine hJ.if_ne (tgt := 181) dX8_station_174 (by decide) (fun e82 => ?_) (fun e82 => ?_)
                    · replace hF := ite_F e82 hF
                      refine hJ.iconst (v := 0) dX8_station_181 (by decide) ?_
                      replace hF := nn_S hF
                      obtain ⟨n83, e84, hF⟩ := hF
                      rw [e84]
                      replace hF := ck_S hF
                      obtain ⟨c85, hF⟩ := hF
                      replace hF := lt_S hF
                      obtain ⟨h86, eh87, hF⟩ := hF
                      refine hJ.zast dX8_station_182 a_31 rfl c85 (by decide) ?_
                      rw [← eh87]
                      refine hJ.aload_n (i := 0) dX8_station_183 rfl rfl ?_
                      refine hJ.dup dX8_station_184 ?_
                      refine hJ.getI dX8_station_185 f_RX8_140 rfl ?_
                      refine hJ.iconst (v := 1) dX8_station_188 (by decide) ?_
                      refine hJ.iadd dX8_station_189 ?_
                      replace hF := lt_S hF
                      obtain ⟨h88, eh89, hF⟩ := hF
                      refine hJ.putI dX8_station_190 f_RX8_140 rfl nar_i rfl ?_
                      rw [← eh89]
                      refine hJ.aload_n (i := 0) dX8_station_193 rfl rfl ?_
                      refine hJ.getI dX8_station_194 f_RX8_140 rfl ?_
                      refine hJ.iconst (v := 1) dX8_station_197 (by decide) ?_
                      refine hJ.isub dX8_station_198 ?_
                      obtain ⟨rfl, rfl⟩ := ret_S hF
                      exact hR dX8_station_199 (by decide) (by decide)
                    · replace hF := ite_T e82 hF
                      refine hJ.iconst (v := 1) dX8_station_177 (by decide) ?_
                      refine hJ.goto (tgt := 182) dX8_station_178 (by decide) ?_
                      replace hF := nn_S hF
                      obtain ⟨n90, e91, hF⟩ := hF
                      rw [e91]
                      replace hF := ck_S hF
                      obtain ⟨c92, hF⟩ := hF
                      replace hF := lt_S hF
                      obtain ⟨h93, eh94, hF⟩ := hF
                      refine hJ.zast dX8_station_182 a_31 rfl c92 (by decide) ?_
                      rw [← eh94]
                      refine hJ.aload_n (i := 0) dX8_station_183 rfl rfl ?_
                      refine hJ.dup dX8_station_184 ?_
                      refine hJ.getI dX8_station_185 f_RX8_140 rfl ?_
                      refine hJ.iconst (v := 1) dX8_station_188 (by decide) ?_
                      refine hJ.iadd dX8_station_189 ?_
                      replace hF := lt_S hF
                      obtain ⟨h95, eh96, hF⟩ := hF
                      refine hJ.putI dX8_station_190 f_RX8_140 rfl nar_i rfl ?_
                      rw [← eh96]
                      refine hJ.aload_n (i := 0) dX8_station_193 rfl rfl ?_
                      refine hJ.getI dX8_station_194 f_RX8_140 rfl ?_
                      refine hJ.iconst (v := 1) dX8_station_197 (by decide) ?_
                      refine hJ.isub dX8_station_198 ?_
                      obtain ⟨rfl, rfl⟩ := ret_S hF
                      exact hR dX8_station_199 (by decide) (by decide)
                · replace hF := ite_T e43 hF
                  refine hJ.iconst (v := -1) dX8_station_81 (by decide) ?_
                  obtain ⟨rfl, rfl⟩ := ret_S hF
                  exact hR dX8_station_82 (by decide) (by decide)
  · replace hF := ite_T e1 hF
    refine hJ.iconst (v := -1) dX8_station_9 (by decide) ?_
    obtain ⟨rfl, rfl⟩ := ret_S hF
    exact hR dX8_station_10 (by decide) (by decide)

set_option maxHeartbeats 4000000 in
set_option maxRecDepth 100000 in
theorem t_X8_find_2 {β : Type} {J : JT} (hJ : Rules cX8_find RX8 3 0 0 0 False J) {a b : Nat} (ha : a ≤ 0) (hb : b ≤ 0) {v0 : Nat} {v1 : Int32} {κ28 : Hp → Option β} {κ20 : Int32 → Hp → Option β} {out : β}
    (hk28 : ∀ (h : Hp), κ28 h = some out → J 28 [none, none, none] [] h a b)
    (hk20 : ∀ (k2 : Int32) (h : Hp), κ20 k2 h = some out → J 20 [none, none, some (.inl k2)] [] h a b)
    : ∀ (f : Nat) (v2 : Int32) (h : Hp), L_X8_find_2 v0 v1 κ28 κ20 f v2 h = some out → J 2 [some (.inr (8, (some v0))), some (.inl v1), some (.inl v2)] [] h a b := by
  intro f
  induction f with
  | zero => intro v2 h hF; simp [L_X8_find_2] at hF
  | succ f ih =>
    intro v2 h hF
    rw [L_X8_find_2] at hF
    refine hJ.iload_n (i := 2) dX8_find_2 rfl rfl ?_
    refine hJ.aload_n (i := 0) dX8_find_3 rfl rfl ?_
    refine hJ.getI dX8_find_4 f_RX8_148 rfl ?_
    refine hJ.icmp_ge (tgt := 28) dX8_find_7 (by decide) (fun e1 => ?_) (fun e1 => ?_)
    · replace hF := ite_T e1 hF
      refine hJ.forget (ls2 := [none, none, none]) trivial ?_
      exact hk28 h hF
    · replace hF := ite_F e1 hF
      refine hJ.aload_n (i := 0) dX8_find_10 rfl rfl ?_
      refine hJ.getR dX8_find_11 f_RX8_38 rfl ?_
      refine hJ.iload_n (i := 2) dX8_find_14 rfl rfl ?_
      replace hF := nn_S hF
      obtain ⟨n2, e3, hF⟩ := hF
      rw [e3]
      replace hF := ck_S hF
      obtain ⟨c4, hF⟩ := hF
      refine hJ.iald dX8_find_15 a_34 rfl c4 ?_
      refine hJ.iload_n (i := 1) dX8_find_16 rfl rfl ?_
      refine hJ.icmp_ne (tgt := 22) dX8_find_17 (by decide) (fun e5 => ?_) (fun e5 => ?_)
      · replace hF := ite_F e5 hF
        refine hJ.iinc (i := 2) (v := (v2 + (1 : Int32))) (ls2 := [some (.inr (8, (some v0))), some (.inl v1), some (.inl (v2 + (1 : Int32)))]) dX8_find_22 rfl (addI (by decide)) (by decide) rfl ?_
        refine hJ.goto (tgt := 2) dX8_find_25 (by decide) ?_
        refine hJ.forget (ls2 := [some (.inr (8, (some v0))), some (.inl v1), some (.inl (v2 + (1 : Int32)))]) ⟨rfl, rfl, rfl, trivial⟩ ?_
        exact ih (v2 + (1 : Int32)) h hF
      · replace hF := ite_T e5 hF
        refine hJ.forget (ls2 := [none, none, some (.inl v2)]) ⟨rfl, trivial⟩ ?_
        exact hk20 v2 h hF

set_option maxHeartbeats 4000000 in
set_option maxRecDepth 100000 in
theorem c_X8_find {x0 : Nat} {x1 : Int32} {h hh : Hp} {xr : Int32} (hF : F_X8_find x0 x1 h = some (xr, hh)) : Ctr yX8_find cX8_find 3 (some .int) 0 0 0 [.inr (8, (some x0)), .inl x1] h (some (.inl xr)) hh := by
  refine Ctr_i (own := RX8) (ini := False) (ls0 := [some (.inr (8, (some x0))), some (.inl x1), none]) (by decide) rfl (Nat.le_of_ble_eq_true rfl) (fun e => e.elim) rfl ?_
  intro J hJ hR
  unfold F_X8_find at hF
  refine hJ.iconst (v := 0) dX8_find_0 (by decide) ?_
  refine hJ.istore_n (i := 2) (ls2 := [some (.inr (8, (some x0))), some (.inl x1), some (.inl (0 : Int32))]) dX8_find_1 rfl (by decide) rfl ?_
  refine hJ.forget (ls2 := [some (.inr (8, (some x0))), some (.inl x1), some (.inl (0 : Int32))]) ⟨rfl, rfl, rfl, trivial⟩ ?_
  refine t_X8_find_2 hJ (by decide) (by decide) (fun h6 hF => ?_) (fun k7 h8 hF => ?_) FU _ _ hF
  · refine hJ.iconst (v := -1) dX8_find_28 (by decide) ?_
    obtain ⟨rfl, rfl⟩ := ret_S hF
    exact hR dX8_find_29 (by decide) (by decide)
  · refine hJ.iload_n (i := 2) dX8_find_20 rfl rfl ?_
    obtain ⟨rfl, rfl⟩ := ret_S hF
    exact hR dX8_find_21 (by decide) (by decide)

