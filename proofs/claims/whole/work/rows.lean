section
-- ===== PART A: goes FIRST, ahead of the names: the tables' words, and 'selects' of the private methods out of them =====
/-- a private method of a class that the tables say can be made, by its rows of tables_1 -/
def lw_okq (q : MethodName × Nat) : Prop := (q.1.cls ≠ "java/lang/invoke/MethodHandle" ∧ q.1.cls ≠ "java/lang/invoke/VarHandle") ∧ Cond.instantiable q.1.cls q.2 ∈ tables_1 ∧ Cond.privateMethod q.1 ∈ tables_1 ∧ Cond.instanceMethod q.1 ∈ tables_1
theorem lw_p0 : lw_okq (⟨"RaftRivers", "stationAt", "(I)LRaftRivers$Station;"⟩, 18) := ⟨⟨by decide +kernel, by decide +kernel⟩, List.mem_of_getElem? (i := 12) (by decide +kernel), List.mem_of_getElem? (i := 213) (by decide +kernel), List.mem_of_getElem? (i := 214) (by decide +kernel)⟩
theorem lw_p1 : lw_okq (⟨"RaftRivers", "trunkAt", "(I)LRaftRivers$Trunk;"⟩, 18) := ⟨⟨by decide +kernel, by decide +kernel⟩, List.mem_of_getElem? (i := 12) (by decide +kernel), List.mem_of_getElem? (i := 287) (by decide +kernel), List.mem_of_getElem? (i := 288) (by decide +kernel)⟩
theorem lw_p2 : lw_okq (⟨"RaftRivers", "newRaft", "(LRaftRivers$Station;)LRaftRivers$Raft;"⟩, 18) := ⟨⟨by decide +kernel, by decide +kernel⟩, List.mem_of_getElem? (i := 12) (by decide +kernel), List.mem_of_getElem? (i := 312) (by decide +kernel), List.mem_of_getElem? (i := 313) (by decide +kernel)⟩
theorem lw_p3 : lw_okq (⟨"RaftRivers", "tiedAt", "(I)LRaftRivers$Raft;"⟩, 18) := ⟨⟨by decide +kernel, by decide +kernel⟩, List.mem_of_getElem? (i := 12) (by decide +kernel), List.mem_of_getElem? (i := 363) (by decide +kernel), List.mem_of_getElem? (i := 364) (by decide +kernel)⟩
theorem lw_p4 : lw_okq (⟨"RaftRivers", "raftAt", "(I)LRaftRivers$Raft;"⟩, 18) := ⟨⟨by decide +kernel, by decide +kernel⟩, List.mem_of_getElem? (i := 12) (by decide +kernel), List.mem_of_getElem? (i := 367) (by decide +kernel), List.mem_of_getElem? (i := 368) (by decide +kernel)⟩
theorem lw_p5 : lw_okq (⟨"RaftRivers", "crewAt", "(I)LRaftRivers$Crew;"⟩, 18) := ⟨⟨by decide +kernel, by decide +kernel⟩, List.mem_of_getElem? (i := 12) (by decide +kernel), List.mem_of_getElem? (i := 445) (by decide +kernel), List.mem_of_getElem? (i := 446) (by decide +kernel)⟩
theorem lw_p6 : lw_okq (⟨"RaftRivers", "passHour", "()V"⟩, 18) := ⟨⟨by decide +kernel, by decide +kernel⟩, List.mem_of_getElem? (i := 12) (by decide +kernel), List.mem_of_getElem? (i := 477) (by decide +kernel), List.mem_of_getElem? (i := 478) (by decide +kernel)⟩
theorem lw_p7 : lw_okq (⟨"RaftRivers", "openWeir", "(LRaftRivers$Station;)V"⟩, 18) := ⟨⟨by decide +kernel, by decide +kernel⟩, List.mem_of_getElem? (i := 12) (by decide +kernel), List.mem_of_getElem? (i := 487) (by decide +kernel), List.mem_of_getElem? (i := 488) (by decide +kernel)⟩
theorem lw_p8 : lw_okq (⟨"RaftRivers", "nextAt", "(LRaftRivers$Station;)LRaftRivers$Raft;"⟩, 18) := ⟨⟨by decide +kernel, by decide +kernel⟩, List.mem_of_getElem? (i := 12) (by decide +kernel), List.mem_of_getElem? (i := 495) (by decide +kernel), List.mem_of_getElem? (i := 496) (by decide +kernel)⟩
theorem lw_p9 : lw_okq (⟨"RaftRivers", "goesAhead", "(LRaftRivers$Raft;LRaftRivers$Raft;)Z"⟩, 18) := ⟨⟨by decide +kernel, by decide +kernel⟩, List.mem_of_getElem? (i := 12) (by decide +kernel), List.mem_of_getElem? (i := 512) (by decide +kernel), List.mem_of_getElem? (i := 513) (by decide +kernel)⟩
theorem lw_p10 : lw_okq (⟨"RaftRivers", "rightOf", "(LRaftRivers$Raft;)I"⟩, 18) := ⟨⟨by decide +kernel, by decide +kernel⟩, List.mem_of_getElem? (i := 12) (by decide +kernel), List.mem_of_getElem? (i := 516) (by decide +kernel), List.mem_of_getElem? (i := 517) (by decide +kernel)⟩
theorem lw_p11 : lw_okq (⟨"RaftRivers", "takeTolls", "(LRaftRivers$Raft;)V"⟩, 18) := ⟨⟨by decide +kernel, by decide +kernel⟩, List.mem_of_getElem? (i := 12) (by decide +kernel), List.mem_of_getElem? (i := 529) (by decide +kernel), List.mem_of_getElem? (i := 530) (by decide +kernel)⟩
theorem lw_p12 : lw_okq (⟨"RaftRivers", "today", "()I"⟩, 18) := ⟨⟨by decide +kernel, by decide +kernel⟩, List.mem_of_getElem? (i := 12) (by decide +kernel), List.mem_of_getElem? (i := 533) (by decide +kernel), List.mem_of_getElem? (i := 534) (by decide +kernel)⟩
theorem lw_p13 : lw_okq (⟨"RaftRivers", "makePlan", "(I)V"⟩, 18) := ⟨⟨by decide +kernel, by decide +kernel⟩, List.mem_of_getElem? (i := 12) (by decide +kernel), List.mem_of_getElem? (i := 605) (by decide +kernel), List.mem_of_getElem? (i := 606) (by decide +kernel)⟩
theorem lw_p14 : lw_okq (⟨"RaftRivers$Plan", "sumOfHours", "(LRaftRivers$Station;I)I"⟩, 8) := ⟨⟨by decide +kernel, by decide +kernel⟩, List.mem_of_getElem? (i := 72) (by decide +kernel), List.mem_of_getElem? (i := 621) (by decide +kernel), List.mem_of_getElem? (i := 622) (by decide +kernel)⟩
theorem lw_p15 : lw_okq (⟨"RaftRivers$Plan", "keep", "(I)V"⟩, 8) := ⟨⟨by decide +kernel, by decide +kernel⟩, List.mem_of_getElem? (i := 72) (by decide +kernel), List.mem_of_getElem? (i := 630) (by decide +kernel), List.mem_of_getElem? (i := 631) (by decide +kernel)⟩
def lw_privs_1 : List (MethodName × Nat) := [(⟨"RaftRivers", "stationAt", "(I)LRaftRivers$Station;"⟩, 18), (⟨"RaftRivers", "trunkAt", "(I)LRaftRivers$Trunk;"⟩, 18), (⟨"RaftRivers", "newRaft", "(LRaftRivers$Station;)LRaftRivers$Raft;"⟩, 18), (⟨"RaftRivers", "tiedAt", "(I)LRaftRivers$Raft;"⟩, 18), (⟨"RaftRivers", "raftAt", "(I)LRaftRivers$Raft;"⟩, 18), (⟨"RaftRivers", "crewAt", "(I)LRaftRivers$Crew;"⟩, 18), (⟨"RaftRivers", "passHour", "()V"⟩, 18), (⟨"RaftRivers", "openWeir", "(LRaftRivers$Station;)V"⟩, 18), (⟨"RaftRivers", "nextAt", "(LRaftRivers$Station;)LRaftRivers$Raft;"⟩, 18), (⟨"RaftRivers", "goesAhead", "(LRaftRivers$Raft;LRaftRivers$Raft;)Z"⟩, 18), (⟨"RaftRivers", "rightOf", "(LRaftRivers$Raft;)I"⟩, 18), (⟨"RaftRivers", "takeTolls", "(LRaftRivers$Raft;)V"⟩, 18), (⟨"RaftRivers", "today", "()I"⟩, 18), (⟨"RaftRivers", "makePlan", "(I)V"⟩, 18), (⟨"RaftRivers$Plan", "sumOfHours", "(LRaftRivers$Station;I)I"⟩, 8), (⟨"RaftRivers$Plan", "keep", "(I)V"⟩, 8)]
theorem lw_r1 : ∀ q ∈ lw_privs_1, lw_okq q := List.forall_mem_cons.mpr ⟨lw_p0, List.forall_mem_cons.mpr ⟨lw_p1, List.forall_mem_cons.mpr ⟨lw_p2, List.forall_mem_cons.mpr ⟨lw_p3, List.forall_mem_cons.mpr ⟨lw_p4, List.forall_mem_cons.mpr ⟨lw_p5, List.forall_mem_cons.mpr ⟨lw_p6, List.forall_mem_cons.mpr ⟨lw_p7, List.forall_mem_cons.mpr ⟨lw_p8, List.forall_mem_cons.mpr ⟨lw_p9, List.forall_mem_cons.mpr ⟨lw_p10, List.forall_mem_cons.mpr ⟨lw_p11, List.forall_mem_cons.mpr ⟨lw_p12, List.forall_mem_cons.mpr ⟨lw_p13, List.forall_mem_cons.mpr ⟨lw_p14, List.forall_mem_cons.mpr ⟨lw_p15, fun _ h => absurd h List.not_mem_nil⟩⟩⟩⟩⟩⟩⟩⟩⟩⟩⟩⟩⟩⟩⟩⟩
theorem lw_p16 : lw_okq (⟨"RaftRivers$Plan", "nextOrder", "()Z"⟩, 8) := ⟨⟨by decide +kernel, by decide +kernel⟩, List.mem_of_getElem? (i := 72) (by decide +kernel), List.mem_of_getElem? (i := 634) (by decide +kernel), List.mem_of_getElem? (i := 635) (by decide +kernel)⟩
theorem lw_p17 : lw_okq (⟨"RaftRivers$Plan", "swap", "(II)V"⟩, 8) := ⟨⟨by decide +kernel, by decide +kernel⟩, List.mem_of_getElem? (i := 72) (by decide +kernel), List.mem_of_getElem? (i := 638) (by decide +kernel), List.mem_of_getElem? (i := 639) (by decide +kernel)⟩
theorem lw_p18 : lw_okq (⟨"RaftRivers", "pondOf", "(I)I"⟩, 18) := ⟨⟨by decide +kernel, by decide +kernel⟩, List.mem_of_getElem? (i := 12) (by decide +kernel), List.mem_of_getElem? (i := 683) (by decide +kernel), List.mem_of_getElem? (i := 684) (by decide +kernel)⟩
theorem lw_p19 : lw_okq (⟨"RaftRiversModel", "isStation", "(I)Z"⟩, 52) := ⟨⟨by decide +kernel, by decide +kernel⟩, List.mem_of_getElem? (i := 687) (by decide +kernel), List.mem_of_getElem? (i := 855) (by decide +kernel), List.mem_of_getElem? (i := 856) (by decide +kernel)⟩
theorem lw_p20 : lw_okq (⟨"RaftRiversModel", "isTrunk", "(I)Z"⟩, 52) := ⟨⟨by decide +kernel, by decide +kernel⟩, List.mem_of_getElem? (i := 687) (by decide +kernel), List.mem_of_getElem? (i := 877) (by decide +kernel), List.mem_of_getElem? (i := 878) (by decide +kernel)⟩
theorem lw_p21 : lw_okq (⟨"RaftRiversModel", "isNext", "(I)Z"⟩, 52) := ⟨⟨by decide +kernel, by decide +kernel⟩, List.mem_of_getElem? (i := 687) (by decide +kernel), List.mem_of_getElem? (i := 881) (by decide +kernel), List.mem_of_getElem? (i := 882) (by decide +kernel)⟩
theorem lw_p22 : lw_okq (⟨"RaftRiversModel", "newRaft", "(I)I"⟩, 52) := ⟨⟨by decide +kernel, by decide +kernel⟩, List.mem_of_getElem? (i := 687) (by decide +kernel), List.mem_of_getElem? (i := 889) (by decide +kernel), List.mem_of_getElem? (i := 890) (by decide +kernel)⟩
theorem lw_p23 : lw_okq (⟨"RaftRiversModel", "isRaft", "(II)Z"⟩, 52) := ⟨⟨by decide +kernel, by decide +kernel⟩, List.mem_of_getElem? (i := 687) (by decide +kernel), List.mem_of_getElem? (i := 897) (by decide +kernel), List.mem_of_getElem? (i := 898) (by decide +kernel)⟩
theorem lw_p24 : lw_okq (⟨"RaftRiversModel", "isOf", "(II)Z"⟩, 52) := ⟨⟨by decide +kernel, by decide +kernel⟩, List.mem_of_getElem? (i := 687) (by decide +kernel), List.mem_of_getElem? (i := 901) (by decide +kernel), List.mem_of_getElem? (i := 902) (by decide +kernel)⟩
theorem lw_p25 : lw_okq (⟨"RaftRiversModel", "ends", "(I)V"⟩, 52) := ⟨⟨by decide +kernel, by decide +kernel⟩, List.mem_of_getElem? (i := 687) (by decide +kernel), List.mem_of_getElem? (i := 905) (by decide +kernel), List.mem_of_getElem? (i := 906) (by decide +kernel)⟩
theorem lw_p26 : lw_okq (⟨"RaftRiversModel", "lays", "(II)V"⟩, 52) := ⟨⟨by decide +kernel, by decide +kernel⟩, List.mem_of_getElem? (i := 687) (by decide +kernel), List.mem_of_getElem? (i := 917) (by decide +kernel), List.mem_of_getElem? (i := 918) (by decide +kernel)⟩
theorem lw_p27 : lw_okq (⟨"RaftRiversModel", "isResting", "(I)Z"⟩, 52) := ⟨⟨by decide +kernel, by decide +kernel⟩, List.mem_of_getElem? (i := 687) (by decide +kernel), List.mem_of_getElem? (i := 929) (by decide +kernel), List.mem_of_getElem? (i := 930) (by decide +kernel)⟩
theorem lw_p28 : lw_okq (⟨"RaftRiversModel", "lands", "(III)V"⟩, 52) := ⟨⟨by decide +kernel, by decide +kernel⟩, List.mem_of_getElem? (i := 687) (by decide +kernel), List.mem_of_getElem? (i := 937) (by decide +kernel), List.mem_of_getElem? (i := 938) (by decide +kernel)⟩
theorem lw_p29 : lw_okq (⟨"RaftRiversModel", "arrivals", "()V"⟩, 52) := ⟨⟨by decide +kernel, by decide +kernel⟩, List.mem_of_getElem? (i := 687) (by decide +kernel), List.mem_of_getElem? (i := 949) (by decide +kernel), List.mem_of_getElem? (i := 950) (by decide +kernel)⟩
theorem lw_p30 : lw_okq (⟨"RaftRiversModel", "weir", "(I)V"⟩, 52) := ⟨⟨by decide +kernel, by decide +kernel⟩, List.mem_of_getElem? (i := 687) (by decide +kernel), List.mem_of_getElem? (i := 953) (by decide +kernel), List.mem_of_getElem? (i := 954) (by decide +kernel)⟩
theorem lw_p31 : lw_okq (⟨"RaftRiversModel", "width", "(I)I"⟩, 52) := ⟨⟨by decide +kernel, by decide +kernel⟩, List.mem_of_getElem? (i := 687) (by decide +kernel), List.mem_of_getElem? (i := 957) (by decide +kernel), List.mem_of_getElem? (i := 958) (by decide +kernel)⟩
def lw_privs_2 : List (MethodName × Nat) := [(⟨"RaftRivers$Plan", "nextOrder", "()Z"⟩, 8), (⟨"RaftRivers$Plan", "swap", "(II)V"⟩, 8), (⟨"RaftRivers", "pondOf", "(I)I"⟩, 18), (⟨"RaftRiversModel", "isStation", "(I)Z"⟩, 52), (⟨"RaftRiversModel", "isTrunk", "(I)Z"⟩, 52), (⟨"RaftRiversModel", "isNext", "(I)Z"⟩, 52), (⟨"RaftRiversModel", "newRaft", "(I)I"⟩, 52), (⟨"RaftRiversModel", "isRaft", "(II)Z"⟩, 52), (⟨"RaftRiversModel", "isOf", "(II)Z"⟩, 52), (⟨"RaftRiversModel", "ends", "(I)V"⟩, 52), (⟨"RaftRiversModel", "lays", "(II)V"⟩, 52), (⟨"RaftRiversModel", "isResting", "(I)Z"⟩, 52), (⟨"RaftRiversModel", "lands", "(III)V"⟩, 52), (⟨"RaftRiversModel", "arrivals", "()V"⟩, 52), (⟨"RaftRiversModel", "weir", "(I)V"⟩, 52), (⟨"RaftRiversModel", "width", "(I)I"⟩, 52)]
theorem lw_r2 : ∀ q ∈ lw_privs_2, lw_okq q := List.forall_mem_cons.mpr ⟨lw_p16, List.forall_mem_cons.mpr ⟨lw_p17, List.forall_mem_cons.mpr ⟨lw_p18, List.forall_mem_cons.mpr ⟨lw_p19, List.forall_mem_cons.mpr ⟨lw_p20, List.forall_mem_cons.mpr ⟨lw_p21, List.forall_mem_cons.mpr ⟨lw_p22, List.forall_mem_cons.mpr ⟨lw_p23, List.forall_mem_cons.mpr ⟨lw_p24, List.forall_mem_cons.mpr ⟨lw_p25, List.forall_mem_cons.mpr ⟨lw_p26, List.forall_mem_cons.mpr ⟨lw_p27, List.forall_mem_cons.mpr ⟨lw_p28, List.forall_mem_cons.mpr ⟨lw_p29, List.forall_mem_cons.mpr ⟨lw_p30, List.forall_mem_cons.mpr ⟨lw_p31, fun _ h => absurd h List.not_mem_nil⟩⟩⟩⟩⟩⟩⟩⟩⟩⟩⟩⟩⟩⟩⟩⟩
theorem lw_p32 : lw_okq (⟨"RaftRiversModel", "isAhead", "(II)Z"⟩, 52) := ⟨⟨by decide +kernel, by decide +kernel⟩, List.mem_of_getElem? (i := 687) (by decide +kernel), List.mem_of_getElem? (i := 961) (by decide +kernel), List.mem_of_getElem? (i := 962) (by decide +kernel)⟩
theorem lw_p33 : lw_okq (⟨"RaftRiversModel", "first", "(I)I"⟩, 52) := ⟨⟨by decide +kernel, by decide +kernel⟩, List.mem_of_getElem? (i := 687) (by decide +kernel), List.mem_of_getElem? (i := 965) (by decide +kernel), List.mem_of_getElem? (i := 966) (by decide +kernel)⟩
theorem lw_p34 : lw_okq (⟨"RaftRiversModel", "many", "(I)I"⟩, 52) := ⟨⟨by decide +kernel, by decide +kernel⟩, List.mem_of_getElem? (i := 687) (by decide +kernel), List.mem_of_getElem? (i := 969) (by decide +kernel), List.mem_of_getElem? (i := 970) (by decide +kernel)⟩
theorem lw_p35 : lw_okq (⟨"RaftRiversModel", "tollOf", "(I)I"⟩, 52) := ⟨⟨by decide +kernel, by decide +kernel⟩, List.mem_of_getElem? (i := 687) (by decide +kernel), List.mem_of_getElem? (i := 973) (by decide +kernel), List.mem_of_getElem? (i := 974) (by decide +kernel)⟩
theorem lw_p36 : lw_okq (⟨"RaftRiversModel", "priceNow", "(II)I"⟩, 52) := ⟨⟨by decide +kernel, by decide +kernel⟩, List.mem_of_getElem? (i := 687) (by decide +kernel), List.mem_of_getElem? (i := 1001) (by decide +kernel), List.mem_of_getElem? (i := 1002) (by decide +kernel)⟩
theorem lw_p37 : lw_okq (⟨"RaftRiversModel", "tries", "(I)I"⟩, 52) := ⟨⟨by decide +kernel, by decide +kernel⟩, List.mem_of_getElem? (i := 687) (by decide +kernel), List.mem_of_getElem? (i := 1018) (by decide +kernel), List.mem_of_getElem? (i := 1019) (by decide +kernel)⟩
theorem lw_p38 : lw_okq (⟨"RaftRiversModel", "orders", "(II)V"⟩, 52) := ⟨⟨by decide +kernel, by decide +kernel⟩, List.mem_of_getElem? (i := 687) (by decide +kernel), List.mem_of_getElem? (i := 1022) (by decide +kernel), List.mem_of_getElem? (i := 1023) (by decide +kernel)⟩
theorem lw_p39 : lw_okq (⟨"RaftRiversModel", "sumOf", "(II)I"⟩, 52) := ⟨⟨by decide +kernel, by decide +kernel⟩, List.mem_of_getElem? (i := 687) (by decide +kernel), List.mem_of_getElem? (i := 1026) (by decide +kernel), List.mem_of_getElem? (i := 1027) (by decide +kernel)⟩
def lw_privs_3 : List (MethodName × Nat) := [(⟨"RaftRiversModel", "isAhead", "(II)Z"⟩, 52), (⟨"RaftRiversModel", "first", "(I)I"⟩, 52), (⟨"RaftRiversModel", "many", "(I)I"⟩, 52), (⟨"RaftRiversModel", "tollOf", "(I)I"⟩, 52), (⟨"RaftRiversModel", "priceNow", "(II)I"⟩, 52), (⟨"RaftRiversModel", "tries", "(I)I"⟩, 52), (⟨"RaftRiversModel", "orders", "(II)V"⟩, 52), (⟨"RaftRiversModel", "sumOf", "(II)I"⟩, 52)]
theorem lw_r3 : ∀ q ∈ lw_privs_3, lw_okq q := List.forall_mem_cons.mpr ⟨lw_p32, List.forall_mem_cons.mpr ⟨lw_p33, List.forall_mem_cons.mpr ⟨lw_p34, List.forall_mem_cons.mpr ⟨lw_p35, List.forall_mem_cons.mpr ⟨lw_p36, List.forall_mem_cons.mpr ⟨lw_p37, List.forall_mem_cons.mpr ⟨lw_p38, List.forall_mem_cons.mpr ⟨lw_p39, fun _ h => absurd h List.not_mem_nil⟩⟩⟩⟩⟩⟩⟩⟩
def lw_privs : List (MethodName × Nat) := lw_privs_1 ++ (lw_privs_2 ++ (lw_privs_3))
def lw_tbl : List Cond := k2_sels lw_privs ++ tables_1
theorem lw_privs_ok : ∀ q ∈ lw_privs, lw_okq q := by
  show ∀ q ∈ lw_privs_1 ++ (lw_privs_2 ++ (lw_privs_3)), lw_okq q
  exact List.forall_mem_append.mpr ⟨lw_r1, List.forall_mem_append.mpr ⟨lw_r2, lw_r3⟩⟩
end
section
def RX0 : String := "RaftRivers$Crew"
def TX0 : u_T := fun k => match k with
  | 0 => ("RaftRivers$Crew", "number", "I", true)
  | 1 => ("RaftRivers$Crew", "home", "LRaftRivers$Station;", true)
  | 2 => ("RaftRivers$Crew", "station", "LRaftRivers$Station;", false)
  | 3 => ("RaftRivers$Crew", "raft", "LRaftRivers$Raft;", false)
  | 4 => ("RaftRivers$Crew", "comesHome", "I", false)
  | _ => ("RaftRivers$Crew", "came", "I", false)
def tyX0 : Nat → FieldType := fun k => match k with
  | 0 => .int
  | 1 => .object "RaftRivers$Station"
  | 2 => .object "RaftRivers$Station"
  | 3 => .object "RaftRivers$Raft"
  | 4 => .int
  | _ => .int
abbrev wsX00 : List Cond := u_ws RX0 TX0 6
theorem nmX0 : ∀ a, a < 6 → ∀ b, b < 6 → a ≠ b → (TX0 a).2.1 ≠ (TX0 b).2.1 := by decide +kernel
theorem tyX0_ok : ∀ k, k < 6 → parseFieldDescriptor (TX0 k).2.2.1 = some (tyX0 k) := by decide +kernel
abbrev cX0_init : ByteArray := prog_2_method_1_code
def yX0_init : MethodName := ⟨RX0, "<init>", "(ILRaftRivers$Station;)V"⟩
abbrev cX0_state : ByteArray := prog_2_method_2_code
def yX0_state : MethodName := ⟨RX0, "state", "()I"⟩
abbrev cX0_rests : ByteArray := prog_2_method_3_code
def yX0_rests : MethodName := ⟨RX0, "rests", "(I)Z"⟩
abbrev cX0_board : ByteArray := prog_2_method_4_code
def yX0_board : MethodName := ⟨RX0, "board", "(LRaftRivers$Raft;)V"⟩
abbrev cX0_comeBy : ByteArray := prog_2_method_5_code
def yX0_comeBy : MethodName := ⟨RX0, "comeBy", "(I)V"⟩
def RX1 : String := "RaftRivers$Plan"
def TX1 : u_T := fun k => match k with
  | 0 => ("RaftRivers$Plan", "rafts", "[LRaftRivers$Raft;", true)
  | 1 => ("RaftRivers$Plan", "order", "[I", true)
  | 2 => ("RaftRivers$Plan", "hours", "[I", true)
  | 3 => ("RaftRivers$Plan", "bestOrder", "[I", true)
  | 4 => ("RaftRivers$Plan", "bestHours", "[I", true)
  | 5 => ("RaftRivers$Plan", "admitted", "I", false)
  | 6 => ("RaftRivers$Plan", "planned", "I", false)
  | _ => ("RaftRivers$Plan", "leastSum", "I", false)
def tyX1 : Nat → FieldType := fun k => match k with
  | 0 => .array (.object "RaftRivers$Raft")
  | 1 => .array .int
  | 2 => .array .int
  | 3 => .array .int
  | 4 => .array .int
  | 5 => .int
  | 6 => .int
  | _ => .int
abbrev wsX10 : List Cond := u_ws RX1 TX1 8
theorem nmX1 : ∀ a, a < 8 → ∀ b, b < 8 → a ≠ b → (TX1 a).2.1 ≠ (TX1 b).2.1 := by decide +kernel
theorem tyX1_ok : ∀ k, k < 8 → parseFieldDescriptor (TX1 k).2.2.1 = some (tyX1 k) := by decide +kernel
abbrev cX1_init : ByteArray := prog_3_method_1_code
def yX1_init : MethodName := ⟨RX1, "<init>", "()V"⟩
abbrev cX1_clear : ByteArray := prog_3_method_2_code
def yX1_clear : MethodName := ⟨RX1, "clear", "()V"⟩
abbrev cX1_admit : ByteArray := prog_3_method_3_code
def yX1_admit : MethodName := ⟨RX1, "admit", "(LRaftRivers$Raft;)V"⟩
abbrev cX1_raftIn : ByteArray := prog_3_method_4_code
def yX1_raftIn : MethodName := ⟨RX1, "raftIn", "(I)I"⟩
abbrev cX1_hourOf : ByteArray := prog_3_method_5_code
def yX1_hourOf : MethodName := ⟨RX1, "hourOf", "(I)I"⟩
abbrev cX1_work : ByteArray := prog_3_method_6_code
def yX1_work : MethodName := ⟨RX1, "work", "(LRaftRivers$Station;I)V"⟩
abbrev cX1_keep : ByteArray := prog_3_method_7_code
def yX1_keep : MethodName := ⟨RX1, "keep", "(I)V"⟩
abbrev cX1_sumOfHours : ByteArray := prog_3_method_8_code
def yX1_sumOfHours : MethodName := ⟨RX1, "sumOfHours", "(LRaftRivers$Station;I)I"⟩
abbrev cX1_hoursToFill : ByteArray := prog_3_method_9_code
def yX1_hoursToFill : MethodName := ⟨RX1, "hoursToFill", "(II)I"⟩
abbrev cX1_nextOrder : ByteArray := prog_3_method_10_code
def yX1_nextOrder : MethodName := ⟨RX1, "nextOrder", "()Z"⟩
abbrev cX1_swap : ByteArray := prog_3_method_11_code
def yX1_swap : MethodName := ⟨RX1, "swap", "(II)V"⟩
def RX2 : String := "RaftRivers$Raft"
def TX2 : u_T := fun k => match k with
  | 0 => ("RaftRivers$Raft", "number", "I", true)
  | 1 => ("RaftRivers$Raft", "rows", "[LRaftRivers$Row;", true)
  | 2 => ("RaftRivers$Raft", "size", "I", false)
  | 3 => ("RaftRivers$Raft", "station", "LRaftRivers$Station;", false)
  | 4 => ("RaftRivers$Raft", "crew", "LRaftRivers$Crew;", false)
  | _ => ("RaftRivers$Raft", "comes", "I", false)
def tyX2 : Nat → FieldType := fun k => match k with
  | 0 => .int
  | 1 => .array (.object "RaftRivers$Row")
  | 2 => .int
  | 3 => .object "RaftRivers$Station"
  | 4 => .object "RaftRivers$Crew"
  | _ => .int
abbrev wsX20 : List Cond := u_ws RX2 TX2 6
theorem nmX2 : ∀ a, a < 6 → ∀ b, b < 6 → a ≠ b → (TX2 a).2.1 ≠ (TX2 b).2.1 := by decide +kernel
theorem tyX2_ok : ∀ k, k < 6 → parseFieldDescriptor (TX2 k).2.2.1 = some (tyX2 k) := by decide +kernel
abbrev cX2_init : ByteArray := prog_4_method_1_code
def yX2_init : MethodName := ⟨RX2, "<init>", "(ILRaftRivers$Station;)V"⟩
abbrev cX2_state : ByteArray := prog_4_method_2_code
def yX2_state : MethodName := ⟨RX2, "state", "()I"⟩
abbrev cX2_need : ByteArray := prog_4_method_3_code
def yX2_need : MethodName := ⟨RX2, "need", "()I"⟩
abbrev cX2_width : ByteArray := prog_4_method_4_code
def yX2_width : MethodName := ⟨RX2, "width", "()I"⟩
abbrev cX2_trunkCount : ByteArray := prog_4_method_5_code
def yX2_trunkCount : MethodName := ⟨RX2, "trunkCount", "()I"⟩
abbrev cX2_firstTrunk : ByteArray := prog_4_method_6_code
def yX2_firstTrunk : MethodName := ⟨RX2, "firstTrunk", "()LRaftRivers$Trunk;"⟩
abbrev cX2_fits : ByteArray := prog_4_method_7_code
def yX2_fits : MethodName := ⟨RX2, "fits", "(LRaftRivers$Station;)Z"⟩
abbrev cX2_append : ByteArray := prog_4_method_8_code
def yX2_append : MethodName := ⟨RX2, "append", "(LRaftRivers$Row;)V"⟩
abbrev cX2_moveRows : ByteArray := prog_4_method_9_code
def yX2_moveRows : MethodName := ⟨RX2, "moveRows", "(ILRaftRivers$Raft;)V"⟩
abbrev cX2_end : ByteArray := prog_4_method_10_code
def yX2_end : MethodName := ⟨RX2, "end", "()V"⟩
abbrev cX2_goDown : ByteArray := prog_4_method_11_code
def yX2_goDown : MethodName := ⟨RX2, "goDown", "(LRaftRivers$Station;I)V"⟩
abbrev cX2_landCrew : ByteArray := prog_4_method_12_code
def yX2_landCrew : MethodName := ⟨RX2, "landCrew", "()LRaftRivers$Crew;"⟩
abbrev cX2_loseTrunks : ByteArray := prog_4_method_13_code
def yX2_loseTrunks : MethodName := ⟨RX2, "loseTrunks", "(I)I"⟩
abbrev cX2_scatter : ByteArray := prog_4_method_14_code
def yX2_scatter : MethodName := ⟨RX2, "scatter", "()V"⟩
def RX3 : String := "RaftRivers$Row"
def TX3 : u_T := fun k => match k with
  | 0 => ("RaftRivers$Row", "trunks", "[LRaftRivers$Trunk;", true)
  | 1 => ("RaftRivers$Row", "size", "I", false)
  | _ => ("RaftRivers$Row", "width", "I", false)
def tyX3 : Nat → FieldType := fun k => match k with
  | 0 => .array (.object "RaftRivers$Trunk")
  | 1 => .int
  | _ => .int
abbrev wsX30 : List Cond := u_ws RX3 TX3 3
theorem nmX3 : ∀ a, a < 3 → ∀ b, b < 3 → a ≠ b → (TX3 a).2.1 ≠ (TX3 b).2.1 := by decide +kernel
theorem tyX3_ok : ∀ k, k < 3 → parseFieldDescriptor (TX3 k).2.2.1 = some (tyX3 k) := by decide +kernel
abbrev cX3_init : ByteArray := prog_5_method_1_code
def yX3_init : MethodName := ⟨RX3, "<init>", "()V"⟩
abbrev cX3_first : ByteArray := prog_5_method_2_code
def yX3_first : MethodName := ⟨RX3, "first", "()LRaftRivers$Trunk;"⟩
abbrev cX3_has : ByteArray := prog_5_method_3_code
def yX3_has : MethodName := ⟨RX3, "has", "(LRaftRivers$Trunk;)Z"⟩
abbrev cX3_takes : ByteArray := prog_5_method_4_code
def yX3_takes : MethodName := ⟨RX3, "takes", "(LRaftRivers$Trunk;)Z"⟩
abbrev cX3_append : ByteArray := prog_5_method_5_code
def yX3_append : MethodName := ⟨RX3, "append", "(LRaftRivers$Trunk;)V"⟩
abbrev cX3_belongTo : ByteArray := prog_5_method_6_code
def yX3_belongTo : MethodName := ⟨RX3, "belongTo", "(LRaftRivers$Raft;)V"⟩
abbrev cX3_lieAt : ByteArray := prog_5_method_7_code
def yX3_lieAt : MethodName := ⟨RX3, "lieAt", "(LRaftRivers$Station;)V"⟩
abbrev cX3_loseTrunks : ByteArray := prog_5_method_8_code
def yX3_loseTrunks : MethodName := ⟨RX3, "loseTrunks", "(I)I"⟩
def RX4 : String := "RaftRivers$Station"
def TX4 : u_T := fun k => match k with
  | 0 => ("RaftRivers$Station", "number", "I", true)
  | 1 => ("RaftRivers$Station", "below", "LRaftRivers$Station;", true)
  | 2 => ("RaftRivers$Station", "hours", "I", true)
  | 3 => ("RaftRivers$Station", "wide", "I", true)
  | 4 => ("RaftRivers$Station", "inflow", "I", true)
  | 5 => ("RaftRivers$Station", "holds", "I", true)
  | 6 => ("RaftRivers$Station", "city", "Z", true)
  | 7 => ("RaftRivers$Station", "pond", "I", false)
  | 8 => ("RaftRivers$Station", "stormFrom", "I", false)
  | _ => ("RaftRivers$Station", "stormTo", "I", false)
def tyX4 : Nat → FieldType := fun k => match k with
  | 0 => .int
  | 1 => .object "RaftRivers$Station"
  | 2 => .int
  | 3 => .int
  | 4 => .int
  | 5 => .int
  | 6 => .boolean
  | 7 => .int
  | 8 => .int
  | _ => .int
abbrev wsX40 : List Cond := u_ws RX4 TX4 10
theorem nmX4 : ∀ a, a < 10 → ∀ b, b < 10 → a ≠ b → (TX4 a).2.1 ≠ (TX4 b).2.1 := by decide +kernel
theorem tyX4_ok : ∀ k, k < 10 → parseFieldDescriptor (TX4 k).2.2.1 = some (tyX4 k) := by decide +kernel
abbrev cX4_init : ByteArray := prog_6_method_1_code
def yX4_init : MethodName := ⟨RX4, "<init>", "(ILRaftRivers$Station;IIZ)V"⟩
abbrev cX4_canBe : ByteArray := prog_6_method_2_code
def yX4_canBe : MethodName := ⟨RX4, "canBe", "(II)Z"⟩
abbrev cX4_storms : ByteArray := prog_6_method_3_code
def yX4_storms : MethodName := ⟨RX4, "storms", "(I)Z"⟩
abbrev cX4_fillPond : ByteArray := prog_6_method_4_code
def yX4_fillPond : MethodName := ⟨RX4, "fillPond", "()V"⟩
abbrev cX4_hoursDownTo : ByteArray := prog_6_method_5_code
def yX4_hoursDownTo : MethodName := ⟨RX4, "hoursDownTo", "(LRaftRivers$Station;)I"⟩
def RX5 : String := "RaftRivers$Tariff"
def TX5 : u_T := fun k => match k with
  | 0 => ("RaftRivers$Tariff", "keys", "[I", true)
  | 1 => ("RaftRivers$Tariff", "days", "[I", true)
  | 2 => ("RaftRivers$Tariff", "sums", "[I", true)
  | _ => ("RaftRivers$Tariff", "size", "I", false)
def tyX5 : Nat → FieldType := fun k => match k with
  | 0 => .array .int
  | 1 => .array .int
  | 2 => .array .int
  | _ => .int
abbrev wsX50 : List Cond := u_ws RX5 TX5 4
theorem nmX5 : ∀ a, a < 4 → ∀ b, b < 4 → a ≠ b → (TX5 a).2.1 ≠ (TX5 b).2.1 := by decide +kernel
theorem tyX5_ok : ∀ k, k < 4 → parseFieldDescriptor (TX5 k).2.2.1 = some (tyX5 k) := by decide +kernel
abbrev cX5_init : ByteArray := prog_7_method_1_code
def yX5_init : MethodName := ⟨RX5, "<init>", "(I)V"⟩
abbrev cX5_tell : ByteArray := prog_7_method_2_code
def yX5_tell : MethodName := ⟨RX5, "tell", "(III)Z"⟩
abbrev cX5_inForce : ByteArray := prog_7_method_3_code
def yX5_inForce : MethodName := ⟨RX5, "inForce", "(II)I"⟩
def RX6 : String := "RaftRivers$Trunk"
def TX6 : u_T := fun k => match k with
  | 0 => ("RaftRivers$Trunk", "number", "I", true)
  | 1 => ("RaftRivers$Trunk", "mark", "I", true)
  | 2 => ("RaftRivers$Trunk", "owner", "I", true)
  | 3 => ("RaftRivers$Trunk", "sort", "I", true)
  | 4 => ("RaftRivers$Trunk", "thickness", "I", true)
  | 5 => ("RaftRivers$Trunk", "station", "LRaftRivers$Station;", false)
  | 6 => ("RaftRivers$Trunk", "raft", "LRaftRivers$Raft;", false)
  | _ => ("RaftRivers$Trunk", "soldFor", "I", false)
def tyX6 : Nat → FieldType := fun k => match k with
  | 0 => .int
  | 1 => .int
  | 2 => .int
  | 3 => .int
  | 4 => .int
  | 5 => .object "RaftRivers$Station"
  | 6 => .object "RaftRivers$Raft"
  | _ => .int
abbrev wsX60 : List Cond := u_ws RX6 TX6 8
theorem nmX6 : ∀ a, a < 8 → ∀ b, b < 8 → a ≠ b → (TX6 a).2.1 ≠ (TX6 b).2.1 := by decide +kernel
theorem tyX6_ok : ∀ k, k < 8 → parseFieldDescriptor (TX6 k).2.2.1 = some (tyX6 k) := by decide +kernel
abbrev cX6_init : ByteArray := prog_8_method_1_code
def yX6_init : MethodName := ⟨RX6, "<init>", "(IIILRaftRivers$Station;)V"⟩
abbrev cX6_canBe : ByteArray := prog_8_method_2_code
def yX6_canBe : MethodName := ⟨RX6, "canBe", "(I)Z"⟩
abbrev cX6_state : ByteArray := prog_8_method_3_code
def yX6_state : MethodName := ⟨RX6, "state", "()I"⟩
def RX7 : String := "RaftRivers"
def TX7 : u_T := fun k => match k with
  | 0 => ("RaftRivers", "stations", "[LRaftRivers$Station;", true)
  | 1 => ("RaftRivers", "stationCount", "I", false)
  | 2 => ("RaftRivers", "trunks", "[LRaftRivers$Trunk;", true)
  | 3 => ("RaftRivers", "trunkCount", "I", false)
  | 4 => ("RaftRivers", "rafts", "[LRaftRivers$Raft;", true)
  | 5 => ("RaftRivers", "raftCount", "I", false)
  | 6 => ("RaftRivers", "crews", "[LRaftRivers$Crew;", true)
  | 7 => ("RaftRivers", "crewCount", "I", false)
  | 8 => ("RaftRivers", "nextRow", "LRaftRivers$Row;", false)
  | 9 => ("RaftRivers", "tolls", "LRaftRivers$Tariff;", true)
  | 10 => ("RaftRivers", "prices", "LRaftRivers$Tariff;", true)
  | 11 => ("RaftRivers", "rights", "[I", true)
  | 12 => ("RaftRivers", "balances", "[I", true)
  | 13 => ("RaftRivers", "plan", "LRaftRivers$Plan;", true)
  | 14 => ("RaftRivers", "now", "I", false)
  | 15 => ("RaftRivers", "tollsTaken", "I", false)
  | 16 => ("RaftRivers", "trunksSold", "I", false)
  | _ => ("RaftRivers", "trunksLost", "I", false)
def tyX7 : Nat → FieldType := fun k => match k with
  | 0 => .array (.object "RaftRivers$Station")
  | 1 => .int
  | 2 => .array (.object "RaftRivers$Trunk")
  | 3 => .int
  | 4 => .array (.object "RaftRivers$Raft")
  | 5 => .int
  | 6 => .array (.object "RaftRivers$Crew")
  | 7 => .int
  | 8 => .object "RaftRivers$Row"
  | 9 => .object "RaftRivers$Tariff"
  | 10 => .object "RaftRivers$Tariff"
  | 11 => .array .int
  | 12 => .array .int
  | 13 => .object "RaftRivers$Plan"
  | 14 => .int
  | 15 => .int
  | 16 => .int
  | _ => .int
abbrev wsX70 : List Cond := u_ws RX7 TX7 18
theorem nmX7 : ∀ a, a < 18 → ∀ b, b < 18 → a ≠ b → (TX7 a).2.1 ≠ (TX7 b).2.1 := by decide +kernel
theorem tyX7_ok : ∀ k, k < 18 → parseFieldDescriptor (TX7 k).2.2.1 = some (tyX7 k) := by decide +kernel
abbrev cX7_init : ByteArray := prog_1_method_1_code
def yX7_init : MethodName := ⟨RX7, "<init>", "()V"⟩
abbrev cX7_station : ByteArray := prog_1_method_2_code
def yX7_station : MethodName := ⟨RX7, "station", "(IIIZ)I"⟩
abbrev cX7_trunk : ByteArray := prog_1_method_3_code
def yX7_trunk : MethodName := ⟨RX7, "trunk", "(III)I"⟩
abbrev cX7_find : ByteArray := prog_1_method_4_code
def yX7_find : MethodName := ⟨RX7, "find", "(I)I"⟩
abbrev cX7_put : ByteArray := prog_1_method_5_code
def yX7_put : MethodName := ⟨RX7, "put", "(I)I"⟩
abbrev cX7_bind : ByteArray := prog_1_method_6_code
def yX7_bind : MethodName := ⟨RX7, "bind", "()I"⟩
abbrev cX7_join : ByteArray := prog_1_method_7_code
def yX7_join : MethodName := ⟨RX7, "join", "(II)Z"⟩
abbrev cX7_part : ByteArray := prog_1_method_8_code
def yX7_part : MethodName := ⟨RX7, "part", "(II)I"⟩
abbrev cX7_unbind : ByteArray := prog_1_method_9_code
def yX7_unbind : MethodName := ⟨RX7, "unbind", "(I)Z"⟩
abbrev cX7_crew : ByteArray := prog_1_method_10_code
def yX7_crew : MethodName := ⟨RX7, "crew", "(I)I"⟩
abbrev cX7_ready : ByteArray := prog_1_method_11_code
def yX7_ready : MethodName := ⟨RX7, "ready", "(II)Z"⟩
abbrev cX7_tie : ByteArray := prog_1_method_12_code
def yX7_tie : MethodName := ⟨RX7, "tie", "(I)Z"⟩
abbrev cX7_walk : ByteArray := prog_1_method_13_code
def yX7_walk : MethodName := ⟨RX7, "walk", "(I)I"⟩
abbrev cX7_go : ByteArray := prog_1_method_14_code
def yX7_go : MethodName := ⟨RX7, "go", "(I)I"⟩
abbrev cX7_passHour : ByteArray := prog_1_method_15_code
def yX7_passHour : MethodName := ⟨RX7, "passHour", "()V"⟩
abbrev cX7_openWeir : ByteArray := prog_1_method_16_code
def yX7_openWeir : MethodName := ⟨RX7, "openWeir", "(LRaftRivers$Station;)V"⟩
abbrev cX7_nextAt : ByteArray := prog_1_method_17_code
def yX7_nextAt : MethodName := ⟨RX7, "nextAt", "(LRaftRivers$Station;)LRaftRivers$Raft;"⟩
abbrev cX7_goesAhead : ByteArray := prog_1_method_18_code
def yX7_goesAhead : MethodName := ⟨RX7, "goesAhead", "(LRaftRivers$Raft;LRaftRivers$Raft;)Z"⟩
abbrev cX7_rightOf : ByteArray := prog_1_method_19_code
def yX7_rightOf : MethodName := ⟨RX7, "rightOf", "(LRaftRivers$Raft;)I"⟩
abbrev cX7_takeTolls : ByteArray := prog_1_method_20_code
def yX7_takeTolls : MethodName := ⟨RX7, "takeTolls", "(LRaftRivers$Raft;)V"⟩
abbrev cX7_storm : ByteArray := prog_1_method_21_code
def yX7_storm : MethodName := ⟨RX7, "storm", "(III)Z"⟩
abbrev cX7_breaks : ByteArray := prog_1_method_22_code
def yX7_breaks : MethodName := ⟨RX7, "breaks", "(IZ)I"⟩
abbrev cX7_right : ByteArray := prog_1_method_23_code
def yX7_right : MethodName := ⟨RX7, "right", "(II)Z"⟩
abbrev cX7_toll : ByteArray := prog_1_method_24_code
def yX7_toll : MethodName := ⟨RX7, "toll", "(II)Z"⟩
abbrev cX7_price : ByteArray := prog_1_method_25_code
def yX7_price : MethodName := ⟨RX7, "price", "(IIII)Z"⟩
abbrev cX7_sell : ByteArray := prog_1_method_26_code
def yX7_sell : MethodName := ⟨RX7, "sell", "(I)I"⟩
abbrev cX7_advance : ByteArray := prog_1_method_27_code
def yX7_advance : MethodName := ⟨RX7, "advance", "(II)I"⟩
abbrev cX7_balance : ByteArray := prog_1_method_28_code
def yX7_balance : MethodName := ⟨RX7, "balance", "(I)I"⟩
abbrev cX7_best : ByteArray := prog_1_method_29_code
def yX7_best : MethodName := ⟨RX7, "best", "(II)I"⟩
abbrev cX7_passes : ByteArray := prog_1_method_30_code
def yX7_passes : MethodName := ⟨RX7, "passes", "(II)I"⟩
abbrev cX7_makePlan : ByteArray := prog_1_method_31_code
def yX7_makePlan : MethodName := ⟨RX7, "makePlan", "(I)V"⟩
abbrev cX7_told : ByteArray := prog_1_method_32_code
def yX7_told : MethodName := ⟨RX7, "told", "(II)I"⟩
abbrev cX7_raft : ByteArray := prog_1_method_33_code
def yX7_raft : MethodName := ⟨RX7, "raft", "(II)I"⟩
abbrev cX7_crewed : ByteArray := prog_1_method_34_code
def yX7_crewed : MethodName := ⟨RX7, "crewed", "(II)I"⟩
abbrev cX7_count : ByteArray := prog_1_method_35_code
def yX7_count : MethodName := ⟨RX7, "count", "(I)I"⟩
abbrev cX7_within : ByteArray := prog_1_method_36_code
def yX7_within : MethodName := ⟨RX7, "within", "(III)Z"⟩
abbrev cX7_isOwner : ByteArray := prog_1_method_37_code
def yX7_isOwner : MethodName := ⟨RX7, "isOwner", "(I)Z"⟩
abbrev cX7_numberOf : ByteArray := prog_1_method_38_code
def yX7_numberOf : MethodName := ⟨RX7, "numberOf", "(LRaftRivers$Station;)I"⟩
abbrev cX7_marketOf : ByteArray := prog_1_method_39_code
def yX7_marketOf : MethodName := ⟨RX7, "marketOf", "(LRaftRivers$Station;I)I"⟩
abbrev cX7_today : ByteArray := prog_1_method_40_code
def yX7_today : MethodName := ⟨RX7, "today", "()I"⟩
abbrev cX7_pondOf : ByteArray := prog_1_method_41_code
def yX7_pondOf : MethodName := ⟨RX7, "pondOf", "(I)I"⟩
abbrev cX7_stationAt : ByteArray := prog_1_method_42_code
def yX7_stationAt : MethodName := ⟨RX7, "stationAt", "(I)LRaftRivers$Station;"⟩
abbrev cX7_trunkAt : ByteArray := prog_1_method_43_code
def yX7_trunkAt : MethodName := ⟨RX7, "trunkAt", "(I)LRaftRivers$Trunk;"⟩
abbrev cX7_raftAt : ByteArray := prog_1_method_44_code
def yX7_raftAt : MethodName := ⟨RX7, "raftAt", "(I)LRaftRivers$Raft;"⟩
abbrev cX7_tiedAt : ByteArray := prog_1_method_45_code
def yX7_tiedAt : MethodName := ⟨RX7, "tiedAt", "(I)LRaftRivers$Raft;"⟩
abbrev cX7_crewAt : ByteArray := prog_1_method_46_code
def yX7_crewAt : MethodName := ⟨RX7, "crewAt", "(I)LRaftRivers$Crew;"⟩
abbrev cX7_newRaft : ByteArray := prog_1_method_47_code
def yX7_newRaft : MethodName := ⟨RX7, "newRaft", "(LRaftRivers$Station;)LRaftRivers$Raft;"⟩
def RX8 : String := "RaftRiversModel"
def TX8 : u_T := fun k => match k with
  | 0 => ("RaftRiversModel", "now", "I", false)
  | 1 => ("RaftRiversModel", "stations", "I", false)
  | 2 => ("RaftRiversModel", "below", "[I", true)
  | 3 => ("RaftRiversModel", "hours", "[I", true)
  | 4 => ("RaftRiversModel", "wide", "[I", true)
  | 5 => ("RaftRiversModel", "comesTo", "[I", true)
  | 6 => ("RaftRiversModel", "holds", "[I", true)
  | 7 => ("RaftRiversModel", "pond", "[I", true)
  | 8 => ("RaftRiversModel", "isCity", "[Z", true)
  | 9 => ("RaftRiversModel", "stormFrom", "[I", true)
  | 10 => ("RaftRiversModel", "stormTo", "[I", true)
  | 11 => ("RaftRiversModel", "trunks", "I", false)
  | 12 => ("RaftRiversModel", "mark", "[I", true)
  | 13 => ("RaftRiversModel", "owner", "[I", true)
  | 14 => ("RaftRiversModel", "sort", "[I", true)
  | 15 => ("RaftRiversModel", "thick", "[I", true)
  | 16 => ("RaftRiversModel", "state", "[I", true)
  | 17 => ("RaftRiversModel", "placeOf", "[I", true)
  | 18 => ("RaftRiversModel", "raftOf", "[I", true)
  | 19 => ("RaftRiversModel", "rowOf", "[I", true)
  | 20 => ("RaftRiversModel", "inRow", "[I", true)
  | 21 => ("RaftRiversModel", "soldFor", "[I", true)
  | 22 => ("RaftRiversModel", "nextMany", "I", false)
  | 23 => ("RaftRiversModel", "next", "[I", true)
  | 24 => ("RaftRiversModel", "rafts", "I", false)
  | 25 => ("RaftRiversModel", "raftState", "[I", true)
  | 26 => ("RaftRiversModel", "raftAt", "[I", true)
  | 27 => ("RaftRiversModel", "rows", "[I", true)
  | 28 => ("RaftRiversModel", "crewOf", "[I", true)
  | 29 => ("RaftRiversModel", "arrives", "[I", true)
  | 30 => ("RaftRiversModel", "crews", "I", false)
  | 31 => ("RaftRiversModel", "home", "[I", true)
  | 32 => ("RaftRiversModel", "crewState", "[I", true)
  | 33 => ("RaftRiversModel", "crewAt", "[I", true)
  | 34 => ("RaftRiversModel", "crewFrom", "[I", true)
  | 35 => ("RaftRiversModel", "crewComes", "[I", true)
  | 36 => ("RaftRiversModel", "right", "[I", true)
  | 37 => ("RaftRiversModel", "balance", "[I", true)
  | 38 => ("RaftRiversModel", "tolls", "I", false)
  | 39 => ("RaftRiversModel", "tollDay", "[I", true)
  | 40 => ("RaftRiversModel", "tollSum", "[I", true)
  | 41 => ("RaftRiversModel", "prices", "I", false)
  | 42 => ("RaftRiversModel", "priceCity", "[I", true)
  | 43 => ("RaftRiversModel", "priceSort", "[I", true)
  | 44 => ("RaftRiversModel", "priceDay", "[I", true)
  | 45 => ("RaftRiversModel", "priceOf", "[I", true)
  | 46 => ("RaftRiversModel", "tollsTaken", "I", false)
  | 47 => ("RaftRiversModel", "waits", "[I", true)
  | 48 => ("RaftRiversModel", "order", "[I", true)
  | 49 => ("RaftRiversModel", "passing", "[I", true)
  | 50 => ("RaftRiversModel", "bestOrder", "[I", true)
  | _ => ("RaftRiversModel", "bestPass", "[I", true)
def tyX8 : Nat → FieldType := fun k => match k with
  | 0 => .int
  | 1 => .int
  | 2 => .array .int
  | 3 => .array .int
  | 4 => .array .int
  | 5 => .array .int
  | 6 => .array .int
  | 7 => .array .int
  | 8 => .array .boolean
  | 9 => .array .int
  | 10 => .array .int
  | 11 => .int
  | 12 => .array .int
  | 13 => .array .int
  | 14 => .array .int
  | 15 => .array .int
  | 16 => .array .int
  | 17 => .array .int
  | 18 => .array .int
  | 19 => .array .int
  | 20 => .array .int
  | 21 => .array .int
  | 22 => .int
  | 23 => .array .int
  | 24 => .int
  | 25 => .array .int
  | 26 => .array .int
  | 27 => .array .int
  | 28 => .array .int
  | 29 => .array .int
  | 30 => .int
  | 31 => .array .int
  | 32 => .array .int
  | 33 => .array .int
  | 34 => .array .int
  | 35 => .array .int
  | 36 => .array .int
  | 37 => .array .int
  | 38 => .int
  | 39 => .array .int
  | 40 => .array .int
  | 41 => .int
  | 42 => .array .int
  | 43 => .array .int
  | 44 => .array .int
  | 45 => .array .int
  | 46 => .int
  | 47 => .array .int
  | 48 => .array .int
  | 49 => .array .int
  | 50 => .array .int
  | _ => .array .int
abbrev wsX80 : List Cond := u_ws RX8 TX8 52
theorem nmX8 : ∀ a, a < 52 → ∀ b, b < 52 → a ≠ b → (TX8 a).2.1 ≠ (TX8 b).2.1 := by decide +kernel
theorem tyX8_ok : ∀ k, k < 52 → parseFieldDescriptor (TX8 k).2.2.1 = some (tyX8 k) := by decide +kernel
abbrev cX8_init : ByteArray := prog_10_method_1_code
def yX8_init : MethodName := ⟨RX8, "<init>", "()V"⟩
abbrev cX8_in : ByteArray := prog_10_method_2_code
def yX8_in : MethodName := ⟨RX8, "in", "(III)Z"⟩
abbrev cX8_isStation : ByteArray := prog_10_method_3_code
def yX8_isStation : MethodName := ⟨RX8, "isStation", "(I)Z"⟩
abbrev cX8_isTrunk : ByteArray := prog_10_method_4_code
def yX8_isTrunk : MethodName := ⟨RX8, "isTrunk", "(I)Z"⟩
abbrev cX8_isRaft : ByteArray := prog_10_method_5_code
def yX8_isRaft : MethodName := ⟨RX8, "isRaft", "(II)Z"⟩
abbrev cX8_station : ByteArray := prog_10_method_6_code
def yX8_station : MethodName := ⟨RX8, "station", "(IIIZ)I"⟩
abbrev cX8_trunk : ByteArray := prog_10_method_7_code
def yX8_trunk : MethodName := ⟨RX8, "trunk", "(III)I"⟩
abbrev cX8_find : ByteArray := prog_10_method_8_code
def yX8_find : MethodName := ⟨RX8, "find", "(I)I"⟩
abbrev cX8_isNext : ByteArray := prog_10_method_9_code
def yX8_isNext : MethodName := ⟨RX8, "isNext", "(I)Z"⟩
abbrev cX8_put : ByteArray := prog_10_method_10_code
def yX8_put : MethodName := ⟨RX8, "put", "(I)I"⟩
abbrev cX8_newRaft : ByteArray := prog_10_method_11_code
def yX8_newRaft : MethodName := ⟨RX8, "newRaft", "(I)I"⟩
abbrev cX8_bind : ByteArray := prog_10_method_12_code
def yX8_bind : MethodName := ⟨RX8, "bind", "()I"⟩
abbrev cX8_isOf : ByteArray := prog_10_method_13_code
def yX8_isOf : MethodName := ⟨RX8, "isOf", "(II)Z"⟩
abbrev cX8_join : ByteArray := prog_10_method_14_code
def yX8_join : MethodName := ⟨RX8, "join", "(II)Z"⟩
abbrev cX8_ends : ByteArray := prog_10_method_15_code
def yX8_ends : MethodName := ⟨RX8, "ends", "(I)V"⟩
abbrev cX8_part : ByteArray := prog_10_method_16_code
def yX8_part : MethodName := ⟨RX8, "part", "(II)I"⟩
abbrev cX8_lays : ByteArray := prog_10_method_17_code
def yX8_lays : MethodName := ⟨RX8, "lays", "(II)V"⟩
abbrev cX8_unbind : ByteArray := prog_10_method_18_code
def yX8_unbind : MethodName := ⟨RX8, "unbind", "(I)Z"⟩
abbrev cX8_many : ByteArray := prog_10_method_19_code
def yX8_many : MethodName := ⟨RX8, "many", "(I)I"⟩
abbrev cX8_width : ByteArray := prog_10_method_20_code
def yX8_width : MethodName := ⟨RX8, "width", "(I)I"⟩
abbrev cX8_first : ByteArray := prog_10_method_21_code
def yX8_first : MethodName := ⟨RX8, "first", "(I)I"⟩
abbrev cX8_crew : ByteArray := prog_10_method_22_code
def yX8_crew : MethodName := ⟨RX8, "crew", "(I)I"⟩
abbrev cX8_isResting : ByteArray := prog_10_method_23_code
def yX8_isResting : MethodName := ⟨RX8, "isResting", "(I)Z"⟩
abbrev cX8_ready : ByteArray := prog_10_method_24_code
def yX8_ready : MethodName := ⟨RX8, "ready", "(II)Z"⟩
abbrev cX8_lands : ByteArray := prog_10_method_25_code
def yX8_lands : MethodName := ⟨RX8, "lands", "(III)V"⟩
abbrev cX8_tie : ByteArray := prog_10_method_26_code
def yX8_tie : MethodName := ⟨RX8, "tie", "(I)Z"⟩
abbrev cX8_walk : ByteArray := prog_10_method_27_code
def yX8_walk : MethodName := ⟨RX8, "walk", "(I)I"⟩
abbrev cX8_tollOf : ByteArray := prog_10_method_28_code
def yX8_tollOf : MethodName := ⟨RX8, "tollOf", "(I)I"⟩
abbrev cX8_arrivals : ByteArray := prog_10_method_29_code
def yX8_arrivals : MethodName := ⟨RX8, "arrivals", "()V"⟩
abbrev cX8_isAhead : ByteArray := prog_10_method_30_code
def yX8_isAhead : MethodName := ⟨RX8, "isAhead", "(II)Z"⟩
abbrev cX8_weir : ByteArray := prog_10_method_31_code
def yX8_weir : MethodName := ⟨RX8, "weir", "(I)V"⟩
abbrev cX8_go : ByteArray := prog_10_method_32_code
def yX8_go : MethodName := ⟨RX8, "go", "(I)I"⟩
abbrev cX8_storm : ByteArray := prog_10_method_33_code
def yX8_storm : MethodName := ⟨RX8, "storm", "(III)Z"⟩
abbrev cX8_breaks : ByteArray := prog_10_method_34_code
def yX8_breaks : MethodName := ⟨RX8, "breaks", "(IZ)I"⟩
abbrev cX8_right : ByteArray := prog_10_method_35_code
def yX8_right : MethodName := ⟨RX8, "right", "(II)Z"⟩
abbrev cX8_toll : ByteArray := prog_10_method_36_code
def yX8_toll : MethodName := ⟨RX8, "toll", "(II)Z"⟩
abbrev cX8_price : ByteArray := prog_10_method_37_code
def yX8_price : MethodName := ⟨RX8, "price", "(IIII)Z"⟩
abbrev cX8_priceNow : ByteArray := prog_10_method_38_code
def yX8_priceNow : MethodName := ⟨RX8, "priceNow", "(II)I"⟩
abbrev cX8_sell : ByteArray := prog_10_method_39_code
def yX8_sell : MethodName := ⟨RX8, "sell", "(I)I"⟩
abbrev cX8_advance : ByteArray := prog_10_method_40_code
def yX8_advance : MethodName := ⟨RX8, "advance", "(II)I"⟩
abbrev cX8_balance : ByteArray := prog_10_method_41_code
def yX8_balance : MethodName := ⟨RX8, "balance", "(I)I"⟩
abbrev cX8_tries : ByteArray := prog_10_method_42_code
def yX8_tries : MethodName := ⟨RX8, "tries", "(I)I"⟩
abbrev cX8_sumOf : ByteArray := prog_10_method_43_code
def yX8_sumOf : MethodName := ⟨RX8, "sumOf", "(II)I"⟩
abbrev cX8_orders : ByteArray := prog_10_method_44_code
def yX8_orders : MethodName := ⟨RX8, "orders", "(II)V"⟩
abbrev cX8_best : ByteArray := prog_10_method_45_code
def yX8_best : MethodName := ⟨RX8, "best", "(II)I"⟩
abbrev cX8_passes : ByteArray := prog_10_method_46_code
def yX8_passes : MethodName := ⟨RX8, "passes", "(II)I"⟩
abbrev cX8_told : ByteArray := prog_10_method_47_code
def yX8_told : MethodName := ⟨RX8, "told", "(II)I"⟩
abbrev cX8_raft : ByteArray := prog_10_method_48_code
def yX8_raft : MethodName := ⟨RX8, "raft", "(II)I"⟩
abbrev cX8_crewed : ByteArray := prog_10_method_49_code
def yX8_crewed : MethodName := ⟨RX8, "crewed", "(II)I"⟩
abbrev cX8_count : ByteArray := prog_10_method_50_code
def yX8_count : MethodName := ⟨RX8, "count", "(I)I"⟩
def RJ9 : String := "java/lang/Math"
def TJ9 : u_T := fun k => match k with
  | _ => ("", "", "", false)
def tyJ9 : Nat → FieldType := fun k => match k with
  | _ => .int
abbrev wsJ90 : List Cond := u_ws RJ9 TJ9 0
theorem nmJ9 : ∀ a, a < 0 → ∀ b, b < 0 → a ≠ b → (TJ9 a).2.1 ≠ (TJ9 b).2.1 := by decide +kernel
theorem tyJ9_ok : ∀ k, k < 0 → parseFieldDescriptor (TJ9 k).2.2.1 = some (tyJ9 k) := by decide +kernel
abbrev cJ9_max_7cf53 : ByteArray := prog_11_method_65_code
def yJ9_max_7cf53 : MethodName := ⟨RJ9, "max", "(II)I"⟩
abbrev cJ9_min_7cf53 : ByteArray := prog_11_method_69_code
def yJ9_min_7cf53 : MethodName := ⟨RJ9, "min", "(II)I"⟩
def RL : String := "RaftRiversLaw"
abbrev cL_law : ByteArray := code
def yL_law : MethodName := ⟨RL, "law", "([I)Z"⟩
abbrev vwCl : List vw_C := [(RX0, TX0, 6), (RX1, TX1, 8), (RX2, TX2, 6), (RX3, TX3, 3), (RX4, TX4, 10), (RX5, TX5, 4), (RX6, TX6, 8), (RX7, TX7, 18), (RX8, TX8, 52)]
end
section
theorem dX0_init_0 : decode cX0_init 0 = .ok (.aload_n 0, 1) := by decide +kernel
theorem dX0_init_1 : decode cX0_init 1 = .ok (.invokespecial 3, 3) := by decide +kernel
theorem dX0_init_4 : decode cX0_init 4 = .ok (.aload_n 0, 1) := by decide +kernel
theorem dX0_init_5 : decode cX0_init 5 = .ok (.aconst_null, 1) := by decide +kernel
theorem dX0_init_6 : decode cX0_init 6 = .ok (.putfield 9, 3) := by decide +kernel
theorem dX0_init_9 : decode cX0_init 9 = .ok (.aload_n 0, 1) := by decide +kernel
theorem dX0_init_10 : decode cX0_init 10 = .ok (.iconst (-1), 1) := by decide +kernel
theorem dX0_init_11 : decode cX0_init 11 = .ok (.putfield 15, 3) := by decide +kernel
theorem dX0_init_14 : decode cX0_init 14 = .ok (.aload_n 0, 1) := by decide +kernel
theorem dX0_init_15 : decode cX0_init 15 = .ok (.bipush (-8), 2) := by decide +kernel
theorem dX0_init_17 : decode cX0_init 17 = .ok (.putfield 19, 3) := by decide +kernel
theorem dX0_init_20 : decode cX0_init 20 = .ok (.aload_n 0, 1) := by decide +kernel
theorem dX0_init_21 : decode cX0_init 21 = .ok (.iload_n 1, 1) := by decide +kernel
theorem dX0_init_22 : decode cX0_init 22 = .ok (.putfield 22, 3) := by decide +kernel
theorem dX0_init_25 : decode cX0_init 25 = .ok (.aload_n 0, 1) := by decide +kernel
theorem dX0_init_26 : decode cX0_init 26 = .ok (.aload_n 2, 1) := by decide +kernel
theorem dX0_init_27 : decode cX0_init 27 = .ok (.putfield 25, 3) := by decide +kernel
theorem dX0_init_30 : decode cX0_init 30 = .ok (.aload_n 0, 1) := by decide +kernel
theorem dX0_init_31 : decode cX0_init 31 = .ok (.aload_n 2, 1) := by decide +kernel
theorem dX0_init_32 : decode cX0_init 32 = .ok (.putfield 29, 3) := by decide +kernel
theorem dX0_init_35 : decode cX0_init 35 = .ok (.return_, 1) := by decide +kernel
theorem dX0_state_0 : decode cX0_state 0 = .ok (.aload_n 0, 1) := by decide +kernel
theorem dX0_state_1 : decode cX0_state 1 = .ok (.getfield 29, 3) := by decide +kernel
theorem dX0_state_4 : decode cX0_state 4 = .ok (.ifnull 5, 3) := by decide +kernel
theorem dX0_state_7 : decode cX0_state 7 = .ok (.iconst 0, 1) := by decide +kernel
theorem dX0_state_8 : decode cX0_state 8 = .ok (.ireturn, 1) := by decide +kernel
theorem dX0_state_9 : decode cX0_state 9 = .ok (.aload_n 0, 1) := by decide +kernel
theorem dX0_state_10 : decode cX0_state 10 = .ok (.getfield 9, 3) := by decide +kernel
theorem dX0_state_13 : decode cX0_state 13 = .ok (.ifnull 7, 3) := by decide +kernel
theorem dX0_state_16 : decode cX0_state 16 = .ok (.iconst 1, 1) := by decide +kernel
theorem dX0_state_17 : decode cX0_state 17 = .ok (.goto 4, 3) := by decide +kernel
theorem dX0_state_20 : decode cX0_state 20 = .ok (.iconst 2, 1) := by decide +kernel
theorem dX0_state_21 : decode cX0_state 21 = .ok (.ireturn, 1) := by decide +kernel
theorem dX0_rests_0 : decode cX0_rests 0 = .ok (.aload_n 0, 1) := by decide +kernel
theorem dX0_rests_1 : decode cX0_rests 1 = .ok (.getfield 29, 3) := by decide +kernel
theorem dX0_rests_4 : decode cX0_rests 4 = .ok (.ifnull 18, 3) := by decide +kernel
theorem dX0_rests_7 : decode cX0_rests 7 = .ok (.iload_n 1, 1) := by decide +kernel
theorem dX0_rests_8 : decode cX0_rests 8 = .ok (.aload_n 0, 1) := by decide +kernel
theorem dX0_rests_9 : decode cX0_rests 9 = .ok (.getfield 19, 3) := by decide +kernel
theorem dX0_rests_12 : decode cX0_rests 12 = .ok (.isub, 1) := by decide +kernel
theorem dX0_rests_13 : decode cX0_rests 13 = .ok (.bipush 8, 2) := by decide +kernel
theorem dX0_rests_15 : decode cX0_rests 15 = .ok (.if_icmp .ge 7, 3) := by decide +kernel
theorem dX0_rests_18 : decode cX0_rests 18 = .ok (.iconst 1, 1) := by decide +kernel
theorem dX0_rests_19 : decode cX0_rests 19 = .ok (.goto 4, 3) := by decide +kernel
theorem dX0_rests_22 : decode cX0_rests 22 = .ok (.iconst 0, 1) := by decide +kernel
theorem dX0_rests_23 : decode cX0_rests 23 = .ok (.ireturn, 1) := by decide +kernel
theorem dX0_board_0 : decode cX0_board 0 = .ok (.aload_n 0, 1) := by decide +kernel
theorem dX0_board_1 : decode cX0_board 1 = .ok (.aconst_null, 1) := by decide +kernel
theorem dX0_board_2 : decode cX0_board 2 = .ok (.putfield 29, 3) := by decide +kernel
theorem dX0_board_5 : decode cX0_board 5 = .ok (.aload_n 0, 1) := by decide +kernel
theorem dX0_board_6 : decode cX0_board 6 = .ok (.aload_n 1, 1) := by decide +kernel
theorem dX0_board_7 : decode cX0_board 7 = .ok (.putfield 9, 3) := by decide +kernel
theorem dX0_board_10 : decode cX0_board 10 = .ok (.aload_n 1, 1) := by decide +kernel
theorem dX0_board_11 : decode cX0_board 11 = .ok (.aload_n 0, 1) := by decide +kernel
theorem dX0_board_12 : decode cX0_board 12 = .ok (.putfield 32, 3) := by decide +kernel
theorem dX0_board_15 : decode cX0_board 15 = .ok (.return_, 1) := by decide +kernel
theorem dX0_comeBy_0 : decode cX0_comeBy 0 = .ok (.aload_n 0, 1) := by decide +kernel
theorem dX0_comeBy_1 : decode cX0_comeBy 1 = .ok (.getfield 15, 3) := by decide +kernel
theorem dX0_comeBy_4 : decode cX0_comeBy 4 = .ok (.iconst (-1), 1) := by decide +kernel
theorem dX0_comeBy_5 : decode cX0_comeBy 5 = .ok (.if_icmp .eq 32, 3) := by decide +kernel
theorem dX0_comeBy_8 : decode cX0_comeBy 8 = .ok (.aload_n 0, 1) := by decide +kernel
theorem dX0_comeBy_9 : decode cX0_comeBy 9 = .ok (.getfield 15, 3) := by decide +kernel
theorem dX0_comeBy_12 : decode cX0_comeBy 12 = .ok (.iload_n 1, 1) := by decide +kernel
theorem dX0_comeBy_13 : decode cX0_comeBy 13 = .ok (.if_icmp .gt 24, 3) := by decide +kernel
theorem dX0_comeBy_16 : decode cX0_comeBy 16 = .ok (.aload_n 0, 1) := by decide +kernel
theorem dX0_comeBy_17 : decode cX0_comeBy 17 = .ok (.aload_n 0, 1) := by decide +kernel
theorem dX0_comeBy_18 : decode cX0_comeBy 18 = .ok (.getfield 25, 3) := by decide +kernel
theorem dX0_comeBy_21 : decode cX0_comeBy 21 = .ok (.putfield 29, 3) := by decide +kernel
theorem dX0_comeBy_24 : decode cX0_comeBy 24 = .ok (.aload_n 0, 1) := by decide +kernel
theorem dX0_comeBy_25 : decode cX0_comeBy 25 = .ok (.iconst (-1), 1) := by decide +kernel
theorem dX0_comeBy_26 : decode cX0_comeBy 26 = .ok (.putfield 15, 3) := by decide +kernel
theorem dX0_comeBy_29 : decode cX0_comeBy 29 = .ok (.aload_n 0, 1) := by decide +kernel
theorem dX0_comeBy_30 : decode cX0_comeBy 30 = .ok (.iload_n 1, 1) := by decide +kernel
theorem dX0_comeBy_31 : decode cX0_comeBy 31 = .ok (.putfield 19, 3) := by decide +kernel
theorem dX0_comeBy_34 : decode cX0_comeBy 34 = .ok (.goto 45, 3) := by decide +kernel
theorem dX0_comeBy_37 : decode cX0_comeBy 37 = .ok (.aload_n 0, 1) := by decide +kernel
theorem dX0_comeBy_38 : decode cX0_comeBy 38 = .ok (.getfield 9, 3) := by decide +kernel
theorem dX0_comeBy_41 : decode cX0_comeBy 41 = .ok (.ifnull 38, 3) := by decide +kernel
theorem dX0_comeBy_44 : decode cX0_comeBy 44 = .ok (.aload_n 0, 1) := by decide +kernel
theorem dX0_comeBy_45 : decode cX0_comeBy 45 = .ok (.getfield 9, 3) := by decide +kernel
theorem dX0_comeBy_48 : decode cX0_comeBy 48 = .ok (.invokevirtual 38, 3) := by decide +kernel
theorem dX0_comeBy_51 : decode cX0_comeBy 51 = .ok (.iconst 2, 1) := by decide +kernel
theorem dX0_comeBy_52 : decode cX0_comeBy 52 = .ok (.if_icmp .ne 27, 3) := by decide +kernel
theorem dX0_comeBy_55 : decode cX0_comeBy 55 = .ok (.aload_n 0, 1) := by decide +kernel
theorem dX0_comeBy_56 : decode cX0_comeBy 56 = .ok (.getfield 9, 3) := by decide +kernel
theorem dX0_comeBy_59 : decode cX0_comeBy 59 = .ok (.getfield 42, 3) := by decide +kernel
theorem dX0_comeBy_62 : decode cX0_comeBy 62 = .ok (.iload_n 1, 1) := by decide +kernel
theorem dX0_comeBy_63 : decode cX0_comeBy 63 = .ok (.if_icmp .gt 16, 3) := by decide +kernel
theorem dX0_comeBy_66 : decode cX0_comeBy 66 = .ok (.aload_n 0, 1) := by decide +kernel
theorem dX0_comeBy_67 : decode cX0_comeBy 67 = .ok (.getfield 9, 3) := by decide +kernel
theorem dX0_comeBy_70 : decode cX0_comeBy 70 = .ok (.invokevirtual 45, 3) := by decide +kernel
theorem dX0_comeBy_73 : decode cX0_comeBy 73 = .ok (.pop, 1) := by decide +kernel
theorem dX0_comeBy_74 : decode cX0_comeBy 74 = .ok (.aload_n 0, 1) := by decide +kernel
theorem dX0_comeBy_75 : decode cX0_comeBy 75 = .ok (.iload_n 1, 1) := by decide +kernel
theorem dX0_comeBy_76 : decode cX0_comeBy 76 = .ok (.putfield 19, 3) := by decide +kernel
theorem dX0_comeBy_79 : decode cX0_comeBy 79 = .ok (.return_, 1) := by decide +kernel
theorem dX1_init_0 : decode cX1_init 0 = .ok (.aload_n 0, 1) := by decide +kernel
theorem dX1_init_1 : decode cX1_init 1 = .ok (.invokespecial 3, 3) := by decide +kernel
theorem dX1_init_4 : decode cX1_init 4 = .ok (.aload_n 0, 1) := by decide +kernel
theorem dX1_init_5 : decode cX1_init 5 = .ok (.iconst 5, 1) := by decide +kernel
theorem dX1_init_6 : decode cX1_init 6 = .ok (.anewarray 11, 3) := by decide +kernel
theorem dX1_init_9 : decode cX1_init 9 = .ok (.putfield 13, 3) := by decide +kernel
theorem dX1_init_12 : decode cX1_init 12 = .ok (.aload_n 0, 1) := by decide +kernel
theorem dX1_init_13 : decode cX1_init 13 = .ok (.iconst 5, 1) := by decide +kernel
theorem dX1_init_14 : decode cX1_init 14 = .ok (.newarray .int, 2) := by decide +kernel
theorem dX1_init_16 : decode cX1_init 16 = .ok (.putfield 17, 3) := by decide +kernel
theorem dX1_init_19 : decode cX1_init 19 = .ok (.aload_n 0, 1) := by decide +kernel
theorem dX1_init_20 : decode cX1_init 20 = .ok (.iconst 5, 1) := by decide +kernel
theorem dX1_init_21 : decode cX1_init 21 = .ok (.newarray .int, 2) := by decide +kernel
theorem dX1_init_23 : decode cX1_init 23 = .ok (.putfield 21, 3) := by decide +kernel
theorem dX1_init_26 : decode cX1_init 26 = .ok (.aload_n 0, 1) := by decide +kernel
theorem dX1_init_27 : decode cX1_init 27 = .ok (.iconst 5, 1) := by decide +kernel
theorem dX1_init_28 : decode cX1_init 28 = .ok (.newarray .int, 2) := by decide +kernel
theorem dX1_init_30 : decode cX1_init 30 = .ok (.putfield 24, 3) := by decide +kernel
theorem dX1_init_33 : decode cX1_init 33 = .ok (.aload_n 0, 1) := by decide +kernel
theorem dX1_init_34 : decode cX1_init 34 = .ok (.iconst 5, 1) := by decide +kernel
theorem dX1_init_35 : decode cX1_init 35 = .ok (.newarray .int, 2) := by decide +kernel
theorem dX1_init_37 : decode cX1_init 37 = .ok (.putfield 27, 3) := by decide +kernel
theorem dX1_init_40 : decode cX1_init 40 = .ok (.aload_n 0, 1) := by decide +kernel
theorem dX1_init_41 : decode cX1_init 41 = .ok (.iconst 0, 1) := by decide +kernel
theorem dX1_init_42 : decode cX1_init 42 = .ok (.putfield 30, 3) := by decide +kernel
theorem dX1_init_45 : decode cX1_init 45 = .ok (.aload_n 0, 1) := by decide +kernel
theorem dX1_init_46 : decode cX1_init 46 = .ok (.iconst 0, 1) := by decide +kernel
theorem dX1_init_47 : decode cX1_init 47 = .ok (.putfield 34, 3) := by decide +kernel
theorem dX1_init_50 : decode cX1_init 50 = .ok (.aload_n 0, 1) := by decide +kernel
theorem dX1_init_51 : decode cX1_init 51 = .ok (.iconst (-1), 1) := by decide +kernel
theorem dX1_init_52 : decode cX1_init 52 = .ok (.putfield 37, 3) := by decide +kernel
theorem dX1_init_55 : decode cX1_init 55 = .ok (.return_, 1) := by decide +kernel
theorem dX1_clear_0 : decode cX1_clear 0 = .ok (.aload_n 0, 1) := by decide +kernel
theorem dX1_clear_1 : decode cX1_clear 1 = .ok (.iconst 0, 1) := by decide +kernel
theorem dX1_clear_2 : decode cX1_clear 2 = .ok (.putfield 30, 3) := by decide +kernel
theorem dX1_clear_5 : decode cX1_clear 5 = .ok (.aload_n 0, 1) := by decide +kernel
theorem dX1_clear_6 : decode cX1_clear 6 = .ok (.iconst 0, 1) := by decide +kernel
theorem dX1_clear_7 : decode cX1_clear 7 = .ok (.putfield 34, 3) := by decide +kernel
theorem dX1_clear_10 : decode cX1_clear 10 = .ok (.aload_n 0, 1) := by decide +kernel
theorem dX1_clear_11 : decode cX1_clear 11 = .ok (.iconst (-1), 1) := by decide +kernel
theorem dX1_clear_12 : decode cX1_clear 12 = .ok (.putfield 37, 3) := by decide +kernel
theorem dX1_clear_15 : decode cX1_clear 15 = .ok (.return_, 1) := by decide +kernel
theorem dX1_admit_0 : decode cX1_admit 0 = .ok (.aload_n 0, 1) := by decide +kernel
theorem dX1_admit_1 : decode cX1_admit 1 = .ok (.getfield 30, 3) := by decide +kernel
theorem dX1_admit_4 : decode cX1_admit 4 = .ok (.iconst 5, 1) := by decide +kernel
theorem dX1_admit_5 : decode cX1_admit 5 = .ok (.if_icmp .ge 26, 3) := by decide +kernel
theorem dX1_admit_8 : decode cX1_admit 8 = .ok (.aload_n 0, 1) := by decide +kernel
theorem dX1_admit_9 : decode cX1_admit 9 = .ok (.getfield 13, 3) := by decide +kernel
theorem dX1_admit_12 : decode cX1_admit 12 = .ok (.aload_n 0, 1) := by decide +kernel
theorem dX1_admit_13 : decode cX1_admit 13 = .ok (.getfield 30, 3) := by decide +kernel
theorem dX1_admit_16 : decode cX1_admit 16 = .ok (.aload_n 1, 1) := by decide +kernel
theorem dX1_admit_17 : decode cX1_admit 17 = .ok (.aastore, 1) := by decide +kernel
theorem dX1_admit_18 : decode cX1_admit 18 = .ok (.aload_n 0, 1) := by decide +kernel
theorem dX1_admit_19 : decode cX1_admit 19 = .ok (.getfield 17, 3) := by decide +kernel
theorem dX1_admit_22 : decode cX1_admit 22 = .ok (.aload_n 0, 1) := by decide +kernel
theorem dX1_admit_23 : decode cX1_admit 23 = .ok (.getfield 30, 3) := by decide +kernel
theorem dX1_admit_26 : decode cX1_admit 26 = .ok (.aload_n 0, 1) := by decide +kernel
theorem dX1_admit_27 : decode cX1_admit 27 = .ok (.getfield 30, 3) := by decide +kernel
theorem dX1_admit_30 : decode cX1_admit 30 = .ok (.iastore, 1) := by decide +kernel
theorem dX1_admit_31 : decode cX1_admit 31 = .ok (.aload_n 0, 1) := by decide +kernel
theorem dX1_admit_32 : decode cX1_admit 32 = .ok (.dup, 1) := by decide +kernel
theorem dX1_admit_33 : decode cX1_admit 33 = .ok (.getfield 30, 3) := by decide +kernel
theorem dX1_admit_36 : decode cX1_admit 36 = .ok (.iconst 1, 1) := by decide +kernel
theorem dX1_admit_37 : decode cX1_admit 37 = .ok (.iadd, 1) := by decide +kernel
theorem dX1_admit_38 : decode cX1_admit 38 = .ok (.putfield 30, 3) := by decide +kernel
theorem dX1_admit_41 : decode cX1_admit 41 = .ok (.return_, 1) := by decide +kernel
theorem dX1_raftIn_0 : decode cX1_raftIn 0 = .ok (.iload_n 1, 1) := by decide +kernel
theorem dX1_raftIn_1 : decode cX1_raftIn 1 = .ok (.iconst 0, 1) := by decide +kernel
theorem dX1_raftIn_2 : decode cX1_raftIn 2 = .ok (.aload_n 0, 1) := by decide +kernel
theorem dX1_raftIn_3 : decode cX1_raftIn 3 = .ok (.getfield 34, 3) := by decide +kernel
theorem dX1_raftIn_6 : decode cX1_raftIn 6 = .ok (.iconst 1, 1) := by decide +kernel
theorem dX1_raftIn_7 : decode cX1_raftIn 7 = .ok (.isub, 1) := by decide +kernel
theorem dX1_raftIn_8 : decode cX1_raftIn 8 = .ok (.invokestatic 40, 3) := by decide +kernel
theorem dX1_raftIn_11 : decode cX1_raftIn 11 = .ok (.ifCond .eq 20, 3) := by decide +kernel
theorem dX1_raftIn_14 : decode cX1_raftIn 14 = .ok (.aload_n 0, 1) := by decide +kernel
theorem dX1_raftIn_15 : decode cX1_raftIn 15 = .ok (.getfield 13, 3) := by decide +kernel
theorem dX1_raftIn_18 : decode cX1_raftIn 18 = .ok (.aload_n 0, 1) := by decide +kernel
theorem dX1_raftIn_19 : decode cX1_raftIn 19 = .ok (.getfield 24, 3) := by decide +kernel
theorem dX1_raftIn_22 : decode cX1_raftIn 22 = .ok (.iload_n 1, 1) := by decide +kernel
theorem dX1_raftIn_23 : decode cX1_raftIn 23 = .ok (.iaload, 1) := by decide +kernel
theorem dX1_raftIn_24 : decode cX1_raftIn 24 = .ok (.aaload, 1) := by decide +kernel
theorem dX1_raftIn_25 : decode cX1_raftIn 25 = .ok (.getfield 44, 3) := by decide +kernel
theorem dX1_raftIn_28 : decode cX1_raftIn 28 = .ok (.goto 4, 3) := by decide +kernel
theorem dX1_raftIn_31 : decode cX1_raftIn 31 = .ok (.iconst (-1), 1) := by decide +kernel
theorem dX1_raftIn_32 : decode cX1_raftIn 32 = .ok (.ireturn, 1) := by decide +kernel
theorem dX1_hourOf_0 : decode cX1_hourOf 0 = .ok (.iload_n 1, 1) := by decide +kernel
theorem dX1_hourOf_1 : decode cX1_hourOf 1 = .ok (.iconst 0, 1) := by decide +kernel
theorem dX1_hourOf_2 : decode cX1_hourOf 2 = .ok (.aload_n 0, 1) := by decide +kernel
theorem dX1_hourOf_3 : decode cX1_hourOf 3 = .ok (.getfield 34, 3) := by decide +kernel
theorem dX1_hourOf_6 : decode cX1_hourOf 6 = .ok (.iconst 1, 1) := by decide +kernel
theorem dX1_hourOf_7 : decode cX1_hourOf 7 = .ok (.isub, 1) := by decide +kernel
theorem dX1_hourOf_8 : decode cX1_hourOf 8 = .ok (.invokestatic 40, 3) := by decide +kernel
theorem dX1_hourOf_11 : decode cX1_hourOf 11 = .ok (.ifCond .eq 12, 3) := by decide +kernel
theorem dX1_hourOf_14 : decode cX1_hourOf 14 = .ok (.aload_n 0, 1) := by decide +kernel
theorem dX1_hourOf_15 : decode cX1_hourOf 15 = .ok (.getfield 27, 3) := by decide +kernel
theorem dX1_hourOf_18 : decode cX1_hourOf 18 = .ok (.iload_n 1, 1) := by decide +kernel
theorem dX1_hourOf_19 : decode cX1_hourOf 19 = .ok (.iaload, 1) := by decide +kernel
theorem dX1_hourOf_20 : decode cX1_hourOf 20 = .ok (.goto 4, 3) := by decide +kernel
theorem dX1_hourOf_23 : decode cX1_hourOf 23 = .ok (.iconst (-1), 1) := by decide +kernel
theorem dX1_hourOf_24 : decode cX1_hourOf 24 = .ok (.ireturn, 1) := by decide +kernel
theorem dX1_work_0 : decode cX1_work 0 = .ok (.aload_n 0, 1) := by decide +kernel
theorem dX1_work_1 : decode cX1_work 1 = .ok (.getfield 30, 3) := by decide +kernel
theorem dX1_work_4 : decode cX1_work 4 = .ok (.ifCond .eq 11, 3) := by decide +kernel
theorem dX1_work_7 : decode cX1_work 7 = .ok (.aload_n 0, 1) := by decide +kernel
theorem dX1_work_8 : decode cX1_work 8 = .ok (.getfield 30, 3) := by decide +kernel
theorem dX1_work_11 : decode cX1_work 11 = .ok (.iconst 5, 1) := by decide +kernel
theorem dX1_work_12 : decode cX1_work 12 = .ok (.if_icmp .le 4, 3) := by decide +kernel
theorem dX1_work_15 : decode cX1_work 15 = .ok (.return_, 1) := by decide +kernel
theorem dX1_work_16 : decode cX1_work 16 = .ok (.iconst 1, 1) := by decide +kernel
theorem dX1_work_17 : decode cX1_work 17 = .ok (.istore_n 3, 1) := by decide +kernel
theorem dX1_work_18 : decode cX1_work 18 = .ok (.iconst 0, 1) := by decide +kernel
theorem dX1_work_19 : decode cX1_work 19 = .ok (.istore 4, 2) := by decide +kernel
theorem dX1_work_21 : decode cX1_work 21 = .ok (.iload 4, 2) := by decide +kernel
theorem dX1_work_23 : decode cX1_work 23 = .ok (.bipush 120, 2) := by decide +kernel
theorem dX1_work_25 : decode cX1_work 25 = .ok (.if_icmp .ge 55, 3) := by decide +kernel
theorem dX1_work_28 : decode cX1_work 28 = .ok (.iload_n 3, 1) := by decide +kernel
theorem dX1_work_29 : decode cX1_work 29 = .ok (.ifCond .eq 51, 3) := by decide +kernel
theorem dX1_work_32 : decode cX1_work 32 = .ok (.aload_n 0, 1) := by decide +kernel
theorem dX1_work_33 : decode cX1_work 33 = .ok (.aload_n 1, 1) := by decide +kernel
theorem dX1_work_34 : decode cX1_work 34 = .ok (.iload_n 2, 1) := by decide +kernel
theorem dX1_work_35 : decode cX1_work 35 = .ok (.invokevirtual 47, 3) := by decide +kernel
theorem dX1_work_38 : decode cX1_work 38 = .ok (.istore 5, 2) := by decide +kernel
theorem dX1_work_40 : decode cX1_work 40 = .ok (.iload 5, 2) := by decide +kernel
theorem dX1_work_42 : decode cX1_work 42 = .ok (.iconst (-1), 1) := by decide +kernel
theorem dX1_work_43 : decode cX1_work 43 = .ok (.if_icmp .eq 26, 3) := by decide +kernel
theorem dX1_work_46 : decode cX1_work 46 = .ok (.aload_n 0, 1) := by decide +kernel
theorem dX1_work_47 : decode cX1_work 47 = .ok (.getfield 37, 3) := by decide +kernel
theorem dX1_work_50 : decode cX1_work 50 = .ok (.iconst (-1), 1) := by decide +kernel
theorem dX1_work_51 : decode cX1_work 51 = .ok (.if_icmp .eq 12, 3) := by decide +kernel
theorem dX1_work_54 : decode cX1_work 54 = .ok (.iload 5, 2) := by decide +kernel
theorem dX1_work_56 : decode cX1_work 56 = .ok (.aload_n 0, 1) := by decide +kernel
theorem dX1_work_57 : decode cX1_work 57 = .ok (.getfield 37, 3) := by decide +kernel
theorem dX1_work_60 : decode cX1_work 60 = .ok (.if_icmp .ge 9, 3) := by decide +kernel
theorem dX1_work_63 : decode cX1_work 63 = .ok (.aload_n 0, 1) := by decide +kernel
theorem dX1_work_64 : decode cX1_work 64 = .ok (.iload 5, 2) := by decide +kernel
theorem dX1_work_66 : decode cX1_work 66 = .ok (.invokevirtual 51, 3) := by decide +kernel
theorem dX1_work_69 : decode cX1_work 69 = .ok (.aload_n 0, 1) := by decide +kernel
theorem dX1_work_70 : decode cX1_work 70 = .ok (.invokevirtual 55, 3) := by decide +kernel
theorem dX1_work_73 : decode cX1_work 73 = .ok (.istore_n 3, 1) := by decide +kernel
theorem dX1_work_74 : decode cX1_work 74 = .ok (.iinc 4 1, 3) := by decide +kernel
theorem dX1_work_77 : decode cX1_work 77 = .ok (.goto (-56), 3) := by decide +kernel
theorem dX1_work_80 : decode cX1_work 80 = .ok (.return_, 1) := by decide +kernel
theorem dX1_keep_0 : decode cX1_keep 0 = .ok (.aload_n 0, 1) := by decide +kernel
theorem dX1_keep_1 : decode cX1_keep 1 = .ok (.iload_n 1, 1) := by decide +kernel
theorem dX1_keep_2 : decode cX1_keep 2 = .ok (.putfield 37, 3) := by decide +kernel
theorem dX1_keep_5 : decode cX1_keep 5 = .ok (.aload_n 0, 1) := by decide +kernel
theorem dX1_keep_6 : decode cX1_keep 6 = .ok (.aload_n 0, 1) := by decide +kernel
theorem dX1_keep_7 : decode cX1_keep 7 = .ok (.getfield 30, 3) := by decide +kernel
theorem dX1_keep_10 : decode cX1_keep 10 = .ok (.putfield 34, 3) := by decide +kernel
theorem dX1_keep_13 : decode cX1_keep 13 = .ok (.iconst 0, 1) := by decide +kernel
theorem dX1_keep_14 : decode cX1_keep 14 = .ok (.istore_n 2, 1) := by decide +kernel
theorem dX1_keep_15 : decode cX1_keep 15 = .ok (.iload_n 2, 1) := by decide +kernel
theorem dX1_keep_16 : decode cX1_keep 16 = .ok (.aload_n 0, 1) := by decide +kernel
theorem dX1_keep_17 : decode cX1_keep 17 = .ok (.getfield 30, 3) := by decide +kernel
theorem dX1_keep_20 : decode cX1_keep 20 = .ok (.if_icmp .ge 33, 3) := by decide +kernel
theorem dX1_keep_23 : decode cX1_keep 23 = .ok (.aload_n 0, 1) := by decide +kernel
theorem dX1_keep_24 : decode cX1_keep 24 = .ok (.getfield 24, 3) := by decide +kernel
theorem dX1_keep_27 : decode cX1_keep 27 = .ok (.iload_n 2, 1) := by decide +kernel
theorem dX1_keep_28 : decode cX1_keep 28 = .ok (.aload_n 0, 1) := by decide +kernel
theorem dX1_keep_29 : decode cX1_keep 29 = .ok (.getfield 17, 3) := by decide +kernel
theorem dX1_keep_32 : decode cX1_keep 32 = .ok (.iload_n 2, 1) := by decide +kernel
theorem dX1_keep_33 : decode cX1_keep 33 = .ok (.iaload, 1) := by decide +kernel
theorem dX1_keep_34 : decode cX1_keep 34 = .ok (.iastore, 1) := by decide +kernel
theorem dX1_keep_35 : decode cX1_keep 35 = .ok (.aload_n 0, 1) := by decide +kernel
theorem dX1_keep_36 : decode cX1_keep 36 = .ok (.getfield 27, 3) := by decide +kernel
theorem dX1_keep_39 : decode cX1_keep 39 = .ok (.iload_n 2, 1) := by decide +kernel
theorem dX1_keep_40 : decode cX1_keep 40 = .ok (.aload_n 0, 1) := by decide +kernel
theorem dX1_keep_41 : decode cX1_keep 41 = .ok (.getfield 21, 3) := by decide +kernel
theorem dX1_keep_44 : decode cX1_keep 44 = .ok (.iload_n 2, 1) := by decide +kernel
theorem dX1_keep_45 : decode cX1_keep 45 = .ok (.iaload, 1) := by decide +kernel
theorem dX1_keep_46 : decode cX1_keep 46 = .ok (.iastore, 1) := by decide +kernel
theorem dX1_keep_47 : decode cX1_keep 47 = .ok (.iinc 2 1, 3) := by decide +kernel
theorem dX1_keep_50 : decode cX1_keep 50 = .ok (.goto (-35), 3) := by decide +kernel
theorem dX1_keep_53 : decode cX1_keep 53 = .ok (.return_, 1) := by decide +kernel
theorem dX1_sumOfHours_0 : decode cX1_sumOfHours 0 = .ok (.iconst 0, 1) := by decide +kernel
theorem dX1_sumOfHours_1 : decode cX1_sumOfHours 1 = .ok (.istore_n 3, 1) := by decide +kernel
theorem dX1_sumOfHours_2 : decode cX1_sumOfHours 2 = .ok (.iload_n 2, 1) := by decide +kernel
theorem dX1_sumOfHours_3 : decode cX1_sumOfHours 3 = .ok (.istore 4, 2) := by decide +kernel
theorem dX1_sumOfHours_5 : decode cX1_sumOfHours 5 = .ok (.aload_n 1, 1) := by decide +kernel
theorem dX1_sumOfHours_6 : decode cX1_sumOfHours 6 = .ok (.getfield 59, 3) := by decide +kernel
theorem dX1_sumOfHours_9 : decode cX1_sumOfHours 9 = .ok (.istore 5, 2) := by decide +kernel
theorem dX1_sumOfHours_11 : decode cX1_sumOfHours 11 = .ok (.iconst 0, 1) := by decide +kernel
theorem dX1_sumOfHours_12 : decode cX1_sumOfHours 12 = .ok (.istore 6, 2) := by decide +kernel
theorem dX1_sumOfHours_14 : decode cX1_sumOfHours 14 = .ok (.iload 6, 2) := by decide +kernel
theorem dX1_sumOfHours_16 : decode cX1_sumOfHours 16 = .ok (.aload_n 0, 1) := by decide +kernel
theorem dX1_sumOfHours_17 : decode cX1_sumOfHours 17 = .ok (.getfield 30, 3) := by decide +kernel
theorem dX1_sumOfHours_20 : decode cX1_sumOfHours 20 = .ok (.if_icmp .ge 119, 3) := by decide +kernel
theorem dX1_sumOfHours_23 : decode cX1_sumOfHours 23 = .ok (.aload_n 0, 1) := by decide +kernel
theorem dX1_sumOfHours_24 : decode cX1_sumOfHours 24 = .ok (.getfield 13, 3) := by decide +kernel
theorem dX1_sumOfHours_27 : decode cX1_sumOfHours 27 = .ok (.aload_n 0, 1) := by decide +kernel
theorem dX1_sumOfHours_28 : decode cX1_sumOfHours 28 = .ok (.getfield 17, 3) := by decide +kernel
theorem dX1_sumOfHours_31 : decode cX1_sumOfHours 31 = .ok (.iload 6, 2) := by decide +kernel
theorem dX1_sumOfHours_33 : decode cX1_sumOfHours 33 = .ok (.iaload, 1) := by decide +kernel
theorem dX1_sumOfHours_34 : decode cX1_sumOfHours 34 = .ok (.aaload, 1) := by decide +kernel
theorem dX1_sumOfHours_35 : decode cX1_sumOfHours 35 = .ok (.invokevirtual 64, 3) := by decide +kernel
theorem dX1_sumOfHours_38 : decode cX1_sumOfHours 38 = .ok (.istore 7, 2) := by decide +kernel
theorem dX1_sumOfHours_40 : decode cX1_sumOfHours 40 = .ok (.iload 7, 2) := by decide +kernel
theorem dX1_sumOfHours_42 : decode cX1_sumOfHours 42 = .ok (.iload 5, 2) := by decide +kernel
theorem dX1_sumOfHours_44 : decode cX1_sumOfHours 44 = .ok (.isub, 1) := by decide +kernel
theorem dX1_sumOfHours_45 : decode cX1_sumOfHours 45 = .ok (.aload_n 1, 1) := by decide +kernel
theorem dX1_sumOfHours_46 : decode cX1_sumOfHours 46 = .ok (.getfield 68, 3) := by decide +kernel
theorem dX1_sumOfHours_49 : decode cX1_sumOfHours 49 = .ok (.invokestatic 71, 3) := by decide +kernel
theorem dX1_sumOfHours_52 : decode cX1_sumOfHours 52 = .ok (.istore 8, 2) := by decide +kernel
theorem dX1_sumOfHours_54 : decode cX1_sumOfHours 54 = .ok (.iload 8, 2) := by decide +kernel
theorem dX1_sumOfHours_56 : decode cX1_sumOfHours 56 = .ok (.iconst (-1), 1) := by decide +kernel
theorem dX1_sumOfHours_57 : decode cX1_sumOfHours 57 = .ok (.if_icmp .ne 5, 3) := by decide +kernel
theorem dX1_sumOfHours_60 : decode cX1_sumOfHours 60 = .ok (.iconst (-1), 1) := by decide +kernel
theorem dX1_sumOfHours_61 : decode cX1_sumOfHours 61 = .ok (.ireturn, 1) := by decide +kernel
theorem dX1_sumOfHours_62 : decode cX1_sumOfHours 62 = .ok (.aload_n 0, 1) := by decide +kernel
theorem dX1_sumOfHours_63 : decode cX1_sumOfHours 63 = .ok (.getfield 21, 3) := by decide +kernel
theorem dX1_sumOfHours_66 : decode cX1_sumOfHours 66 = .ok (.iload 6, 2) := by decide +kernel
theorem dX1_sumOfHours_68 : decode cX1_sumOfHours 68 = .ok (.iload 4, 2) := by decide +kernel
theorem dX1_sumOfHours_70 : decode cX1_sumOfHours 70 = .ok (.iload 8, 2) := by decide +kernel
theorem dX1_sumOfHours_72 : decode cX1_sumOfHours 72 = .ok (.iadd, 1) := by decide +kernel
theorem dX1_sumOfHours_73 : decode cX1_sumOfHours 73 = .ok (.iastore, 1) := by decide +kernel
theorem dX1_sumOfHours_74 : decode cX1_sumOfHours 74 = .ok (.iload_n 3, 1) := by decide +kernel
theorem dX1_sumOfHours_75 : decode cX1_sumOfHours 75 = .ok (.aload_n 0, 1) := by decide +kernel
theorem dX1_sumOfHours_76 : decode cX1_sumOfHours 76 = .ok (.getfield 21, 3) := by decide +kernel
theorem dX1_sumOfHours_79 : decode cX1_sumOfHours 79 = .ok (.iload 6, 2) := by decide +kernel
theorem dX1_sumOfHours_81 : decode cX1_sumOfHours 81 = .ok (.iaload, 1) := by decide +kernel
theorem dX1_sumOfHours_82 : decode cX1_sumOfHours 82 = .ok (.iadd, 1) := by decide +kernel
theorem dX1_sumOfHours_83 : decode cX1_sumOfHours 83 = .ok (.istore_n 3, 1) := by decide +kernel
theorem dX1_sumOfHours_84 : decode cX1_sumOfHours 84 = .ok (.aload_n 0, 1) := by decide +kernel
theorem dX1_sumOfHours_85 : decode cX1_sumOfHours 85 = .ok (.getfield 21, 3) := by decide +kernel
theorem dX1_sumOfHours_88 : decode cX1_sumOfHours 88 = .ok (.iload 6, 2) := by decide +kernel
theorem dX1_sumOfHours_90 : decode cX1_sumOfHours 90 = .ok (.iaload, 1) := by decide +kernel
theorem dX1_sumOfHours_91 : decode cX1_sumOfHours 91 = .ok (.iconst 1, 1) := by decide +kernel
theorem dX1_sumOfHours_92 : decode cX1_sumOfHours 92 = .ok (.iadd, 1) := by decide +kernel
theorem dX1_sumOfHours_93 : decode cX1_sumOfHours 93 = .ok (.istore 4, 2) := by decide +kernel
theorem dX1_sumOfHours_95 : decode cX1_sumOfHours 95 = .ok (.aload_n 1, 1) := by decide +kernel
theorem dX1_sumOfHours_96 : decode cX1_sumOfHours 96 = .ok (.getfield 75, 3) := by decide +kernel
theorem dX1_sumOfHours_99 : decode cX1_sumOfHours 99 = .ok (.iload 5, 2) := by decide +kernel
theorem dX1_sumOfHours_101 : decode cX1_sumOfHours 101 = .ok (.iload 8, 2) := by decide +kernel
theorem dX1_sumOfHours_103 : decode cX1_sumOfHours 103 = .ok (.aload_n 1, 1) := by decide +kernel
theorem dX1_sumOfHours_104 : decode cX1_sumOfHours 104 = .ok (.getfield 68, 3) := by decide +kernel
theorem dX1_sumOfHours_107 : decode cX1_sumOfHours 107 = .ok (.imul, 1) := by decide +kernel
theorem dX1_sumOfHours_108 : decode cX1_sumOfHours 108 = .ok (.iadd, 1) := by decide +kernel
theorem dX1_sumOfHours_109 : decode cX1_sumOfHours 109 = .ok (.invokestatic 78, 3) := by decide +kernel
theorem dX1_sumOfHours_112 : decode cX1_sumOfHours 112 = .ok (.iload 7, 2) := by decide +kernel
theorem dX1_sumOfHours_114 : decode cX1_sumOfHours 114 = .ok (.isub, 1) := by decide +kernel
theorem dX1_sumOfHours_115 : decode cX1_sumOfHours 115 = .ok (.istore 9, 2) := by decide +kernel
theorem dX1_sumOfHours_117 : decode cX1_sumOfHours 117 = .ok (.aload_n 1, 1) := by decide +kernel
theorem dX1_sumOfHours_118 : decode cX1_sumOfHours 118 = .ok (.getfield 75, 3) := by decide +kernel
theorem dX1_sumOfHours_121 : decode cX1_sumOfHours 121 = .ok (.iload 9, 2) := by decide +kernel
theorem dX1_sumOfHours_123 : decode cX1_sumOfHours 123 = .ok (.aload_n 1, 1) := by decide +kernel
theorem dX1_sumOfHours_124 : decode cX1_sumOfHours 124 = .ok (.getfield 68, 3) := by decide +kernel
theorem dX1_sumOfHours_127 : decode cX1_sumOfHours 127 = .ok (.iadd, 1) := by decide +kernel
theorem dX1_sumOfHours_128 : decode cX1_sumOfHours 128 = .ok (.invokestatic 78, 3) := by decide +kernel
theorem dX1_sumOfHours_131 : decode cX1_sumOfHours 131 = .ok (.istore 5, 2) := by decide +kernel
theorem dX1_sumOfHours_133 : decode cX1_sumOfHours 133 = .ok (.iinc 6 1, 3) := by decide +kernel
theorem dX1_sumOfHours_136 : decode cX1_sumOfHours 136 = .ok (.goto (-122), 3) := by decide +kernel
theorem dX1_sumOfHours_139 : decode cX1_sumOfHours 139 = .ok (.iload_n 3, 1) := by decide +kernel
theorem dX1_sumOfHours_140 : decode cX1_sumOfHours 140 = .ok (.ireturn, 1) := by decide +kernel
theorem dX1_hoursToFill_0 : decode cX1_hoursToFill 0 = .ok (.iload_n 0, 1) := by decide +kernel
theorem dX1_hoursToFill_1 : decode cX1_hoursToFill 1 = .ok (.ifCond .gt 5, 3) := by decide +kernel
theorem dX1_hoursToFill_4 : decode cX1_hoursToFill 4 = .ok (.iconst 0, 1) := by decide +kernel
theorem dX1_hoursToFill_5 : decode cX1_hoursToFill 5 = .ok (.ireturn, 1) := by decide +kernel
theorem dX1_hoursToFill_6 : decode cX1_hoursToFill 6 = .ok (.iload_n 1, 1) := by decide +kernel
theorem dX1_hoursToFill_7 : decode cX1_hoursToFill 7 = .ok (.ifCond .gt 7, 3) := by decide +kernel
theorem dX1_hoursToFill_10 : decode cX1_hoursToFill 10 = .ok (.iconst (-1), 1) := by decide +kernel
theorem dX1_hoursToFill_11 : decode cX1_hoursToFill 11 = .ok (.goto 10, 3) := by decide +kernel
theorem dX1_hoursToFill_14 : decode cX1_hoursToFill 14 = .ok (.iload_n 0, 1) := by decide +kernel
theorem dX1_hoursToFill_15 : decode cX1_hoursToFill 15 = .ok (.iload_n 1, 1) := by decide +kernel
theorem dX1_hoursToFill_16 : decode cX1_hoursToFill 16 = .ok (.iadd, 1) := by decide +kernel
theorem dX1_hoursToFill_17 : decode cX1_hoursToFill 17 = .ok (.iconst 1, 1) := by decide +kernel
theorem dX1_hoursToFill_18 : decode cX1_hoursToFill 18 = .ok (.isub, 1) := by decide +kernel
theorem dX1_hoursToFill_19 : decode cX1_hoursToFill 19 = .ok (.iload_n 1, 1) := by decide +kernel
theorem dX1_hoursToFill_20 : decode cX1_hoursToFill 20 = .ok (.idiv, 1) := by decide +kernel
theorem dX1_hoursToFill_21 : decode cX1_hoursToFill 21 = .ok (.ireturn, 1) := by decide +kernel
theorem dX1_nextOrder_0 : decode cX1_nextOrder 0 = .ok (.aload_n 0, 1) := by decide +kernel
theorem dX1_nextOrder_1 : decode cX1_nextOrder 1 = .ok (.getfield 30, 3) := by decide +kernel
theorem dX1_nextOrder_4 : decode cX1_nextOrder 4 = .ok (.iconst 2, 1) := by decide +kernel
theorem dX1_nextOrder_5 : decode cX1_nextOrder 5 = .ok (.isub, 1) := by decide +kernel
theorem dX1_nextOrder_6 : decode cX1_nextOrder 6 = .ok (.istore_n 1, 1) := by decide +kernel
theorem dX1_nextOrder_7 : decode cX1_nextOrder 7 = .ok (.iload_n 1, 1) := by decide +kernel
theorem dX1_nextOrder_8 : decode cX1_nextOrder 8 = .ok (.ifCond .lt 26, 3) := by decide +kernel
theorem dX1_nextOrder_11 : decode cX1_nextOrder 11 = .ok (.aload_n 0, 1) := by decide +kernel
theorem dX1_nextOrder_12 : decode cX1_nextOrder 12 = .ok (.getfield 17, 3) := by decide +kernel
theorem dX1_nextOrder_15 : decode cX1_nextOrder 15 = .ok (.iload_n 1, 1) := by decide +kernel
theorem dX1_nextOrder_16 : decode cX1_nextOrder 16 = .ok (.iaload, 1) := by decide +kernel
theorem dX1_nextOrder_17 : decode cX1_nextOrder 17 = .ok (.aload_n 0, 1) := by decide +kernel
theorem dX1_nextOrder_18 : decode cX1_nextOrder 18 = .ok (.getfield 17, 3) := by decide +kernel
theorem dX1_nextOrder_21 : decode cX1_nextOrder 21 = .ok (.iload_n 1, 1) := by decide +kernel
theorem dX1_nextOrder_22 : decode cX1_nextOrder 22 = .ok (.iconst 1, 1) := by decide +kernel
theorem dX1_nextOrder_23 : decode cX1_nextOrder 23 = .ok (.iadd, 1) := by decide +kernel
theorem dX1_nextOrder_24 : decode cX1_nextOrder 24 = .ok (.iaload, 1) := by decide +kernel
theorem dX1_nextOrder_25 : decode cX1_nextOrder 25 = .ok (.if_icmp .le 9, 3) := by decide +kernel
theorem dX1_nextOrder_28 : decode cX1_nextOrder 28 = .ok (.iinc 1 (-1), 3) := by decide +kernel
theorem dX1_nextOrder_31 : decode cX1_nextOrder 31 = .ok (.goto (-24), 3) := by decide +kernel
theorem dX1_nextOrder_34 : decode cX1_nextOrder 34 = .ok (.iload_n 1, 1) := by decide +kernel
theorem dX1_nextOrder_35 : decode cX1_nextOrder 35 = .ok (.ifCond .ge 5, 3) := by decide +kernel
theorem dX1_nextOrder_38 : decode cX1_nextOrder 38 = .ok (.iconst 0, 1) := by decide +kernel
theorem dX1_nextOrder_39 : decode cX1_nextOrder 39 = .ok (.ireturn, 1) := by decide +kernel
theorem dX1_nextOrder_40 : decode cX1_nextOrder 40 = .ok (.aload_n 0, 1) := by decide +kernel
theorem dX1_nextOrder_41 : decode cX1_nextOrder 41 = .ok (.getfield 30, 3) := by decide +kernel
theorem dX1_nextOrder_44 : decode cX1_nextOrder 44 = .ok (.iconst 1, 1) := by decide +kernel
theorem dX1_nextOrder_45 : decode cX1_nextOrder 45 = .ok (.isub, 1) := by decide +kernel
theorem dX1_nextOrder_46 : decode cX1_nextOrder 46 = .ok (.istore_n 2, 1) := by decide +kernel
theorem dX1_nextOrder_47 : decode cX1_nextOrder 47 = .ok (.iload_n 2, 1) := by decide +kernel
theorem dX1_nextOrder_48 : decode cX1_nextOrder 48 = .ok (.iload_n 1, 1) := by decide +kernel
theorem dX1_nextOrder_49 : decode cX1_nextOrder 49 = .ok (.if_icmp .le 24, 3) := by decide +kernel
theorem dX1_nextOrder_52 : decode cX1_nextOrder 52 = .ok (.aload_n 0, 1) := by decide +kernel
theorem dX1_nextOrder_53 : decode cX1_nextOrder 53 = .ok (.getfield 17, 3) := by decide +kernel
theorem dX1_nextOrder_56 : decode cX1_nextOrder 56 = .ok (.iload_n 2, 1) := by decide +kernel
theorem dX1_nextOrder_57 : decode cX1_nextOrder 57 = .ok (.iaload, 1) := by decide +kernel
theorem dX1_nextOrder_58 : decode cX1_nextOrder 58 = .ok (.aload_n 0, 1) := by decide +kernel
theorem dX1_nextOrder_59 : decode cX1_nextOrder 59 = .ok (.getfield 17, 3) := by decide +kernel
theorem dX1_nextOrder_62 : decode cX1_nextOrder 62 = .ok (.iload_n 1, 1) := by decide +kernel
theorem dX1_nextOrder_63 : decode cX1_nextOrder 63 = .ok (.iaload, 1) := by decide +kernel
theorem dX1_nextOrder_64 : decode cX1_nextOrder 64 = .ok (.if_icmp .ge 9, 3) := by decide +kernel
theorem dX1_nextOrder_67 : decode cX1_nextOrder 67 = .ok (.iinc 2 (-1), 3) := by decide +kernel
theorem dX1_nextOrder_70 : decode cX1_nextOrder 70 = .ok (.goto (-23), 3) := by decide +kernel
theorem dX1_nextOrder_73 : decode cX1_nextOrder 73 = .ok (.aload_n 0, 1) := by decide +kernel
theorem dX1_nextOrder_74 : decode cX1_nextOrder 74 = .ok (.iload_n 1, 1) := by decide +kernel
theorem dX1_nextOrder_75 : decode cX1_nextOrder 75 = .ok (.iload_n 2, 1) := by decide +kernel
theorem dX1_nextOrder_76 : decode cX1_nextOrder 76 = .ok (.invokevirtual 83, 3) := by decide +kernel
theorem dX1_nextOrder_79 : decode cX1_nextOrder 79 = .ok (.iload_n 1, 1) := by decide +kernel
theorem dX1_nextOrder_80 : decode cX1_nextOrder 80 = .ok (.iconst 1, 1) := by decide +kernel
theorem dX1_nextOrder_81 : decode cX1_nextOrder 81 = .ok (.iadd, 1) := by decide +kernel
theorem dX1_nextOrder_82 : decode cX1_nextOrder 82 = .ok (.istore_n 3, 1) := by decide +kernel
theorem dX1_nextOrder_83 : decode cX1_nextOrder 83 = .ok (.aload_n 0, 1) := by decide +kernel
theorem dX1_nextOrder_84 : decode cX1_nextOrder 84 = .ok (.getfield 30, 3) := by decide +kernel
theorem dX1_nextOrder_87 : decode cX1_nextOrder 87 = .ok (.iconst 1, 1) := by decide +kernel
theorem dX1_nextOrder_88 : decode cX1_nextOrder 88 = .ok (.isub, 1) := by decide +kernel
theorem dX1_nextOrder_89 : decode cX1_nextOrder 89 = .ok (.istore 4, 2) := by decide +kernel
theorem dX1_nextOrder_91 : decode cX1_nextOrder 91 = .ok (.iload_n 3, 1) := by decide +kernel
theorem dX1_nextOrder_92 : decode cX1_nextOrder 92 = .ok (.iload 4, 2) := by decide +kernel
theorem dX1_nextOrder_94 : decode cX1_nextOrder 94 = .ok (.if_icmp .ge 19, 3) := by decide +kernel
theorem dX1_nextOrder_97 : decode cX1_nextOrder 97 = .ok (.aload_n 0, 1) := by decide +kernel
theorem dX1_nextOrder_98 : decode cX1_nextOrder 98 = .ok (.iload_n 3, 1) := by decide +kernel
theorem dX1_nextOrder_99 : decode cX1_nextOrder 99 = .ok (.iload 4, 2) := by decide +kernel
theorem dX1_nextOrder_101 : decode cX1_nextOrder 101 = .ok (.invokevirtual 83, 3) := by decide +kernel
theorem dX1_nextOrder_104 : decode cX1_nextOrder 104 = .ok (.iinc 3 1, 3) := by decide +kernel
theorem dX1_nextOrder_107 : decode cX1_nextOrder 107 = .ok (.iinc 4 (-1), 3) := by decide +kernel
theorem dX1_nextOrder_110 : decode cX1_nextOrder 110 = .ok (.goto (-19), 3) := by decide +kernel
theorem dX1_nextOrder_113 : decode cX1_nextOrder 113 = .ok (.iconst 1, 1) := by decide +kernel
theorem dX1_nextOrder_114 : decode cX1_nextOrder 114 = .ok (.ireturn, 1) := by decide +kernel
theorem dX1_swap_0 : decode cX1_swap 0 = .ok (.aload_n 0, 1) := by decide +kernel
theorem dX1_swap_1 : decode cX1_swap 1 = .ok (.getfield 17, 3) := by decide +kernel
theorem dX1_swap_4 : decode cX1_swap 4 = .ok (.iload_n 1, 1) := by decide +kernel
theorem dX1_swap_5 : decode cX1_swap 5 = .ok (.iaload, 1) := by decide +kernel
theorem dX1_swap_6 : decode cX1_swap 6 = .ok (.istore_n 3, 1) := by decide +kernel
theorem dX1_swap_7 : decode cX1_swap 7 = .ok (.aload_n 0, 1) := by decide +kernel
theorem dX1_swap_8 : decode cX1_swap 8 = .ok (.getfield 17, 3) := by decide +kernel
theorem dX1_swap_11 : decode cX1_swap 11 = .ok (.iload_n 1, 1) := by decide +kernel
theorem dX1_swap_12 : decode cX1_swap 12 = .ok (.aload_n 0, 1) := by decide +kernel
theorem dX1_swap_13 : decode cX1_swap 13 = .ok (.getfield 17, 3) := by decide +kernel
theorem dX1_swap_16 : decode cX1_swap 16 = .ok (.iload_n 2, 1) := by decide +kernel
theorem dX1_swap_17 : decode cX1_swap 17 = .ok (.iaload, 1) := by decide +kernel
theorem dX1_swap_18 : decode cX1_swap 18 = .ok (.iastore, 1) := by decide +kernel
theorem dX1_swap_19 : decode cX1_swap 19 = .ok (.aload_n 0, 1) := by decide +kernel
theorem dX1_swap_20 : decode cX1_swap 20 = .ok (.getfield 17, 3) := by decide +kernel
theorem dX1_swap_23 : decode cX1_swap 23 = .ok (.iload_n 2, 1) := by decide +kernel
theorem dX1_swap_24 : decode cX1_swap 24 = .ok (.iload_n 3, 1) := by decide +kernel
theorem dX1_swap_25 : decode cX1_swap 25 = .ok (.iastore, 1) := by decide +kernel
theorem dX1_swap_26 : decode cX1_swap 26 = .ok (.return_, 1) := by decide +kernel
theorem dX2_init_0 : decode cX2_init 0 = .ok (.aload_n 0, 1) := by decide +kernel
theorem dX2_init_1 : decode cX2_init 1 = .ok (.invokespecial 3, 3) := by decide +kernel
theorem dX2_init_4 : decode cX2_init 4 = .ok (.aload_n 0, 1) := by decide +kernel
theorem dX2_init_5 : decode cX2_init 5 = .ok (.bipush 8, 2) := by decide +kernel
theorem dX2_init_7 : decode cX2_init 7 = .ok (.anewarray 11, 3) := by decide +kernel
theorem dX2_init_10 : decode cX2_init 10 = .ok (.putfield 13, 3) := by decide +kernel
theorem dX2_init_13 : decode cX2_init 13 = .ok (.aload_n 0, 1) := by decide +kernel
theorem dX2_init_14 : decode cX2_init 14 = .ok (.iconst 0, 1) := by decide +kernel
theorem dX2_init_15 : decode cX2_init 15 = .ok (.putfield 17, 3) := by decide +kernel
theorem dX2_init_18 : decode cX2_init 18 = .ok (.aload_n 0, 1) := by decide +kernel
theorem dX2_init_19 : decode cX2_init 19 = .ok (.aconst_null, 1) := by decide +kernel
theorem dX2_init_20 : decode cX2_init 20 = .ok (.putfield 21, 3) := by decide +kernel
theorem dX2_init_23 : decode cX2_init 23 = .ok (.aload_n 0, 1) := by decide +kernel
theorem dX2_init_24 : decode cX2_init 24 = .ok (.iconst (-1), 1) := by decide +kernel
theorem dX2_init_25 : decode cX2_init 25 = .ok (.putfield 25, 3) := by decide +kernel
theorem dX2_init_28 : decode cX2_init 28 = .ok (.aload_n 0, 1) := by decide +kernel
theorem dX2_init_29 : decode cX2_init 29 = .ok (.iload_n 1, 1) := by decide +kernel
theorem dX2_init_30 : decode cX2_init 30 = .ok (.putfield 28, 3) := by decide +kernel
theorem dX2_init_33 : decode cX2_init 33 = .ok (.aload_n 0, 1) := by decide +kernel
theorem dX2_init_34 : decode cX2_init 34 = .ok (.aload_n 2, 1) := by decide +kernel
theorem dX2_init_35 : decode cX2_init 35 = .ok (.putfield 31, 3) := by decide +kernel
theorem dX2_init_38 : decode cX2_init 38 = .ok (.return_, 1) := by decide +kernel
theorem dX2_state_0 : decode cX2_state 0 = .ok (.aload_n 0, 1) := by decide +kernel
theorem dX2_state_1 : decode cX2_state 1 = .ok (.getfield 17, 3) := by decide +kernel
theorem dX2_state_4 : decode cX2_state 4 = .ok (.ifCond .ne 5, 3) := by decide +kernel
theorem dX2_state_7 : decode cX2_state 7 = .ok (.iconst 3, 1) := by decide +kernel
theorem dX2_state_8 : decode cX2_state 8 = .ok (.ireturn, 1) := by decide +kernel
theorem dX2_state_9 : decode cX2_state 9 = .ok (.aload_n 0, 1) := by decide +kernel
theorem dX2_state_10 : decode cX2_state 10 = .ok (.getfield 21, 3) := by decide +kernel
theorem dX2_state_13 : decode cX2_state 13 = .ok (.ifnonnull 5, 3) := by decide +kernel
theorem dX2_state_16 : decode cX2_state 16 = .ok (.iconst 0, 1) := by decide +kernel
theorem dX2_state_17 : decode cX2_state 17 = .ok (.ireturn, 1) := by decide +kernel
theorem dX2_state_18 : decode cX2_state 18 = .ok (.aload_n 0, 1) := by decide +kernel
theorem dX2_state_19 : decode cX2_state 19 = .ok (.getfield 25, 3) := by decide +kernel
theorem dX2_state_22 : decode cX2_state 22 = .ok (.iconst (-1), 1) := by decide +kernel
theorem dX2_state_23 : decode cX2_state 23 = .ok (.if_icmp .ne 7, 3) := by decide +kernel
theorem dX2_state_26 : decode cX2_state 26 = .ok (.iconst 1, 1) := by decide +kernel
theorem dX2_state_27 : decode cX2_state 27 = .ok (.goto 4, 3) := by decide +kernel
theorem dX2_state_30 : decode cX2_state 30 = .ok (.iconst 2, 1) := by decide +kernel
theorem dX2_state_31 : decode cX2_state 31 = .ok (.ireturn, 1) := by decide +kernel
theorem dX2_need_0 : decode cX2_need 0 = .ok (.iconst 5, 1) := by decide +kernel
theorem dX2_need_1 : decode cX2_need 1 = .ok (.aload_n 0, 1) := by decide +kernel
theorem dX2_need_2 : decode cX2_need 2 = .ok (.getfield 17, 3) := by decide +kernel
theorem dX2_need_5 : decode cX2_need 5 = .ok (.imul, 1) := by decide +kernel
theorem dX2_need_6 : decode cX2_need 6 = .ok (.ireturn, 1) := by decide +kernel
theorem dX2_width_0 : decode cX2_width 0 = .ok (.iconst 0, 1) := by decide +kernel
theorem dX2_width_1 : decode cX2_width 1 = .ok (.istore_n 1, 1) := by decide +kernel
theorem dX2_width_2 : decode cX2_width 2 = .ok (.iconst 0, 1) := by decide +kernel
theorem dX2_width_3 : decode cX2_width 3 = .ok (.istore_n 2, 1) := by decide +kernel
theorem dX2_width_4 : decode cX2_width 4 = .ok (.iload_n 2, 1) := by decide +kernel
theorem dX2_width_5 : decode cX2_width 5 = .ok (.aload_n 0, 1) := by decide +kernel
theorem dX2_width_6 : decode cX2_width 6 = .ok (.getfield 17, 3) := by decide +kernel
theorem dX2_width_9 : decode cX2_width 9 = .ok (.if_icmp .ge 23, 3) := by decide +kernel
theorem dX2_width_12 : decode cX2_width 12 = .ok (.iload_n 1, 1) := by decide +kernel
theorem dX2_width_13 : decode cX2_width 13 = .ok (.aload_n 0, 1) := by decide +kernel
theorem dX2_width_14 : decode cX2_width 14 = .ok (.getfield 13, 3) := by decide +kernel
theorem dX2_width_17 : decode cX2_width 17 = .ok (.iload_n 2, 1) := by decide +kernel
theorem dX2_width_18 : decode cX2_width 18 = .ok (.aaload, 1) := by decide +kernel
theorem dX2_width_19 : decode cX2_width 19 = .ok (.getfield 35, 3) := by decide +kernel
theorem dX2_width_22 : decode cX2_width 22 = .ok (.invokestatic 38, 3) := by decide +kernel
theorem dX2_width_25 : decode cX2_width 25 = .ok (.istore_n 1, 1) := by decide +kernel
theorem dX2_width_26 : decode cX2_width 26 = .ok (.iinc 2 1, 3) := by decide +kernel
theorem dX2_width_29 : decode cX2_width 29 = .ok (.goto (-25), 3) := by decide +kernel
theorem dX2_width_32 : decode cX2_width 32 = .ok (.iload_n 1, 1) := by decide +kernel
theorem dX2_width_33 : decode cX2_width 33 = .ok (.ireturn, 1) := by decide +kernel
theorem dX2_trunkCount_0 : decode cX2_trunkCount 0 = .ok (.iconst 0, 1) := by decide +kernel
theorem dX2_trunkCount_1 : decode cX2_trunkCount 1 = .ok (.istore_n 1, 1) := by decide +kernel
theorem dX2_trunkCount_2 : decode cX2_trunkCount 2 = .ok (.iconst 0, 1) := by decide +kernel
theorem dX2_trunkCount_3 : decode cX2_trunkCount 3 = .ok (.istore_n 2, 1) := by decide +kernel
theorem dX2_trunkCount_4 : decode cX2_trunkCount 4 = .ok (.iload_n 2, 1) := by decide +kernel
theorem dX2_trunkCount_5 : decode cX2_trunkCount 5 = .ok (.aload_n 0, 1) := by decide +kernel
theorem dX2_trunkCount_6 : decode cX2_trunkCount 6 = .ok (.getfield 17, 3) := by decide +kernel
theorem dX2_trunkCount_9 : decode cX2_trunkCount 9 = .ok (.if_icmp .ge 21, 3) := by decide +kernel
theorem dX2_trunkCount_12 : decode cX2_trunkCount 12 = .ok (.iload_n 1, 1) := by decide +kernel
theorem dX2_trunkCount_13 : decode cX2_trunkCount 13 = .ok (.aload_n 0, 1) := by decide +kernel
theorem dX2_trunkCount_14 : decode cX2_trunkCount 14 = .ok (.getfield 13, 3) := by decide +kernel
theorem dX2_trunkCount_17 : decode cX2_trunkCount 17 = .ok (.iload_n 2, 1) := by decide +kernel
theorem dX2_trunkCount_18 : decode cX2_trunkCount 18 = .ok (.aaload, 1) := by decide +kernel
theorem dX2_trunkCount_19 : decode cX2_trunkCount 19 = .ok (.getfield 44, 3) := by decide +kernel
theorem dX2_trunkCount_22 : decode cX2_trunkCount 22 = .ok (.iadd, 1) := by decide +kernel
theorem dX2_trunkCount_23 : decode cX2_trunkCount 23 = .ok (.istore_n 1, 1) := by decide +kernel
theorem dX2_trunkCount_24 : decode cX2_trunkCount 24 = .ok (.iinc 2 1, 3) := by decide +kernel
theorem dX2_trunkCount_27 : decode cX2_trunkCount 27 = .ok (.goto (-23), 3) := by decide +kernel
theorem dX2_trunkCount_30 : decode cX2_trunkCount 30 = .ok (.iload_n 1, 1) := by decide +kernel
theorem dX2_trunkCount_31 : decode cX2_trunkCount 31 = .ok (.ireturn, 1) := by decide +kernel
theorem dX2_firstTrunk_0 : decode cX2_firstTrunk 0 = .ok (.aload_n 0, 1) := by decide +kernel
theorem dX2_firstTrunk_1 : decode cX2_firstTrunk 1 = .ok (.getfield 17, 3) := by decide +kernel
theorem dX2_firstTrunk_4 : decode cX2_firstTrunk 4 = .ok (.ifCond .le 15, 3) := by decide +kernel
theorem dX2_firstTrunk_7 : decode cX2_firstTrunk 7 = .ok (.aload_n 0, 1) := by decide +kernel
theorem dX2_firstTrunk_8 : decode cX2_firstTrunk 8 = .ok (.getfield 13, 3) := by decide +kernel
theorem dX2_firstTrunk_11 : decode cX2_firstTrunk 11 = .ok (.iconst 0, 1) := by decide +kernel
theorem dX2_firstTrunk_12 : decode cX2_firstTrunk 12 = .ok (.aaload, 1) := by decide +kernel
theorem dX2_firstTrunk_13 : decode cX2_firstTrunk 13 = .ok (.invokevirtual 45, 3) := by decide +kernel
theorem dX2_firstTrunk_16 : decode cX2_firstTrunk 16 = .ok (.goto 4, 3) := by decide +kernel
theorem dX2_firstTrunk_19 : decode cX2_firstTrunk 19 = .ok (.aconst_null, 1) := by decide +kernel
theorem dX2_firstTrunk_20 : decode cX2_firstTrunk 20 = .ok (.areturn, 1) := by decide +kernel
theorem dX2_fits_0 : decode cX2_fits 0 = .ok (.aload_n 0, 1) := by decide +kernel
theorem dX2_fits_1 : decode cX2_fits 1 = .ok (.getfield 31, 3) := by decide +kernel
theorem dX2_fits_4 : decode cX2_fits 4 = .ok (.aload_n 1, 1) := by decide +kernel
theorem dX2_fits_5 : decode cX2_fits 5 = .ok (.if_acmp .ne 26, 3) := by decide +kernel
theorem dX2_fits_8 : decode cX2_fits 8 = .ok (.aload_n 0, 1) := by decide +kernel
theorem dX2_fits_9 : decode cX2_fits 9 = .ok (.invokevirtual 49, 3) := by decide +kernel
theorem dX2_fits_12 : decode cX2_fits 12 = .ok (.iconst 1, 1) := by decide +kernel
theorem dX2_fits_13 : decode cX2_fits 13 = .ok (.if_icmp .ne 18, 3) := by decide +kernel
theorem dX2_fits_16 : decode cX2_fits 16 = .ok (.aload_n 0, 1) := by decide +kernel
theorem dX2_fits_17 : decode cX2_fits 17 = .ok (.invokevirtual 53, 3) := by decide +kernel
theorem dX2_fits_20 : decode cX2_fits 20 = .ok (.aload_n 1, 1) := by decide +kernel
theorem dX2_fits_21 : decode cX2_fits 21 = .ok (.getfield 55, 3) := by decide +kernel
theorem dX2_fits_24 : decode cX2_fits 24 = .ok (.if_icmp .gt 7, 3) := by decide +kernel
theorem dX2_fits_27 : decode cX2_fits 27 = .ok (.iconst 1, 1) := by decide +kernel
theorem dX2_fits_28 : decode cX2_fits 28 = .ok (.goto 4, 3) := by decide +kernel
theorem dX2_fits_31 : decode cX2_fits 31 = .ok (.iconst 0, 1) := by decide +kernel
theorem dX2_fits_32 : decode cX2_fits 32 = .ok (.ireturn, 1) := by decide +kernel
theorem dX2_append_0 : decode cX2_append 0 = .ok (.aload_n 0, 1) := by decide +kernel
theorem dX2_append_1 : decode cX2_append 1 = .ok (.getfield 17, 3) := by decide +kernel
theorem dX2_append_4 : decode cX2_append 4 = .ok (.bipush 8, 2) := by decide +kernel
theorem dX2_append_6 : decode cX2_append 6 = .ok (.if_icmp .ge 28, 3) := by decide +kernel
theorem dX2_append_9 : decode cX2_append 9 = .ok (.aload_n 0, 1) := by decide +kernel
theorem dX2_append_10 : decode cX2_append 10 = .ok (.getfield 13, 3) := by decide +kernel
theorem dX2_append_13 : decode cX2_append 13 = .ok (.aload_n 0, 1) := by decide +kernel
theorem dX2_append_14 : decode cX2_append 14 = .ok (.getfield 17, 3) := by decide +kernel
theorem dX2_append_17 : decode cX2_append 17 = .ok (.aload_n 1, 1) := by decide +kernel
theorem dX2_append_18 : decode cX2_append 18 = .ok (.aastore, 1) := by decide +kernel
theorem dX2_append_19 : decode cX2_append 19 = .ok (.aload_n 0, 1) := by decide +kernel
theorem dX2_append_20 : decode cX2_append 20 = .ok (.dup, 1) := by decide +kernel
theorem dX2_append_21 : decode cX2_append 21 = .ok (.getfield 17, 3) := by decide +kernel
theorem dX2_append_24 : decode cX2_append 24 = .ok (.iconst 1, 1) := by decide +kernel
theorem dX2_append_25 : decode cX2_append 25 = .ok (.iadd, 1) := by decide +kernel
theorem dX2_append_26 : decode cX2_append 26 = .ok (.putfield 17, 3) := by decide +kernel
theorem dX2_append_29 : decode cX2_append 29 = .ok (.aload_n 1, 1) := by decide +kernel
theorem dX2_append_30 : decode cX2_append 30 = .ok (.aload_n 0, 1) := by decide +kernel
theorem dX2_append_31 : decode cX2_append 31 = .ok (.invokevirtual 60, 3) := by decide +kernel
theorem dX2_append_34 : decode cX2_append 34 = .ok (.return_, 1) := by decide +kernel
theorem dX2_moveRows_0 : decode cX2_moveRows 0 = .ok (.iconst 0, 1) := by decide +kernel
theorem dX2_moveRows_1 : decode cX2_moveRows 1 = .ok (.iload_n 1, 1) := by decide +kernel
theorem dX2_moveRows_2 : decode cX2_moveRows 2 = .ok (.invokestatic 38, 3) := by decide +kernel
theorem dX2_moveRows_5 : decode cX2_moveRows 5 = .ok (.istore_n 3, 1) := by decide +kernel
theorem dX2_moveRows_6 : decode cX2_moveRows 6 = .ok (.iload_n 3, 1) := by decide +kernel
theorem dX2_moveRows_7 : decode cX2_moveRows 7 = .ok (.aload_n 0, 1) := by decide +kernel
theorem dX2_moveRows_8 : decode cX2_moveRows 8 = .ok (.getfield 17, 3) := by decide +kernel
theorem dX2_moveRows_11 : decode cX2_moveRows 11 = .ok (.if_icmp .ge 19, 3) := by decide +kernel
theorem dX2_moveRows_14 : decode cX2_moveRows 14 = .ok (.aload_n 2, 1) := by decide +kernel
theorem dX2_moveRows_15 : decode cX2_moveRows 15 = .ok (.aload_n 0, 1) := by decide +kernel
theorem dX2_moveRows_16 : decode cX2_moveRows 16 = .ok (.getfield 13, 3) := by decide +kernel
theorem dX2_moveRows_19 : decode cX2_moveRows 19 = .ok (.iload_n 3, 1) := by decide +kernel
theorem dX2_moveRows_20 : decode cX2_moveRows 20 = .ok (.aaload, 1) := by decide +kernel
theorem dX2_moveRows_21 : decode cX2_moveRows 21 = .ok (.invokevirtual 64, 3) := by decide +kernel
theorem dX2_moveRows_24 : decode cX2_moveRows 24 = .ok (.iinc 3 1, 3) := by decide +kernel
theorem dX2_moveRows_27 : decode cX2_moveRows 27 = .ok (.goto (-21), 3) := by decide +kernel
theorem dX2_moveRows_30 : decode cX2_moveRows 30 = .ok (.aload_n 0, 1) := by decide +kernel
theorem dX2_moveRows_31 : decode cX2_moveRows 31 = .ok (.aload_n 0, 1) := by decide +kernel
theorem dX2_moveRows_32 : decode cX2_moveRows 32 = .ok (.getfield 17, 3) := by decide +kernel
theorem dX2_moveRows_35 : decode cX2_moveRows 35 = .ok (.iconst 0, 1) := by decide +kernel
theorem dX2_moveRows_36 : decode cX2_moveRows 36 = .ok (.iload_n 1, 1) := by decide +kernel
theorem dX2_moveRows_37 : decode cX2_moveRows 37 = .ok (.invokestatic 38, 3) := by decide +kernel
theorem dX2_moveRows_40 : decode cX2_moveRows 40 = .ok (.invokestatic 68, 3) := by decide +kernel
theorem dX2_moveRows_43 : decode cX2_moveRows 43 = .ok (.putfield 17, 3) := by decide +kernel
theorem dX2_moveRows_46 : decode cX2_moveRows 46 = .ok (.return_, 1) := by decide +kernel
theorem dX2_end_0 : decode cX2_end 0 = .ok (.aload_n 0, 1) := by decide +kernel
theorem dX2_end_1 : decode cX2_end 1 = .ok (.iconst 0, 1) := by decide +kernel
theorem dX2_end_2 : decode cX2_end 2 = .ok (.putfield 17, 3) := by decide +kernel
theorem dX2_end_5 : decode cX2_end 5 = .ok (.aload_n 0, 1) := by decide +kernel
theorem dX2_end_6 : decode cX2_end 6 = .ok (.aconst_null, 1) := by decide +kernel
theorem dX2_end_7 : decode cX2_end 7 = .ok (.putfield 31, 3) := by decide +kernel
theorem dX2_end_10 : decode cX2_end 10 = .ok (.return_, 1) := by decide +kernel
theorem dX2_goDown_0 : decode cX2_goDown 0 = .ok (.aload_n 0, 1) := by decide +kernel
theorem dX2_goDown_1 : decode cX2_goDown 1 = .ok (.iload_n 2, 1) := by decide +kernel
theorem dX2_goDown_2 : decode cX2_goDown 2 = .ok (.aload_n 1, 1) := by decide +kernel
theorem dX2_goDown_3 : decode cX2_goDown 3 = .ok (.getfield 71, 3) := by decide +kernel
theorem dX2_goDown_6 : decode cX2_goDown 6 = .ok (.iadd, 1) := by decide +kernel
theorem dX2_goDown_7 : decode cX2_goDown 7 = .ok (.putfield 25, 3) := by decide +kernel
theorem dX2_goDown_10 : decode cX2_goDown 10 = .ok (.aload_n 0, 1) := by decide +kernel
theorem dX2_goDown_11 : decode cX2_goDown 11 = .ok (.aload_n 1, 1) := by decide +kernel
theorem dX2_goDown_12 : decode cX2_goDown 12 = .ok (.getfield 74, 3) := by decide +kernel
theorem dX2_goDown_15 : decode cX2_goDown 15 = .ok (.putfield 31, 3) := by decide +kernel
theorem dX2_goDown_18 : decode cX2_goDown 18 = .ok (.return_, 1) := by decide +kernel
theorem dX2_landCrew_0 : decode cX2_landCrew 0 = .ok (.aload_n 0, 1) := by decide +kernel
theorem dX2_landCrew_1 : decode cX2_landCrew 1 = .ok (.getfield 21, 3) := by decide +kernel
theorem dX2_landCrew_4 : decode cX2_landCrew 4 = .ok (.astore_n 1, 1) := by decide +kernel
theorem dX2_landCrew_5 : decode cX2_landCrew 5 = .ok (.aload_n 1, 1) := by decide +kernel
theorem dX2_landCrew_6 : decode cX2_landCrew 6 = .ok (.ifnull 16, 3) := by decide +kernel
theorem dX2_landCrew_9 : decode cX2_landCrew 9 = .ok (.aload_n 1, 1) := by decide +kernel
theorem dX2_landCrew_10 : decode cX2_landCrew 10 = .ok (.aconst_null, 1) := by decide +kernel
theorem dX2_landCrew_11 : decode cX2_landCrew 11 = .ok (.putfield 77, 3) := by decide +kernel
theorem dX2_landCrew_14 : decode cX2_landCrew 14 = .ok (.aload_n 1, 1) := by decide +kernel
theorem dX2_landCrew_15 : decode cX2_landCrew 15 = .ok (.aload_n 0, 1) := by decide +kernel
theorem dX2_landCrew_16 : decode cX2_landCrew 16 = .ok (.getfield 31, 3) := by decide +kernel
theorem dX2_landCrew_19 : decode cX2_landCrew 19 = .ok (.putfield 83, 3) := by decide +kernel
theorem dX2_landCrew_22 : decode cX2_landCrew 22 = .ok (.aload_n 0, 1) := by decide +kernel
theorem dX2_landCrew_23 : decode cX2_landCrew 23 = .ok (.aconst_null, 1) := by decide +kernel
theorem dX2_landCrew_24 : decode cX2_landCrew 24 = .ok (.putfield 21, 3) := by decide +kernel
theorem dX2_landCrew_27 : decode cX2_landCrew 27 = .ok (.aload_n 0, 1) := by decide +kernel
theorem dX2_landCrew_28 : decode cX2_landCrew 28 = .ok (.iconst (-1), 1) := by decide +kernel
theorem dX2_landCrew_29 : decode cX2_landCrew 29 = .ok (.putfield 25, 3) := by decide +kernel
theorem dX2_landCrew_32 : decode cX2_landCrew 32 = .ok (.aload_n 1, 1) := by decide +kernel
theorem dX2_landCrew_33 : decode cX2_landCrew 33 = .ok (.areturn, 1) := by decide +kernel
theorem dX2_loseTrunks_0 : decode cX2_loseTrunks 0 = .ok (.iconst 0, 1) := by decide +kernel
theorem dX2_loseTrunks_1 : decode cX2_loseTrunks 1 = .ok (.istore_n 2, 1) := by decide +kernel
theorem dX2_loseTrunks_2 : decode cX2_loseTrunks 2 = .ok (.iconst 0, 1) := by decide +kernel
theorem dX2_loseTrunks_3 : decode cX2_loseTrunks 3 = .ok (.istore_n 3, 1) := by decide +kernel
theorem dX2_loseTrunks_4 : decode cX2_loseTrunks 4 = .ok (.iload_n 3, 1) := by decide +kernel
theorem dX2_loseTrunks_5 : decode cX2_loseTrunks 5 = .ok (.aload_n 0, 1) := by decide +kernel
theorem dX2_loseTrunks_6 : decode cX2_loseTrunks 6 = .ok (.getfield 17, 3) := by decide +kernel
theorem dX2_loseTrunks_9 : decode cX2_loseTrunks 9 = .ok (.if_icmp .ge 22, 3) := by decide +kernel
theorem dX2_loseTrunks_12 : decode cX2_loseTrunks 12 = .ok (.iload_n 2, 1) := by decide +kernel
theorem dX2_loseTrunks_13 : decode cX2_loseTrunks 13 = .ok (.aload_n 0, 1) := by decide +kernel
theorem dX2_loseTrunks_14 : decode cX2_loseTrunks 14 = .ok (.getfield 13, 3) := by decide +kernel
theorem dX2_loseTrunks_17 : decode cX2_loseTrunks 17 = .ok (.iload_n 3, 1) := by decide +kernel
theorem dX2_loseTrunks_18 : decode cX2_loseTrunks 18 = .ok (.aaload, 1) := by decide +kernel
theorem dX2_loseTrunks_19 : decode cX2_loseTrunks 19 = .ok (.iload_n 1, 1) := by decide +kernel
theorem dX2_loseTrunks_20 : decode cX2_loseTrunks 20 = .ok (.invokevirtual 84, 3) := by decide +kernel
theorem dX2_loseTrunks_23 : decode cX2_loseTrunks 23 = .ok (.iadd, 1) := by decide +kernel
theorem dX2_loseTrunks_24 : decode cX2_loseTrunks 24 = .ok (.istore_n 2, 1) := by decide +kernel
theorem dX2_loseTrunks_25 : decode cX2_loseTrunks 25 = .ok (.iinc 3 1, 3) := by decide +kernel
theorem dX2_loseTrunks_28 : decode cX2_loseTrunks 28 = .ok (.goto (-24), 3) := by decide +kernel
theorem dX2_loseTrunks_31 : decode cX2_loseTrunks 31 = .ok (.iload_n 2, 1) := by decide +kernel
theorem dX2_loseTrunks_32 : decode cX2_loseTrunks 32 = .ok (.ireturn, 1) := by decide +kernel
theorem dX2_scatter_0 : decode cX2_scatter 0 = .ok (.iconst 0, 1) := by decide +kernel
theorem dX2_scatter_1 : decode cX2_scatter 1 = .ok (.istore_n 1, 1) := by decide +kernel
theorem dX2_scatter_2 : decode cX2_scatter 2 = .ok (.iload_n 1, 1) := by decide +kernel
theorem dX2_scatter_3 : decode cX2_scatter 3 = .ok (.aload_n 0, 1) := by decide +kernel
theorem dX2_scatter_4 : decode cX2_scatter 4 = .ok (.getfield 17, 3) := by decide +kernel
theorem dX2_scatter_7 : decode cX2_scatter 7 = .ok (.if_icmp .ge 22, 3) := by decide +kernel
theorem dX2_scatter_10 : decode cX2_scatter 10 = .ok (.aload_n 0, 1) := by decide +kernel
theorem dX2_scatter_11 : decode cX2_scatter 11 = .ok (.getfield 13, 3) := by decide +kernel
theorem dX2_scatter_14 : decode cX2_scatter 14 = .ok (.iload_n 1, 1) := by decide +kernel
theorem dX2_scatter_15 : decode cX2_scatter 15 = .ok (.aaload, 1) := by decide +kernel
theorem dX2_scatter_16 : decode cX2_scatter 16 = .ok (.aload_n 0, 1) := by decide +kernel
theorem dX2_scatter_17 : decode cX2_scatter 17 = .ok (.getfield 31, 3) := by decide +kernel
theorem dX2_scatter_20 : decode cX2_scatter 20 = .ok (.invokevirtual 88, 3) := by decide +kernel
theorem dX2_scatter_23 : decode cX2_scatter 23 = .ok (.iinc 1 1, 3) := by decide +kernel
theorem dX2_scatter_26 : decode cX2_scatter 26 = .ok (.goto (-24), 3) := by decide +kernel
theorem dX2_scatter_29 : decode cX2_scatter 29 = .ok (.aload_n 0, 1) := by decide +kernel
theorem dX2_scatter_30 : decode cX2_scatter 30 = .ok (.invokevirtual 92, 3) := by decide +kernel
theorem dX2_scatter_33 : decode cX2_scatter 33 = .ok (.return_, 1) := by decide +kernel
theorem dX3_init_0 : decode cX3_init 0 = .ok (.aload_n 0, 1) := by decide +kernel
theorem dX3_init_1 : decode cX3_init 1 = .ok (.invokespecial 1, 3) := by decide +kernel
theorem dX3_init_4 : decode cX3_init 4 = .ok (.aload_n 0, 1) := by decide +kernel
theorem dX3_init_5 : decode cX3_init 5 = .ok (.bipush 9, 2) := by decide +kernel
theorem dX3_init_7 : decode cX3_init 7 = .ok (.anewarray 9, 3) := by decide +kernel
theorem dX3_init_10 : decode cX3_init 10 = .ok (.putfield 11, 3) := by decide +kernel
theorem dX3_init_13 : decode cX3_init 13 = .ok (.aload_n 0, 1) := by decide +kernel
theorem dX3_init_14 : decode cX3_init 14 = .ok (.iconst 0, 1) := by decide +kernel
theorem dX3_init_15 : decode cX3_init 15 = .ok (.putfield 15, 3) := by decide +kernel
theorem dX3_init_18 : decode cX3_init 18 = .ok (.aload_n 0, 1) := by decide +kernel
theorem dX3_init_19 : decode cX3_init 19 = .ok (.iconst 0, 1) := by decide +kernel
theorem dX3_init_20 : decode cX3_init 20 = .ok (.putfield 19, 3) := by decide +kernel
theorem dX3_init_23 : decode cX3_init 23 = .ok (.return_, 1) := by decide +kernel
theorem dX3_first_0 : decode cX3_first 0 = .ok (.aload_n 0, 1) := by decide +kernel
theorem dX3_first_1 : decode cX3_first 1 = .ok (.getfield 15, 3) := by decide +kernel
theorem dX3_first_4 : decode cX3_first 4 = .ok (.ifCond .le 12, 3) := by decide +kernel
theorem dX3_first_7 : decode cX3_first 7 = .ok (.aload_n 0, 1) := by decide +kernel
theorem dX3_first_8 : decode cX3_first 8 = .ok (.getfield 11, 3) := by decide +kernel
theorem dX3_first_11 : decode cX3_first 11 = .ok (.iconst 0, 1) := by decide +kernel
theorem dX3_first_12 : decode cX3_first 12 = .ok (.aaload, 1) := by decide +kernel
theorem dX3_first_13 : decode cX3_first 13 = .ok (.goto 4, 3) := by decide +kernel
theorem dX3_first_16 : decode cX3_first 16 = .ok (.aconst_null, 1) := by decide +kernel
theorem dX3_first_17 : decode cX3_first 17 = .ok (.areturn, 1) := by decide +kernel
theorem dX3_has_0 : decode cX3_has 0 = .ok (.iconst 0, 1) := by decide +kernel
theorem dX3_has_1 : decode cX3_has 1 = .ok (.istore_n 2, 1) := by decide +kernel
theorem dX3_has_2 : decode cX3_has 2 = .ok (.iload_n 2, 1) := by decide +kernel
theorem dX3_has_3 : decode cX3_has 3 = .ok (.aload_n 0, 1) := by decide +kernel
theorem dX3_has_4 : decode cX3_has 4 = .ok (.getfield 15, 3) := by decide +kernel
theorem dX3_has_7 : decode cX3_has 7 = .ok (.if_icmp .ge 27, 3) := by decide +kernel
theorem dX3_has_10 : decode cX3_has 10 = .ok (.aload_n 0, 1) := by decide +kernel
theorem dX3_has_11 : decode cX3_has 11 = .ok (.getfield 11, 3) := by decide +kernel
theorem dX3_has_14 : decode cX3_has 14 = .ok (.iload_n 2, 1) := by decide +kernel
theorem dX3_has_15 : decode cX3_has 15 = .ok (.aaload, 1) := by decide +kernel
theorem dX3_has_16 : decode cX3_has 16 = .ok (.getfield 22, 3) := by decide +kernel
theorem dX3_has_19 : decode cX3_has 19 = .ok (.aload_n 1, 1) := by decide +kernel
theorem dX3_has_20 : decode cX3_has 20 = .ok (.getfield 22, 3) := by decide +kernel
theorem dX3_has_23 : decode cX3_has 23 = .ok (.if_icmp .ne 5, 3) := by decide +kernel
theorem dX3_has_26 : decode cX3_has 26 = .ok (.iconst 1, 1) := by decide +kernel
theorem dX3_has_27 : decode cX3_has 27 = .ok (.ireturn, 1) := by decide +kernel
theorem dX3_has_28 : decode cX3_has 28 = .ok (.iinc 2 1, 3) := by decide +kernel
theorem dX3_has_31 : decode cX3_has 31 = .ok (.goto (-29), 3) := by decide +kernel
theorem dX3_has_34 : decode cX3_has 34 = .ok (.iconst 0, 1) := by decide +kernel
theorem dX3_has_35 : decode cX3_has 35 = .ok (.ireturn, 1) := by decide +kernel
theorem dX3_takes_0 : decode cX3_takes 0 = .ok (.aload_n 0, 1) := by decide +kernel
theorem dX3_takes_1 : decode cX3_takes 1 = .ok (.invokevirtual 25, 3) := by decide +kernel
theorem dX3_takes_4 : decode cX3_takes 4 = .ok (.astore_n 2, 1) := by decide +kernel
theorem dX3_takes_5 : decode cX3_takes 5 = .ok (.aload_n 0, 1) := by decide +kernel
theorem dX3_takes_6 : decode cX3_takes 6 = .ok (.getfield 15, 3) := by decide +kernel
theorem dX3_takes_9 : decode cX3_takes 9 = .ok (.bipush 9, 2) := by decide +kernel
theorem dX3_takes_11 : decode cX3_takes 11 = .ok (.if_icmp .ge 30, 3) := by decide +kernel
theorem dX3_takes_14 : decode cX3_takes 14 = .ok (.aload_n 0, 1) := by decide +kernel
theorem dX3_takes_15 : decode cX3_takes 15 = .ok (.aload_n 1, 1) := by decide +kernel
theorem dX3_takes_16 : decode cX3_takes 16 = .ok (.invokevirtual 29, 3) := by decide +kernel
theorem dX3_takes_19 : decode cX3_takes 19 = .ok (.ifCond .ne 22, 3) := by decide +kernel
theorem dX3_takes_22 : decode cX3_takes 22 = .ok (.aload_n 2, 1) := by decide +kernel
theorem dX3_takes_23 : decode cX3_takes 23 = .ok (.ifnull 14, 3) := by decide +kernel
theorem dX3_takes_26 : decode cX3_takes 26 = .ok (.aload_n 2, 1) := by decide +kernel
theorem dX3_takes_27 : decode cX3_takes 27 = .ok (.getfield 33, 3) := by decide +kernel
theorem dX3_takes_30 : decode cX3_takes 30 = .ok (.aload_n 1, 1) := by decide +kernel
theorem dX3_takes_31 : decode cX3_takes 31 = .ok (.getfield 33, 3) := by decide +kernel
theorem dX3_takes_34 : decode cX3_takes 34 = .ok (.if_acmp .ne 7, 3) := by decide +kernel
theorem dX3_takes_37 : decode cX3_takes 37 = .ok (.iconst 1, 1) := by decide +kernel
theorem dX3_takes_38 : decode cX3_takes 38 = .ok (.goto 4, 3) := by decide +kernel
theorem dX3_takes_41 : decode cX3_takes 41 = .ok (.iconst 0, 1) := by decide +kernel
theorem dX3_takes_42 : decode cX3_takes 42 = .ok (.ireturn, 1) := by decide +kernel
theorem dX3_append_0 : decode cX3_append 0 = .ok (.aload_n 0, 1) := by decide +kernel
theorem dX3_append_1 : decode cX3_append 1 = .ok (.getfield 15, 3) := by decide +kernel
theorem dX3_append_4 : decode cX3_append 4 = .ok (.bipush 9, 2) := by decide +kernel
theorem dX3_append_6 : decode cX3_append 6 = .ok (.if_icmp .ge 36, 3) := by decide +kernel
theorem dX3_append_9 : decode cX3_append 9 = .ok (.aload_n 0, 1) := by decide +kernel
theorem dX3_append_10 : decode cX3_append 10 = .ok (.getfield 11, 3) := by decide +kernel
theorem dX3_append_13 : decode cX3_append 13 = .ok (.aload_n 0, 1) := by decide +kernel
theorem dX3_append_14 : decode cX3_append 14 = .ok (.getfield 15, 3) := by decide +kernel
theorem dX3_append_17 : decode cX3_append 17 = .ok (.aload_n 1, 1) := by decide +kernel
theorem dX3_append_18 : decode cX3_append 18 = .ok (.aastore, 1) := by decide +kernel
theorem dX3_append_19 : decode cX3_append 19 = .ok (.aload_n 0, 1) := by decide +kernel
theorem dX3_append_20 : decode cX3_append 20 = .ok (.dup, 1) := by decide +kernel
theorem dX3_append_21 : decode cX3_append 21 = .ok (.getfield 15, 3) := by decide +kernel
theorem dX3_append_24 : decode cX3_append 24 = .ok (.iconst 1, 1) := by decide +kernel
theorem dX3_append_25 : decode cX3_append 25 = .ok (.iadd, 1) := by decide +kernel
theorem dX3_append_26 : decode cX3_append 26 = .ok (.putfield 15, 3) := by decide +kernel
theorem dX3_append_29 : decode cX3_append 29 = .ok (.aload_n 0, 1) := by decide +kernel
theorem dX3_append_30 : decode cX3_append 30 = .ok (.dup, 1) := by decide +kernel
theorem dX3_append_31 : decode cX3_append 31 = .ok (.getfield 19, 3) := by decide +kernel
theorem dX3_append_34 : decode cX3_append 34 = .ok (.aload_n 1, 1) := by decide +kernel
theorem dX3_append_35 : decode cX3_append 35 = .ok (.getfield 37, 3) := by decide +kernel
theorem dX3_append_38 : decode cX3_append 38 = .ok (.iadd, 1) := by decide +kernel
theorem dX3_append_39 : decode cX3_append 39 = .ok (.putfield 19, 3) := by decide +kernel
theorem dX3_append_42 : decode cX3_append 42 = .ok (.return_, 1) := by decide +kernel
theorem dX3_belongTo_0 : decode cX3_belongTo 0 = .ok (.iconst 0, 1) := by decide +kernel
theorem dX3_belongTo_1 : decode cX3_belongTo 1 = .ok (.istore_n 2, 1) := by decide +kernel
theorem dX3_belongTo_2 : decode cX3_belongTo 2 = .ok (.iload_n 2, 1) := by decide +kernel
theorem dX3_belongTo_3 : decode cX3_belongTo 3 = .ok (.aload_n 0, 1) := by decide +kernel
theorem dX3_belongTo_4 : decode cX3_belongTo 4 = .ok (.getfield 15, 3) := by decide +kernel
theorem dX3_belongTo_7 : decode cX3_belongTo 7 = .ok (.if_icmp .ge 29, 3) := by decide +kernel
theorem dX3_belongTo_10 : decode cX3_belongTo 10 = .ok (.aload_n 0, 1) := by decide +kernel
theorem dX3_belongTo_11 : decode cX3_belongTo 11 = .ok (.getfield 11, 3) := by decide +kernel
theorem dX3_belongTo_14 : decode cX3_belongTo 14 = .ok (.iload_n 2, 1) := by decide +kernel
theorem dX3_belongTo_15 : decode cX3_belongTo 15 = .ok (.aaload, 1) := by decide +kernel
theorem dX3_belongTo_16 : decode cX3_belongTo 16 = .ok (.aload_n 1, 1) := by decide +kernel
theorem dX3_belongTo_17 : decode cX3_belongTo 17 = .ok (.putfield 40, 3) := by decide +kernel
theorem dX3_belongTo_20 : decode cX3_belongTo 20 = .ok (.aload_n 0, 1) := by decide +kernel
theorem dX3_belongTo_21 : decode cX3_belongTo 21 = .ok (.getfield 11, 3) := by decide +kernel
theorem dX3_belongTo_24 : decode cX3_belongTo 24 = .ok (.iload_n 2, 1) := by decide +kernel
theorem dX3_belongTo_25 : decode cX3_belongTo 25 = .ok (.aaload, 1) := by decide +kernel
theorem dX3_belongTo_26 : decode cX3_belongTo 26 = .ok (.aconst_null, 1) := by decide +kernel
theorem dX3_belongTo_27 : decode cX3_belongTo 27 = .ok (.putfield 33, 3) := by decide +kernel
theorem dX3_belongTo_30 : decode cX3_belongTo 30 = .ok (.iinc 2 1, 3) := by decide +kernel
theorem dX3_belongTo_33 : decode cX3_belongTo 33 = .ok (.goto (-31), 3) := by decide +kernel
theorem dX3_belongTo_36 : decode cX3_belongTo 36 = .ok (.return_, 1) := by decide +kernel
theorem dX3_lieAt_0 : decode cX3_lieAt 0 = .ok (.iconst 0, 1) := by decide +kernel
theorem dX3_lieAt_1 : decode cX3_lieAt 1 = .ok (.istore_n 2, 1) := by decide +kernel
theorem dX3_lieAt_2 : decode cX3_lieAt 2 = .ok (.iload_n 2, 1) := by decide +kernel
theorem dX3_lieAt_3 : decode cX3_lieAt 3 = .ok (.aload_n 0, 1) := by decide +kernel
theorem dX3_lieAt_4 : decode cX3_lieAt 4 = .ok (.getfield 15, 3) := by decide +kernel
theorem dX3_lieAt_7 : decode cX3_lieAt 7 = .ok (.if_icmp .ge 41, 3) := by decide +kernel
theorem dX3_lieAt_10 : decode cX3_lieAt 10 = .ok (.aload_n 0, 1) := by decide +kernel
theorem dX3_lieAt_11 : decode cX3_lieAt 11 = .ok (.getfield 11, 3) := by decide +kernel
theorem dX3_lieAt_14 : decode cX3_lieAt 14 = .ok (.iload_n 2, 1) := by decide +kernel
theorem dX3_lieAt_15 : decode cX3_lieAt 15 = .ok (.aaload, 1) := by decide +kernel
theorem dX3_lieAt_16 : decode cX3_lieAt 16 = .ok (.getfield 40, 3) := by decide +kernel
theorem dX3_lieAt_19 : decode cX3_lieAt 19 = .ok (.ifnull 23, 3) := by decide +kernel
theorem dX3_lieAt_22 : decode cX3_lieAt 22 = .ok (.aload_n 0, 1) := by decide +kernel
theorem dX3_lieAt_23 : decode cX3_lieAt 23 = .ok (.getfield 11, 3) := by decide +kernel
theorem dX3_lieAt_26 : decode cX3_lieAt 26 = .ok (.iload_n 2, 1) := by decide +kernel
theorem dX3_lieAt_27 : decode cX3_lieAt 27 = .ok (.aaload, 1) := by decide +kernel
theorem dX3_lieAt_28 : decode cX3_lieAt 28 = .ok (.aconst_null, 1) := by decide +kernel
theorem dX3_lieAt_29 : decode cX3_lieAt 29 = .ok (.putfield 40, 3) := by decide +kernel
theorem dX3_lieAt_32 : decode cX3_lieAt 32 = .ok (.aload_n 0, 1) := by decide +kernel
theorem dX3_lieAt_33 : decode cX3_lieAt 33 = .ok (.getfield 11, 3) := by decide +kernel
theorem dX3_lieAt_36 : decode cX3_lieAt 36 = .ok (.iload_n 2, 1) := by decide +kernel
theorem dX3_lieAt_37 : decode cX3_lieAt 37 = .ok (.aaload, 1) := by decide +kernel
theorem dX3_lieAt_38 : decode cX3_lieAt 38 = .ok (.aload_n 1, 1) := by decide +kernel
theorem dX3_lieAt_39 : decode cX3_lieAt 39 = .ok (.putfield 33, 3) := by decide +kernel
theorem dX3_lieAt_42 : decode cX3_lieAt 42 = .ok (.iinc 2 1, 3) := by decide +kernel
theorem dX3_lieAt_45 : decode cX3_lieAt 45 = .ok (.goto (-43), 3) := by decide +kernel
theorem dX3_lieAt_48 : decode cX3_lieAt 48 = .ok (.return_, 1) := by decide +kernel
theorem dX3_loseTrunks_0 : decode cX3_loseTrunks 0 = .ok (.iconst 0, 1) := by decide +kernel
theorem dX3_loseTrunks_1 : decode cX3_loseTrunks 1 = .ok (.istore_n 2, 1) := by decide +kernel
theorem dX3_loseTrunks_2 : decode cX3_loseTrunks 2 = .ok (.iconst 0, 1) := by decide +kernel
theorem dX3_loseTrunks_3 : decode cX3_loseTrunks 3 = .ok (.istore_n 3, 1) := by decide +kernel
theorem dX3_loseTrunks_4 : decode cX3_loseTrunks 4 = .ok (.iload_n 3, 1) := by decide +kernel
theorem dX3_loseTrunks_5 : decode cX3_loseTrunks 5 = .ok (.aload_n 0, 1) := by decide +kernel
theorem dX3_loseTrunks_6 : decode cX3_loseTrunks 6 = .ok (.getfield 15, 3) := by decide +kernel
theorem dX3_loseTrunks_9 : decode cX3_loseTrunks 9 = .ok (.if_icmp .ge 37, 3) := by decide +kernel
theorem dX3_loseTrunks_12 : decode cX3_loseTrunks 12 = .ok (.aload_n 0, 1) := by decide +kernel
theorem dX3_loseTrunks_13 : decode cX3_loseTrunks 13 = .ok (.getfield 11, 3) := by decide +kernel
theorem dX3_loseTrunks_16 : decode cX3_loseTrunks 16 = .ok (.iload_n 3, 1) := by decide +kernel
theorem dX3_loseTrunks_17 : decode cX3_loseTrunks 17 = .ok (.aaload, 1) := by decide +kernel
theorem dX3_loseTrunks_18 : decode cX3_loseTrunks 18 = .ok (.getfield 22, 3) := by decide +kernel
theorem dX3_loseTrunks_21 : decode cX3_loseTrunks 21 = .ok (.iconst 2, 1) := by decide +kernel
theorem dX3_loseTrunks_22 : decode cX3_loseTrunks 22 = .ok (.irem, 1) := by decide +kernel
theorem dX3_loseTrunks_23 : decode cX3_loseTrunks 23 = .ok (.iload_n 1, 1) := by decide +kernel
theorem dX3_loseTrunks_24 : decode cX3_loseTrunks 24 = .ok (.if_icmp .ne 16, 3) := by decide +kernel
theorem dX3_loseTrunks_27 : decode cX3_loseTrunks 27 = .ok (.aload_n 0, 1) := by decide +kernel
theorem dX3_loseTrunks_28 : decode cX3_loseTrunks 28 = .ok (.getfield 11, 3) := by decide +kernel
theorem dX3_loseTrunks_31 : decode cX3_loseTrunks 31 = .ok (.iload_n 3, 1) := by decide +kernel
theorem dX3_loseTrunks_32 : decode cX3_loseTrunks 32 = .ok (.aaload, 1) := by decide +kernel
theorem dX3_loseTrunks_33 : decode cX3_loseTrunks 33 = .ok (.aconst_null, 1) := by decide +kernel
theorem dX3_loseTrunks_34 : decode cX3_loseTrunks 34 = .ok (.putfield 40, 3) := by decide +kernel
theorem dX3_loseTrunks_37 : decode cX3_loseTrunks 37 = .ok (.iinc 2 1, 3) := by decide +kernel
theorem dX3_loseTrunks_40 : decode cX3_loseTrunks 40 = .ok (.iinc 3 1, 3) := by decide +kernel
theorem dX3_loseTrunks_43 : decode cX3_loseTrunks 43 = .ok (.goto (-39), 3) := by decide +kernel
theorem dX3_loseTrunks_46 : decode cX3_loseTrunks 46 = .ok (.iload_n 2, 1) := by decide +kernel
theorem dX3_loseTrunks_47 : decode cX3_loseTrunks 47 = .ok (.ireturn, 1) := by decide +kernel
theorem dX4_init_0 : decode cX4_init 0 = .ok (.aload_n 0, 1) := by decide +kernel
theorem dX4_init_1 : decode cX4_init 1 = .ok (.invokespecial 3, 3) := by decide +kernel
theorem dX4_init_4 : decode cX4_init 4 = .ok (.aload_n 0, 1) := by decide +kernel
theorem dX4_init_5 : decode cX4_init 5 = .ok (.iconst 0, 1) := by decide +kernel
theorem dX4_init_6 : decode cX4_init 6 = .ok (.putfield 9, 3) := by decide +kernel
theorem dX4_init_9 : decode cX4_init 9 = .ok (.aload_n 0, 1) := by decide +kernel
theorem dX4_init_10 : decode cX4_init 10 = .ok (.iconst 0, 1) := by decide +kernel
theorem dX4_init_11 : decode cX4_init 11 = .ok (.putfield 15, 3) := by decide +kernel
theorem dX4_init_14 : decode cX4_init 14 = .ok (.aload_n 0, 1) := by decide +kernel
theorem dX4_init_15 : decode cX4_init 15 = .ok (.iload_n 1, 1) := by decide +kernel
theorem dX4_init_16 : decode cX4_init 16 = .ok (.putfield 18, 3) := by decide +kernel
theorem dX4_init_19 : decode cX4_init 19 = .ok (.aload_n 0, 1) := by decide +kernel
theorem dX4_init_20 : decode cX4_init 20 = .ok (.aload_n 2, 1) := by decide +kernel
theorem dX4_init_21 : decode cX4_init 21 = .ok (.putfield 21, 3) := by decide +kernel
theorem dX4_init_24 : decode cX4_init 24 = .ok (.aload_n 0, 1) := by decide +kernel
theorem dX4_init_25 : decode cX4_init 25 = .ok (.iload_n 3, 1) := by decide +kernel
theorem dX4_init_26 : decode cX4_init 26 = .ok (.ldc 25, 2) := by decide +kernel
theorem dX4_init_28 : decode cX4_init 28 = .ok (.idiv, 1) := by decide +kernel
theorem dX4_init_29 : decode cX4_init 29 = .ok (.putfield 26, 3) := by decide +kernel
theorem dX4_init_32 : decode cX4_init 32 = .ok (.aload_n 0, 1) := by decide +kernel
theorem dX4_init_33 : decode cX4_init 33 = .ok (.iload_n 3, 1) := by decide +kernel
theorem dX4_init_34 : decode cX4_init 34 = .ok (.ldc 25, 2) := by decide +kernel
theorem dX4_init_36 : decode cX4_init 36 = .ok (.irem, 1) := by decide +kernel
theorem dX4_init_37 : decode cX4_init 37 = .ok (.sipush 1000, 3) := by decide +kernel
theorem dX4_init_40 : decode cX4_init 40 = .ok (.idiv, 1) := by decide +kernel
theorem dX4_init_41 : decode cX4_init 41 = .ok (.putfield 29, 3) := by decide +kernel
theorem dX4_init_44 : decode cX4_init 44 = .ok (.aload_n 0, 1) := by decide +kernel
theorem dX4_init_45 : decode cX4_init 45 = .ok (.iload_n 3, 1) := by decide +kernel
theorem dX4_init_46 : decode cX4_init 46 = .ok (.sipush 1000, 3) := by decide +kernel
theorem dX4_init_49 : decode cX4_init 49 = .ok (.irem, 1) := by decide +kernel
theorem dX4_init_50 : decode cX4_init 50 = .ok (.putfield 32, 3) := by decide +kernel
theorem dX4_init_53 : decode cX4_init 53 = .ok (.aload_n 0, 1) := by decide +kernel
theorem dX4_init_54 : decode cX4_init 54 = .ok (.iload 4, 2) := by decide +kernel
theorem dX4_init_56 : decode cX4_init 56 = .ok (.putfield 35, 3) := by decide +kernel
theorem dX4_init_59 : decode cX4_init 59 = .ok (.aload_n 0, 1) := by decide +kernel
theorem dX4_init_60 : decode cX4_init 60 = .ok (.iload 5, 2) := by decide +kernel
theorem dX4_init_62 : decode cX4_init 62 = .ok (.putfield 38, 3) := by decide +kernel
theorem dX4_init_65 : decode cX4_init 65 = .ok (.aload_n 0, 1) := by decide +kernel
theorem dX4_init_66 : decode cX4_init 66 = .ok (.iload 4, 2) := by decide +kernel
theorem dX4_init_68 : decode cX4_init 68 = .ok (.putfield 42, 3) := by decide +kernel
theorem dX4_init_71 : decode cX4_init 71 = .ok (.return_, 1) := by decide +kernel
theorem dX4_canBe_0 : decode cX4_canBe 0 = .ok (.iload_n 0, 1) := by decide +kernel
theorem dX4_canBe_1 : decode cX4_canBe 1 = .ok (.ifCond .lt 62, 3) := by decide +kernel
theorem dX4_canBe_4 : decode cX4_canBe 4 = .ok (.iload_n 0, 1) := by decide +kernel
theorem dX4_canBe_5 : decode cX4_canBe 5 = .ok (.ldc 25, 2) := by decide +kernel
theorem dX4_canBe_7 : decode cX4_canBe 7 = .ok (.idiv, 1) := by decide +kernel
theorem dX4_canBe_8 : decode cX4_canBe 8 = .ok (.iconst 1, 1) := by decide +kernel
theorem dX4_canBe_9 : decode cX4_canBe 9 = .ok (.bipush 20, 2) := by decide +kernel
theorem dX4_canBe_11 : decode cX4_canBe 11 = .ok (.invokestatic 45, 3) := by decide +kernel
theorem dX4_canBe_14 : decode cX4_canBe 14 = .ok (.ifCond .eq 49, 3) := by decide +kernel
theorem dX4_canBe_17 : decode cX4_canBe 17 = .ok (.iload_n 0, 1) := by decide +kernel
theorem dX4_canBe_18 : decode cX4_canBe 18 = .ok (.ldc 25, 2) := by decide +kernel
theorem dX4_canBe_20 : decode cX4_canBe 20 = .ok (.irem, 1) := by decide +kernel
theorem dX4_canBe_21 : decode cX4_canBe 21 = .ok (.sipush 1000, 3) := by decide +kernel
theorem dX4_canBe_24 : decode cX4_canBe 24 = .ok (.idiv, 1) := by decide +kernel
theorem dX4_canBe_25 : decode cX4_canBe 25 = .ok (.iconst 1, 1) := by decide +kernel
theorem dX4_canBe_26 : decode cX4_canBe 26 = .ok (.bipush 60, 2) := by decide +kernel
theorem dX4_canBe_28 : decode cX4_canBe 28 = .ok (.invokestatic 45, 3) := by decide +kernel
theorem dX4_canBe_31 : decode cX4_canBe 31 = .ok (.ifCond .eq 32, 3) := by decide +kernel
theorem dX4_canBe_34 : decode cX4_canBe 34 = .ok (.iload_n 0, 1) := by decide +kernel
theorem dX4_canBe_35 : decode cX4_canBe 35 = .ok (.sipush 1000, 3) := by decide +kernel
theorem dX4_canBe_38 : decode cX4_canBe 38 = .ok (.irem, 1) := by decide +kernel
theorem dX4_canBe_39 : decode cX4_canBe 39 = .ok (.iconst 0, 1) := by decide +kernel
theorem dX4_canBe_40 : decode cX4_canBe 40 = .ok (.bipush 50, 2) := by decide +kernel
theorem dX4_canBe_42 : decode cX4_canBe 42 = .ok (.invokestatic 45, 3) := by decide +kernel
theorem dX4_canBe_45 : decode cX4_canBe 45 = .ok (.ifCond .eq 18, 3) := by decide +kernel
theorem dX4_canBe_48 : decode cX4_canBe 48 = .ok (.iload_n 1, 1) := by decide +kernel
theorem dX4_canBe_49 : decode cX4_canBe 49 = .ok (.iconst 0, 1) := by decide +kernel
theorem dX4_canBe_50 : decode cX4_canBe 50 = .ok (.sipush 1000, 3) := by decide +kernel
theorem dX4_canBe_53 : decode cX4_canBe 53 = .ok (.invokestatic 45, 3) := by decide +kernel
theorem dX4_canBe_56 : decode cX4_canBe 56 = .ok (.ifCond .eq 7, 3) := by decide +kernel
theorem dX4_canBe_59 : decode cX4_canBe 59 = .ok (.iconst 1, 1) := by decide +kernel
theorem dX4_canBe_60 : decode cX4_canBe 60 = .ok (.goto 4, 3) := by decide +kernel
theorem dX4_canBe_63 : decode cX4_canBe 63 = .ok (.iconst 0, 1) := by decide +kernel
theorem dX4_canBe_64 : decode cX4_canBe 64 = .ok (.ireturn, 1) := by decide +kernel
theorem dX4_storms_0 : decode cX4_storms 0 = .ok (.iload_n 1, 1) := by decide +kernel
theorem dX4_storms_1 : decode cX4_storms 1 = .ok (.aload_n 0, 1) := by decide +kernel
theorem dX4_storms_2 : decode cX4_storms 2 = .ok (.getfield 9, 3) := by decide +kernel
theorem dX4_storms_5 : decode cX4_storms 5 = .ok (.if_icmp .lt 15, 3) := by decide +kernel
theorem dX4_storms_8 : decode cX4_storms 8 = .ok (.iload_n 1, 1) := by decide +kernel
theorem dX4_storms_9 : decode cX4_storms 9 = .ok (.aload_n 0, 1) := by decide +kernel
theorem dX4_storms_10 : decode cX4_storms 10 = .ok (.getfield 15, 3) := by decide +kernel
theorem dX4_storms_13 : decode cX4_storms 13 = .ok (.if_icmp .ge 7, 3) := by decide +kernel
theorem dX4_storms_16 : decode cX4_storms 16 = .ok (.iconst 1, 1) := by decide +kernel
theorem dX4_storms_17 : decode cX4_storms 17 = .ok (.goto 4, 3) := by decide +kernel
theorem dX4_storms_20 : decode cX4_storms 20 = .ok (.iconst 0, 1) := by decide +kernel
theorem dX4_storms_21 : decode cX4_storms 21 = .ok (.ireturn, 1) := by decide +kernel
theorem dX4_fillPond_0 : decode cX4_fillPond 0 = .ok (.aload_n 0, 1) := by decide +kernel
theorem dX4_fillPond_1 : decode cX4_fillPond 1 = .ok (.aload_n 0, 1) := by decide +kernel
theorem dX4_fillPond_2 : decode cX4_fillPond 2 = .ok (.getfield 35, 3) := by decide +kernel
theorem dX4_fillPond_5 : decode cX4_fillPond 5 = .ok (.aload_n 0, 1) := by decide +kernel
theorem dX4_fillPond_6 : decode cX4_fillPond 6 = .ok (.getfield 42, 3) := by decide +kernel
theorem dX4_fillPond_9 : decode cX4_fillPond 9 = .ok (.aload_n 0, 1) := by decide +kernel
theorem dX4_fillPond_10 : decode cX4_fillPond 10 = .ok (.getfield 32, 3) := by decide +kernel
theorem dX4_fillPond_13 : decode cX4_fillPond 13 = .ok (.iadd, 1) := by decide +kernel
theorem dX4_fillPond_14 : decode cX4_fillPond 14 = .ok (.invokestatic 49, 3) := by decide +kernel
theorem dX4_fillPond_17 : decode cX4_fillPond 17 = .ok (.putfield 42, 3) := by decide +kernel
theorem dX4_fillPond_20 : decode cX4_fillPond 20 = .ok (.return_, 1) := by decide +kernel
theorem dX4_hoursDownTo_0 : decode cX4_hoursDownTo 0 = .ok (.iconst 0, 1) := by decide +kernel
theorem dX4_hoursDownTo_1 : decode cX4_hoursDownTo 1 = .ok (.istore_n 2, 1) := by decide +kernel
theorem dX4_hoursDownTo_2 : decode cX4_hoursDownTo 2 = .ok (.aload_n 0, 1) := by decide +kernel
theorem dX4_hoursDownTo_3 : decode cX4_hoursDownTo 3 = .ok (.astore_n 3, 1) := by decide +kernel
theorem dX4_hoursDownTo_4 : decode cX4_hoursDownTo 4 = .ok (.aload_n 3, 1) := by decide +kernel
theorem dX4_hoursDownTo_5 : decode cX4_hoursDownTo 5 = .ok (.ifnull 25, 3) := by decide +kernel
theorem dX4_hoursDownTo_8 : decode cX4_hoursDownTo 8 = .ok (.aload_n 3, 1) := by decide +kernel
theorem dX4_hoursDownTo_9 : decode cX4_hoursDownTo 9 = .ok (.aload_n 1, 1) := by decide +kernel
theorem dX4_hoursDownTo_10 : decode cX4_hoursDownTo 10 = .ok (.if_acmp .ne 5, 3) := by decide +kernel
theorem dX4_hoursDownTo_13 : decode cX4_hoursDownTo 13 = .ok (.iload_n 2, 1) := by decide +kernel
theorem dX4_hoursDownTo_14 : decode cX4_hoursDownTo 14 = .ok (.ireturn, 1) := by decide +kernel
theorem dX4_hoursDownTo_15 : decode cX4_hoursDownTo 15 = .ok (.iload_n 2, 1) := by decide +kernel
theorem dX4_hoursDownTo_16 : decode cX4_hoursDownTo 16 = .ok (.aload_n 3, 1) := by decide +kernel
theorem dX4_hoursDownTo_17 : decode cX4_hoursDownTo 17 = .ok (.getfield 26, 3) := by decide +kernel
theorem dX4_hoursDownTo_20 : decode cX4_hoursDownTo 20 = .ok (.iadd, 1) := by decide +kernel
theorem dX4_hoursDownTo_21 : decode cX4_hoursDownTo 21 = .ok (.istore_n 2, 1) := by decide +kernel
theorem dX4_hoursDownTo_22 : decode cX4_hoursDownTo 22 = .ok (.aload_n 3, 1) := by decide +kernel
theorem dX4_hoursDownTo_23 : decode cX4_hoursDownTo 23 = .ok (.getfield 21, 3) := by decide +kernel
theorem dX4_hoursDownTo_26 : decode cX4_hoursDownTo 26 = .ok (.astore_n 3, 1) := by decide +kernel
theorem dX4_hoursDownTo_27 : decode cX4_hoursDownTo 27 = .ok (.goto (-23), 3) := by decide +kernel
theorem dX4_hoursDownTo_30 : decode cX4_hoursDownTo 30 = .ok (.iconst (-1), 1) := by decide +kernel
theorem dX4_hoursDownTo_31 : decode cX4_hoursDownTo 31 = .ok (.ireturn, 1) := by decide +kernel
theorem dX5_init_0 : decode cX5_init 0 = .ok (.aload_n 0, 1) := by decide +kernel
theorem dX5_init_1 : decode cX5_init 1 = .ok (.invokespecial 3, 3) := by decide +kernel
theorem dX5_init_4 : decode cX5_init 4 = .ok (.aload_n 0, 1) := by decide +kernel
theorem dX5_init_5 : decode cX5_init 5 = .ok (.iconst 0, 1) := by decide +kernel
theorem dX5_init_6 : decode cX5_init 6 = .ok (.putfield 9, 3) := by decide +kernel
theorem dX5_init_9 : decode cX5_init 9 = .ok (.iconst 0, 1) := by decide +kernel
theorem dX5_init_10 : decode cX5_init 10 = .ok (.iload_n 1, 1) := by decide +kernel
theorem dX5_init_11 : decode cX5_init 11 = .ok (.invokestatic 15, 3) := by decide +kernel
theorem dX5_init_14 : decode cX5_init 14 = .ok (.istore_n 2, 1) := by decide +kernel
theorem dX5_init_15 : decode cX5_init 15 = .ok (.aload_n 0, 1) := by decide +kernel
theorem dX5_init_16 : decode cX5_init 16 = .ok (.iload_n 2, 1) := by decide +kernel
theorem dX5_init_17 : decode cX5_init 17 = .ok (.newarray .int, 2) := by decide +kernel
theorem dX5_init_19 : decode cX5_init 19 = .ok (.putfield 21, 3) := by decide +kernel
theorem dX5_init_22 : decode cX5_init 22 = .ok (.aload_n 0, 1) := by decide +kernel
theorem dX5_init_23 : decode cX5_init 23 = .ok (.iload_n 2, 1) := by decide +kernel
theorem dX5_init_24 : decode cX5_init 24 = .ok (.newarray .int, 2) := by decide +kernel
theorem dX5_init_26 : decode cX5_init 26 = .ok (.putfield 25, 3) := by decide +kernel
theorem dX5_init_29 : decode cX5_init 29 = .ok (.aload_n 0, 1) := by decide +kernel
theorem dX5_init_30 : decode cX5_init 30 = .ok (.iload_n 2, 1) := by decide +kernel
theorem dX5_init_31 : decode cX5_init 31 = .ok (.newarray .int, 2) := by decide +kernel
theorem dX5_init_33 : decode cX5_init 33 = .ok (.putfield 28, 3) := by decide +kernel
theorem dX5_init_36 : decode cX5_init 36 = .ok (.return_, 1) := by decide +kernel
theorem dX5_tell_0 : decode cX5_tell 0 = .ok (.aload_n 0, 1) := by decide +kernel
theorem dX5_tell_1 : decode cX5_tell 1 = .ok (.getfield 9, 3) := by decide +kernel
theorem dX5_tell_4 : decode cX5_tell 4 = .ok (.aload_n 0, 1) := by decide +kernel
theorem dX5_tell_5 : decode cX5_tell 5 = .ok (.getfield 21, 3) := by decide +kernel
theorem dX5_tell_8 : decode cX5_tell 8 = .ok (.arraylength, 1) := by decide +kernel
theorem dX5_tell_9 : decode cX5_tell 9 = .ok (.if_icmp .lt 5, 3) := by decide +kernel
theorem dX5_tell_12 : decode cX5_tell 12 = .ok (.iconst 0, 1) := by decide +kernel
theorem dX5_tell_13 : decode cX5_tell 13 = .ok (.ireturn, 1) := by decide +kernel
theorem dX5_tell_14 : decode cX5_tell 14 = .ok (.aload_n 0, 1) := by decide +kernel
theorem dX5_tell_15 : decode cX5_tell 15 = .ok (.getfield 21, 3) := by decide +kernel
theorem dX5_tell_18 : decode cX5_tell 18 = .ok (.aload_n 0, 1) := by decide +kernel
theorem dX5_tell_19 : decode cX5_tell 19 = .ok (.getfield 9, 3) := by decide +kernel
theorem dX5_tell_22 : decode cX5_tell 22 = .ok (.iload_n 1, 1) := by decide +kernel
theorem dX5_tell_23 : decode cX5_tell 23 = .ok (.iastore, 1) := by decide +kernel
theorem dX5_tell_24 : decode cX5_tell 24 = .ok (.aload_n 0, 1) := by decide +kernel
theorem dX5_tell_25 : decode cX5_tell 25 = .ok (.getfield 25, 3) := by decide +kernel
theorem dX5_tell_28 : decode cX5_tell 28 = .ok (.aload_n 0, 1) := by decide +kernel
theorem dX5_tell_29 : decode cX5_tell 29 = .ok (.getfield 9, 3) := by decide +kernel
theorem dX5_tell_32 : decode cX5_tell 32 = .ok (.iload_n 2, 1) := by decide +kernel
theorem dX5_tell_33 : decode cX5_tell 33 = .ok (.iastore, 1) := by decide +kernel
theorem dX5_tell_34 : decode cX5_tell 34 = .ok (.aload_n 0, 1) := by decide +kernel
theorem dX5_tell_35 : decode cX5_tell 35 = .ok (.getfield 28, 3) := by decide +kernel
theorem dX5_tell_38 : decode cX5_tell 38 = .ok (.aload_n 0, 1) := by decide +kernel
theorem dX5_tell_39 : decode cX5_tell 39 = .ok (.getfield 9, 3) := by decide +kernel
theorem dX5_tell_42 : decode cX5_tell 42 = .ok (.iload_n 3, 1) := by decide +kernel
theorem dX5_tell_43 : decode cX5_tell 43 = .ok (.iastore, 1) := by decide +kernel
theorem dX5_tell_44 : decode cX5_tell 44 = .ok (.aload_n 0, 1) := by decide +kernel
theorem dX5_tell_45 : decode cX5_tell 45 = .ok (.dup, 1) := by decide +kernel
theorem dX5_tell_46 : decode cX5_tell 46 = .ok (.getfield 9, 3) := by decide +kernel
theorem dX5_tell_49 : decode cX5_tell 49 = .ok (.iconst 1, 1) := by decide +kernel
theorem dX5_tell_50 : decode cX5_tell 50 = .ok (.iadd, 1) := by decide +kernel
theorem dX5_tell_51 : decode cX5_tell 51 = .ok (.putfield 9, 3) := by decide +kernel
theorem dX5_tell_54 : decode cX5_tell 54 = .ok (.iconst 1, 1) := by decide +kernel
theorem dX5_tell_55 : decode cX5_tell 55 = .ok (.ireturn, 1) := by decide +kernel
theorem dX5_inForce_0 : decode cX5_inForce 0 = .ok (.iconst 0, 1) := by decide +kernel
theorem dX5_inForce_1 : decode cX5_inForce 1 = .ok (.istore_n 3, 1) := by decide +kernel
theorem dX5_inForce_2 : decode cX5_inForce 2 = .ok (.iconst (-1), 1) := by decide +kernel
theorem dX5_inForce_3 : decode cX5_inForce 3 = .ok (.istore 4, 2) := by decide +kernel
theorem dX5_inForce_5 : decode cX5_inForce 5 = .ok (.iconst 0, 1) := by decide +kernel
theorem dX5_inForce_6 : decode cX5_inForce 6 = .ok (.istore 5, 2) := by decide +kernel
theorem dX5_inForce_8 : decode cX5_inForce 8 = .ok (.iload 5, 2) := by decide +kernel
theorem dX5_inForce_10 : decode cX5_inForce 10 = .ok (.aload_n 0, 1) := by decide +kernel
theorem dX5_inForce_11 : decode cX5_inForce 11 = .ok (.getfield 9, 3) := by decide +kernel
theorem dX5_inForce_14 : decode cX5_inForce 14 = .ok (.if_icmp .ge 60, 3) := by decide +kernel
theorem dX5_inForce_17 : decode cX5_inForce 17 = .ok (.aload_n 0, 1) := by decide +kernel
theorem dX5_inForce_18 : decode cX5_inForce 18 = .ok (.getfield 21, 3) := by decide +kernel
theorem dX5_inForce_21 : decode cX5_inForce 21 = .ok (.iload 5, 2) := by decide +kernel
theorem dX5_inForce_23 : decode cX5_inForce 23 = .ok (.iaload, 1) := by decide +kernel
theorem dX5_inForce_24 : decode cX5_inForce 24 = .ok (.iload_n 1, 1) := by decide +kernel
theorem dX5_inForce_25 : decode cX5_inForce 25 = .ok (.if_icmp .ne 43, 3) := by decide +kernel
theorem dX5_inForce_28 : decode cX5_inForce 28 = .ok (.aload_n 0, 1) := by decide +kernel
theorem dX5_inForce_29 : decode cX5_inForce 29 = .ok (.getfield 25, 3) := by decide +kernel
theorem dX5_inForce_32 : decode cX5_inForce 32 = .ok (.iload 5, 2) := by decide +kernel
theorem dX5_inForce_34 : decode cX5_inForce 34 = .ok (.iaload, 1) := by decide +kernel
theorem dX5_inForce_35 : decode cX5_inForce 35 = .ok (.iload_n 2, 1) := by decide +kernel
theorem dX5_inForce_36 : decode cX5_inForce 36 = .ok (.if_icmp .gt 32, 3) := by decide +kernel
theorem dX5_inForce_39 : decode cX5_inForce 39 = .ok (.aload_n 0, 1) := by decide +kernel
theorem dX5_inForce_40 : decode cX5_inForce 40 = .ok (.getfield 25, 3) := by decide +kernel
theorem dX5_inForce_43 : decode cX5_inForce 43 = .ok (.iload 5, 2) := by decide +kernel
theorem dX5_inForce_45 : decode cX5_inForce 45 = .ok (.iaload, 1) := by decide +kernel
theorem dX5_inForce_46 : decode cX5_inForce 46 = .ok (.iload 4, 2) := by decide +kernel
theorem dX5_inForce_48 : decode cX5_inForce 48 = .ok (.if_icmp .lt 20, 3) := by decide +kernel
theorem dX5_inForce_51 : decode cX5_inForce 51 = .ok (.aload_n 0, 1) := by decide +kernel
theorem dX5_inForce_52 : decode cX5_inForce 52 = .ok (.getfield 25, 3) := by decide +kernel
theorem dX5_inForce_55 : decode cX5_inForce 55 = .ok (.iload 5, 2) := by decide +kernel
theorem dX5_inForce_57 : decode cX5_inForce 57 = .ok (.iaload, 1) := by decide +kernel
theorem dX5_inForce_58 : decode cX5_inForce 58 = .ok (.istore 4, 2) := by decide +kernel
theorem dX5_inForce_60 : decode cX5_inForce 60 = .ok (.aload_n 0, 1) := by decide +kernel
theorem dX5_inForce_61 : decode cX5_inForce 61 = .ok (.getfield 28, 3) := by decide +kernel
theorem dX5_inForce_64 : decode cX5_inForce 64 = .ok (.iload 5, 2) := by decide +kernel
theorem dX5_inForce_66 : decode cX5_inForce 66 = .ok (.iaload, 1) := by decide +kernel
theorem dX5_inForce_67 : decode cX5_inForce 67 = .ok (.istore_n 3, 1) := by decide +kernel
theorem dX5_inForce_68 : decode cX5_inForce 68 = .ok (.iinc 5 1, 3) := by decide +kernel
theorem dX5_inForce_71 : decode cX5_inForce 71 = .ok (.goto (-63), 3) := by decide +kernel
theorem dX5_inForce_74 : decode cX5_inForce 74 = .ok (.iload_n 3, 1) := by decide +kernel
theorem dX5_inForce_75 : decode cX5_inForce 75 = .ok (.ireturn, 1) := by decide +kernel
theorem dX6_init_0 : decode cX6_init 0 = .ok (.aload_n 0, 1) := by decide +kernel
theorem dX6_init_1 : decode cX6_init 1 = .ok (.invokespecial 3, 3) := by decide +kernel
theorem dX6_init_4 : decode cX6_init 4 = .ok (.aload_n 0, 1) := by decide +kernel
theorem dX6_init_5 : decode cX6_init 5 = .ok (.aconst_null, 1) := by decide +kernel
theorem dX6_init_6 : decode cX6_init 6 = .ok (.putfield 9, 3) := by decide +kernel
theorem dX6_init_9 : decode cX6_init 9 = .ok (.aload_n 0, 1) := by decide +kernel
theorem dX6_init_10 : decode cX6_init 10 = .ok (.iconst (-1), 1) := by decide +kernel
theorem dX6_init_11 : decode cX6_init 11 = .ok (.putfield 15, 3) := by decide +kernel
theorem dX6_init_14 : decode cX6_init 14 = .ok (.aload_n 0, 1) := by decide +kernel
theorem dX6_init_15 : decode cX6_init 15 = .ok (.iload_n 1, 1) := by decide +kernel
theorem dX6_init_16 : decode cX6_init 16 = .ok (.putfield 19, 3) := by decide +kernel
theorem dX6_init_19 : decode cX6_init 19 = .ok (.aload_n 0, 1) := by decide +kernel
theorem dX6_init_20 : decode cX6_init 20 = .ok (.iload_n 2, 1) := by decide +kernel
theorem dX6_init_21 : decode cX6_init 21 = .ok (.putfield 22, 3) := by decide +kernel
theorem dX6_init_24 : decode cX6_init 24 = .ok (.aload_n 0, 1) := by decide +kernel
theorem dX6_init_25 : decode cX6_init 25 = .ok (.iload_n 3, 1) := by decide +kernel
theorem dX6_init_26 : decode cX6_init 26 = .ok (.bipush 100, 2) := by decide +kernel
theorem dX6_init_28 : decode cX6_init 28 = .ok (.idiv, 1) := by decide +kernel
theorem dX6_init_29 : decode cX6_init 29 = .ok (.putfield 25, 3) := by decide +kernel
theorem dX6_init_32 : decode cX6_init 32 = .ok (.aload_n 0, 1) := by decide +kernel
theorem dX6_init_33 : decode cX6_init 33 = .ok (.iload_n 3, 1) := by decide +kernel
theorem dX6_init_34 : decode cX6_init 34 = .ok (.bipush 10, 2) := by decide +kernel
theorem dX6_init_36 : decode cX6_init 36 = .ok (.idiv, 1) := by decide +kernel
theorem dX6_init_37 : decode cX6_init 37 = .ok (.bipush 10, 2) := by decide +kernel
theorem dX6_init_39 : decode cX6_init 39 = .ok (.irem, 1) := by decide +kernel
theorem dX6_init_40 : decode cX6_init 40 = .ok (.putfield 28, 3) := by decide +kernel
theorem dX6_init_43 : decode cX6_init 43 = .ok (.aload_n 0, 1) := by decide +kernel
theorem dX6_init_44 : decode cX6_init 44 = .ok (.iload_n 3, 1) := by decide +kernel
theorem dX6_init_45 : decode cX6_init 45 = .ok (.bipush 10, 2) := by decide +kernel
theorem dX6_init_47 : decode cX6_init 47 = .ok (.irem, 1) := by decide +kernel
theorem dX6_init_48 : decode cX6_init 48 = .ok (.putfield 31, 3) := by decide +kernel
theorem dX6_init_51 : decode cX6_init 51 = .ok (.aload_n 0, 1) := by decide +kernel
theorem dX6_init_52 : decode cX6_init 52 = .ok (.aload 4, 2) := by decide +kernel
theorem dX6_init_54 : decode cX6_init 54 = .ok (.putfield 34, 3) := by decide +kernel
theorem dX6_init_57 : decode cX6_init 57 = .ok (.return_, 1) := by decide +kernel
theorem dX6_canBe_0 : decode cX6_canBe 0 = .ok (.iload_n 0, 1) := by decide +kernel
theorem dX6_canBe_1 : decode cX6_canBe 1 = .ok (.ifCond .lt 45, 3) := by decide +kernel
theorem dX6_canBe_4 : decode cX6_canBe 4 = .ok (.iload_n 0, 1) := by decide +kernel
theorem dX6_canBe_5 : decode cX6_canBe 5 = .ok (.bipush 100, 2) := by decide +kernel
theorem dX6_canBe_7 : decode cX6_canBe 7 = .ok (.idiv, 1) := by decide +kernel
theorem dX6_canBe_8 : decode cX6_canBe 8 = .ok (.invokestatic 38, 3) := by decide +kernel
theorem dX6_canBe_11 : decode cX6_canBe 11 = .ok (.ifCond .eq 35, 3) := by decide +kernel
theorem dX6_canBe_14 : decode cX6_canBe 14 = .ok (.iload_n 0, 1) := by decide +kernel
theorem dX6_canBe_15 : decode cX6_canBe 15 = .ok (.bipush 10, 2) := by decide +kernel
theorem dX6_canBe_17 : decode cX6_canBe 17 = .ok (.idiv, 1) := by decide +kernel
theorem dX6_canBe_18 : decode cX6_canBe 18 = .ok (.bipush 10, 2) := by decide +kernel
theorem dX6_canBe_20 : decode cX6_canBe 20 = .ok (.irem, 1) := by decide +kernel
theorem dX6_canBe_21 : decode cX6_canBe 21 = .ok (.iconst 0, 1) := by decide +kernel
theorem dX6_canBe_22 : decode cX6_canBe 22 = .ok (.iconst 3, 1) := by decide +kernel
theorem dX6_canBe_23 : decode cX6_canBe 23 = .ok (.invokestatic 42, 3) := by decide +kernel
theorem dX6_canBe_26 : decode cX6_canBe 26 = .ok (.ifCond .eq 20, 3) := by decide +kernel
theorem dX6_canBe_29 : decode cX6_canBe 29 = .ok (.iload_n 0, 1) := by decide +kernel
theorem dX6_canBe_30 : decode cX6_canBe 30 = .ok (.bipush 10, 2) := by decide +kernel
theorem dX6_canBe_32 : decode cX6_canBe 32 = .ok (.irem, 1) := by decide +kernel
theorem dX6_canBe_33 : decode cX6_canBe 33 = .ok (.iconst 1, 1) := by decide +kernel
theorem dX6_canBe_34 : decode cX6_canBe 34 = .ok (.bipush 9, 2) := by decide +kernel
theorem dX6_canBe_36 : decode cX6_canBe 36 = .ok (.invokestatic 42, 3) := by decide +kernel
theorem dX6_canBe_39 : decode cX6_canBe 39 = .ok (.ifCond .eq 7, 3) := by decide +kernel
theorem dX6_canBe_42 : decode cX6_canBe 42 = .ok (.iconst 1, 1) := by decide +kernel
theorem dX6_canBe_43 : decode cX6_canBe 43 = .ok (.goto 4, 3) := by decide +kernel
theorem dX6_canBe_46 : decode cX6_canBe 46 = .ok (.iconst 0, 1) := by decide +kernel
theorem dX6_canBe_47 : decode cX6_canBe 47 = .ok (.ireturn, 1) := by decide +kernel
theorem dX6_state_0 : decode cX6_state 0 = .ok (.aload_n 0, 1) := by decide +kernel
theorem dX6_state_1 : decode cX6_state 1 = .ok (.getfield 34, 3) := by decide +kernel
theorem dX6_state_4 : decode cX6_state 4 = .ok (.ifnull 5, 3) := by decide +kernel
theorem dX6_state_7 : decode cX6_state 7 = .ok (.iconst 0, 1) := by decide +kernel
theorem dX6_state_8 : decode cX6_state 8 = .ok (.ireturn, 1) := by decide +kernel
theorem dX6_state_9 : decode cX6_state 9 = .ok (.aload_n 0, 1) := by decide +kernel
theorem dX6_state_10 : decode cX6_state 10 = .ok (.getfield 9, 3) := by decide +kernel
theorem dX6_state_13 : decode cX6_state 13 = .ok (.ifnull 5, 3) := by decide +kernel
theorem dX6_state_16 : decode cX6_state 16 = .ok (.iconst 1, 1) := by decide +kernel
theorem dX6_state_17 : decode cX6_state 17 = .ok (.ireturn, 1) := by decide +kernel
theorem dX6_state_18 : decode cX6_state 18 = .ok (.aload_n 0, 1) := by decide +kernel
theorem dX6_state_19 : decode cX6_state 19 = .ok (.getfield 15, 3) := by decide +kernel
theorem dX6_state_22 : decode cX6_state 22 = .ok (.iconst (-1), 1) := by decide +kernel
theorem dX6_state_23 : decode cX6_state 23 = .ok (.if_icmp .eq 7, 3) := by decide +kernel
theorem dX6_state_26 : decode cX6_state 26 = .ok (.iconst 2, 1) := by decide +kernel
theorem dX6_state_27 : decode cX6_state 27 = .ok (.goto 4, 3) := by decide +kernel
theorem dX6_state_30 : decode cX6_state 30 = .ok (.iconst 3, 1) := by decide +kernel
theorem dX6_state_31 : decode cX6_state 31 = .ok (.ireturn, 1) := by decide +kernel
theorem dX7_init_0 : decode cX7_init 0 = .ok (.aload_n 0, 1) := by decide +kernel
theorem dX7_init_1 : decode cX7_init 1 = .ok (.invokespecial 1, 3) := by decide +kernel
theorem dX7_init_4 : decode cX7_init 4 = .ok (.aload_n 0, 1) := by decide +kernel
theorem dX7_init_5 : decode cX7_init 5 = .ok (.bipush 12, 2) := by decide +kernel
theorem dX7_init_7 : decode cX7_init 7 = .ok (.anewarray 9, 3) := by decide +kernel
theorem dX7_init_10 : decode cX7_init 10 = .ok (.putfield 11, 3) := by decide +kernel
theorem dX7_init_13 : decode cX7_init 13 = .ok (.aload_n 0, 1) := by decide +kernel
theorem dX7_init_14 : decode cX7_init 14 = .ok (.iconst 0, 1) := by decide +kernel
theorem dX7_init_15 : decode cX7_init 15 = .ok (.putfield 15, 3) := by decide +kernel
theorem dX7_init_18 : decode cX7_init 18 = .ok (.aload_n 0, 1) := by decide +kernel
theorem dX7_init_19 : decode cX7_init 19 = .ok (.bipush 120, 2) := by decide +kernel
theorem dX7_init_21 : decode cX7_init 21 = .ok (.anewarray 19, 3) := by decide +kernel
theorem dX7_init_24 : decode cX7_init 24 = .ok (.putfield 21, 3) := by decide +kernel
theorem dX7_init_27 : decode cX7_init 27 = .ok (.aload_n 0, 1) := by decide +kernel
theorem dX7_init_28 : decode cX7_init 28 = .ok (.iconst 0, 1) := by decide +kernel
theorem dX7_init_29 : decode cX7_init 29 = .ok (.putfield 25, 3) := by decide +kernel
theorem dX7_init_32 : decode cX7_init 32 = .ok (.aload_n 0, 1) := by decide +kernel
theorem dX7_init_33 : decode cX7_init 33 = .ok (.bipush 60, 2) := by decide +kernel
theorem dX7_init_35 : decode cX7_init 35 = .ok (.anewarray 28, 3) := by decide +kernel
theorem dX7_init_38 : decode cX7_init 38 = .ok (.putfield 30, 3) := by decide +kernel
theorem dX7_init_41 : decode cX7_init 41 = .ok (.aload_n 0, 1) := by decide +kernel
theorem dX7_init_42 : decode cX7_init 42 = .ok (.iconst 0, 1) := by decide +kernel
theorem dX7_init_43 : decode cX7_init 43 = .ok (.putfield 34, 3) := by decide +kernel
theorem dX7_init_46 : decode cX7_init 46 = .ok (.aload_n 0, 1) := by decide +kernel
theorem dX7_init_47 : decode cX7_init 47 = .ok (.bipush 10, 2) := by decide +kernel
theorem dX7_init_49 : decode cX7_init 49 = .ok (.anewarray 37, 3) := by decide +kernel
theorem dX7_init_52 : decode cX7_init 52 = .ok (.putfield 39, 3) := by decide +kernel
theorem dX7_init_55 : decode cX7_init 55 = .ok (.aload_n 0, 1) := by decide +kernel
theorem dX7_init_56 : decode cX7_init 56 = .ok (.iconst 0, 1) := by decide +kernel
theorem dX7_init_57 : decode cX7_init 57 = .ok (.putfield 43, 3) := by decide +kernel
theorem dX7_init_60 : decode cX7_init 60 = .ok (.aload_n 0, 1) := by decide +kernel
theorem dX7_init_61 : decode cX7_init 61 = .ok (.new 46, 3) := by decide +kernel
theorem dX7_init_64 : decode cX7_init 64 = .ok (.dup, 1) := by decide +kernel
theorem dX7_init_65 : decode cX7_init 65 = .ok (.invokespecial 48, 3) := by decide +kernel
theorem dX7_init_68 : decode cX7_init 68 = .ok (.putfield 49, 3) := by decide +kernel
theorem dX7_init_71 : decode cX7_init 71 = .ok (.aload_n 0, 1) := by decide +kernel
theorem dX7_init_72 : decode cX7_init 72 = .ok (.new 53, 3) := by decide +kernel
theorem dX7_init_75 : decode cX7_init 75 = .ok (.dup, 1) := by decide +kernel
theorem dX7_init_76 : decode cX7_init 76 = .ok (.bipush 30, 2) := by decide +kernel
theorem dX7_init_78 : decode cX7_init 78 = .ok (.invokespecial 55, 3) := by decide +kernel
theorem dX7_init_81 : decode cX7_init 81 = .ok (.putfield 58, 3) := by decide +kernel
theorem dX7_init_84 : decode cX7_init 84 = .ok (.aload_n 0, 1) := by decide +kernel
theorem dX7_init_85 : decode cX7_init 85 = .ok (.new 53, 3) := by decide +kernel
theorem dX7_init_88 : decode cX7_init 88 = .ok (.dup, 1) := by decide +kernel
theorem dX7_init_89 : decode cX7_init 89 = .ok (.bipush 100, 2) := by decide +kernel
theorem dX7_init_91 : decode cX7_init 91 = .ok (.invokespecial 55, 3) := by decide +kernel
theorem dX7_init_94 : decode cX7_init 94 = .ok (.putfield 62, 3) := by decide +kernel
theorem dX7_init_97 : decode cX7_init 97 = .ok (.aload_n 0, 1) := by decide +kernel
theorem dX7_init_98 : decode cX7_init 98 = .ok (.bipush 8, 2) := by decide +kernel
theorem dX7_init_100 : decode cX7_init 100 = .ok (.newarray .int, 2) := by decide +kernel
theorem dX7_init_102 : decode cX7_init 102 = .ok (.putfield 65, 3) := by decide +kernel
theorem dX7_init_105 : decode cX7_init 105 = .ok (.aload_n 0, 1) := by decide +kernel
theorem dX7_init_106 : decode cX7_init 106 = .ok (.bipush 8, 2) := by decide +kernel
theorem dX7_init_108 : decode cX7_init 108 = .ok (.newarray .int, 2) := by decide +kernel
theorem dX7_init_110 : decode cX7_init 110 = .ok (.putfield 69, 3) := by decide +kernel
theorem dX7_init_113 : decode cX7_init 113 = .ok (.aload_n 0, 1) := by decide +kernel
theorem dX7_init_114 : decode cX7_init 114 = .ok (.new 72, 3) := by decide +kernel
theorem dX7_init_117 : decode cX7_init 117 = .ok (.dup, 1) := by decide +kernel
theorem dX7_init_118 : decode cX7_init 118 = .ok (.invokespecial 74, 3) := by decide +kernel
theorem dX7_init_121 : decode cX7_init 121 = .ok (.putfield 75, 3) := by decide +kernel
theorem dX7_init_124 : decode cX7_init 124 = .ok (.aload_n 0, 1) := by decide +kernel
theorem dX7_init_125 : decode cX7_init 125 = .ok (.iconst 0, 1) := by decide +kernel
theorem dX7_init_126 : decode cX7_init 126 = .ok (.putfield 79, 3) := by decide +kernel
theorem dX7_init_129 : decode cX7_init 129 = .ok (.aload_n 0, 1) := by decide +kernel
theorem dX7_init_130 : decode cX7_init 130 = .ok (.iconst 0, 1) := by decide +kernel
theorem dX7_init_131 : decode cX7_init 131 = .ok (.putfield 82, 3) := by decide +kernel
theorem dX7_init_134 : decode cX7_init 134 = .ok (.aload_n 0, 1) := by decide +kernel
theorem dX7_init_135 : decode cX7_init 135 = .ok (.iconst 0, 1) := by decide +kernel
theorem dX7_init_136 : decode cX7_init 136 = .ok (.putfield 85, 3) := by decide +kernel
theorem dX7_init_139 : decode cX7_init 139 = .ok (.aload_n 0, 1) := by decide +kernel
theorem dX7_init_140 : decode cX7_init 140 = .ok (.iconst 0, 1) := by decide +kernel
theorem dX7_init_141 : decode cX7_init 141 = .ok (.putfield 88, 3) := by decide +kernel
theorem dX7_init_144 : decode cX7_init 144 = .ok (.iconst 0, 1) := by decide +kernel
theorem dX7_init_145 : decode cX7_init 145 = .ok (.istore_n 1, 1) := by decide +kernel
theorem dX7_init_146 : decode cX7_init 146 = .ok (.iload_n 1, 1) := by decide +kernel
theorem dX7_init_147 : decode cX7_init 147 = .ok (.bipush 8, 2) := by decide +kernel
theorem dX7_init_149 : decode cX7_init 149 = .ok (.if_icmp .ge 16, 3) := by decide +kernel
theorem dX7_init_152 : decode cX7_init 152 = .ok (.aload_n 0, 1) := by decide +kernel
theorem dX7_init_153 : decode cX7_init 153 = .ok (.getfield 65, 3) := by decide +kernel
theorem dX7_init_156 : decode cX7_init 156 = .ok (.iload_n 1, 1) := by decide +kernel
theorem dX7_init_157 : decode cX7_init 157 = .ok (.iconst 5, 1) := by decide +kernel
theorem dX7_init_158 : decode cX7_init 158 = .ok (.iastore, 1) := by decide +kernel
theorem dX7_init_159 : decode cX7_init 159 = .ok (.iinc 1 1, 3) := by decide +kernel
theorem dX7_init_162 : decode cX7_init 162 = .ok (.goto (-16), 3) := by decide +kernel
theorem dX7_init_165 : decode cX7_init 165 = .ok (.return_, 1) := by decide +kernel
theorem dX7_station_0 : decode cX7_station 0 = .ok (.aload_n 0, 1) := by decide +kernel
theorem dX7_station_1 : decode cX7_station 1 = .ok (.getfield 15, 3) := by decide +kernel
theorem dX7_station_4 : decode cX7_station 4 = .ok (.bipush 12, 2) := by decide +kernel
theorem dX7_station_6 : decode cX7_station 6 = .ok (.if_icmp .lt 5, 3) := by decide +kernel
theorem dX7_station_9 : decode cX7_station 9 = .ok (.iconst (-1), 1) := by decide +kernel
theorem dX7_station_10 : decode cX7_station 10 = .ok (.ireturn, 1) := by decide +kernel
theorem dX7_station_11 : decode cX7_station 11 = .ok (.aload_n 0, 1) := by decide +kernel
theorem dX7_station_12 : decode cX7_station 12 = .ok (.getfield 15, 3) := by decide +kernel
theorem dX7_station_15 : decode cX7_station 15 = .ok (.ifCond .ne 20, 3) := by decide +kernel
theorem dX7_station_18 : decode cX7_station 18 = .ok (.new 9, 3) := by decide +kernel
theorem dX7_station_21 : decode cX7_station 21 = .ok (.dup, 1) := by decide +kernel
theorem dX7_station_22 : decode cX7_station 22 = .ok (.iconst 0, 1) := by decide +kernel
theorem dX7_station_23 : decode cX7_station 23 = .ok (.aconst_null, 1) := by decide +kernel
theorem dX7_station_24 : decode cX7_station 24 = .ok (.iconst 0, 1) := by decide +kernel
theorem dX7_station_25 : decode cX7_station 25 = .ok (.iconst 0, 1) := by decide +kernel
theorem dX7_station_26 : decode cX7_station 26 = .ok (.iconst 1, 1) := by decide +kernel
theorem dX7_station_27 : decode cX7_station 27 = .ok (.invokespecial 91, 3) := by decide +kernel
theorem dX7_station_30 : decode cX7_station 30 = .ok (.astore 5, 2) := by decide +kernel
theorem dX7_station_32 : decode cX7_station 32 = .ok (.goto 44, 3) := by decide +kernel
theorem dX7_station_35 : decode cX7_station 35 = .ok (.aload_n 0, 1) := by decide +kernel
theorem dX7_station_36 : decode cX7_station 36 = .ok (.iload_n 1, 1) := by decide +kernel
theorem dX7_station_37 : decode cX7_station 37 = .ok (.invokevirtual 94, 3) := by decide +kernel
theorem dX7_station_40 : decode cX7_station 40 = .ok (.astore 6, 2) := by decide +kernel
theorem dX7_station_42 : decode cX7_station 42 = .ok (.aload 6, 2) := by decide +kernel
theorem dX7_station_44 : decode cX7_station 44 = .ok (.ifnull 11, 3) := by decide +kernel
theorem dX7_station_47 : decode cX7_station 47 = .ok (.iload_n 2, 1) := by decide +kernel
theorem dX7_station_48 : decode cX7_station 48 = .ok (.iload_n 3, 1) := by decide +kernel
theorem dX7_station_49 : decode cX7_station 49 = .ok (.invokestatic 98, 3) := by decide +kernel
theorem dX7_station_52 : decode cX7_station 52 = .ok (.ifCond .ne 5, 3) := by decide +kernel
theorem dX7_station_55 : decode cX7_station 55 = .ok (.iconst (-1), 1) := by decide +kernel
theorem dX7_station_56 : decode cX7_station 56 = .ok (.ireturn, 1) := by decide +kernel
theorem dX7_station_57 : decode cX7_station 57 = .ok (.new 9, 3) := by decide +kernel
theorem dX7_station_60 : decode cX7_station 60 = .ok (.dup, 1) := by decide +kernel
theorem dX7_station_61 : decode cX7_station 61 = .ok (.aload_n 0, 1) := by decide +kernel
theorem dX7_station_62 : decode cX7_station 62 = .ok (.getfield 15, 3) := by decide +kernel
theorem dX7_station_65 : decode cX7_station 65 = .ok (.aload 6, 2) := by decide +kernel
theorem dX7_station_67 : decode cX7_station 67 = .ok (.iload_n 2, 1) := by decide +kernel
theorem dX7_station_68 : decode cX7_station 68 = .ok (.iload_n 3, 1) := by decide +kernel
theorem dX7_station_69 : decode cX7_station 69 = .ok (.iload 4, 2) := by decide +kernel
theorem dX7_station_71 : decode cX7_station 71 = .ok (.invokespecial 91, 3) := by decide +kernel
theorem dX7_station_74 : decode cX7_station 74 = .ok (.astore 5, 2) := by decide +kernel
theorem dX7_station_76 : decode cX7_station 76 = .ok (.aload_n 0, 1) := by decide +kernel
theorem dX7_station_77 : decode cX7_station 77 = .ok (.getfield 11, 3) := by decide +kernel
theorem dX7_station_80 : decode cX7_station 80 = .ok (.aload_n 0, 1) := by decide +kernel
theorem dX7_station_81 : decode cX7_station 81 = .ok (.getfield 15, 3) := by decide +kernel
theorem dX7_station_84 : decode cX7_station 84 = .ok (.aload 5, 2) := by decide +kernel
theorem dX7_station_86 : decode cX7_station 86 = .ok (.aastore, 1) := by decide +kernel
theorem dX7_station_87 : decode cX7_station 87 = .ok (.aload_n 0, 1) := by decide +kernel
theorem dX7_station_88 : decode cX7_station 88 = .ok (.dup, 1) := by decide +kernel
theorem dX7_station_89 : decode cX7_station 89 = .ok (.getfield 15, 3) := by decide +kernel
theorem dX7_station_92 : decode cX7_station 92 = .ok (.iconst 1, 1) := by decide +kernel
theorem dX7_station_93 : decode cX7_station 93 = .ok (.iadd, 1) := by decide +kernel
theorem dX7_station_94 : decode cX7_station 94 = .ok (.putfield 15, 3) := by decide +kernel
theorem dX7_station_97 : decode cX7_station 97 = .ok (.aload 5, 2) := by decide +kernel
theorem dX7_station_99 : decode cX7_station 99 = .ok (.getfield 102, 3) := by decide +kernel
theorem dX7_station_102 : decode cX7_station 102 = .ok (.ireturn, 1) := by decide +kernel
theorem dX7_trunk_0 : decode cX7_trunk 0 = .ok (.aload_n 0, 1) := by decide +kernel
theorem dX7_trunk_1 : decode cX7_trunk 1 = .ok (.iload_n 3, 1) := by decide +kernel
theorem dX7_trunk_2 : decode cX7_trunk 2 = .ok (.invokevirtual 94, 3) := by decide +kernel
theorem dX7_trunk_5 : decode cX7_trunk 5 = .ok (.astore 4, 2) := by decide +kernel
theorem dX7_trunk_7 : decode cX7_trunk 7 = .ok (.aload 4, 2) := by decide +kernel
theorem dX7_trunk_9 : decode cX7_trunk 9 = .ok (.ifnull 19, 3) := by decide +kernel
theorem dX7_trunk_12 : decode cX7_trunk 12 = .ok (.aload_n 0, 1) := by decide +kernel
theorem dX7_trunk_13 : decode cX7_trunk 13 = .ok (.getfield 25, 3) := by decide +kernel
theorem dX7_trunk_16 : decode cX7_trunk 16 = .ok (.bipush 120, 2) := by decide +kernel
theorem dX7_trunk_18 : decode cX7_trunk 18 = .ok (.if_icmp .ge 10, 3) := by decide +kernel
theorem dX7_trunk_21 : decode cX7_trunk 21 = .ok (.iload_n 2, 1) := by decide +kernel
theorem dX7_trunk_22 : decode cX7_trunk 22 = .ok (.invokestatic 105, 3) := by decide +kernel
theorem dX7_trunk_25 : decode cX7_trunk 25 = .ok (.ifCond .ne 5, 3) := by decide +kernel
theorem dX7_trunk_28 : decode cX7_trunk 28 = .ok (.iconst (-1), 1) := by decide +kernel
theorem dX7_trunk_29 : decode cX7_trunk 29 = .ok (.ireturn, 1) := by decide +kernel
theorem dX7_trunk_30 : decode cX7_trunk 30 = .ok (.iload_n 1, 1) := by decide +kernel
theorem dX7_trunk_31 : decode cX7_trunk 31 = .ok (.iconst 1, 1) := by decide +kernel
theorem dX7_trunk_32 : decode cX7_trunk 32 = .ok (.ldc 108, 2) := by decide +kernel
theorem dX7_trunk_34 : decode cX7_trunk 34 = .ok (.invokestatic 109, 3) := by decide +kernel
theorem dX7_trunk_37 : decode cX7_trunk 37 = .ok (.ifCond .eq 12, 3) := by decide +kernel
theorem dX7_trunk_40 : decode cX7_trunk 40 = .ok (.aload_n 0, 1) := by decide +kernel
theorem dX7_trunk_41 : decode cX7_trunk 41 = .ok (.iload_n 1, 1) := by decide +kernel
theorem dX7_trunk_42 : decode cX7_trunk 42 = .ok (.invokevirtual 113, 3) := by decide +kernel
theorem dX7_trunk_45 : decode cX7_trunk 45 = .ok (.iconst (-1), 1) := by decide +kernel
theorem dX7_trunk_46 : decode cX7_trunk 46 = .ok (.if_icmp .eq 5, 3) := by decide +kernel
theorem dX7_trunk_49 : decode cX7_trunk 49 = .ok (.iconst (-1), 1) := by decide +kernel
theorem dX7_trunk_50 : decode cX7_trunk 50 = .ok (.ireturn, 1) := by decide +kernel
theorem dX7_trunk_51 : decode cX7_trunk 51 = .ok (.new 19, 3) := by decide +kernel
theorem dX7_trunk_54 : decode cX7_trunk 54 = .ok (.dup, 1) := by decide +kernel
theorem dX7_trunk_55 : decode cX7_trunk 55 = .ok (.aload_n 0, 1) := by decide +kernel
theorem dX7_trunk_56 : decode cX7_trunk 56 = .ok (.getfield 25, 3) := by decide +kernel
theorem dX7_trunk_59 : decode cX7_trunk 59 = .ok (.iload_n 1, 1) := by decide +kernel
theorem dX7_trunk_60 : decode cX7_trunk 60 = .ok (.iload_n 2, 1) := by decide +kernel
theorem dX7_trunk_61 : decode cX7_trunk 61 = .ok (.aload 4, 2) := by decide +kernel
theorem dX7_trunk_63 : decode cX7_trunk 63 = .ok (.invokespecial 117, 3) := by decide +kernel
theorem dX7_trunk_66 : decode cX7_trunk 66 = .ok (.astore 5, 2) := by decide +kernel
theorem dX7_trunk_68 : decode cX7_trunk 68 = .ok (.aload_n 0, 1) := by decide +kernel
theorem dX7_trunk_69 : decode cX7_trunk 69 = .ok (.getfield 21, 3) := by decide +kernel
theorem dX7_trunk_72 : decode cX7_trunk 72 = .ok (.aload_n 0, 1) := by decide +kernel
theorem dX7_trunk_73 : decode cX7_trunk 73 = .ok (.getfield 25, 3) := by decide +kernel
theorem dX7_trunk_76 : decode cX7_trunk 76 = .ok (.aload 5, 2) := by decide +kernel
theorem dX7_trunk_78 : decode cX7_trunk 78 = .ok (.aastore, 1) := by decide +kernel
theorem dX7_trunk_79 : decode cX7_trunk 79 = .ok (.aload_n 0, 1) := by decide +kernel
theorem dX7_trunk_80 : decode cX7_trunk 80 = .ok (.dup, 1) := by decide +kernel
theorem dX7_trunk_81 : decode cX7_trunk 81 = .ok (.getfield 25, 3) := by decide +kernel
theorem dX7_trunk_84 : decode cX7_trunk 84 = .ok (.iconst 1, 1) := by decide +kernel
theorem dX7_trunk_85 : decode cX7_trunk 85 = .ok (.iadd, 1) := by decide +kernel
theorem dX7_trunk_86 : decode cX7_trunk 86 = .ok (.putfield 25, 3) := by decide +kernel
theorem dX7_trunk_89 : decode cX7_trunk 89 = .ok (.aload 5, 2) := by decide +kernel
theorem dX7_trunk_91 : decode cX7_trunk 91 = .ok (.getfield 120, 3) := by decide +kernel
theorem dX7_trunk_94 : decode cX7_trunk 94 = .ok (.ireturn, 1) := by decide +kernel
theorem dX7_find_0 : decode cX7_find 0 = .ok (.iconst 0, 1) := by decide +kernel
theorem dX7_find_1 : decode cX7_find 1 = .ok (.istore_n 2, 1) := by decide +kernel
theorem dX7_find_2 : decode cX7_find 2 = .ok (.iload_n 2, 1) := by decide +kernel
theorem dX7_find_3 : decode cX7_find 3 = .ok (.aload_n 0, 1) := by decide +kernel
theorem dX7_find_4 : decode cX7_find 4 = .ok (.getfield 25, 3) := by decide +kernel
theorem dX7_find_7 : decode cX7_find 7 = .ok (.if_icmp .ge 24, 3) := by decide +kernel
theorem dX7_find_10 : decode cX7_find 10 = .ok (.aload_n 0, 1) := by decide +kernel
theorem dX7_find_11 : decode cX7_find 11 = .ok (.getfield 21, 3) := by decide +kernel
theorem dX7_find_14 : decode cX7_find 14 = .ok (.iload_n 2, 1) := by decide +kernel
theorem dX7_find_15 : decode cX7_find 15 = .ok (.aaload, 1) := by decide +kernel
theorem dX7_find_16 : decode cX7_find 16 = .ok (.getfield 121, 3) := by decide +kernel
theorem dX7_find_19 : decode cX7_find 19 = .ok (.iload_n 1, 1) := by decide +kernel
theorem dX7_find_20 : decode cX7_find 20 = .ok (.if_icmp .ne 5, 3) := by decide +kernel
theorem dX7_find_23 : decode cX7_find 23 = .ok (.iload_n 2, 1) := by decide +kernel
theorem dX7_find_24 : decode cX7_find 24 = .ok (.ireturn, 1) := by decide +kernel
theorem dX7_find_25 : decode cX7_find 25 = .ok (.iinc 2 1, 3) := by decide +kernel
theorem dX7_find_28 : decode cX7_find 28 = .ok (.goto (-26), 3) := by decide +kernel
theorem dX7_find_31 : decode cX7_find 31 = .ok (.iconst (-1), 1) := by decide +kernel
theorem dX7_find_32 : decode cX7_find 32 = .ok (.ireturn, 1) := by decide +kernel
theorem dX7_put_0 : decode cX7_put 0 = .ok (.aload_n 0, 1) := by decide +kernel
theorem dX7_put_1 : decode cX7_put 1 = .ok (.iload_n 1, 1) := by decide +kernel
theorem dX7_put_2 : decode cX7_put 2 = .ok (.invokevirtual 124, 3) := by decide +kernel
theorem dX7_put_5 : decode cX7_put 5 = .ok (.astore_n 2, 1) := by decide +kernel
theorem dX7_put_6 : decode cX7_put 6 = .ok (.aload_n 2, 1) := by decide +kernel
theorem dX7_put_7 : decode cX7_put 7 = .ok (.ifnull 21, 3) := by decide +kernel
theorem dX7_put_10 : decode cX7_put 10 = .ok (.aload_n 2, 1) := by decide +kernel
theorem dX7_put_11 : decode cX7_put 11 = .ok (.getfield 128, 3) := by decide +kernel
theorem dX7_put_14 : decode cX7_put 14 = .ok (.ifnull 14, 3) := by decide +kernel
theorem dX7_put_17 : decode cX7_put 17 = .ok (.aload_n 0, 1) := by decide +kernel
theorem dX7_put_18 : decode cX7_put 18 = .ok (.getfield 49, 3) := by decide +kernel
theorem dX7_put_21 : decode cX7_put 21 = .ok (.aload_n 2, 1) := by decide +kernel
theorem dX7_put_22 : decode cX7_put 22 = .ok (.invokevirtual 132, 3) := by decide +kernel
theorem dX7_put_25 : decode cX7_put 25 = .ok (.ifCond .ne 5, 3) := by decide +kernel
theorem dX7_put_28 : decode cX7_put 28 = .ok (.iconst (-1), 1) := by decide +kernel
theorem dX7_put_29 : decode cX7_put 29 = .ok (.ireturn, 1) := by decide +kernel
theorem dX7_put_30 : decode cX7_put 30 = .ok (.aload_n 0, 1) := by decide +kernel
theorem dX7_put_31 : decode cX7_put 31 = .ok (.getfield 49, 3) := by decide +kernel
theorem dX7_put_34 : decode cX7_put 34 = .ok (.aload_n 2, 1) := by decide +kernel
theorem dX7_put_35 : decode cX7_put 35 = .ok (.invokevirtual 136, 3) := by decide +kernel
theorem dX7_put_38 : decode cX7_put 38 = .ok (.aload_n 0, 1) := by decide +kernel
theorem dX7_put_39 : decode cX7_put 39 = .ok (.getfield 49, 3) := by decide +kernel
theorem dX7_put_42 : decode cX7_put 42 = .ok (.getfield 140, 3) := by decide +kernel
theorem dX7_put_45 : decode cX7_put 45 = .ok (.ireturn, 1) := by decide +kernel
theorem dX7_bind_0 : decode cX7_bind 0 = .ok (.aload_n 0, 1) := by decide +kernel
theorem dX7_bind_1 : decode cX7_bind 1 = .ok (.getfield 49, 3) := by decide +kernel
theorem dX7_bind_4 : decode cX7_bind 4 = .ok (.invokevirtual 143, 3) := by decide +kernel
theorem dX7_bind_7 : decode cX7_bind 7 = .ok (.astore_n 1, 1) := by decide +kernel
theorem dX7_bind_8 : decode cX7_bind 8 = .ok (.aload_n 1, 1) := by decide +kernel
theorem dX7_bind_9 : decode cX7_bind 9 = .ok (.ifnull 12, 3) := by decide +kernel
theorem dX7_bind_12 : decode cX7_bind 12 = .ok (.aload_n 0, 1) := by decide +kernel
theorem dX7_bind_13 : decode cX7_bind 13 = .ok (.getfield 34, 3) := by decide +kernel
theorem dX7_bind_16 : decode cX7_bind 16 = .ok (.bipush 60, 2) := by decide +kernel
theorem dX7_bind_18 : decode cX7_bind 18 = .ok (.if_icmp .lt 5, 3) := by decide +kernel
theorem dX7_bind_21 : decode cX7_bind 21 = .ok (.iconst (-1), 1) := by decide +kernel
theorem dX7_bind_22 : decode cX7_bind 22 = .ok (.ireturn, 1) := by decide +kernel
theorem dX7_bind_23 : decode cX7_bind 23 = .ok (.aload_n 0, 1) := by decide +kernel
theorem dX7_bind_24 : decode cX7_bind 24 = .ok (.aload_n 1, 1) := by decide +kernel
theorem dX7_bind_25 : decode cX7_bind 25 = .ok (.getfield 128, 3) := by decide +kernel
theorem dX7_bind_28 : decode cX7_bind 28 = .ok (.invokevirtual 147, 3) := by decide +kernel
theorem dX7_bind_31 : decode cX7_bind 31 = .ok (.astore_n 2, 1) := by decide +kernel
theorem dX7_bind_32 : decode cX7_bind 32 = .ok (.aload_n 2, 1) := by decide +kernel
theorem dX7_bind_33 : decode cX7_bind 33 = .ok (.aload_n 0, 1) := by decide +kernel
theorem dX7_bind_34 : decode cX7_bind 34 = .ok (.getfield 49, 3) := by decide +kernel
theorem dX7_bind_37 : decode cX7_bind 37 = .ok (.invokevirtual 151, 3) := by decide +kernel
theorem dX7_bind_40 : decode cX7_bind 40 = .ok (.aload_n 0, 1) := by decide +kernel
theorem dX7_bind_41 : decode cX7_bind 41 = .ok (.new 46, 3) := by decide +kernel
theorem dX7_bind_44 : decode cX7_bind 44 = .ok (.dup, 1) := by decide +kernel
theorem dX7_bind_45 : decode cX7_bind 45 = .ok (.invokespecial 48, 3) := by decide +kernel
theorem dX7_bind_48 : decode cX7_bind 48 = .ok (.putfield 49, 3) := by decide +kernel
theorem dX7_bind_51 : decode cX7_bind 51 = .ok (.aload_n 2, 1) := by decide +kernel
theorem dX7_bind_52 : decode cX7_bind 52 = .ok (.getfield 154, 3) := by decide +kernel
theorem dX7_bind_55 : decode cX7_bind 55 = .ok (.ireturn, 1) := by decide +kernel
theorem dX7_join_0 : decode cX7_join 0 = .ok (.aload_n 0, 1) := by decide +kernel
theorem dX7_join_1 : decode cX7_join 1 = .ok (.iload_n 1, 1) := by decide +kernel
theorem dX7_join_2 : decode cX7_join 2 = .ok (.invokevirtual 155, 3) := by decide +kernel
theorem dX7_join_5 : decode cX7_join 5 = .ok (.astore_n 3, 1) := by decide +kernel
theorem dX7_join_6 : decode cX7_join 6 = .ok (.aload_n 0, 1) := by decide +kernel
theorem dX7_join_7 : decode cX7_join 7 = .ok (.iload_n 2, 1) := by decide +kernel
theorem dX7_join_8 : decode cX7_join 8 = .ok (.invokevirtual 155, 3) := by decide +kernel
theorem dX7_join_11 : decode cX7_join 11 = .ok (.astore 4, 2) := by decide +kernel
theorem dX7_join_13 : decode cX7_join 13 = .ok (.aload_n 3, 1) := by decide +kernel
theorem dX7_join_14 : decode cX7_join 14 = .ok (.ifnull 14, 3) := by decide +kernel
theorem dX7_join_17 : decode cX7_join 17 = .ok (.aload 4, 2) := by decide +kernel
theorem dX7_join_19 : decode cX7_join 19 = .ok (.ifnull 9, 3) := by decide +kernel
theorem dX7_join_22 : decode cX7_join 22 = .ok (.aload_n 3, 1) := by decide +kernel
theorem dX7_join_23 : decode cX7_join 23 = .ok (.aload 4, 2) := by decide +kernel
theorem dX7_join_25 : decode cX7_join 25 = .ok (.if_acmp .ne 5, 3) := by decide +kernel
theorem dX7_join_28 : decode cX7_join 28 = .ok (.iconst 0, 1) := by decide +kernel
theorem dX7_join_29 : decode cX7_join 29 = .ok (.ireturn, 1) := by decide +kernel
theorem dX7_join_30 : decode cX7_join 30 = .ok (.aload_n 3, 1) := by decide +kernel
theorem dX7_join_31 : decode cX7_join 31 = .ok (.getfield 159, 3) := by decide +kernel
theorem dX7_join_34 : decode cX7_join 34 = .ok (.aload 4, 2) := by decide +kernel
theorem dX7_join_36 : decode cX7_join 36 = .ok (.getfield 159, 3) := by decide +kernel
theorem dX7_join_39 : decode cX7_join 39 = .ok (.if_acmp .ne 18, 3) := by decide +kernel
theorem dX7_join_42 : decode cX7_join 42 = .ok (.aload_n 3, 1) := by decide +kernel
theorem dX7_join_43 : decode cX7_join 43 = .ok (.getfield 160, 3) := by decide +kernel
theorem dX7_join_46 : decode cX7_join 46 = .ok (.aload 4, 2) := by decide +kernel
theorem dX7_join_48 : decode cX7_join 48 = .ok (.getfield 160, 3) := by decide +kernel
theorem dX7_join_51 : decode cX7_join 51 = .ok (.iadd, 1) := by decide +kernel
theorem dX7_join_52 : decode cX7_join 52 = .ok (.bipush 8, 2) := by decide +kernel
theorem dX7_join_54 : decode cX7_join 54 = .ok (.if_icmp .le 5, 3) := by decide +kernel
theorem dX7_join_57 : decode cX7_join 57 = .ok (.iconst 0, 1) := by decide +kernel
theorem dX7_join_58 : decode cX7_join 58 = .ok (.ireturn, 1) := by decide +kernel
theorem dX7_join_59 : decode cX7_join 59 = .ok (.aload 4, 2) := by decide +kernel
theorem dX7_join_61 : decode cX7_join 61 = .ok (.iconst 0, 1) := by decide +kernel
theorem dX7_join_62 : decode cX7_join 62 = .ok (.aload_n 3, 1) := by decide +kernel
theorem dX7_join_63 : decode cX7_join 63 = .ok (.invokevirtual 161, 3) := by decide +kernel
theorem dX7_join_66 : decode cX7_join 66 = .ok (.aload 4, 2) := by decide +kernel
theorem dX7_join_68 : decode cX7_join 68 = .ok (.invokevirtual 165, 3) := by decide +kernel
theorem dX7_join_71 : decode cX7_join 71 = .ok (.iconst 1, 1) := by decide +kernel
theorem dX7_join_72 : decode cX7_join 72 = .ok (.ireturn, 1) := by decide +kernel
theorem dX7_part_0 : decode cX7_part 0 = .ok (.aload_n 0, 1) := by decide +kernel
theorem dX7_part_1 : decode cX7_part 1 = .ok (.iload_n 1, 1) := by decide +kernel
theorem dX7_part_2 : decode cX7_part 2 = .ok (.invokevirtual 155, 3) := by decide +kernel
theorem dX7_part_5 : decode cX7_part 5 = .ok (.astore_n 3, 1) := by decide +kernel
theorem dX7_part_6 : decode cX7_part 6 = .ok (.aload_n 3, 1) := by decide +kernel
theorem dX7_part_7 : decode cX7_part 7 = .ok (.ifnull 25, 3) := by decide +kernel
theorem dX7_part_10 : decode cX7_part 10 = .ok (.iload_n 2, 1) := by decide +kernel
theorem dX7_part_11 : decode cX7_part 11 = .ok (.iconst 1, 1) := by decide +kernel
theorem dX7_part_12 : decode cX7_part 12 = .ok (.if_icmp .lt 20, 3) := by decide +kernel
theorem dX7_part_15 : decode cX7_part 15 = .ok (.aload_n 3, 1) := by decide +kernel
theorem dX7_part_16 : decode cX7_part 16 = .ok (.getfield 160, 3) := by decide +kernel
theorem dX7_part_19 : decode cX7_part 19 = .ok (.iload_n 2, 1) := by decide +kernel
theorem dX7_part_20 : decode cX7_part 20 = .ok (.if_icmp .le 12, 3) := by decide +kernel
theorem dX7_part_23 : decode cX7_part 23 = .ok (.aload_n 0, 1) := by decide +kernel
theorem dX7_part_24 : decode cX7_part 24 = .ok (.getfield 34, 3) := by decide +kernel
theorem dX7_part_27 : decode cX7_part 27 = .ok (.bipush 60, 2) := by decide +kernel
theorem dX7_part_29 : decode cX7_part 29 = .ok (.if_icmp .lt 5, 3) := by decide +kernel
theorem dX7_part_32 : decode cX7_part 32 = .ok (.iconst (-1), 1) := by decide +kernel
theorem dX7_part_33 : decode cX7_part 33 = .ok (.ireturn, 1) := by decide +kernel
theorem dX7_part_34 : decode cX7_part 34 = .ok (.aload_n 0, 1) := by decide +kernel
theorem dX7_part_35 : decode cX7_part 35 = .ok (.aload_n 3, 1) := by decide +kernel
theorem dX7_part_36 : decode cX7_part 36 = .ok (.getfield 159, 3) := by decide +kernel
theorem dX7_part_39 : decode cX7_part 39 = .ok (.invokevirtual 147, 3) := by decide +kernel
theorem dX7_part_42 : decode cX7_part 42 = .ok (.astore 4, 2) := by decide +kernel
theorem dX7_part_44 : decode cX7_part 44 = .ok (.aload_n 3, 1) := by decide +kernel
theorem dX7_part_45 : decode cX7_part 45 = .ok (.aload_n 3, 1) := by decide +kernel
theorem dX7_part_46 : decode cX7_part 46 = .ok (.getfield 160, 3) := by decide +kernel
theorem dX7_part_49 : decode cX7_part 49 = .ok (.iload_n 2, 1) := by decide +kernel
theorem dX7_part_50 : decode cX7_part 50 = .ok (.isub, 1) := by decide +kernel
theorem dX7_part_51 : decode cX7_part 51 = .ok (.aload 4, 2) := by decide +kernel
theorem dX7_part_53 : decode cX7_part 53 = .ok (.invokevirtual 161, 3) := by decide +kernel
theorem dX7_part_56 : decode cX7_part 56 = .ok (.aload 4, 2) := by decide +kernel
theorem dX7_part_58 : decode cX7_part 58 = .ok (.getfield 154, 3) := by decide +kernel
theorem dX7_part_61 : decode cX7_part 61 = .ok (.ireturn, 1) := by decide +kernel
theorem dX7_unbind_0 : decode cX7_unbind 0 = .ok (.aload_n 0, 1) := by decide +kernel
theorem dX7_unbind_1 : decode cX7_unbind 1 = .ok (.iload_n 1, 1) := by decide +kernel
theorem dX7_unbind_2 : decode cX7_unbind 2 = .ok (.invokevirtual 155, 3) := by decide +kernel
theorem dX7_unbind_5 : decode cX7_unbind 5 = .ok (.astore_n 2, 1) := by decide +kernel
theorem dX7_unbind_6 : decode cX7_unbind 6 = .ok (.aload_n 2, 1) := by decide +kernel
theorem dX7_unbind_7 : decode cX7_unbind 7 = .ok (.ifnonnull 5, 3) := by decide +kernel
theorem dX7_unbind_10 : decode cX7_unbind 10 = .ok (.iconst 0, 1) := by decide +kernel
theorem dX7_unbind_11 : decode cX7_unbind 11 = .ok (.ireturn, 1) := by decide +kernel
theorem dX7_unbind_12 : decode cX7_unbind 12 = .ok (.aload_n 2, 1) := by decide +kernel
theorem dX7_unbind_13 : decode cX7_unbind 13 = .ok (.invokevirtual 168, 3) := by decide +kernel
theorem dX7_unbind_16 : decode cX7_unbind 16 = .ok (.iconst 1, 1) := by decide +kernel
theorem dX7_unbind_17 : decode cX7_unbind 17 = .ok (.ireturn, 1) := by decide +kernel
theorem dX7_crew_0 : decode cX7_crew 0 = .ok (.aload_n 0, 1) := by decide +kernel
end
section
theorem dX7_crew_1 : decode cX7_crew 1 = .ok (.iload_n 1, 1) := by decide +kernel
theorem dX7_crew_2 : decode cX7_crew 2 = .ok (.invokevirtual 94, 3) := by decide +kernel
theorem dX7_crew_5 : decode cX7_crew 5 = .ok (.astore_n 2, 1) := by decide +kernel
theorem dX7_crew_6 : decode cX7_crew 6 = .ok (.aload_n 2, 1) := by decide +kernel
theorem dX7_crew_7 : decode cX7_crew 7 = .ok (.ifnull 12, 3) := by decide +kernel
theorem dX7_crew_10 : decode cX7_crew 10 = .ok (.aload_n 0, 1) := by decide +kernel
theorem dX7_crew_11 : decode cX7_crew 11 = .ok (.getfield 43, 3) := by decide +kernel
theorem dX7_crew_14 : decode cX7_crew 14 = .ok (.bipush 10, 2) := by decide +kernel
theorem dX7_crew_16 : decode cX7_crew 16 = .ok (.if_icmp .lt 5, 3) := by decide +kernel
theorem dX7_crew_19 : decode cX7_crew 19 = .ok (.iconst (-1), 1) := by decide +kernel
theorem dX7_crew_20 : decode cX7_crew 20 = .ok (.ireturn, 1) := by decide +kernel
theorem dX7_crew_21 : decode cX7_crew 21 = .ok (.new 37, 3) := by decide +kernel
theorem dX7_crew_24 : decode cX7_crew 24 = .ok (.dup, 1) := by decide +kernel
theorem dX7_crew_25 : decode cX7_crew 25 = .ok (.aload_n 0, 1) := by decide +kernel
theorem dX7_crew_26 : decode cX7_crew 26 = .ok (.getfield 43, 3) := by decide +kernel
theorem dX7_crew_29 : decode cX7_crew 29 = .ok (.aload_n 2, 1) := by decide +kernel
theorem dX7_crew_30 : decode cX7_crew 30 = .ok (.invokespecial 171, 3) := by decide +kernel
theorem dX7_crew_33 : decode cX7_crew 33 = .ok (.astore_n 3, 1) := by decide +kernel
theorem dX7_crew_34 : decode cX7_crew 34 = .ok (.aload_n 0, 1) := by decide +kernel
theorem dX7_crew_35 : decode cX7_crew 35 = .ok (.getfield 39, 3) := by decide +kernel
theorem dX7_crew_38 : decode cX7_crew 38 = .ok (.aload_n 0, 1) := by decide +kernel
theorem dX7_crew_39 : decode cX7_crew 39 = .ok (.getfield 43, 3) := by decide +kernel
theorem dX7_crew_42 : decode cX7_crew 42 = .ok (.aload_n 3, 1) := by decide +kernel
theorem dX7_crew_43 : decode cX7_crew 43 = .ok (.aastore, 1) := by decide +kernel
theorem dX7_crew_44 : decode cX7_crew 44 = .ok (.aload_n 0, 1) := by decide +kernel
theorem dX7_crew_45 : decode cX7_crew 45 = .ok (.dup, 1) := by decide +kernel
theorem dX7_crew_46 : decode cX7_crew 46 = .ok (.getfield 43, 3) := by decide +kernel
theorem dX7_crew_49 : decode cX7_crew 49 = .ok (.iconst 1, 1) := by decide +kernel
theorem dX7_crew_50 : decode cX7_crew 50 = .ok (.iadd, 1) := by decide +kernel
theorem dX7_crew_51 : decode cX7_crew 51 = .ok (.putfield 43, 3) := by decide +kernel
theorem dX7_crew_54 : decode cX7_crew 54 = .ok (.aload_n 3, 1) := by decide +kernel
theorem dX7_crew_55 : decode cX7_crew 55 = .ok (.getfield 174, 3) := by decide +kernel
theorem dX7_crew_58 : decode cX7_crew 58 = .ok (.ireturn, 1) := by decide +kernel
theorem dX7_ready_0 : decode cX7_ready 0 = .ok (.aload_n 0, 1) := by decide +kernel
theorem dX7_ready_1 : decode cX7_ready 1 = .ok (.iload_n 1, 1) := by decide +kernel
theorem dX7_ready_2 : decode cX7_ready 2 = .ok (.invokevirtual 155, 3) := by decide +kernel
theorem dX7_ready_5 : decode cX7_ready 5 = .ok (.astore_n 3, 1) := by decide +kernel
theorem dX7_ready_6 : decode cX7_ready 6 = .ok (.aload_n 0, 1) := by decide +kernel
theorem dX7_ready_7 : decode cX7_ready 7 = .ok (.iload_n 2, 1) := by decide +kernel
theorem dX7_ready_8 : decode cX7_ready 8 = .ok (.invokevirtual 175, 3) := by decide +kernel
theorem dX7_ready_11 : decode cX7_ready 11 = .ok (.astore 4, 2) := by decide +kernel
theorem dX7_ready_13 : decode cX7_ready 13 = .ok (.aload_n 3, 1) := by decide +kernel
theorem dX7_ready_14 : decode cX7_ready 14 = .ok (.ifnull 25, 3) := by decide +kernel
theorem dX7_ready_17 : decode cX7_ready 17 = .ok (.aload 4, 2) := by decide +kernel
theorem dX7_ready_19 : decode cX7_ready 19 = .ok (.ifnull 20, 3) := by decide +kernel
theorem dX7_ready_22 : decode cX7_ready 22 = .ok (.aload_n 3, 1) := by decide +kernel
theorem dX7_ready_23 : decode cX7_ready 23 = .ok (.getfield 159, 3) := by decide +kernel
theorem dX7_ready_26 : decode cX7_ready 26 = .ok (.ifnull 13, 3) := by decide +kernel
theorem dX7_ready_29 : decode cX7_ready 29 = .ok (.aload_n 3, 1) := by decide +kernel
theorem dX7_ready_30 : decode cX7_ready 30 = .ok (.getfield 159, 3) := by decide +kernel
theorem dX7_ready_33 : decode cX7_ready 33 = .ok (.getfield 179, 3) := by decide +kernel
theorem dX7_ready_36 : decode cX7_ready 36 = .ok (.ifnonnull 5, 3) := by decide +kernel
theorem dX7_ready_39 : decode cX7_ready 39 = .ok (.iconst 0, 1) := by decide +kernel
theorem dX7_ready_40 : decode cX7_ready 40 = .ok (.ireturn, 1) := by decide +kernel
theorem dX7_ready_41 : decode cX7_ready 41 = .ok (.aload 4, 2) := by decide +kernel
theorem dX7_ready_43 : decode cX7_ready 43 = .ok (.getfield 182, 3) := by decide +kernel
theorem dX7_ready_46 : decode cX7_ready 46 = .ok (.aload_n 3, 1) := by decide +kernel
theorem dX7_ready_47 : decode cX7_ready 47 = .ok (.getfield 159, 3) := by decide +kernel
theorem dX7_ready_50 : decode cX7_ready 50 = .ok (.if_acmp .ne 15, 3) := by decide +kernel
theorem dX7_ready_53 : decode cX7_ready 53 = .ok (.aload 4, 2) := by decide +kernel
theorem dX7_ready_55 : decode cX7_ready 55 = .ok (.aload_n 0, 1) := by decide +kernel
theorem dX7_ready_56 : decode cX7_ready 56 = .ok (.getfield 79, 3) := by decide +kernel
theorem dX7_ready_59 : decode cX7_ready 59 = .ok (.invokevirtual 183, 3) := by decide +kernel
theorem dX7_ready_62 : decode cX7_ready 62 = .ok (.ifCond .eq 5, 3) := by decide +kernel
theorem dX7_ready_65 : decode cX7_ready 65 = .ok (.iconst 0, 1) := by decide +kernel
theorem dX7_ready_66 : decode cX7_ready 66 = .ok (.ireturn, 1) := by decide +kernel
theorem dX7_ready_67 : decode cX7_ready 67 = .ok (.aload 4, 2) := by decide +kernel
theorem dX7_ready_69 : decode cX7_ready 69 = .ok (.aload_n 3, 1) := by decide +kernel
theorem dX7_ready_70 : decode cX7_ready 70 = .ok (.invokevirtual 186, 3) := by decide +kernel
theorem dX7_ready_73 : decode cX7_ready 73 = .ok (.iconst 1, 1) := by decide +kernel
theorem dX7_ready_74 : decode cX7_ready 74 = .ok (.ireturn, 1) := by decide +kernel
theorem dX7_tie_0 : decode cX7_tie 0 = .ok (.aload_n 0, 1) := by decide +kernel
theorem dX7_tie_1 : decode cX7_tie 1 = .ok (.iload_n 1, 1) := by decide +kernel
theorem dX7_tie_2 : decode cX7_tie 2 = .ok (.invokevirtual 190, 3) := by decide +kernel
theorem dX7_tie_5 : decode cX7_tie 5 = .ok (.astore_n 2, 1) := by decide +kernel
theorem dX7_tie_6 : decode cX7_tie 6 = .ok (.aload_n 2, 1) := by decide +kernel
theorem dX7_tie_7 : decode cX7_tie 7 = .ok (.ifnull 11, 3) := by decide +kernel
theorem dX7_tie_10 : decode cX7_tie 10 = .ok (.aload_n 2, 1) := by decide +kernel
theorem dX7_tie_11 : decode cX7_tie 11 = .ok (.invokevirtual 193, 3) := by decide +kernel
theorem dX7_tie_14 : decode cX7_tie 14 = .ok (.iconst 1, 1) := by decide +kernel
theorem dX7_tie_15 : decode cX7_tie 15 = .ok (.if_icmp .eq 5, 3) := by decide +kernel
theorem dX7_tie_18 : decode cX7_tie 18 = .ok (.iconst 0, 1) := by decide +kernel
theorem dX7_tie_19 : decode cX7_tie 19 = .ok (.ireturn, 1) := by decide +kernel
theorem dX7_tie_20 : decode cX7_tie 20 = .ok (.aload_n 2, 1) := by decide +kernel
theorem dX7_tie_21 : decode cX7_tie 21 = .ok (.invokevirtual 197, 3) := by decide +kernel
theorem dX7_tie_24 : decode cX7_tie 24 = .ok (.pop, 1) := by decide +kernel
theorem dX7_tie_25 : decode cX7_tie 25 = .ok (.iconst 1, 1) := by decide +kernel
theorem dX7_tie_26 : decode cX7_tie 26 = .ok (.ireturn, 1) := by decide +kernel
theorem dX7_walk_0 : decode cX7_walk 0 = .ok (.aload_n 0, 1) := by decide +kernel
theorem dX7_walk_1 : decode cX7_walk 1 = .ok (.iload_n 1, 1) := by decide +kernel
theorem dX7_walk_2 : decode cX7_walk 2 = .ok (.invokevirtual 175, 3) := by decide +kernel
theorem dX7_walk_5 : decode cX7_walk 5 = .ok (.astore_n 2, 1) := by decide +kernel
theorem dX7_walk_6 : decode cX7_walk 6 = .ok (.aload_n 2, 1) := by decide +kernel
theorem dX7_walk_7 : decode cX7_walk 7 = .ok (.ifnull 21, 3) := by decide +kernel
theorem dX7_walk_10 : decode cX7_walk 10 = .ok (.aload_n 2, 1) := by decide +kernel
theorem dX7_walk_11 : decode cX7_walk 11 = .ok (.getfield 182, 3) := by decide +kernel
theorem dX7_walk_14 : decode cX7_walk 14 = .ok (.ifnull 14, 3) := by decide +kernel
theorem dX7_walk_17 : decode cX7_walk 17 = .ok (.aload_n 2, 1) := by decide +kernel
theorem dX7_walk_18 : decode cX7_walk 18 = .ok (.getfield 182, 3) := by decide +kernel
theorem dX7_walk_21 : decode cX7_walk 21 = .ok (.aload_n 2, 1) := by decide +kernel
theorem dX7_walk_22 : decode cX7_walk 22 = .ok (.getfield 201, 3) := by decide +kernel
theorem dX7_walk_25 : decode cX7_walk 25 = .ok (.if_acmp .ne 5, 3) := by decide +kernel
theorem dX7_walk_28 : decode cX7_walk 28 = .ok (.iconst (-1), 1) := by decide +kernel
theorem dX7_walk_29 : decode cX7_walk 29 = .ok (.ireturn, 1) := by decide +kernel
theorem dX7_walk_30 : decode cX7_walk 30 = .ok (.aload_n 2, 1) := by decide +kernel
theorem dX7_walk_31 : decode cX7_walk 31 = .ok (.getfield 201, 3) := by decide +kernel
theorem dX7_walk_34 : decode cX7_walk 34 = .ok (.aload_n 2, 1) := by decide +kernel
theorem dX7_walk_35 : decode cX7_walk 35 = .ok (.getfield 182, 3) := by decide +kernel
theorem dX7_walk_38 : decode cX7_walk 38 = .ok (.invokevirtual 204, 3) := by decide +kernel
theorem dX7_walk_41 : decode cX7_walk 41 = .ok (.istore_n 3, 1) := by decide +kernel
theorem dX7_walk_42 : decode cX7_walk 42 = .ok (.iload_n 3, 1) := by decide +kernel
theorem dX7_walk_43 : decode cX7_walk 43 = .ok (.iconst (-1), 1) := by decide +kernel
theorem dX7_walk_44 : decode cX7_walk 44 = .ok (.if_icmp .ne 5, 3) := by decide +kernel
theorem dX7_walk_47 : decode cX7_walk 47 = .ok (.iconst (-1), 1) := by decide +kernel
theorem dX7_walk_48 : decode cX7_walk 48 = .ok (.ireturn, 1) := by decide +kernel
theorem dX7_walk_49 : decode cX7_walk 49 = .ok (.aload_n 2, 1) := by decide +kernel
theorem dX7_walk_50 : decode cX7_walk 50 = .ok (.aconst_null, 1) := by decide +kernel
theorem dX7_walk_51 : decode cX7_walk 51 = .ok (.putfield 182, 3) := by decide +kernel
theorem dX7_walk_54 : decode cX7_walk 54 = .ok (.aload_n 2, 1) := by decide +kernel
theorem dX7_walk_55 : decode cX7_walk 55 = .ok (.aload_n 0, 1) := by decide +kernel
theorem dX7_walk_56 : decode cX7_walk 56 = .ok (.getfield 79, 3) := by decide +kernel
theorem dX7_walk_59 : decode cX7_walk 59 = .ok (.iconst 2, 1) := by decide +kernel
theorem dX7_walk_60 : decode cX7_walk 60 = .ok (.iload_n 3, 1) := by decide +kernel
theorem dX7_walk_61 : decode cX7_walk 61 = .ok (.imul, 1) := by decide +kernel
theorem dX7_walk_62 : decode cX7_walk 62 = .ok (.iadd, 1) := by decide +kernel
theorem dX7_walk_63 : decode cX7_walk 63 = .ok (.putfield 208, 3) := by decide +kernel
theorem dX7_walk_66 : decode cX7_walk 66 = .ok (.aload_n 2, 1) := by decide +kernel
theorem dX7_walk_67 : decode cX7_walk 67 = .ok (.getfield 208, 3) := by decide +kernel
theorem dX7_walk_70 : decode cX7_walk 70 = .ok (.ireturn, 1) := by decide +kernel
theorem dX7_go_0 : decode cX7_go 0 = .ok (.iload_n 1, 1) := by decide +kernel
theorem dX7_go_1 : decode cX7_go 1 = .ok (.iconst 0, 1) := by decide +kernel
theorem dX7_go_2 : decode cX7_go 2 = .ok (.sipush 500, 3) := by decide +kernel
theorem dX7_go_5 : decode cX7_go 5 = .ok (.invokestatic 109, 3) := by decide +kernel
theorem dX7_go_8 : decode cX7_go 8 = .ok (.ifCond .ne 5, 3) := by decide +kernel
theorem dX7_go_11 : decode cX7_go 11 = .ok (.iconst (-1), 1) := by decide +kernel
theorem dX7_go_12 : decode cX7_go 12 = .ok (.ireturn, 1) := by decide +kernel
theorem dX7_go_13 : decode cX7_go 13 = .ok (.iconst 0, 1) := by decide +kernel
theorem dX7_go_14 : decode cX7_go 14 = .ok (.istore_n 2, 1) := by decide +kernel
theorem dX7_go_15 : decode cX7_go 15 = .ok (.iload_n 2, 1) := by decide +kernel
theorem dX7_go_16 : decode cX7_go 16 = .ok (.iload_n 1, 1) := by decide +kernel
theorem dX7_go_17 : decode cX7_go 17 = .ok (.if_icmp .ge 23, 3) := by decide +kernel
theorem dX7_go_20 : decode cX7_go 20 = .ok (.aload_n 0, 1) := by decide +kernel
theorem dX7_go_21 : decode cX7_go 21 = .ok (.getfield 79, 3) := by decide +kernel
theorem dX7_go_24 : decode cX7_go 24 = .ok (.sipush 20000, 3) := by decide +kernel
theorem dX7_go_27 : decode cX7_go 27 = .ok (.if_icmp .ge 13, 3) := by decide +kernel
theorem dX7_go_30 : decode cX7_go 30 = .ok (.aload_n 0, 1) := by decide +kernel
theorem dX7_go_31 : decode cX7_go 31 = .ok (.invokevirtual 211, 3) := by decide +kernel
theorem dX7_go_34 : decode cX7_go 34 = .ok (.iinc 2 1, 3) := by decide +kernel
theorem dX7_go_37 : decode cX7_go 37 = .ok (.goto (-22), 3) := by decide +kernel
theorem dX7_go_40 : decode cX7_go 40 = .ok (.aload_n 0, 1) := by decide +kernel
theorem dX7_go_41 : decode cX7_go 41 = .ok (.getfield 79, 3) := by decide +kernel
theorem dX7_go_44 : decode cX7_go 44 = .ok (.ireturn, 1) := by decide +kernel
theorem dX7_passHour_0 : decode cX7_passHour 0 = .ok (.iconst 0, 1) := by decide +kernel
theorem dX7_passHour_1 : decode cX7_passHour 1 = .ok (.istore_n 1, 1) := by decide +kernel
theorem dX7_passHour_2 : decode cX7_passHour 2 = .ok (.iload_n 1, 1) := by decide +kernel
theorem dX7_passHour_3 : decode cX7_passHour 3 = .ok (.aload_n 0, 1) := by decide +kernel
theorem dX7_passHour_4 : decode cX7_passHour 4 = .ok (.getfield 43, 3) := by decide +kernel
theorem dX7_passHour_7 : decode cX7_passHour 7 = .ok (.if_icmp .ge 22, 3) := by decide +kernel
theorem dX7_passHour_10 : decode cX7_passHour 10 = .ok (.aload_n 0, 1) := by decide +kernel
theorem dX7_passHour_11 : decode cX7_passHour 11 = .ok (.getfield 39, 3) := by decide +kernel
theorem dX7_passHour_14 : decode cX7_passHour 14 = .ok (.iload_n 1, 1) := by decide +kernel
theorem dX7_passHour_15 : decode cX7_passHour 15 = .ok (.aaload, 1) := by decide +kernel
theorem dX7_passHour_16 : decode cX7_passHour 16 = .ok (.aload_n 0, 1) := by decide +kernel
theorem dX7_passHour_17 : decode cX7_passHour 17 = .ok (.getfield 79, 3) := by decide +kernel
theorem dX7_passHour_20 : decode cX7_passHour 20 = .ok (.invokevirtual 214, 3) := by decide +kernel
theorem dX7_passHour_23 : decode cX7_passHour 23 = .ok (.iinc 1 1, 3) := by decide +kernel
theorem dX7_passHour_26 : decode cX7_passHour 26 = .ok (.goto (-24), 3) := by decide +kernel
theorem dX7_passHour_29 : decode cX7_passHour 29 = .ok (.iconst 1, 1) := by decide +kernel
theorem dX7_passHour_30 : decode cX7_passHour 30 = .ok (.istore_n 1, 1) := by decide +kernel
theorem dX7_passHour_31 : decode cX7_passHour 31 = .ok (.iload_n 1, 1) := by decide +kernel
theorem dX7_passHour_32 : decode cX7_passHour 32 = .ok (.aload_n 0, 1) := by decide +kernel
theorem dX7_passHour_33 : decode cX7_passHour 33 = .ok (.getfield 15, 3) := by decide +kernel
theorem dX7_passHour_36 : decode cX7_passHour 36 = .ok (.if_icmp .ge 19, 3) := by decide +kernel
theorem dX7_passHour_39 : decode cX7_passHour 39 = .ok (.aload_n 0, 1) := by decide +kernel
theorem dX7_passHour_40 : decode cX7_passHour 40 = .ok (.aload_n 0, 1) := by decide +kernel
theorem dX7_passHour_41 : decode cX7_passHour 41 = .ok (.getfield 11, 3) := by decide +kernel
theorem dX7_passHour_44 : decode cX7_passHour 44 = .ok (.iload_n 1, 1) := by decide +kernel
theorem dX7_passHour_45 : decode cX7_passHour 45 = .ok (.aaload, 1) := by decide +kernel
theorem dX7_passHour_46 : decode cX7_passHour 46 = .ok (.invokevirtual 217, 3) := by decide +kernel
theorem dX7_passHour_49 : decode cX7_passHour 49 = .ok (.iinc 1 1, 3) := by decide +kernel
theorem dX7_passHour_52 : decode cX7_passHour 52 = .ok (.goto (-21), 3) := by decide +kernel
theorem dX7_passHour_55 : decode cX7_passHour 55 = .ok (.iconst 1, 1) := by decide +kernel
theorem dX7_passHour_56 : decode cX7_passHour 56 = .ok (.istore_n 1, 1) := by decide +kernel
theorem dX7_passHour_57 : decode cX7_passHour 57 = .ok (.iload_n 1, 1) := by decide +kernel
theorem dX7_passHour_58 : decode cX7_passHour 58 = .ok (.aload_n 0, 1) := by decide +kernel
theorem dX7_passHour_59 : decode cX7_passHour 59 = .ok (.getfield 15, 3) := by decide +kernel
theorem dX7_passHour_62 : decode cX7_passHour 62 = .ok (.if_icmp .ge 18, 3) := by decide +kernel
theorem dX7_passHour_65 : decode cX7_passHour 65 = .ok (.aload_n 0, 1) := by decide +kernel
theorem dX7_passHour_66 : decode cX7_passHour 66 = .ok (.getfield 11, 3) := by decide +kernel
theorem dX7_passHour_69 : decode cX7_passHour 69 = .ok (.iload_n 1, 1) := by decide +kernel
theorem dX7_passHour_70 : decode cX7_passHour 70 = .ok (.aaload, 1) := by decide +kernel
theorem dX7_passHour_71 : decode cX7_passHour 71 = .ok (.invokevirtual 221, 3) := by decide +kernel
theorem dX7_passHour_74 : decode cX7_passHour 74 = .ok (.iinc 1 1, 3) := by decide +kernel
theorem dX7_passHour_77 : decode cX7_passHour 77 = .ok (.goto (-20), 3) := by decide +kernel
theorem dX7_passHour_80 : decode cX7_passHour 80 = .ok (.aload_n 0, 1) := by decide +kernel
theorem dX7_passHour_81 : decode cX7_passHour 81 = .ok (.dup, 1) := by decide +kernel
theorem dX7_passHour_82 : decode cX7_passHour 82 = .ok (.getfield 79, 3) := by decide +kernel
theorem dX7_passHour_85 : decode cX7_passHour 85 = .ok (.iconst 1, 1) := by decide +kernel
theorem dX7_passHour_86 : decode cX7_passHour 86 = .ok (.iadd, 1) := by decide +kernel
theorem dX7_passHour_87 : decode cX7_passHour 87 = .ok (.putfield 79, 3) := by decide +kernel
theorem dX7_passHour_90 : decode cX7_passHour 90 = .ok (.return_, 1) := by decide +kernel
theorem dX7_openWeir_0 : decode cX7_openWeir 0 = .ok (.aload_n 1, 1) := by decide +kernel
theorem dX7_openWeir_1 : decode cX7_openWeir 1 = .ok (.aload_n 0, 1) := by decide +kernel
theorem dX7_openWeir_2 : decode cX7_openWeir 2 = .ok (.getfield 79, 3) := by decide +kernel
theorem dX7_openWeir_5 : decode cX7_openWeir 5 = .ok (.invokevirtual 224, 3) := by decide +kernel
theorem dX7_openWeir_8 : decode cX7_openWeir 8 = .ok (.ifCond .eq 4, 3) := by decide +kernel
theorem dX7_openWeir_11 : decode cX7_openWeir 11 = .ok (.return_, 1) := by decide +kernel
theorem dX7_openWeir_12 : decode cX7_openWeir 12 = .ok (.aload_n 0, 1) := by decide +kernel
theorem dX7_openWeir_13 : decode cX7_openWeir 13 = .ok (.aload_n 1, 1) := by decide +kernel
theorem dX7_openWeir_14 : decode cX7_openWeir 14 = .ok (.invokevirtual 227, 3) := by decide +kernel
theorem dX7_openWeir_17 : decode cX7_openWeir 17 = .ok (.astore_n 2, 1) := by decide +kernel
theorem dX7_openWeir_18 : decode cX7_openWeir 18 = .ok (.aload_n 2, 1) := by decide +kernel
theorem dX7_openWeir_19 : decode cX7_openWeir 19 = .ok (.ifnull 30, 3) := by decide +kernel
theorem dX7_openWeir_22 : decode cX7_openWeir 22 = .ok (.aload_n 0, 1) := by decide +kernel
theorem dX7_openWeir_23 : decode cX7_openWeir 23 = .ok (.aload_n 2, 1) := by decide +kernel
theorem dX7_openWeir_24 : decode cX7_openWeir 24 = .ok (.invokevirtual 230, 3) := by decide +kernel
theorem dX7_openWeir_27 : decode cX7_openWeir 27 = .ok (.aload_n 1, 1) := by decide +kernel
theorem dX7_openWeir_28 : decode cX7_openWeir 28 = .ok (.dup, 1) := by decide +kernel
theorem dX7_openWeir_29 : decode cX7_openWeir 29 = .ok (.getfield 233, 3) := by decide +kernel
theorem dX7_openWeir_32 : decode cX7_openWeir 32 = .ok (.aload_n 2, 1) := by decide +kernel
theorem dX7_openWeir_33 : decode cX7_openWeir 33 = .ok (.invokevirtual 236, 3) := by decide +kernel
theorem dX7_openWeir_36 : decode cX7_openWeir 36 = .ok (.isub, 1) := by decide +kernel
theorem dX7_openWeir_37 : decode cX7_openWeir 37 = .ok (.putfield 233, 3) := by decide +kernel
theorem dX7_openWeir_40 : decode cX7_openWeir 40 = .ok (.aload_n 2, 1) := by decide +kernel
theorem dX7_openWeir_41 : decode cX7_openWeir 41 = .ok (.aload_n 1, 1) := by decide +kernel
theorem dX7_openWeir_42 : decode cX7_openWeir 42 = .ok (.aload_n 0, 1) := by decide +kernel
theorem dX7_openWeir_43 : decode cX7_openWeir 43 = .ok (.getfield 79, 3) := by decide +kernel
theorem dX7_openWeir_46 : decode cX7_openWeir 46 = .ok (.invokevirtual 239, 3) := by decide +kernel
theorem dX7_openWeir_49 : decode cX7_openWeir 49 = .ok (.return_, 1) := by decide +kernel
theorem dX7_nextAt_0 : decode cX7_nextAt 0 = .ok (.aconst_null, 1) := by decide +kernel
theorem dX7_nextAt_1 : decode cX7_nextAt 1 = .ok (.astore_n 2, 1) := by decide +kernel
theorem dX7_nextAt_2 : decode cX7_nextAt 2 = .ok (.iconst 0, 1) := by decide +kernel
theorem dX7_nextAt_3 : decode cX7_nextAt 3 = .ok (.istore_n 3, 1) := by decide +kernel
theorem dX7_nextAt_4 : decode cX7_nextAt 4 = .ok (.iload_n 3, 1) := by decide +kernel
theorem dX7_nextAt_5 : decode cX7_nextAt 5 = .ok (.aload_n 0, 1) := by decide +kernel
theorem dX7_nextAt_6 : decode cX7_nextAt 6 = .ok (.getfield 43, 3) := by decide +kernel
theorem dX7_nextAt_9 : decode cX7_nextAt 9 = .ok (.if_icmp .ge 63, 3) := by decide +kernel
theorem dX7_nextAt_12 : decode cX7_nextAt 12 = .ok (.aload_n 0, 1) := by decide +kernel
theorem dX7_nextAt_13 : decode cX7_nextAt 13 = .ok (.getfield 39, 3) := by decide +kernel
theorem dX7_nextAt_16 : decode cX7_nextAt 16 = .ok (.iload_n 3, 1) := by decide +kernel
theorem dX7_nextAt_17 : decode cX7_nextAt 17 = .ok (.aaload, 1) := by decide +kernel
theorem dX7_nextAt_18 : decode cX7_nextAt 18 = .ok (.getfield 243, 3) := by decide +kernel
theorem dX7_nextAt_21 : decode cX7_nextAt 21 = .ok (.astore 4, 2) := by decide +kernel
theorem dX7_nextAt_23 : decode cX7_nextAt 23 = .ok (.aload 4, 2) := by decide +kernel
theorem dX7_nextAt_25 : decode cX7_nextAt 25 = .ok (.ifnull 41, 3) := by decide +kernel
theorem dX7_nextAt_28 : decode cX7_nextAt 28 = .ok (.aload 4, 2) := by decide +kernel
theorem dX7_nextAt_30 : decode cX7_nextAt 30 = .ok (.aload_n 1, 1) := by decide +kernel
theorem dX7_nextAt_31 : decode cX7_nextAt 31 = .ok (.invokevirtual 247, 3) := by decide +kernel
theorem dX7_nextAt_34 : decode cX7_nextAt 34 = .ok (.ifCond .eq 32, 3) := by decide +kernel
theorem dX7_nextAt_37 : decode cX7_nextAt 37 = .ok (.aload 4, 2) := by decide +kernel
theorem dX7_nextAt_39 : decode cX7_nextAt 39 = .ok (.invokevirtual 236, 3) := by decide +kernel
theorem dX7_nextAt_42 : decode cX7_nextAt 42 = .ok (.aload_n 1, 1) := by decide +kernel
theorem dX7_nextAt_43 : decode cX7_nextAt 43 = .ok (.getfield 233, 3) := by decide +kernel
theorem dX7_nextAt_46 : decode cX7_nextAt 46 = .ok (.if_icmp .gt 20, 3) := by decide +kernel
theorem dX7_nextAt_49 : decode cX7_nextAt 49 = .ok (.aload_n 2, 1) := by decide +kernel
theorem dX7_nextAt_50 : decode cX7_nextAt 50 = .ok (.ifnull 13, 3) := by decide +kernel
theorem dX7_nextAt_53 : decode cX7_nextAt 53 = .ok (.aload_n 0, 1) := by decide +kernel
theorem dX7_nextAt_54 : decode cX7_nextAt 54 = .ok (.aload 4, 2) := by decide +kernel
theorem dX7_nextAt_56 : decode cX7_nextAt 56 = .ok (.aload_n 2, 1) := by decide +kernel
theorem dX7_nextAt_57 : decode cX7_nextAt 57 = .ok (.invokevirtual 251, 3) := by decide +kernel
theorem dX7_nextAt_60 : decode cX7_nextAt 60 = .ok (.ifCond .eq 6, 3) := by decide +kernel
theorem dX7_nextAt_63 : decode cX7_nextAt 63 = .ok (.aload 4, 2) := by decide +kernel
theorem dX7_nextAt_65 : decode cX7_nextAt 65 = .ok (.astore_n 2, 1) := by decide +kernel
theorem dX7_nextAt_66 : decode cX7_nextAt 66 = .ok (.iinc 3 1, 3) := by decide +kernel
theorem dX7_nextAt_69 : decode cX7_nextAt 69 = .ok (.goto (-65), 3) := by decide +kernel
theorem dX7_nextAt_72 : decode cX7_nextAt 72 = .ok (.aload_n 2, 1) := by decide +kernel
theorem dX7_nextAt_73 : decode cX7_nextAt 73 = .ok (.areturn, 1) := by decide +kernel
theorem dX7_goesAhead_0 : decode cX7_goesAhead 0 = .ok (.aload_n 0, 1) := by decide +kernel
theorem dX7_goesAhead_1 : decode cX7_goesAhead 1 = .ok (.aload_n 1, 1) := by decide +kernel
theorem dX7_goesAhead_2 : decode cX7_goesAhead 2 = .ok (.invokevirtual 255, 3) := by decide +kernel
theorem dX7_goesAhead_5 : decode cX7_goesAhead 5 = .ok (.aload_n 0, 1) := by decide +kernel
theorem dX7_goesAhead_6 : decode cX7_goesAhead 6 = .ok (.aload_n 2, 1) := by decide +kernel
theorem dX7_goesAhead_7 : decode cX7_goesAhead 7 = .ok (.invokevirtual 255, 3) := by decide +kernel
theorem dX7_goesAhead_10 : decode cX7_goesAhead 10 = .ok (.isub, 1) := by decide +kernel
theorem dX7_goesAhead_11 : decode cX7_goesAhead 11 = .ok (.istore_n 3, 1) := by decide +kernel
theorem dX7_goesAhead_12 : decode cX7_goesAhead 12 = .ok (.iload_n 3, 1) := by decide +kernel
theorem dX7_goesAhead_13 : decode cX7_goesAhead 13 = .ok (.ifCond .eq 13, 3) := by decide +kernel
theorem dX7_goesAhead_16 : decode cX7_goesAhead 16 = .ok (.iload_n 3, 1) := by decide +kernel
theorem dX7_goesAhead_17 : decode cX7_goesAhead 17 = .ok (.ifCond .ge 7, 3) := by decide +kernel
theorem dX7_goesAhead_20 : decode cX7_goesAhead 20 = .ok (.iconst 1, 1) := by decide +kernel
theorem dX7_goesAhead_21 : decode cX7_goesAhead 21 = .ok (.goto 4, 3) := by decide +kernel
theorem dX7_goesAhead_24 : decode cX7_goesAhead 24 = .ok (.iconst 0, 1) := by decide +kernel
theorem dX7_goesAhead_25 : decode cX7_goesAhead 25 = .ok (.ireturn, 1) := by decide +kernel
theorem dX7_goesAhead_26 : decode cX7_goesAhead 26 = .ok (.aload_n 1, 1) := by decide +kernel
theorem dX7_goesAhead_27 : decode cX7_goesAhead 27 = .ok (.invokevirtual 259, 3) := by decide +kernel
theorem dX7_goesAhead_30 : decode cX7_goesAhead 30 = .ok (.aload_n 2, 1) := by decide +kernel
theorem dX7_goesAhead_31 : decode cX7_goesAhead 31 = .ok (.invokevirtual 259, 3) := by decide +kernel
theorem dX7_goesAhead_34 : decode cX7_goesAhead 34 = .ok (.isub, 1) := by decide +kernel
theorem dX7_goesAhead_35 : decode cX7_goesAhead 35 = .ok (.istore 4, 2) := by decide +kernel
theorem dX7_goesAhead_37 : decode cX7_goesAhead 37 = .ok (.iload 4, 2) := by decide +kernel
theorem dX7_goesAhead_39 : decode cX7_goesAhead 39 = .ok (.ifCond .eq 14, 3) := by decide +kernel
theorem dX7_goesAhead_42 : decode cX7_goesAhead 42 = .ok (.iload 4, 2) := by decide +kernel
theorem dX7_goesAhead_44 : decode cX7_goesAhead 44 = .ok (.ifCond .le 7, 3) := by decide +kernel
theorem dX7_goesAhead_47 : decode cX7_goesAhead 47 = .ok (.iconst 1, 1) := by decide +kernel
theorem dX7_goesAhead_48 : decode cX7_goesAhead 48 = .ok (.goto 4, 3) := by decide +kernel
theorem dX7_goesAhead_51 : decode cX7_goesAhead 51 = .ok (.iconst 0, 1) := by decide +kernel
theorem dX7_goesAhead_52 : decode cX7_goesAhead 52 = .ok (.ireturn, 1) := by decide +kernel
theorem dX7_goesAhead_53 : decode cX7_goesAhead 53 = .ok (.aload_n 1, 1) := by decide +kernel
theorem dX7_goesAhead_54 : decode cX7_goesAhead 54 = .ok (.getfield 154, 3) := by decide +kernel
theorem dX7_goesAhead_57 : decode cX7_goesAhead 57 = .ok (.aload_n 2, 1) := by decide +kernel
theorem dX7_goesAhead_58 : decode cX7_goesAhead 58 = .ok (.getfield 154, 3) := by decide +kernel
theorem dX7_goesAhead_61 : decode cX7_goesAhead 61 = .ok (.if_icmp .ge 7, 3) := by decide +kernel
theorem dX7_goesAhead_64 : decode cX7_goesAhead 64 = .ok (.iconst 1, 1) := by decide +kernel
theorem dX7_goesAhead_65 : decode cX7_goesAhead 65 = .ok (.goto 4, 3) := by decide +kernel
theorem dX7_goesAhead_68 : decode cX7_goesAhead 68 = .ok (.iconst 0, 1) := by decide +kernel
theorem dX7_goesAhead_69 : decode cX7_goesAhead 69 = .ok (.ireturn, 1) := by decide +kernel
theorem dX7_rightOf_0 : decode cX7_rightOf 0 = .ok (.aload_n 1, 1) := by decide +kernel
theorem dX7_rightOf_1 : decode cX7_rightOf 1 = .ok (.invokevirtual 261, 3) := by decide +kernel
theorem dX7_rightOf_4 : decode cX7_rightOf 4 = .ok (.astore_n 2, 1) := by decide +kernel
theorem dX7_rightOf_5 : decode cX7_rightOf 5 = .ok (.aload_n 2, 1) := by decide +kernel
theorem dX7_rightOf_6 : decode cX7_rightOf 6 = .ok (.ifnonnull 8, 3) := by decide +kernel
theorem dX7_rightOf_9 : decode cX7_rightOf 9 = .ok (.bipush 9, 2) := by decide +kernel
theorem dX7_rightOf_11 : decode cX7_rightOf 11 = .ok (.goto 12, 3) := by decide +kernel
theorem dX7_rightOf_14 : decode cX7_rightOf 14 = .ok (.aload_n 0, 1) := by decide +kernel
theorem dX7_rightOf_15 : decode cX7_rightOf 15 = .ok (.getfield 65, 3) := by decide +kernel
theorem dX7_rightOf_18 : decode cX7_rightOf 18 = .ok (.aload_n 2, 1) := by decide +kernel
theorem dX7_rightOf_19 : decode cX7_rightOf 19 = .ok (.getfield 264, 3) := by decide +kernel
theorem dX7_rightOf_22 : decode cX7_rightOf 22 = .ok (.iaload, 1) := by decide +kernel
theorem dX7_rightOf_23 : decode cX7_rightOf 23 = .ok (.ireturn, 1) := by decide +kernel
theorem dX7_takeTolls_0 : decode cX7_takeTolls 0 = .ok (.aload_n 0, 1) := by decide +kernel
theorem dX7_takeTolls_1 : decode cX7_takeTolls 1 = .ok (.getfield 58, 3) := by decide +kernel
theorem dX7_takeTolls_4 : decode cX7_takeTolls 4 = .ok (.iconst 0, 1) := by decide +kernel
theorem dX7_takeTolls_5 : decode cX7_takeTolls 5 = .ok (.aload_n 0, 1) := by decide +kernel
theorem dX7_takeTolls_6 : decode cX7_takeTolls 6 = .ok (.invokevirtual 267, 3) := by decide +kernel
theorem dX7_takeTolls_9 : decode cX7_takeTolls 9 = .ok (.invokevirtual 270, 3) := by decide +kernel
theorem dX7_takeTolls_12 : decode cX7_takeTolls 12 = .ok (.istore_n 2, 1) := by decide +kernel
theorem dX7_takeTolls_13 : decode cX7_takeTolls 13 = .ok (.iconst 0, 1) := by decide +kernel
theorem dX7_takeTolls_14 : decode cX7_takeTolls 14 = .ok (.istore_n 3, 1) := by decide +kernel
theorem dX7_takeTolls_15 : decode cX7_takeTolls 15 = .ok (.iload_n 3, 1) := by decide +kernel
theorem dX7_takeTolls_16 : decode cX7_takeTolls 16 = .ok (.aload_n 1, 1) := by decide +kernel
theorem dX7_takeTolls_17 : decode cX7_takeTolls 17 = .ok (.getfield 160, 3) := by decide +kernel
theorem dX7_takeTolls_20 : decode cX7_takeTolls 20 = .ok (.if_icmp .ge 66, 3) := by decide +kernel
theorem dX7_takeTolls_23 : decode cX7_takeTolls 23 = .ok (.aload_n 1, 1) := by decide +kernel
theorem dX7_takeTolls_24 : decode cX7_takeTolls 24 = .ok (.getfield 274, 3) := by decide +kernel
theorem dX7_takeTolls_27 : decode cX7_takeTolls 27 = .ok (.iload_n 3, 1) := by decide +kernel
theorem dX7_takeTolls_28 : decode cX7_takeTolls 28 = .ok (.aaload, 1) := by decide +kernel
theorem dX7_takeTolls_29 : decode cX7_takeTolls 29 = .ok (.astore 4, 2) := by decide +kernel
theorem dX7_takeTolls_31 : decode cX7_takeTolls 31 = .ok (.iconst 0, 1) := by decide +kernel
theorem dX7_takeTolls_32 : decode cX7_takeTolls 32 = .ok (.istore 5, 2) := by decide +kernel
theorem dX7_takeTolls_34 : decode cX7_takeTolls 34 = .ok (.iload 5, 2) := by decide +kernel
theorem dX7_takeTolls_36 : decode cX7_takeTolls 36 = .ok (.aload 4, 2) := by decide +kernel
theorem dX7_takeTolls_38 : decode cX7_takeTolls 38 = .ok (.getfield 140, 3) := by decide +kernel
theorem dX7_takeTolls_41 : decode cX7_takeTolls 41 = .ok (.if_icmp .ge 39, 3) := by decide +kernel
theorem dX7_takeTolls_44 : decode cX7_takeTolls 44 = .ok (.aload_n 0, 1) := by decide +kernel
theorem dX7_takeTolls_45 : decode cX7_takeTolls 45 = .ok (.getfield 69, 3) := by decide +kernel
theorem dX7_takeTolls_48 : decode cX7_takeTolls 48 = .ok (.aload 4, 2) := by decide +kernel
theorem dX7_takeTolls_50 : decode cX7_takeTolls 50 = .ok (.getfield 278, 3) := by decide +kernel
theorem dX7_takeTolls_53 : decode cX7_takeTolls 53 = .ok (.iload 5, 2) := by decide +kernel
theorem dX7_takeTolls_55 : decode cX7_takeTolls 55 = .ok (.aaload, 1) := by decide +kernel
theorem dX7_takeTolls_56 : decode cX7_takeTolls 56 = .ok (.getfield 264, 3) := by decide +kernel
theorem dX7_takeTolls_59 : decode cX7_takeTolls 59 = .ok (.dup2, 1) := by decide +kernel
theorem dX7_takeTolls_60 : decode cX7_takeTolls 60 = .ok (.iaload, 1) := by decide +kernel
theorem dX7_takeTolls_61 : decode cX7_takeTolls 61 = .ok (.iload_n 2, 1) := by decide +kernel
theorem dX7_takeTolls_62 : decode cX7_takeTolls 62 = .ok (.isub, 1) := by decide +kernel
theorem dX7_takeTolls_63 : decode cX7_takeTolls 63 = .ok (.iastore, 1) := by decide +kernel
theorem dX7_takeTolls_64 : decode cX7_takeTolls 64 = .ok (.aload_n 0, 1) := by decide +kernel
theorem dX7_takeTolls_65 : decode cX7_takeTolls 65 = .ok (.dup, 1) := by decide +kernel
theorem dX7_takeTolls_66 : decode cX7_takeTolls 66 = .ok (.getfield 82, 3) := by decide +kernel
theorem dX7_takeTolls_69 : decode cX7_takeTolls 69 = .ok (.iload_n 2, 1) := by decide +kernel
theorem dX7_takeTolls_70 : decode cX7_takeTolls 70 = .ok (.iadd, 1) := by decide +kernel
theorem dX7_takeTolls_71 : decode cX7_takeTolls 71 = .ok (.putfield 82, 3) := by decide +kernel
theorem dX7_takeTolls_74 : decode cX7_takeTolls 74 = .ok (.iinc 5 1, 3) := by decide +kernel
theorem dX7_takeTolls_77 : decode cX7_takeTolls 77 = .ok (.goto (-43), 3) := by decide +kernel
theorem dX7_takeTolls_80 : decode cX7_takeTolls 80 = .ok (.iinc 3 1, 3) := by decide +kernel
theorem dX7_takeTolls_83 : decode cX7_takeTolls 83 = .ok (.goto (-68), 3) := by decide +kernel
theorem dX7_takeTolls_86 : decode cX7_takeTolls 86 = .ok (.return_, 1) := by decide +kernel
theorem dX7_storm_0 : decode cX7_storm 0 = .ok (.aload_n 0, 1) := by decide +kernel
theorem dX7_storm_1 : decode cX7_storm 1 = .ok (.iload_n 1, 1) := by decide +kernel
theorem dX7_storm_2 : decode cX7_storm 2 = .ok (.invokevirtual 94, 3) := by decide +kernel
theorem dX7_storm_5 : decode cX7_storm 5 = .ok (.astore 4, 2) := by decide +kernel
theorem dX7_storm_7 : decode cX7_storm 7 = .ok (.aload 4, 2) := by decide +kernel
theorem dX7_storm_9 : decode cX7_storm 9 = .ok (.ifnull 16, 3) := by decide +kernel
theorem dX7_storm_12 : decode cX7_storm 12 = .ok (.iload_n 2, 1) := by decide +kernel
theorem dX7_storm_13 : decode cX7_storm 13 = .ok (.aload_n 0, 1) := by decide +kernel
theorem dX7_storm_14 : decode cX7_storm 14 = .ok (.getfield 79, 3) := by decide +kernel
theorem dX7_storm_17 : decode cX7_storm 17 = .ok (.if_icmp .lt 8, 3) := by decide +kernel
theorem dX7_storm_20 : decode cX7_storm 20 = .ok (.iload_n 3, 1) := by decide +kernel
theorem dX7_storm_21 : decode cX7_storm 21 = .ok (.iload_n 2, 1) := by decide +kernel
theorem dX7_storm_22 : decode cX7_storm 22 = .ok (.if_icmp .gt 5, 3) := by decide +kernel
theorem dX7_storm_25 : decode cX7_storm 25 = .ok (.iconst 0, 1) := by decide +kernel
theorem dX7_storm_26 : decode cX7_storm 26 = .ok (.ireturn, 1) := by decide +kernel
theorem dX7_storm_27 : decode cX7_storm 27 = .ok (.aload 4, 2) := by decide +kernel
theorem dX7_storm_29 : decode cX7_storm 29 = .ok (.iload_n 2, 1) := by decide +kernel
theorem dX7_storm_30 : decode cX7_storm 30 = .ok (.putfield 279, 3) := by decide +kernel
theorem dX7_storm_33 : decode cX7_storm 33 = .ok (.aload 4, 2) := by decide +kernel
theorem dX7_storm_35 : decode cX7_storm 35 = .ok (.iload_n 3, 1) := by decide +kernel
theorem dX7_storm_36 : decode cX7_storm 36 = .ok (.putfield 282, 3) := by decide +kernel
theorem dX7_storm_39 : decode cX7_storm 39 = .ok (.iconst 1, 1) := by decide +kernel
theorem dX7_storm_40 : decode cX7_storm 40 = .ok (.ireturn, 1) := by decide +kernel
theorem dX7_breaks_0 : decode cX7_breaks 0 = .ok (.aload_n 0, 1) := by decide +kernel
theorem dX7_breaks_1 : decode cX7_breaks 1 = .ok (.iload_n 1, 1) := by decide +kernel
theorem dX7_breaks_2 : decode cX7_breaks 2 = .ok (.invokevirtual 190, 3) := by decide +kernel
theorem dX7_breaks_5 : decode cX7_breaks 5 = .ok (.astore_n 3, 1) := by decide +kernel
theorem dX7_breaks_6 : decode cX7_breaks 6 = .ok (.aload_n 3, 1) := by decide +kernel
theorem dX7_breaks_7 : decode cX7_breaks 7 = .ok (.ifnull 11, 3) := by decide +kernel
theorem dX7_breaks_10 : decode cX7_breaks 10 = .ok (.aload_n 3, 1) := by decide +kernel
theorem dX7_breaks_11 : decode cX7_breaks 11 = .ok (.invokevirtual 193, 3) := by decide +kernel
theorem dX7_breaks_14 : decode cX7_breaks 14 = .ok (.iconst 2, 1) := by decide +kernel
theorem dX7_breaks_15 : decode cX7_breaks 15 = .ok (.if_icmp .eq 5, 3) := by decide +kernel
theorem dX7_breaks_18 : decode cX7_breaks 18 = .ok (.iconst (-1), 1) := by decide +kernel
theorem dX7_breaks_19 : decode cX7_breaks 19 = .ok (.ireturn, 1) := by decide +kernel
theorem dX7_breaks_20 : decode cX7_breaks 20 = .ok (.aload_n 3, 1) := by decide +kernel
theorem dX7_breaks_21 : decode cX7_breaks 21 = .ok (.iload_n 2, 1) := by decide +kernel
theorem dX7_breaks_22 : decode cX7_breaks 22 = .ok (.ifCond .eq 7, 3) := by decide +kernel
theorem dX7_breaks_25 : decode cX7_breaks 25 = .ok (.iconst 1, 1) := by decide +kernel
theorem dX7_breaks_26 : decode cX7_breaks 26 = .ok (.goto 4, 3) := by decide +kernel
theorem dX7_breaks_29 : decode cX7_breaks 29 = .ok (.iconst 0, 1) := by decide +kernel
theorem dX7_breaks_30 : decode cX7_breaks 30 = .ok (.invokevirtual 285, 3) := by decide +kernel
theorem dX7_breaks_33 : decode cX7_breaks 33 = .ok (.istore 4, 2) := by decide +kernel
theorem dX7_breaks_35 : decode cX7_breaks 35 = .ok (.aload_n 0, 1) := by decide +kernel
theorem dX7_breaks_36 : decode cX7_breaks 36 = .ok (.dup, 1) := by decide +kernel
theorem dX7_breaks_37 : decode cX7_breaks 37 = .ok (.getfield 88, 3) := by decide +kernel
theorem dX7_breaks_40 : decode cX7_breaks 40 = .ok (.iload 4, 2) := by decide +kernel
theorem dX7_breaks_42 : decode cX7_breaks 42 = .ok (.iadd, 1) := by decide +kernel
theorem dX7_breaks_43 : decode cX7_breaks 43 = .ok (.putfield 88, 3) := by decide +kernel
theorem dX7_breaks_46 : decode cX7_breaks 46 = .ok (.aload_n 3, 1) := by decide +kernel
theorem dX7_breaks_47 : decode cX7_breaks 47 = .ok (.invokevirtual 197, 3) := by decide +kernel
theorem dX7_breaks_50 : decode cX7_breaks 50 = .ok (.astore 5, 2) := by decide +kernel
theorem dX7_breaks_52 : decode cX7_breaks 52 = .ok (.aload 5, 2) := by decide +kernel
theorem dX7_breaks_54 : decode cX7_breaks 54 = .ok (.ifnull 12, 3) := by decide +kernel
theorem dX7_breaks_57 : decode cX7_breaks 57 = .ok (.aload 5, 2) := by decide +kernel
theorem dX7_breaks_59 : decode cX7_breaks 59 = .ok (.aload_n 0, 1) := by decide +kernel
theorem dX7_breaks_60 : decode cX7_breaks 60 = .ok (.getfield 79, 3) := by decide +kernel
theorem dX7_breaks_63 : decode cX7_breaks 63 = .ok (.putfield 288, 3) := by decide +kernel
theorem dX7_breaks_66 : decode cX7_breaks 66 = .ok (.aload_n 3, 1) := by decide +kernel
theorem dX7_breaks_67 : decode cX7_breaks 67 = .ok (.invokevirtual 168, 3) := by decide +kernel
theorem dX7_breaks_70 : decode cX7_breaks 70 = .ok (.iload 4, 2) := by decide +kernel
theorem dX7_breaks_72 : decode cX7_breaks 72 = .ok (.ireturn, 1) := by decide +kernel
theorem dX7_right_0 : decode cX7_right 0 = .ok (.iload_n 1, 1) := by decide +kernel
theorem dX7_right_1 : decode cX7_right 1 = .ok (.invokestatic 291, 3) := by decide +kernel
theorem dX7_right_4 : decode cX7_right 4 = .ok (.ifCond .eq 13, 3) := by decide +kernel
theorem dX7_right_7 : decode cX7_right 7 = .ok (.iload_n 2, 1) := by decide +kernel
theorem dX7_right_8 : decode cX7_right 8 = .ok (.iconst 0, 1) := by decide +kernel
theorem dX7_right_9 : decode cX7_right 9 = .ok (.bipush 9, 2) := by decide +kernel
theorem dX7_right_11 : decode cX7_right 11 = .ok (.invokestatic 109, 3) := by decide +kernel
theorem dX7_right_14 : decode cX7_right 14 = .ok (.ifCond .ne 5, 3) := by decide +kernel
theorem dX7_right_17 : decode cX7_right 17 = .ok (.iconst 0, 1) := by decide +kernel
theorem dX7_right_18 : decode cX7_right 18 = .ok (.ireturn, 1) := by decide +kernel
theorem dX7_right_19 : decode cX7_right 19 = .ok (.aload_n 0, 1) := by decide +kernel
theorem dX7_right_20 : decode cX7_right 20 = .ok (.getfield 65, 3) := by decide +kernel
theorem dX7_right_23 : decode cX7_right 23 = .ok (.iload_n 1, 1) := by decide +kernel
theorem dX7_right_24 : decode cX7_right 24 = .ok (.iload_n 2, 1) := by decide +kernel
theorem dX7_right_25 : decode cX7_right 25 = .ok (.iastore, 1) := by decide +kernel
theorem dX7_right_26 : decode cX7_right 26 = .ok (.iconst 1, 1) := by decide +kernel
theorem dX7_right_27 : decode cX7_right 27 = .ok (.ireturn, 1) := by decide +kernel
theorem dX7_toll_0 : decode cX7_toll 0 = .ok (.iload_n 1, 1) := by decide +kernel
theorem dX7_toll_1 : decode cX7_toll 1 = .ok (.iconst 0, 1) := by decide +kernel
theorem dX7_toll_2 : decode cX7_toll 2 = .ok (.sipush 1000, 3) := by decide +kernel
theorem dX7_toll_5 : decode cX7_toll 5 = .ok (.invokestatic 109, 3) := by decide +kernel
theorem dX7_toll_8 : decode cX7_toll 8 = .ok (.ifCond .eq 30, 3) := by decide +kernel
theorem dX7_toll_11 : decode cX7_toll 11 = .ok (.iload_n 2, 1) := by decide +kernel
theorem dX7_toll_12 : decode cX7_toll 12 = .ok (.iconst 0, 1) := by decide +kernel
theorem dX7_toll_13 : decode cX7_toll 13 = .ok (.bipush 100, 2) := by decide +kernel
theorem dX7_toll_15 : decode cX7_toll 15 = .ok (.invokestatic 109, 3) := by decide +kernel
theorem dX7_toll_18 : decode cX7_toll 18 = .ok (.ifCond .eq 20, 3) := by decide +kernel
theorem dX7_toll_21 : decode cX7_toll 21 = .ok (.aload_n 0, 1) := by decide +kernel
theorem dX7_toll_22 : decode cX7_toll 22 = .ok (.getfield 58, 3) := by decide +kernel
theorem dX7_toll_25 : decode cX7_toll 25 = .ok (.iconst 0, 1) := by decide +kernel
theorem dX7_toll_26 : decode cX7_toll 26 = .ok (.iload_n 1, 1) := by decide +kernel
theorem dX7_toll_27 : decode cX7_toll 27 = .ok (.iload_n 2, 1) := by decide +kernel
theorem dX7_toll_28 : decode cX7_toll 28 = .ok (.invokevirtual 294, 3) := by decide +kernel
theorem dX7_toll_31 : decode cX7_toll 31 = .ok (.ifCond .eq 7, 3) := by decide +kernel
theorem dX7_toll_34 : decode cX7_toll 34 = .ok (.iconst 1, 1) := by decide +kernel
theorem dX7_toll_35 : decode cX7_toll 35 = .ok (.goto 4, 3) := by decide +kernel
theorem dX7_toll_38 : decode cX7_toll 38 = .ok (.iconst 0, 1) := by decide +kernel
theorem dX7_toll_39 : decode cX7_toll 39 = .ok (.ireturn, 1) := by decide +kernel
theorem dX7_price_0 : decode cX7_price 0 = .ok (.aload_n 0, 1) := by decide +kernel
theorem dX7_price_1 : decode cX7_price 1 = .ok (.iload_n 1, 1) := by decide +kernel
theorem dX7_price_2 : decode cX7_price 2 = .ok (.invokevirtual 94, 3) := by decide +kernel
theorem dX7_price_5 : decode cX7_price 5 = .ok (.astore 5, 2) := by decide +kernel
theorem dX7_price_7 : decode cX7_price 7 = .ok (.aload 5, 2) := by decide +kernel
theorem dX7_price_9 : decode cX7_price 9 = .ok (.ifnull 20, 3) := by decide +kernel
theorem dX7_price_12 : decode cX7_price 12 = .ok (.aload 5, 2) := by decide +kernel
theorem dX7_price_14 : decode cX7_price 14 = .ok (.getfield 297, 3) := by decide +kernel
theorem dX7_price_17 : decode cX7_price 17 = .ok (.ifCond .eq 12, 3) := by decide +kernel
theorem dX7_price_20 : decode cX7_price 20 = .ok (.iload_n 2, 1) := by decide +kernel
theorem dX7_price_21 : decode cX7_price 21 = .ok (.iconst 0, 1) := by decide +kernel
theorem dX7_price_22 : decode cX7_price 22 = .ok (.iconst 3, 1) := by decide +kernel
theorem dX7_price_23 : decode cX7_price 23 = .ok (.invokestatic 109, 3) := by decide +kernel
theorem dX7_price_26 : decode cX7_price 26 = .ok (.ifCond .ne 5, 3) := by decide +kernel
theorem dX7_price_29 : decode cX7_price 29 = .ok (.iconst 0, 1) := by decide +kernel
theorem dX7_price_30 : decode cX7_price 30 = .ok (.ireturn, 1) := by decide +kernel
theorem dX7_price_31 : decode cX7_price 31 = .ok (.iload_n 3, 1) := by decide +kernel
theorem dX7_price_32 : decode cX7_price 32 = .ok (.iconst 0, 1) := by decide +kernel
theorem dX7_price_33 : decode cX7_price 33 = .ok (.sipush 1000, 3) := by decide +kernel
theorem dX7_price_36 : decode cX7_price 36 = .ok (.invokestatic 109, 3) := by decide +kernel
theorem dX7_price_39 : decode cX7_price 39 = .ok (.ifCond .eq 38, 3) := by decide +kernel
theorem dX7_price_42 : decode cX7_price 42 = .ok (.iload 4, 2) := by decide +kernel
theorem dX7_price_44 : decode cX7_price 44 = .ok (.iconst 0, 1) := by decide +kernel
theorem dX7_price_45 : decode cX7_price 45 = .ok (.sipush 1000, 3) := by decide +kernel
theorem dX7_price_48 : decode cX7_price 48 = .ok (.invokestatic 109, 3) := by decide +kernel
theorem dX7_price_51 : decode cX7_price 51 = .ok (.ifCond .eq 26, 3) := by decide +kernel
theorem dX7_price_54 : decode cX7_price 54 = .ok (.aload_n 0, 1) := by decide +kernel
theorem dX7_price_55 : decode cX7_price 55 = .ok (.getfield 62, 3) := by decide +kernel
theorem dX7_price_58 : decode cX7_price 58 = .ok (.aload 5, 2) := by decide +kernel
theorem dX7_price_60 : decode cX7_price 60 = .ok (.iload_n 2, 1) := by decide +kernel
theorem dX7_price_61 : decode cX7_price 61 = .ok (.invokestatic 301, 3) := by decide +kernel
theorem dX7_price_64 : decode cX7_price 64 = .ok (.iload_n 3, 1) := by decide +kernel
theorem dX7_price_65 : decode cX7_price 65 = .ok (.iload 4, 2) := by decide +kernel
theorem dX7_price_67 : decode cX7_price 67 = .ok (.invokevirtual 294, 3) := by decide +kernel
theorem dX7_price_70 : decode cX7_price 70 = .ok (.ifCond .eq 7, 3) := by decide +kernel
theorem dX7_price_73 : decode cX7_price 73 = .ok (.iconst 1, 1) := by decide +kernel
theorem dX7_price_74 : decode cX7_price 74 = .ok (.goto 4, 3) := by decide +kernel
theorem dX7_price_77 : decode cX7_price 77 = .ok (.iconst 0, 1) := by decide +kernel
theorem dX7_price_78 : decode cX7_price 78 = .ok (.ireturn, 1) := by decide +kernel
theorem dX7_sell_0 : decode cX7_sell 0 = .ok (.aload_n 0, 1) := by decide +kernel
theorem dX7_sell_1 : decode cX7_sell 1 = .ok (.iload_n 1, 1) := by decide +kernel
theorem dX7_sell_2 : decode cX7_sell 2 = .ok (.invokevirtual 124, 3) := by decide +kernel
theorem dX7_sell_5 : decode cX7_sell 5 = .ok (.astore_n 2, 1) := by decide +kernel
theorem dX7_sell_6 : decode cX7_sell 6 = .ok (.aload_n 2, 1) := by decide +kernel
theorem dX7_sell_7 : decode cX7_sell 7 = .ok (.ifnull 31, 3) := by decide +kernel
theorem dX7_sell_10 : decode cX7_sell 10 = .ok (.aload_n 2, 1) := by decide +kernel
theorem dX7_sell_11 : decode cX7_sell 11 = .ok (.getfield 128, 3) := by decide +kernel
theorem dX7_sell_14 : decode cX7_sell 14 = .ok (.ifnull 24, 3) := by decide +kernel
theorem dX7_sell_17 : decode cX7_sell 17 = .ok (.aload_n 2, 1) := by decide +kernel
theorem dX7_sell_18 : decode cX7_sell 18 = .ok (.getfield 128, 3) := by decide +kernel
theorem dX7_sell_21 : decode cX7_sell 21 = .ok (.getfield 297, 3) := by decide +kernel
theorem dX7_sell_24 : decode cX7_sell 24 = .ok (.ifCond .eq 14, 3) := by decide +kernel
theorem dX7_sell_27 : decode cX7_sell 27 = .ok (.aload_n 0, 1) := by decide +kernel
theorem dX7_sell_28 : decode cX7_sell 28 = .ok (.getfield 49, 3) := by decide +kernel
theorem dX7_sell_31 : decode cX7_sell 31 = .ok (.aload_n 2, 1) := by decide +kernel
theorem dX7_sell_32 : decode cX7_sell 32 = .ok (.invokevirtual 305, 3) := by decide +kernel
theorem dX7_sell_35 : decode cX7_sell 35 = .ok (.ifCond .eq 5, 3) := by decide +kernel
theorem dX7_sell_38 : decode cX7_sell 38 = .ok (.iconst (-1), 1) := by decide +kernel
theorem dX7_sell_39 : decode cX7_sell 39 = .ok (.ireturn, 1) := by decide +kernel
theorem dX7_sell_40 : decode cX7_sell 40 = .ok (.aload_n 0, 1) := by decide +kernel
theorem dX7_sell_41 : decode cX7_sell 41 = .ok (.getfield 62, 3) := by decide +kernel
theorem dX7_sell_44 : decode cX7_sell 44 = .ok (.aload_n 2, 1) := by decide +kernel
theorem dX7_sell_45 : decode cX7_sell 45 = .ok (.getfield 128, 3) := by decide +kernel
theorem dX7_sell_48 : decode cX7_sell 48 = .ok (.aload_n 2, 1) := by decide +kernel
theorem dX7_sell_49 : decode cX7_sell 49 = .ok (.getfield 308, 3) := by decide +kernel
theorem dX7_sell_52 : decode cX7_sell 52 = .ok (.invokestatic 301, 3) := by decide +kernel
theorem dX7_sell_55 : decode cX7_sell 55 = .ok (.aload_n 0, 1) := by decide +kernel
theorem dX7_sell_56 : decode cX7_sell 56 = .ok (.invokevirtual 267, 3) := by decide +kernel
theorem dX7_sell_59 : decode cX7_sell 59 = .ok (.invokevirtual 270, 3) := by decide +kernel
theorem dX7_sell_62 : decode cX7_sell 62 = .ok (.aload_n 2, 1) := by decide +kernel
theorem dX7_sell_63 : decode cX7_sell 63 = .ok (.getfield 311, 3) := by decide +kernel
theorem dX7_sell_66 : decode cX7_sell 66 = .ok (.imul, 1) := by decide +kernel
theorem dX7_sell_67 : decode cX7_sell 67 = .ok (.istore_n 3, 1) := by decide +kernel
theorem dX7_sell_68 : decode cX7_sell 68 = .ok (.aload_n 2, 1) := by decide +kernel
theorem dX7_sell_69 : decode cX7_sell 69 = .ok (.aconst_null, 1) := by decide +kernel
theorem dX7_sell_70 : decode cX7_sell 70 = .ok (.putfield 128, 3) := by decide +kernel
theorem dX7_sell_73 : decode cX7_sell 73 = .ok (.aload_n 2, 1) := by decide +kernel
theorem dX7_sell_74 : decode cX7_sell 74 = .ok (.iload_n 3, 1) := by decide +kernel
theorem dX7_sell_75 : decode cX7_sell 75 = .ok (.putfield 314, 3) := by decide +kernel
theorem dX7_sell_78 : decode cX7_sell 78 = .ok (.aload_n 0, 1) := by decide +kernel
theorem dX7_sell_79 : decode cX7_sell 79 = .ok (.getfield 69, 3) := by decide +kernel
theorem dX7_sell_82 : decode cX7_sell 82 = .ok (.aload_n 2, 1) := by decide +kernel
theorem dX7_sell_83 : decode cX7_sell 83 = .ok (.getfield 264, 3) := by decide +kernel
theorem dX7_sell_86 : decode cX7_sell 86 = .ok (.dup2, 1) := by decide +kernel
theorem dX7_sell_87 : decode cX7_sell 87 = .ok (.iaload, 1) := by decide +kernel
theorem dX7_sell_88 : decode cX7_sell 88 = .ok (.iload_n 3, 1) := by decide +kernel
theorem dX7_sell_89 : decode cX7_sell 89 = .ok (.iadd, 1) := by decide +kernel
theorem dX7_sell_90 : decode cX7_sell 90 = .ok (.iastore, 1) := by decide +kernel
theorem dX7_sell_91 : decode cX7_sell 91 = .ok (.aload_n 0, 1) := by decide +kernel
theorem dX7_sell_92 : decode cX7_sell 92 = .ok (.dup, 1) := by decide +kernel
theorem dX7_sell_93 : decode cX7_sell 93 = .ok (.getfield 85, 3) := by decide +kernel
theorem dX7_sell_96 : decode cX7_sell 96 = .ok (.iconst 1, 1) := by decide +kernel
theorem dX7_sell_97 : decode cX7_sell 97 = .ok (.iadd, 1) := by decide +kernel
theorem dX7_sell_98 : decode cX7_sell 98 = .ok (.putfield 85, 3) := by decide +kernel
theorem dX7_sell_101 : decode cX7_sell 101 = .ok (.iload_n 3, 1) := by decide +kernel
theorem dX7_sell_102 : decode cX7_sell 102 = .ok (.ireturn, 1) := by decide +kernel
theorem dX7_advance_0 : decode cX7_advance 0 = .ok (.iload_n 1, 1) := by decide +kernel
theorem dX7_advance_1 : decode cX7_advance 1 = .ok (.invokestatic 291, 3) := by decide +kernel
theorem dX7_advance_4 : decode cX7_advance 4 = .ok (.ifCond .eq 14, 3) := by decide +kernel
theorem dX7_advance_7 : decode cX7_advance 7 = .ok (.iload_n 2, 1) := by decide +kernel
theorem dX7_advance_8 : decode cX7_advance 8 = .ok (.iconst 1, 1) := by decide +kernel
theorem dX7_advance_9 : decode cX7_advance 9 = .ok (.ldc_w 317, 3) := by decide +kernel
theorem dX7_advance_12 : decode cX7_advance 12 = .ok (.invokestatic 109, 3) := by decide +kernel
theorem dX7_advance_15 : decode cX7_advance 15 = .ok (.ifCond .ne 7, 3) := by decide +kernel
theorem dX7_advance_18 : decode cX7_advance 18 = .ok (.ldc_w 318, 3) := by decide +kernel
theorem dX7_advance_21 : decode cX7_advance 21 = .ok (.ireturn, 1) := by decide +kernel
theorem dX7_advance_22 : decode cX7_advance 22 = .ok (.aload_n 0, 1) := by decide +kernel
theorem dX7_advance_23 : decode cX7_advance 23 = .ok (.getfield 69, 3) := by decide +kernel
theorem dX7_advance_26 : decode cX7_advance 26 = .ok (.iload_n 1, 1) := by decide +kernel
theorem dX7_advance_27 : decode cX7_advance 27 = .ok (.dup2, 1) := by decide +kernel
theorem dX7_advance_28 : decode cX7_advance 28 = .ok (.iaload, 1) := by decide +kernel
theorem dX7_advance_29 : decode cX7_advance 29 = .ok (.iload_n 2, 1) := by decide +kernel
theorem dX7_advance_30 : decode cX7_advance 30 = .ok (.isub, 1) := by decide +kernel
theorem dX7_advance_31 : decode cX7_advance 31 = .ok (.iastore, 1) := by decide +kernel
theorem dX7_advance_32 : decode cX7_advance 32 = .ok (.aload_n 0, 1) := by decide +kernel
theorem dX7_advance_33 : decode cX7_advance 33 = .ok (.getfield 69, 3) := by decide +kernel
theorem dX7_advance_36 : decode cX7_advance 36 = .ok (.iload_n 1, 1) := by decide +kernel
theorem dX7_advance_37 : decode cX7_advance 37 = .ok (.iaload, 1) := by decide +kernel
theorem dX7_advance_38 : decode cX7_advance 38 = .ok (.ireturn, 1) := by decide +kernel
theorem dX7_balance_0 : decode cX7_balance 0 = .ok (.iload_n 1, 1) := by decide +kernel
theorem dX7_balance_1 : decode cX7_balance 1 = .ok (.invokestatic 291, 3) := by decide +kernel
theorem dX7_balance_4 : decode cX7_balance 4 = .ok (.ifCond .eq 12, 3) := by decide +kernel
theorem dX7_balance_7 : decode cX7_balance 7 = .ok (.aload_n 0, 1) := by decide +kernel
theorem dX7_balance_8 : decode cX7_balance 8 = .ok (.getfield 69, 3) := by decide +kernel
theorem dX7_balance_11 : decode cX7_balance 11 = .ok (.iload_n 1, 1) := by decide +kernel
theorem dX7_balance_12 : decode cX7_balance 12 = .ok (.iaload, 1) := by decide +kernel
theorem dX7_balance_13 : decode cX7_balance 13 = .ok (.goto 4, 3) := by decide +kernel
theorem dX7_balance_16 : decode cX7_balance 16 = .ok (.iconst 0, 1) := by decide +kernel
theorem dX7_balance_17 : decode cX7_balance 17 = .ok (.ireturn, 1) := by decide +kernel
theorem dX7_best_0 : decode cX7_best 0 = .ok (.aload_n 0, 1) := by decide +kernel
theorem dX7_best_1 : decode cX7_best 1 = .ok (.iload_n 1, 1) := by decide +kernel
theorem dX7_best_2 : decode cX7_best 2 = .ok (.invokevirtual 319, 3) := by decide +kernel
theorem dX7_best_5 : decode cX7_best 5 = .ok (.aload_n 0, 1) := by decide +kernel
theorem dX7_best_6 : decode cX7_best 6 = .ok (.getfield 75, 3) := by decide +kernel
theorem dX7_best_9 : decode cX7_best 9 = .ok (.iload_n 2, 1) := by decide +kernel
theorem dX7_best_10 : decode cX7_best 10 = .ok (.invokevirtual 322, 3) := by decide +kernel
theorem dX7_best_13 : decode cX7_best 13 = .ok (.ireturn, 1) := by decide +kernel
theorem dX7_passes_0 : decode cX7_passes 0 = .ok (.aload_n 0, 1) := by decide +kernel
theorem dX7_passes_1 : decode cX7_passes 1 = .ok (.iload_n 1, 1) := by decide +kernel
theorem dX7_passes_2 : decode cX7_passes 2 = .ok (.invokevirtual 319, 3) := by decide +kernel
theorem dX7_passes_5 : decode cX7_passes 5 = .ok (.aload_n 0, 1) := by decide +kernel
theorem dX7_passes_6 : decode cX7_passes 6 = .ok (.getfield 75, 3) := by decide +kernel
theorem dX7_passes_9 : decode cX7_passes 9 = .ok (.iload_n 2, 1) := by decide +kernel
theorem dX7_passes_10 : decode cX7_passes 10 = .ok (.invokevirtual 325, 3) := by decide +kernel
theorem dX7_passes_13 : decode cX7_passes 13 = .ok (.ireturn, 1) := by decide +kernel
theorem dX7_makePlan_0 : decode cX7_makePlan 0 = .ok (.aload_n 0, 1) := by decide +kernel
theorem dX7_makePlan_1 : decode cX7_makePlan 1 = .ok (.getfield 75, 3) := by decide +kernel
theorem dX7_makePlan_4 : decode cX7_makePlan 4 = .ok (.invokevirtual 328, 3) := by decide +kernel
theorem dX7_makePlan_7 : decode cX7_makePlan 7 = .ok (.aload_n 0, 1) := by decide +kernel
theorem dX7_makePlan_8 : decode cX7_makePlan 8 = .ok (.iload_n 1, 1) := by decide +kernel
theorem dX7_makePlan_9 : decode cX7_makePlan 9 = .ok (.invokevirtual 94, 3) := by decide +kernel
theorem dX7_makePlan_12 : decode cX7_makePlan 12 = .ok (.astore_n 2, 1) := by decide +kernel
theorem dX7_makePlan_13 : decode cX7_makePlan 13 = .ok (.aload_n 2, 1) := by decide +kernel
theorem dX7_makePlan_14 : decode cX7_makePlan 14 = .ok (.ifnull 10, 3) := by decide +kernel
theorem dX7_makePlan_17 : decode cX7_makePlan 17 = .ok (.aload_n 2, 1) := by decide +kernel
theorem dX7_makePlan_18 : decode cX7_makePlan 18 = .ok (.getfield 179, 3) := by decide +kernel
theorem dX7_makePlan_21 : decode cX7_makePlan 21 = .ok (.ifnonnull 4, 3) := by decide +kernel
theorem dX7_makePlan_24 : decode cX7_makePlan 24 = .ok (.return_, 1) := by decide +kernel
theorem dX7_makePlan_25 : decode cX7_makePlan 25 = .ok (.iconst 0, 1) := by decide +kernel
theorem dX7_makePlan_26 : decode cX7_makePlan 26 = .ok (.istore_n 3, 1) := by decide +kernel
theorem dX7_makePlan_27 : decode cX7_makePlan 27 = .ok (.iload_n 3, 1) := by decide +kernel
theorem dX7_makePlan_28 : decode cX7_makePlan 28 = .ok (.aload_n 0, 1) := by decide +kernel
theorem dX7_makePlan_29 : decode cX7_makePlan 29 = .ok (.getfield 34, 3) := by decide +kernel
theorem dX7_makePlan_32 : decode cX7_makePlan 32 = .ok (.if_icmp .ge 51, 3) := by decide +kernel
theorem dX7_makePlan_35 : decode cX7_makePlan 35 = .ok (.aload_n 0, 1) := by decide +kernel
theorem dX7_makePlan_36 : decode cX7_makePlan 36 = .ok (.getfield 30, 3) := by decide +kernel
theorem dX7_makePlan_39 : decode cX7_makePlan 39 = .ok (.iload_n 3, 1) := by decide +kernel
theorem dX7_makePlan_40 : decode cX7_makePlan 40 = .ok (.aaload, 1) := by decide +kernel
theorem dX7_makePlan_41 : decode cX7_makePlan 41 = .ok (.aload_n 2, 1) := by decide +kernel
theorem dX7_makePlan_42 : decode cX7_makePlan 42 = .ok (.invokevirtual 247, 3) := by decide +kernel
theorem dX7_makePlan_45 : decode cX7_makePlan 45 = .ok (.ifCond .eq 32, 3) := by decide +kernel
theorem dX7_makePlan_48 : decode cX7_makePlan 48 = .ok (.aload_n 0, 1) := by decide +kernel
theorem dX7_makePlan_49 : decode cX7_makePlan 49 = .ok (.getfield 30, 3) := by decide +kernel
theorem dX7_makePlan_52 : decode cX7_makePlan 52 = .ok (.iload_n 3, 1) := by decide +kernel
theorem dX7_makePlan_53 : decode cX7_makePlan 53 = .ok (.aaload, 1) := by decide +kernel
theorem dX7_makePlan_54 : decode cX7_makePlan 54 = .ok (.invokevirtual 236, 3) := by decide +kernel
theorem dX7_makePlan_57 : decode cX7_makePlan 57 = .ok (.aload_n 2, 1) := by decide +kernel
theorem dX7_makePlan_58 : decode cX7_makePlan 58 = .ok (.getfield 331, 3) := by decide +kernel
theorem dX7_makePlan_61 : decode cX7_makePlan 61 = .ok (.if_icmp .gt 16, 3) := by decide +kernel
theorem dX7_makePlan_64 : decode cX7_makePlan 64 = .ok (.aload_n 0, 1) := by decide +kernel
theorem dX7_makePlan_65 : decode cX7_makePlan 65 = .ok (.getfield 75, 3) := by decide +kernel
theorem dX7_makePlan_68 : decode cX7_makePlan 68 = .ok (.aload_n 0, 1) := by decide +kernel
theorem dX7_makePlan_69 : decode cX7_makePlan 69 = .ok (.getfield 30, 3) := by decide +kernel
theorem dX7_makePlan_72 : decode cX7_makePlan 72 = .ok (.iload_n 3, 1) := by decide +kernel
theorem dX7_makePlan_73 : decode cX7_makePlan 73 = .ok (.aaload, 1) := by decide +kernel
theorem dX7_makePlan_74 : decode cX7_makePlan 74 = .ok (.invokevirtual 334, 3) := by decide +kernel
theorem dX7_makePlan_77 : decode cX7_makePlan 77 = .ok (.iinc 3 1, 3) := by decide +kernel
theorem dX7_makePlan_80 : decode cX7_makePlan 80 = .ok (.goto (-53), 3) := by decide +kernel
theorem dX7_makePlan_83 : decode cX7_makePlan 83 = .ok (.aload_n 0, 1) := by decide +kernel
theorem dX7_makePlan_84 : decode cX7_makePlan 84 = .ok (.getfield 75, 3) := by decide +kernel
theorem dX7_makePlan_87 : decode cX7_makePlan 87 = .ok (.aload_n 2, 1) := by decide +kernel
theorem dX7_makePlan_88 : decode cX7_makePlan 88 = .ok (.aload_n 0, 1) := by decide +kernel
theorem dX7_makePlan_89 : decode cX7_makePlan 89 = .ok (.getfield 79, 3) := by decide +kernel
theorem dX7_makePlan_92 : decode cX7_makePlan 92 = .ok (.invokevirtual 337, 3) := by decide +kernel
theorem dX7_makePlan_95 : decode cX7_makePlan 95 = .ok (.return_, 1) := by decide +kernel
theorem dX7_told_0 : decode cX7_told 0 = .ok (.aload_n 0, 1) := by decide +kernel
theorem dX7_told_1 : decode cX7_told 1 = .ok (.iload_n 1, 1) := by decide +kernel
theorem dX7_told_2 : decode cX7_told 2 = .ok (.invokevirtual 124, 3) := by decide +kernel
theorem dX7_told_5 : decode cX7_told 5 = .ok (.astore_n 3, 1) := by decide +kernel
theorem dX7_told_6 : decode cX7_told 6 = .ok (.aload_n 3, 1) := by decide +kernel
theorem dX7_told_7 : decode cX7_told 7 = .ok (.ifnonnull 5, 3) := by decide +kernel
theorem dX7_told_10 : decode cX7_told 10 = .ok (.iconst (-1), 1) := by decide +kernel
theorem dX7_told_11 : decode cX7_told 11 = .ok (.ireturn, 1) := by decide +kernel
theorem dX7_told_12 : decode cX7_told 12 = .ok (.iload_n 2, 1) := by decide +kernel
theorem dX7_told_13 : decode cX7_told 13 = .ok (.tableswitch 104 0 7 #[47, 52, 57, 62, 67, 72, 80, 99], 47) := by decide +kernel
theorem dX7_told_60 : decode cX7_told 60 = .ok (.aload_n 3, 1) := by decide +kernel
theorem dX7_told_61 : decode cX7_told 61 = .ok (.getfield 121, 3) := by decide +kernel
theorem dX7_told_64 : decode cX7_told 64 = .ok (.ireturn, 1) := by decide +kernel
theorem dX7_told_65 : decode cX7_told 65 = .ok (.aload_n 3, 1) := by decide +kernel
theorem dX7_told_66 : decode cX7_told 66 = .ok (.getfield 264, 3) := by decide +kernel
theorem dX7_told_69 : decode cX7_told 69 = .ok (.ireturn, 1) := by decide +kernel
theorem dX7_told_70 : decode cX7_told 70 = .ok (.aload_n 3, 1) := by decide +kernel
theorem dX7_told_71 : decode cX7_told 71 = .ok (.getfield 308, 3) := by decide +kernel
theorem dX7_told_74 : decode cX7_told 74 = .ok (.ireturn, 1) := by decide +kernel
theorem dX7_told_75 : decode cX7_told 75 = .ok (.aload_n 3, 1) := by decide +kernel
theorem dX7_told_76 : decode cX7_told 76 = .ok (.getfield 311, 3) := by decide +kernel
theorem dX7_told_79 : decode cX7_told 79 = .ok (.ireturn, 1) := by decide +kernel
theorem dX7_told_80 : decode cX7_told 80 = .ok (.aload_n 3, 1) := by decide +kernel
theorem dX7_told_81 : decode cX7_told 81 = .ok (.invokevirtual 340, 3) := by decide +kernel
theorem dX7_told_84 : decode cX7_told 84 = .ok (.ireturn, 1) := by decide +kernel
theorem dX7_told_85 : decode cX7_told 85 = .ok (.aload_n 3, 1) := by decide +kernel
theorem dX7_told_86 : decode cX7_told 86 = .ok (.getfield 128, 3) := by decide +kernel
theorem dX7_told_89 : decode cX7_told 89 = .ok (.invokestatic 341, 3) := by decide +kernel
theorem dX7_told_92 : decode cX7_told 92 = .ok (.ireturn, 1) := by decide +kernel
theorem dX7_told_93 : decode cX7_told 93 = .ok (.aload_n 3, 1) := by decide +kernel
theorem dX7_told_94 : decode cX7_told 94 = .ok (.getfield 344, 3) := by decide +kernel
theorem dX7_told_97 : decode cX7_told 97 = .ok (.ifnonnull 7, 3) := by decide +kernel
theorem dX7_told_100 : decode cX7_told 100 = .ok (.iconst (-1), 1) := by decide +kernel
theorem dX7_told_101 : decode cX7_told 101 = .ok (.goto 10, 3) := by decide +kernel
theorem dX7_told_104 : decode cX7_told 104 = .ok (.aload_n 3, 1) := by decide +kernel
theorem dX7_told_105 : decode cX7_told 105 = .ok (.getfield 344, 3) := by decide +kernel
theorem dX7_told_108 : decode cX7_told 108 = .ok (.getfield 154, 3) := by decide +kernel
theorem dX7_told_111 : decode cX7_told 111 = .ok (.ireturn, 1) := by decide +kernel
theorem dX7_told_112 : decode cX7_told 112 = .ok (.aload_n 3, 1) := by decide +kernel
theorem dX7_told_113 : decode cX7_told 113 = .ok (.getfield 314, 3) := by decide +kernel
theorem dX7_told_116 : decode cX7_told 116 = .ok (.ireturn, 1) := by decide +kernel
theorem dX7_told_117 : decode cX7_told 117 = .ok (.iconst (-1), 1) := by decide +kernel
theorem dX7_told_118 : decode cX7_told 118 = .ok (.ireturn, 1) := by decide +kernel
theorem dX7_raft_0 : decode cX7_raft 0 = .ok (.aload_n 0, 1) := by decide +kernel
theorem dX7_raft_1 : decode cX7_raft 1 = .ok (.iload_n 1, 1) := by decide +kernel
theorem dX7_raft_2 : decode cX7_raft 2 = .ok (.invokevirtual 190, 3) := by decide +kernel
theorem dX7_raft_5 : decode cX7_raft 5 = .ok (.astore_n 3, 1) := by decide +kernel
theorem dX7_raft_6 : decode cX7_raft 6 = .ok (.aload_n 3, 1) := by decide +kernel
theorem dX7_raft_7 : decode cX7_raft 7 = .ok (.ifnonnull 5, 3) := by decide +kernel
theorem dX7_raft_10 : decode cX7_raft 10 = .ok (.iconst (-1), 1) := by decide +kernel
theorem dX7_raft_11 : decode cX7_raft 11 = .ok (.ireturn, 1) := by decide +kernel
theorem dX7_raft_12 : decode cX7_raft 12 = .ok (.iload_n 2, 1) := by decide +kernel
theorem dX7_raft_13 : decode cX7_raft 13 = .ok (.tableswitch 95 0 6 #[43, 48, 56, 61, 66, 71, 90], 43) := by decide +kernel
theorem dX7_raft_56 : decode cX7_raft 56 = .ok (.aload_n 3, 1) := by decide +kernel
theorem dX7_raft_57 : decode cX7_raft 57 = .ok (.invokevirtual 193, 3) := by decide +kernel
theorem dX7_raft_60 : decode cX7_raft 60 = .ok (.ireturn, 1) := by decide +kernel
theorem dX7_raft_61 : decode cX7_raft 61 = .ok (.aload_n 3, 1) := by decide +kernel
theorem dX7_raft_62 : decode cX7_raft 62 = .ok (.getfield 159, 3) := by decide +kernel
theorem dX7_raft_65 : decode cX7_raft 65 = .ok (.invokestatic 341, 3) := by decide +kernel
theorem dX7_raft_68 : decode cX7_raft 68 = .ok (.ireturn, 1) := by decide +kernel
theorem dX7_raft_69 : decode cX7_raft 69 = .ok (.aload_n 3, 1) := by decide +kernel
theorem dX7_raft_70 : decode cX7_raft 70 = .ok (.getfield 160, 3) := by decide +kernel
theorem dX7_raft_73 : decode cX7_raft 73 = .ok (.ireturn, 1) := by decide +kernel
theorem dX7_raft_74 : decode cX7_raft 74 = .ok (.aload_n 3, 1) := by decide +kernel
theorem dX7_raft_75 : decode cX7_raft 75 = .ok (.invokevirtual 259, 3) := by decide +kernel
theorem dX7_raft_78 : decode cX7_raft 78 = .ok (.ireturn, 1) := by decide +kernel
theorem dX7_raft_79 : decode cX7_raft 79 = .ok (.aload_n 3, 1) := by decide +kernel
theorem dX7_raft_80 : decode cX7_raft 80 = .ok (.invokevirtual 345, 3) := by decide +kernel
theorem dX7_raft_83 : decode cX7_raft 83 = .ok (.ireturn, 1) := by decide +kernel
theorem dX7_raft_84 : decode cX7_raft 84 = .ok (.aload_n 3, 1) := by decide +kernel
theorem dX7_raft_85 : decode cX7_raft 85 = .ok (.getfield 348, 3) := by decide +kernel
theorem dX7_raft_88 : decode cX7_raft 88 = .ok (.ifnonnull 7, 3) := by decide +kernel
theorem dX7_raft_91 : decode cX7_raft 91 = .ok (.iconst (-1), 1) := by decide +kernel
theorem dX7_raft_92 : decode cX7_raft 92 = .ok (.goto 10, 3) := by decide +kernel
theorem dX7_raft_95 : decode cX7_raft 95 = .ok (.aload_n 3, 1) := by decide +kernel
theorem dX7_raft_96 : decode cX7_raft 96 = .ok (.getfield 348, 3) := by decide +kernel
theorem dX7_raft_99 : decode cX7_raft 99 = .ok (.getfield 174, 3) := by decide +kernel
theorem dX7_raft_102 : decode cX7_raft 102 = .ok (.ireturn, 1) := by decide +kernel
theorem dX7_raft_103 : decode cX7_raft 103 = .ok (.aload_n 3, 1) := by decide +kernel
theorem dX7_raft_104 : decode cX7_raft 104 = .ok (.getfield 352, 3) := by decide +kernel
theorem dX7_raft_107 : decode cX7_raft 107 = .ok (.ireturn, 1) := by decide +kernel
theorem dX7_raft_108 : decode cX7_raft 108 = .ok (.iconst (-1), 1) := by decide +kernel
theorem dX7_raft_109 : decode cX7_raft 109 = .ok (.ireturn, 1) := by decide +kernel
theorem dX7_crewed_0 : decode cX7_crewed 0 = .ok (.aload_n 0, 1) := by decide +kernel
theorem dX7_crewed_1 : decode cX7_crewed 1 = .ok (.iload_n 1, 1) := by decide +kernel
theorem dX7_crewed_2 : decode cX7_crewed 2 = .ok (.invokevirtual 175, 3) := by decide +kernel
theorem dX7_crewed_5 : decode cX7_crewed 5 = .ok (.astore_n 3, 1) := by decide +kernel
theorem dX7_crewed_6 : decode cX7_crewed 6 = .ok (.aload_n 3, 1) := by decide +kernel
theorem dX7_crewed_7 : decode cX7_crewed 7 = .ok (.ifnonnull 5, 3) := by decide +kernel
theorem dX7_crewed_10 : decode cX7_crewed 10 = .ok (.iconst (-1), 1) := by decide +kernel
theorem dX7_crewed_11 : decode cX7_crewed 11 = .ok (.ireturn, 1) := by decide +kernel
theorem dX7_crewed_12 : decode cX7_crewed 12 = .ok (.iload_n 2, 1) := by decide +kernel
theorem dX7_crewed_13 : decode cX7_crewed 13 = .ok (.tableswitch 66 0 3 #[31, 36, 44, 49], 31) := by decide +kernel
theorem dX7_crewed_44 : decode cX7_crewed 44 = .ok (.aload_n 3, 1) := by decide +kernel
theorem dX7_crewed_45 : decode cX7_crewed 45 = .ok (.invokevirtual 355, 3) := by decide +kernel
theorem dX7_crewed_48 : decode cX7_crewed 48 = .ok (.ireturn, 1) := by decide +kernel
theorem dX7_crewed_49 : decode cX7_crewed 49 = .ok (.aload_n 3, 1) := by decide +kernel
theorem dX7_crewed_50 : decode cX7_crewed 50 = .ok (.getfield 182, 3) := by decide +kernel
theorem dX7_crewed_53 : decode cX7_crewed 53 = .ok (.invokestatic 341, 3) := by decide +kernel
theorem dX7_crewed_56 : decode cX7_crewed 56 = .ok (.ireturn, 1) := by decide +kernel
theorem dX7_crewed_57 : decode cX7_crewed 57 = .ok (.aload_n 3, 1) := by decide +kernel
theorem dX7_crewed_58 : decode cX7_crewed 58 = .ok (.getfield 208, 3) := by decide +kernel
theorem dX7_crewed_61 : decode cX7_crewed 61 = .ok (.ireturn, 1) := by decide +kernel
theorem dX7_crewed_62 : decode cX7_crewed 62 = .ok (.aload_n 3, 1) := by decide +kernel
theorem dX7_crewed_63 : decode cX7_crewed 63 = .ok (.aload_n 0, 1) := by decide +kernel
theorem dX7_crewed_64 : decode cX7_crewed 64 = .ok (.getfield 79, 3) := by decide +kernel
theorem dX7_crewed_67 : decode cX7_crewed 67 = .ok (.invokevirtual 183, 3) := by decide +kernel
theorem dX7_crewed_70 : decode cX7_crewed 70 = .ok (.ifCond .eq 7, 3) := by decide +kernel
theorem dX7_crewed_73 : decode cX7_crewed 73 = .ok (.iconst 1, 1) := by decide +kernel
theorem dX7_crewed_74 : decode cX7_crewed 74 = .ok (.goto 4, 3) := by decide +kernel
theorem dX7_crewed_77 : decode cX7_crewed 77 = .ok (.iconst 0, 1) := by decide +kernel
theorem dX7_crewed_78 : decode cX7_crewed 78 = .ok (.ireturn, 1) := by decide +kernel
theorem dX7_crewed_79 : decode cX7_crewed 79 = .ok (.iconst (-1), 1) := by decide +kernel
theorem dX7_crewed_80 : decode cX7_crewed 80 = .ok (.ireturn, 1) := by decide +kernel
theorem dX7_count_0 : decode cX7_count 0 = .ok (.iload_n 1, 1) := by decide +kernel
theorem dX7_count_1 : decode cX7_count 1 = .ok (.tableswitch 87 0 7 #[47, 52, 57, 62, 67, 72, 77, 82], 47) := by decide +kernel
theorem dX7_count_48 : decode cX7_count 48 = .ok (.aload_n 0, 1) := by decide +kernel
theorem dX7_count_49 : decode cX7_count 49 = .ok (.getfield 79, 3) := by decide +kernel
theorem dX7_count_52 : decode cX7_count 52 = .ok (.ireturn, 1) := by decide +kernel
theorem dX7_count_53 : decode cX7_count 53 = .ok (.aload_n 0, 1) := by decide +kernel
theorem dX7_count_54 : decode cX7_count 54 = .ok (.getfield 15, 3) := by decide +kernel
theorem dX7_count_57 : decode cX7_count 57 = .ok (.ireturn, 1) := by decide +kernel
theorem dX7_count_58 : decode cX7_count 58 = .ok (.aload_n 0, 1) := by decide +kernel
theorem dX7_count_59 : decode cX7_count 59 = .ok (.getfield 25, 3) := by decide +kernel
theorem dX7_count_62 : decode cX7_count 62 = .ok (.ireturn, 1) := by decide +kernel
theorem dX7_count_63 : decode cX7_count 63 = .ok (.aload_n 0, 1) := by decide +kernel
theorem dX7_count_64 : decode cX7_count 64 = .ok (.getfield 34, 3) := by decide +kernel
theorem dX7_count_67 : decode cX7_count 67 = .ok (.ireturn, 1) := by decide +kernel
theorem dX7_count_68 : decode cX7_count 68 = .ok (.aload_n 0, 1) := by decide +kernel
theorem dX7_count_69 : decode cX7_count 69 = .ok (.getfield 43, 3) := by decide +kernel
theorem dX7_count_72 : decode cX7_count 72 = .ok (.ireturn, 1) := by decide +kernel
theorem dX7_count_73 : decode cX7_count 73 = .ok (.aload_n 0, 1) := by decide +kernel
theorem dX7_count_74 : decode cX7_count 74 = .ok (.getfield 82, 3) := by decide +kernel
theorem dX7_count_77 : decode cX7_count 77 = .ok (.ireturn, 1) := by decide +kernel
theorem dX7_count_78 : decode cX7_count 78 = .ok (.aload_n 0, 1) := by decide +kernel
theorem dX7_count_79 : decode cX7_count 79 = .ok (.getfield 85, 3) := by decide +kernel
theorem dX7_count_82 : decode cX7_count 82 = .ok (.ireturn, 1) := by decide +kernel
theorem dX7_count_83 : decode cX7_count 83 = .ok (.aload_n 0, 1) := by decide +kernel
theorem dX7_count_84 : decode cX7_count 84 = .ok (.getfield 88, 3) := by decide +kernel
theorem dX7_count_87 : decode cX7_count 87 = .ok (.ireturn, 1) := by decide +kernel
theorem dX7_count_88 : decode cX7_count 88 = .ok (.iload_n 1, 1) := by decide +kernel
theorem dX7_count_89 : decode cX7_count 89 = .ok (.bipush 100, 2) := by decide +kernel
theorem dX7_count_91 : decode cX7_count 91 = .ok (.if_icmp .ge 7, 3) := by decide +kernel
theorem dX7_count_94 : decode cX7_count 94 = .ok (.iconst (-1), 1) := by decide +kernel
theorem dX7_count_95 : decode cX7_count 95 = .ok (.goto 11, 3) := by decide +kernel
theorem dX7_count_98 : decode cX7_count 98 = .ok (.aload_n 0, 1) := by decide +kernel
theorem dX7_count_99 : decode cX7_count 99 = .ok (.iload_n 1, 1) := by decide +kernel
theorem dX7_count_100 : decode cX7_count 100 = .ok (.bipush 100, 2) := by decide +kernel
theorem dX7_count_102 : decode cX7_count 102 = .ok (.isub, 1) := by decide +kernel
theorem dX7_count_103 : decode cX7_count 103 = .ok (.invokevirtual 356, 3) := by decide +kernel
theorem dX7_count_106 : decode cX7_count 106 = .ok (.ireturn, 1) := by decide +kernel
theorem dX7_within_0 : decode cX7_within 0 = .ok (.iload_n 0, 1) := by decide +kernel
theorem dX7_within_1 : decode cX7_within 1 = .ok (.iload_n 1, 1) := by decide +kernel
theorem dX7_within_2 : decode cX7_within 2 = .ok (.if_icmp .lt 12, 3) := by decide +kernel
theorem dX7_within_5 : decode cX7_within 5 = .ok (.iload_n 0, 1) := by decide +kernel
theorem dX7_within_6 : decode cX7_within 6 = .ok (.iload_n 2, 1) := by decide +kernel
theorem dX7_within_7 : decode cX7_within 7 = .ok (.if_icmp .gt 7, 3) := by decide +kernel
theorem dX7_within_10 : decode cX7_within 10 = .ok (.iconst 1, 1) := by decide +kernel
theorem dX7_within_11 : decode cX7_within 11 = .ok (.goto 4, 3) := by decide +kernel
theorem dX7_within_14 : decode cX7_within 14 = .ok (.iconst 0, 1) := by decide +kernel
theorem dX7_within_15 : decode cX7_within 15 = .ok (.ireturn, 1) := by decide +kernel
theorem dX7_isOwner_0 : decode cX7_isOwner 0 = .ok (.iload_n 0, 1) := by decide +kernel
theorem dX7_isOwner_1 : decode cX7_isOwner 1 = .ok (.iconst 0, 1) := by decide +kernel
theorem dX7_isOwner_2 : decode cX7_isOwner 2 = .ok (.bipush 7, 2) := by decide +kernel
theorem dX7_isOwner_4 : decode cX7_isOwner 4 = .ok (.invokestatic 109, 3) := by decide +kernel
theorem dX7_isOwner_7 : decode cX7_isOwner 7 = .ok (.ireturn, 1) := by decide +kernel
theorem dX7_numberOf_0 : decode cX7_numberOf 0 = .ok (.aload_n 0, 1) := by decide +kernel
theorem dX7_numberOf_1 : decode cX7_numberOf 1 = .ok (.ifnonnull 7, 3) := by decide +kernel
theorem dX7_numberOf_4 : decode cX7_numberOf 4 = .ok (.iconst (-1), 1) := by decide +kernel
theorem dX7_numberOf_5 : decode cX7_numberOf 5 = .ok (.goto 7, 3) := by decide +kernel
theorem dX7_numberOf_8 : decode cX7_numberOf 8 = .ok (.aload_n 0, 1) := by decide +kernel
theorem dX7_numberOf_9 : decode cX7_numberOf 9 = .ok (.getfield 102, 3) := by decide +kernel
theorem dX7_numberOf_12 : decode cX7_numberOf 12 = .ok (.ireturn, 1) := by decide +kernel
theorem dX7_marketOf_0 : decode cX7_marketOf 0 = .ok (.aload_n 0, 1) := by decide +kernel
theorem dX7_marketOf_1 : decode cX7_marketOf 1 = .ok (.getfield 102, 3) := by decide +kernel
theorem dX7_marketOf_4 : decode cX7_marketOf 4 = .ok (.iconst 4, 1) := by decide +kernel
theorem dX7_marketOf_5 : decode cX7_marketOf 5 = .ok (.imul, 1) := by decide +kernel
theorem dX7_marketOf_6 : decode cX7_marketOf 6 = .ok (.iload_n 1, 1) := by decide +kernel
theorem dX7_marketOf_7 : decode cX7_marketOf 7 = .ok (.iadd, 1) := by decide +kernel
theorem dX7_marketOf_8 : decode cX7_marketOf 8 = .ok (.ireturn, 1) := by decide +kernel
theorem dX7_today_0 : decode cX7_today 0 = .ok (.aload_n 0, 1) := by decide +kernel
theorem dX7_today_1 : decode cX7_today 1 = .ok (.getfield 79, 3) := by decide +kernel
theorem dX7_today_4 : decode cX7_today 4 = .ok (.bipush 24, 2) := by decide +kernel
theorem dX7_today_6 : decode cX7_today 6 = .ok (.idiv, 1) := by decide +kernel
theorem dX7_today_7 : decode cX7_today 7 = .ok (.ireturn, 1) := by decide +kernel
theorem dX7_pondOf_0 : decode cX7_pondOf 0 = .ok (.aload_n 0, 1) := by decide +kernel
theorem dX7_pondOf_1 : decode cX7_pondOf 1 = .ok (.iload_n 1, 1) := by decide +kernel
theorem dX7_pondOf_2 : decode cX7_pondOf 2 = .ok (.invokevirtual 94, 3) := by decide +kernel
theorem dX7_pondOf_5 : decode cX7_pondOf 5 = .ok (.astore_n 2, 1) := by decide +kernel
theorem dX7_pondOf_6 : decode cX7_pondOf 6 = .ok (.aload_n 2, 1) := by decide +kernel
theorem dX7_pondOf_7 : decode cX7_pondOf 7 = .ok (.ifnonnull 7, 3) := by decide +kernel
theorem dX7_pondOf_10 : decode cX7_pondOf 10 = .ok (.iconst (-1), 1) := by decide +kernel
theorem dX7_pondOf_11 : decode cX7_pondOf 11 = .ok (.goto 7, 3) := by decide +kernel
theorem dX7_pondOf_14 : decode cX7_pondOf 14 = .ok (.aload_n 2, 1) := by decide +kernel
theorem dX7_pondOf_15 : decode cX7_pondOf 15 = .ok (.getfield 233, 3) := by decide +kernel
theorem dX7_pondOf_18 : decode cX7_pondOf 18 = .ok (.ireturn, 1) := by decide +kernel
theorem dX7_stationAt_0 : decode cX7_stationAt 0 = .ok (.iload_n 1, 1) := by decide +kernel
theorem dX7_stationAt_1 : decode cX7_stationAt 1 = .ok (.iconst 0, 1) := by decide +kernel
theorem dX7_stationAt_2 : decode cX7_stationAt 2 = .ok (.aload_n 0, 1) := by decide +kernel
theorem dX7_stationAt_3 : decode cX7_stationAt 3 = .ok (.getfield 15, 3) := by decide +kernel
theorem dX7_stationAt_6 : decode cX7_stationAt 6 = .ok (.iconst 1, 1) := by decide +kernel
theorem dX7_stationAt_7 : decode cX7_stationAt 7 = .ok (.isub, 1) := by decide +kernel
theorem dX7_stationAt_8 : decode cX7_stationAt 8 = .ok (.invokestatic 109, 3) := by decide +kernel
theorem dX7_stationAt_11 : decode cX7_stationAt 11 = .ok (.ifCond .eq 12, 3) := by decide +kernel
theorem dX7_stationAt_14 : decode cX7_stationAt 14 = .ok (.aload_n 0, 1) := by decide +kernel
theorem dX7_stationAt_15 : decode cX7_stationAt 15 = .ok (.getfield 11, 3) := by decide +kernel
theorem dX7_stationAt_18 : decode cX7_stationAt 18 = .ok (.iload_n 1, 1) := by decide +kernel
theorem dX7_stationAt_19 : decode cX7_stationAt 19 = .ok (.aaload, 1) := by decide +kernel
theorem dX7_stationAt_20 : decode cX7_stationAt 20 = .ok (.goto 4, 3) := by decide +kernel
theorem dX7_stationAt_23 : decode cX7_stationAt 23 = .ok (.aconst_null, 1) := by decide +kernel
theorem dX7_stationAt_24 : decode cX7_stationAt 24 = .ok (.areturn, 1) := by decide +kernel
theorem dX7_trunkAt_0 : decode cX7_trunkAt 0 = .ok (.iload_n 1, 1) := by decide +kernel
theorem dX7_trunkAt_1 : decode cX7_trunkAt 1 = .ok (.iconst 0, 1) := by decide +kernel
theorem dX7_trunkAt_2 : decode cX7_trunkAt 2 = .ok (.aload_n 0, 1) := by decide +kernel
theorem dX7_trunkAt_3 : decode cX7_trunkAt 3 = .ok (.getfield 25, 3) := by decide +kernel
theorem dX7_trunkAt_6 : decode cX7_trunkAt 6 = .ok (.iconst 1, 1) := by decide +kernel
theorem dX7_trunkAt_7 : decode cX7_trunkAt 7 = .ok (.isub, 1) := by decide +kernel
theorem dX7_trunkAt_8 : decode cX7_trunkAt 8 = .ok (.invokestatic 109, 3) := by decide +kernel
theorem dX7_trunkAt_11 : decode cX7_trunkAt 11 = .ok (.ifCond .eq 12, 3) := by decide +kernel
theorem dX7_trunkAt_14 : decode cX7_trunkAt 14 = .ok (.aload_n 0, 1) := by decide +kernel
theorem dX7_trunkAt_15 : decode cX7_trunkAt 15 = .ok (.getfield 21, 3) := by decide +kernel
theorem dX7_trunkAt_18 : decode cX7_trunkAt 18 = .ok (.iload_n 1, 1) := by decide +kernel
theorem dX7_trunkAt_19 : decode cX7_trunkAt 19 = .ok (.aaload, 1) := by decide +kernel
theorem dX7_trunkAt_20 : decode cX7_trunkAt 20 = .ok (.goto 4, 3) := by decide +kernel
theorem dX7_trunkAt_23 : decode cX7_trunkAt 23 = .ok (.aconst_null, 1) := by decide +kernel
theorem dX7_trunkAt_24 : decode cX7_trunkAt 24 = .ok (.areturn, 1) := by decide +kernel
theorem dX7_raftAt_0 : decode cX7_raftAt 0 = .ok (.iload_n 1, 1) := by decide +kernel
theorem dX7_raftAt_1 : decode cX7_raftAt 1 = .ok (.iconst 0, 1) := by decide +kernel
theorem dX7_raftAt_2 : decode cX7_raftAt 2 = .ok (.aload_n 0, 1) := by decide +kernel
theorem dX7_raftAt_3 : decode cX7_raftAt 3 = .ok (.getfield 34, 3) := by decide +kernel
theorem dX7_raftAt_6 : decode cX7_raftAt 6 = .ok (.iconst 1, 1) := by decide +kernel
theorem dX7_raftAt_7 : decode cX7_raftAt 7 = .ok (.isub, 1) := by decide +kernel
theorem dX7_raftAt_8 : decode cX7_raftAt 8 = .ok (.invokestatic 109, 3) := by decide +kernel
theorem dX7_raftAt_11 : decode cX7_raftAt 11 = .ok (.ifCond .eq 12, 3) := by decide +kernel
theorem dX7_raftAt_14 : decode cX7_raftAt 14 = .ok (.aload_n 0, 1) := by decide +kernel
theorem dX7_raftAt_15 : decode cX7_raftAt 15 = .ok (.getfield 30, 3) := by decide +kernel
theorem dX7_raftAt_18 : decode cX7_raftAt 18 = .ok (.iload_n 1, 1) := by decide +kernel
theorem dX7_raftAt_19 : decode cX7_raftAt 19 = .ok (.aaload, 1) := by decide +kernel
theorem dX7_raftAt_20 : decode cX7_raftAt 20 = .ok (.goto 4, 3) := by decide +kernel
theorem dX7_raftAt_23 : decode cX7_raftAt 23 = .ok (.aconst_null, 1) := by decide +kernel
theorem dX7_raftAt_24 : decode cX7_raftAt 24 = .ok (.areturn, 1) := by decide +kernel
theorem dX7_tiedAt_0 : decode cX7_tiedAt 0 = .ok (.aload_n 0, 1) := by decide +kernel
theorem dX7_tiedAt_1 : decode cX7_tiedAt 1 = .ok (.iload_n 1, 1) := by decide +kernel
theorem dX7_tiedAt_2 : decode cX7_tiedAt 2 = .ok (.invokevirtual 190, 3) := by decide +kernel
theorem dX7_tiedAt_5 : decode cX7_tiedAt 5 = .ok (.astore_n 2, 1) := by decide +kernel
theorem dX7_tiedAt_6 : decode cX7_tiedAt 6 = .ok (.aload_n 2, 1) := by decide +kernel
theorem dX7_tiedAt_7 : decode cX7_tiedAt 7 = .ok (.ifnull 14, 3) := by decide +kernel
theorem dX7_tiedAt_10 : decode cX7_tiedAt 10 = .ok (.aload_n 2, 1) := by decide +kernel
theorem dX7_tiedAt_11 : decode cX7_tiedAt 11 = .ok (.invokevirtual 193, 3) := by decide +kernel
theorem dX7_tiedAt_14 : decode cX7_tiedAt 14 = .ok (.ifCond .ne 7, 3) := by decide +kernel
theorem dX7_tiedAt_17 : decode cX7_tiedAt 17 = .ok (.aload_n 2, 1) := by decide +kernel
theorem dX7_tiedAt_18 : decode cX7_tiedAt 18 = .ok (.goto 4, 3) := by decide +kernel
theorem dX7_tiedAt_21 : decode cX7_tiedAt 21 = .ok (.aconst_null, 1) := by decide +kernel
theorem dX7_tiedAt_22 : decode cX7_tiedAt 22 = .ok (.areturn, 1) := by decide +kernel
theorem dX7_crewAt_0 : decode cX7_crewAt 0 = .ok (.iload_n 1, 1) := by decide +kernel
theorem dX7_crewAt_1 : decode cX7_crewAt 1 = .ok (.iconst 0, 1) := by decide +kernel
theorem dX7_crewAt_2 : decode cX7_crewAt 2 = .ok (.aload_n 0, 1) := by decide +kernel
theorem dX7_crewAt_3 : decode cX7_crewAt 3 = .ok (.getfield 43, 3) := by decide +kernel
theorem dX7_crewAt_6 : decode cX7_crewAt 6 = .ok (.iconst 1, 1) := by decide +kernel
theorem dX7_crewAt_7 : decode cX7_crewAt 7 = .ok (.isub, 1) := by decide +kernel
theorem dX7_crewAt_8 : decode cX7_crewAt 8 = .ok (.invokestatic 109, 3) := by decide +kernel
theorem dX7_crewAt_11 : decode cX7_crewAt 11 = .ok (.ifCond .eq 12, 3) := by decide +kernel
theorem dX7_crewAt_14 : decode cX7_crewAt 14 = .ok (.aload_n 0, 1) := by decide +kernel
theorem dX7_crewAt_15 : decode cX7_crewAt 15 = .ok (.getfield 39, 3) := by decide +kernel
theorem dX7_crewAt_18 : decode cX7_crewAt 18 = .ok (.iload_n 1, 1) := by decide +kernel
theorem dX7_crewAt_19 : decode cX7_crewAt 19 = .ok (.aaload, 1) := by decide +kernel
theorem dX7_crewAt_20 : decode cX7_crewAt 20 = .ok (.goto 4, 3) := by decide +kernel
theorem dX7_crewAt_23 : decode cX7_crewAt 23 = .ok (.aconst_null, 1) := by decide +kernel
theorem dX7_crewAt_24 : decode cX7_crewAt 24 = .ok (.areturn, 1) := by decide +kernel
theorem dX7_newRaft_0 : decode cX7_newRaft 0 = .ok (.new 28, 3) := by decide +kernel
theorem dX7_newRaft_3 : decode cX7_newRaft 3 = .ok (.dup, 1) := by decide +kernel
theorem dX7_newRaft_4 : decode cX7_newRaft 4 = .ok (.aload_n 0, 1) := by decide +kernel
theorem dX7_newRaft_5 : decode cX7_newRaft 5 = .ok (.getfield 34, 3) := by decide +kernel
theorem dX7_newRaft_8 : decode cX7_newRaft 8 = .ok (.aload_n 1, 1) := by decide +kernel
theorem dX7_newRaft_9 : decode cX7_newRaft 9 = .ok (.invokespecial 359, 3) := by decide +kernel
theorem dX7_newRaft_12 : decode cX7_newRaft 12 = .ok (.astore_n 2, 1) := by decide +kernel
theorem dX7_newRaft_13 : decode cX7_newRaft 13 = .ok (.aload_n 0, 1) := by decide +kernel
theorem dX7_newRaft_14 : decode cX7_newRaft 14 = .ok (.getfield 30, 3) := by decide +kernel
theorem dX7_newRaft_17 : decode cX7_newRaft 17 = .ok (.aload_n 0, 1) := by decide +kernel
theorem dX7_newRaft_18 : decode cX7_newRaft 18 = .ok (.getfield 34, 3) := by decide +kernel
theorem dX7_newRaft_21 : decode cX7_newRaft 21 = .ok (.aload_n 2, 1) := by decide +kernel
theorem dX7_newRaft_22 : decode cX7_newRaft 22 = .ok (.aastore, 1) := by decide +kernel
theorem dX7_newRaft_23 : decode cX7_newRaft 23 = .ok (.aload_n 0, 1) := by decide +kernel
theorem dX7_newRaft_24 : decode cX7_newRaft 24 = .ok (.dup, 1) := by decide +kernel
theorem dX7_newRaft_25 : decode cX7_newRaft 25 = .ok (.getfield 34, 3) := by decide +kernel
theorem dX7_newRaft_28 : decode cX7_newRaft 28 = .ok (.iconst 1, 1) := by decide +kernel
theorem dX7_newRaft_29 : decode cX7_newRaft 29 = .ok (.iadd, 1) := by decide +kernel
theorem dX7_newRaft_30 : decode cX7_newRaft 30 = .ok (.putfield 34, 3) := by decide +kernel
theorem dX7_newRaft_33 : decode cX7_newRaft 33 = .ok (.aload_n 2, 1) := by decide +kernel
theorem dX7_newRaft_34 : decode cX7_newRaft 34 = .ok (.areturn, 1) := by decide +kernel
theorem dX8_init_0 : decode cX8_init 0 = .ok (.aload_n 0, 1) := by decide +kernel
theorem dX8_init_1 : decode cX8_init 1 = .ok (.invokespecial 1, 3) := by decide +kernel
theorem dX8_init_4 : decode cX8_init 4 = .ok (.aload_n 0, 1) := by decide +kernel
theorem dX8_init_5 : decode cX8_init 5 = .ok (.bipush 12, 2) := by decide +kernel
theorem dX8_init_7 : decode cX8_init 7 = .ok (.newarray .int, 2) := by decide +kernel
theorem dX8_init_9 : decode cX8_init 9 = .ok (.putfield 9, 3) := by decide +kernel
theorem dX8_init_12 : decode cX8_init 12 = .ok (.aload_n 0, 1) := by decide +kernel
theorem dX8_init_13 : decode cX8_init 13 = .ok (.bipush 12, 2) := by decide +kernel
theorem dX8_init_15 : decode cX8_init 15 = .ok (.newarray .int, 2) := by decide +kernel
theorem dX8_init_17 : decode cX8_init 17 = .ok (.putfield 13, 3) := by decide +kernel
theorem dX8_init_20 : decode cX8_init 20 = .ok (.aload_n 0, 1) := by decide +kernel
theorem dX8_init_21 : decode cX8_init 21 = .ok (.bipush 12, 2) := by decide +kernel
theorem dX8_init_23 : decode cX8_init 23 = .ok (.newarray .int, 2) := by decide +kernel
theorem dX8_init_25 : decode cX8_init 25 = .ok (.putfield 16, 3) := by decide +kernel
theorem dX8_init_28 : decode cX8_init 28 = .ok (.aload_n 0, 1) := by decide +kernel
theorem dX8_init_29 : decode cX8_init 29 = .ok (.bipush 12, 2) := by decide +kernel
theorem dX8_init_31 : decode cX8_init 31 = .ok (.newarray .int, 2) := by decide +kernel
theorem dX8_init_33 : decode cX8_init 33 = .ok (.putfield 19, 3) := by decide +kernel
theorem dX8_init_36 : decode cX8_init 36 = .ok (.aload_n 0, 1) := by decide +kernel
theorem dX8_init_37 : decode cX8_init 37 = .ok (.bipush 12, 2) := by decide +kernel
theorem dX8_init_39 : decode cX8_init 39 = .ok (.newarray .int, 2) := by decide +kernel
theorem dX8_init_41 : decode cX8_init 41 = .ok (.putfield 22, 3) := by decide +kernel
theorem dX8_init_44 : decode cX8_init 44 = .ok (.aload_n 0, 1) := by decide +kernel
theorem dX8_init_45 : decode cX8_init 45 = .ok (.bipush 12, 2) := by decide +kernel
theorem dX8_init_47 : decode cX8_init 47 = .ok (.newarray .int, 2) := by decide +kernel
theorem dX8_init_49 : decode cX8_init 49 = .ok (.putfield 25, 3) := by decide +kernel
theorem dX8_init_52 : decode cX8_init 52 = .ok (.aload_n 0, 1) := by decide +kernel
theorem dX8_init_53 : decode cX8_init 53 = .ok (.bipush 12, 2) := by decide +kernel
theorem dX8_init_55 : decode cX8_init 55 = .ok (.newarray .boolean, 2) := by decide +kernel
theorem dX8_init_57 : decode cX8_init 57 = .ok (.putfield 28, 3) := by decide +kernel
theorem dX8_init_60 : decode cX8_init 60 = .ok (.aload_n 0, 1) := by decide +kernel
theorem dX8_init_61 : decode cX8_init 61 = .ok (.bipush 12, 2) := by decide +kernel
theorem dX8_init_63 : decode cX8_init 63 = .ok (.newarray .int, 2) := by decide +kernel
theorem dX8_init_65 : decode cX8_init 65 = .ok (.putfield 32, 3) := by decide +kernel
theorem dX8_init_68 : decode cX8_init 68 = .ok (.aload_n 0, 1) := by decide +kernel
theorem dX8_init_69 : decode cX8_init 69 = .ok (.bipush 12, 2) := by decide +kernel
theorem dX8_init_71 : decode cX8_init 71 = .ok (.newarray .int, 2) := by decide +kernel
theorem dX8_init_73 : decode cX8_init 73 = .ok (.putfield 35, 3) := by decide +kernel
theorem dX8_init_76 : decode cX8_init 76 = .ok (.aload_n 0, 1) := by decide +kernel
theorem dX8_init_77 : decode cX8_init 77 = .ok (.bipush 120, 2) := by decide +kernel
theorem dX8_init_79 : decode cX8_init 79 = .ok (.newarray .int, 2) := by decide +kernel
theorem dX8_init_81 : decode cX8_init 81 = .ok (.putfield 38, 3) := by decide +kernel
theorem dX8_init_84 : decode cX8_init 84 = .ok (.aload_n 0, 1) := by decide +kernel
theorem dX8_init_85 : decode cX8_init 85 = .ok (.bipush 120, 2) := by decide +kernel
theorem dX8_init_87 : decode cX8_init 87 = .ok (.newarray .int, 2) := by decide +kernel
theorem dX8_init_89 : decode cX8_init 89 = .ok (.putfield 41, 3) := by decide +kernel
theorem dX8_init_92 : decode cX8_init 92 = .ok (.aload_n 0, 1) := by decide +kernel
theorem dX8_init_93 : decode cX8_init 93 = .ok (.bipush 120, 2) := by decide +kernel
theorem dX8_init_95 : decode cX8_init 95 = .ok (.newarray .int, 2) := by decide +kernel
theorem dX8_init_97 : decode cX8_init 97 = .ok (.putfield 44, 3) := by decide +kernel
theorem dX8_init_100 : decode cX8_init 100 = .ok (.aload_n 0, 1) := by decide +kernel
theorem dX8_init_101 : decode cX8_init 101 = .ok (.bipush 120, 2) := by decide +kernel
theorem dX8_init_103 : decode cX8_init 103 = .ok (.newarray .int, 2) := by decide +kernel
theorem dX8_init_105 : decode cX8_init 105 = .ok (.putfield 47, 3) := by decide +kernel
theorem dX8_init_108 : decode cX8_init 108 = .ok (.aload_n 0, 1) := by decide +kernel
theorem dX8_init_109 : decode cX8_init 109 = .ok (.bipush 120, 2) := by decide +kernel
theorem dX8_init_111 : decode cX8_init 111 = .ok (.newarray .int, 2) := by decide +kernel
theorem dX8_init_113 : decode cX8_init 113 = .ok (.putfield 50, 3) := by decide +kernel
theorem dX8_init_116 : decode cX8_init 116 = .ok (.aload_n 0, 1) := by decide +kernel
theorem dX8_init_117 : decode cX8_init 117 = .ok (.bipush 120, 2) := by decide +kernel
theorem dX8_init_119 : decode cX8_init 119 = .ok (.newarray .int, 2) := by decide +kernel
theorem dX8_init_121 : decode cX8_init 121 = .ok (.putfield 53, 3) := by decide +kernel
theorem dX8_init_124 : decode cX8_init 124 = .ok (.aload_n 0, 1) := by decide +kernel
theorem dX8_init_125 : decode cX8_init 125 = .ok (.bipush 120, 2) := by decide +kernel
theorem dX8_init_127 : decode cX8_init 127 = .ok (.newarray .int, 2) := by decide +kernel
theorem dX8_init_129 : decode cX8_init 129 = .ok (.putfield 56, 3) := by decide +kernel
theorem dX8_init_132 : decode cX8_init 132 = .ok (.aload_n 0, 1) := by decide +kernel
theorem dX8_init_133 : decode cX8_init 133 = .ok (.bipush 120, 2) := by decide +kernel
theorem dX8_init_135 : decode cX8_init 135 = .ok (.newarray .int, 2) := by decide +kernel
theorem dX8_init_137 : decode cX8_init 137 = .ok (.putfield 59, 3) := by decide +kernel
theorem dX8_init_140 : decode cX8_init 140 = .ok (.aload_n 0, 1) := by decide +kernel
theorem dX8_init_141 : decode cX8_init 141 = .ok (.bipush 120, 2) := by decide +kernel
theorem dX8_init_143 : decode cX8_init 143 = .ok (.newarray .int, 2) := by decide +kernel
theorem dX8_init_145 : decode cX8_init 145 = .ok (.putfield 62, 3) := by decide +kernel
theorem dX8_init_148 : decode cX8_init 148 = .ok (.aload_n 0, 1) := by decide +kernel
theorem dX8_init_149 : decode cX8_init 149 = .ok (.bipush 120, 2) := by decide +kernel
theorem dX8_init_151 : decode cX8_init 151 = .ok (.newarray .int, 2) := by decide +kernel
theorem dX8_init_153 : decode cX8_init 153 = .ok (.putfield 65, 3) := by decide +kernel
theorem dX8_init_156 : decode cX8_init 156 = .ok (.aload_n 0, 1) := by decide +kernel
theorem dX8_init_157 : decode cX8_init 157 = .ok (.bipush 9, 2) := by decide +kernel
theorem dX8_init_159 : decode cX8_init 159 = .ok (.newarray .int, 2) := by decide +kernel
theorem dX8_init_161 : decode cX8_init 161 = .ok (.putfield 68, 3) := by decide +kernel
theorem dX8_init_164 : decode cX8_init 164 = .ok (.aload_n 0, 1) := by decide +kernel
theorem dX8_init_165 : decode cX8_init 165 = .ok (.bipush 60, 2) := by decide +kernel
theorem dX8_init_167 : decode cX8_init 167 = .ok (.newarray .int, 2) := by decide +kernel
theorem dX8_init_169 : decode cX8_init 169 = .ok (.putfield 71, 3) := by decide +kernel
theorem dX8_init_172 : decode cX8_init 172 = .ok (.aload_n 0, 1) := by decide +kernel
theorem dX8_init_173 : decode cX8_init 173 = .ok (.bipush 60, 2) := by decide +kernel
theorem dX8_init_175 : decode cX8_init 175 = .ok (.newarray .int, 2) := by decide +kernel
theorem dX8_init_177 : decode cX8_init 177 = .ok (.putfield 74, 3) := by decide +kernel
theorem dX8_init_180 : decode cX8_init 180 = .ok (.aload_n 0, 1) := by decide +kernel
theorem dX8_init_181 : decode cX8_init 181 = .ok (.bipush 60, 2) := by decide +kernel
theorem dX8_init_183 : decode cX8_init 183 = .ok (.newarray .int, 2) := by decide +kernel
theorem dX8_init_185 : decode cX8_init 185 = .ok (.putfield 77, 3) := by decide +kernel
theorem dX8_init_188 : decode cX8_init 188 = .ok (.aload_n 0, 1) := by decide +kernel
theorem dX8_init_189 : decode cX8_init 189 = .ok (.bipush 60, 2) := by decide +kernel
theorem dX8_init_191 : decode cX8_init 191 = .ok (.newarray .int, 2) := by decide +kernel
theorem dX8_init_193 : decode cX8_init 193 = .ok (.putfield 80, 3) := by decide +kernel
theorem dX8_init_196 : decode cX8_init 196 = .ok (.aload_n 0, 1) := by decide +kernel
theorem dX8_init_197 : decode cX8_init 197 = .ok (.bipush 60, 2) := by decide +kernel
theorem dX8_init_199 : decode cX8_init 199 = .ok (.newarray .int, 2) := by decide +kernel
theorem dX8_init_201 : decode cX8_init 201 = .ok (.putfield 83, 3) := by decide +kernel
theorem dX8_init_204 : decode cX8_init 204 = .ok (.aload_n 0, 1) := by decide +kernel
theorem dX8_init_205 : decode cX8_init 205 = .ok (.bipush 10, 2) := by decide +kernel
theorem dX8_init_207 : decode cX8_init 207 = .ok (.newarray .int, 2) := by decide +kernel
theorem dX8_init_209 : decode cX8_init 209 = .ok (.putfield 86, 3) := by decide +kernel
theorem dX8_init_212 : decode cX8_init 212 = .ok (.aload_n 0, 1) := by decide +kernel
theorem dX8_init_213 : decode cX8_init 213 = .ok (.bipush 10, 2) := by decide +kernel
theorem dX8_init_215 : decode cX8_init 215 = .ok (.newarray .int, 2) := by decide +kernel
theorem dX8_init_217 : decode cX8_init 217 = .ok (.putfield 89, 3) := by decide +kernel
theorem dX8_init_220 : decode cX8_init 220 = .ok (.aload_n 0, 1) := by decide +kernel
theorem dX8_init_221 : decode cX8_init 221 = .ok (.bipush 10, 2) := by decide +kernel
theorem dX8_init_223 : decode cX8_init 223 = .ok (.newarray .int, 2) := by decide +kernel
theorem dX8_init_225 : decode cX8_init 225 = .ok (.putfield 92, 3) := by decide +kernel
theorem dX8_init_228 : decode cX8_init 228 = .ok (.aload_n 0, 1) := by decide +kernel
theorem dX8_init_229 : decode cX8_init 229 = .ok (.bipush 10, 2) := by decide +kernel
theorem dX8_init_231 : decode cX8_init 231 = .ok (.newarray .int, 2) := by decide +kernel
theorem dX8_init_233 : decode cX8_init 233 = .ok (.putfield 95, 3) := by decide +kernel
theorem dX8_init_236 : decode cX8_init 236 = .ok (.aload_n 0, 1) := by decide +kernel
theorem dX8_init_237 : decode cX8_init 237 = .ok (.bipush 10, 2) := by decide +kernel
theorem dX8_init_239 : decode cX8_init 239 = .ok (.newarray .int, 2) := by decide +kernel
theorem dX8_init_241 : decode cX8_init 241 = .ok (.putfield 98, 3) := by decide +kernel
theorem dX8_init_244 : decode cX8_init 244 = .ok (.aload_n 0, 1) := by decide +kernel
theorem dX8_init_245 : decode cX8_init 245 = .ok (.bipush 8, 2) := by decide +kernel
theorem dX8_init_247 : decode cX8_init 247 = .ok (.newarray .int, 2) := by decide +kernel
theorem dX8_init_249 : decode cX8_init 249 = .ok (.putfield 101, 3) := by decide +kernel
theorem dX8_init_252 : decode cX8_init 252 = .ok (.aload_n 0, 1) := by decide +kernel
theorem dX8_init_253 : decode cX8_init 253 = .ok (.bipush 8, 2) := by decide +kernel
theorem dX8_init_255 : decode cX8_init 255 = .ok (.newarray .int, 2) := by decide +kernel
theorem dX8_init_257 : decode cX8_init 257 = .ok (.putfield 104, 3) := by decide +kernel
theorem dX8_init_260 : decode cX8_init 260 = .ok (.aload_n 0, 1) := by decide +kernel
theorem dX8_init_261 : decode cX8_init 261 = .ok (.bipush 30, 2) := by decide +kernel
theorem dX8_init_263 : decode cX8_init 263 = .ok (.newarray .int, 2) := by decide +kernel
theorem dX8_init_265 : decode cX8_init 265 = .ok (.putfield 107, 3) := by decide +kernel
theorem dX8_init_268 : decode cX8_init 268 = .ok (.aload_n 0, 1) := by decide +kernel
theorem dX8_init_269 : decode cX8_init 269 = .ok (.bipush 30, 2) := by decide +kernel
theorem dX8_init_271 : decode cX8_init 271 = .ok (.newarray .int, 2) := by decide +kernel
theorem dX8_init_273 : decode cX8_init 273 = .ok (.putfield 110, 3) := by decide +kernel
theorem dX8_init_276 : decode cX8_init 276 = .ok (.aload_n 0, 1) := by decide +kernel
theorem dX8_init_277 : decode cX8_init 277 = .ok (.bipush 100, 2) := by decide +kernel
theorem dX8_init_279 : decode cX8_init 279 = .ok (.newarray .int, 2) := by decide +kernel
theorem dX8_init_281 : decode cX8_init 281 = .ok (.putfield 113, 3) := by decide +kernel
theorem dX8_init_284 : decode cX8_init 284 = .ok (.aload_n 0, 1) := by decide +kernel
theorem dX8_init_285 : decode cX8_init 285 = .ok (.bipush 100, 2) := by decide +kernel
theorem dX8_init_287 : decode cX8_init 287 = .ok (.newarray .int, 2) := by decide +kernel
theorem dX8_init_289 : decode cX8_init 289 = .ok (.putfield 116, 3) := by decide +kernel
theorem dX8_init_292 : decode cX8_init 292 = .ok (.aload_n 0, 1) := by decide +kernel
theorem dX8_init_293 : decode cX8_init 293 = .ok (.bipush 100, 2) := by decide +kernel
theorem dX8_init_295 : decode cX8_init 295 = .ok (.newarray .int, 2) := by decide +kernel
theorem dX8_init_297 : decode cX8_init 297 = .ok (.putfield 119, 3) := by decide +kernel
theorem dX8_init_300 : decode cX8_init 300 = .ok (.aload_n 0, 1) := by decide +kernel
theorem dX8_init_301 : decode cX8_init 301 = .ok (.bipush 100, 2) := by decide +kernel
theorem dX8_init_303 : decode cX8_init 303 = .ok (.newarray .int, 2) := by decide +kernel
theorem dX8_init_305 : decode cX8_init 305 = .ok (.putfield 122, 3) := by decide +kernel
theorem dX8_init_308 : decode cX8_init 308 = .ok (.aload_n 0, 1) := by decide +kernel
theorem dX8_init_309 : decode cX8_init 309 = .ok (.iconst 5, 1) := by decide +kernel
theorem dX8_init_310 : decode cX8_init 310 = .ok (.newarray .int, 2) := by decide +kernel
theorem dX8_init_312 : decode cX8_init 312 = .ok (.putfield 125, 3) := by decide +kernel
theorem dX8_init_315 : decode cX8_init 315 = .ok (.aload_n 0, 1) := by decide +kernel
theorem dX8_init_316 : decode cX8_init 316 = .ok (.iconst 5, 1) := by decide +kernel
theorem dX8_init_317 : decode cX8_init 317 = .ok (.newarray .int, 2) := by decide +kernel
theorem dX8_init_319 : decode cX8_init 319 = .ok (.putfield 128, 3) := by decide +kernel
theorem dX8_init_322 : decode cX8_init 322 = .ok (.aload_n 0, 1) := by decide +kernel
theorem dX8_init_323 : decode cX8_init 323 = .ok (.iconst 5, 1) := by decide +kernel
theorem dX8_init_324 : decode cX8_init 324 = .ok (.newarray .int, 2) := by decide +kernel
theorem dX8_init_326 : decode cX8_init 326 = .ok (.putfield 131, 3) := by decide +kernel
theorem dX8_init_329 : decode cX8_init 329 = .ok (.aload_n 0, 1) := by decide +kernel
theorem dX8_init_330 : decode cX8_init 330 = .ok (.iconst 5, 1) := by decide +kernel
theorem dX8_init_331 : decode cX8_init 331 = .ok (.newarray .int, 2) := by decide +kernel
theorem dX8_init_333 : decode cX8_init 333 = .ok (.putfield 134, 3) := by decide +kernel
theorem dX8_init_336 : decode cX8_init 336 = .ok (.aload_n 0, 1) := by decide +kernel
theorem dX8_init_337 : decode cX8_init 337 = .ok (.iconst 5, 1) := by decide +kernel
theorem dX8_init_338 : decode cX8_init 338 = .ok (.newarray .int, 2) := by decide +kernel
theorem dX8_init_340 : decode cX8_init 340 = .ok (.putfield 137, 3) := by decide +kernel
theorem dX8_init_343 : decode cX8_init 343 = .ok (.iconst 0, 1) := by decide +kernel
theorem dX8_init_344 : decode cX8_init 344 = .ok (.istore_n 1, 1) := by decide +kernel
theorem dX8_init_345 : decode cX8_init 345 = .ok (.iload_n 1, 1) := by decide +kernel
theorem dX8_init_346 : decode cX8_init 346 = .ok (.bipush 8, 2) := by decide +kernel
theorem dX8_init_348 : decode cX8_init 348 = .ok (.if_icmp .ge 16, 3) := by decide +kernel
theorem dX8_init_351 : decode cX8_init 351 = .ok (.aload_n 0, 1) := by decide +kernel
theorem dX8_init_352 : decode cX8_init 352 = .ok (.getfield 101, 3) := by decide +kernel
theorem dX8_init_355 : decode cX8_init 355 = .ok (.iload_n 1, 1) := by decide +kernel
theorem dX8_init_356 : decode cX8_init 356 = .ok (.iconst 5, 1) := by decide +kernel
theorem dX8_init_357 : decode cX8_init 357 = .ok (.iastore, 1) := by decide +kernel
theorem dX8_init_358 : decode cX8_init 358 = .ok (.iinc 1 1, 3) := by decide +kernel
theorem dX8_init_361 : decode cX8_init 361 = .ok (.goto (-16), 3) := by decide +kernel
theorem dX8_init_364 : decode cX8_init 364 = .ok (.return_, 1) := by decide +kernel
theorem dX8_in_0 : decode cX8_in 0 = .ok (.iload_n 0, 1) := by decide +kernel
theorem dX8_in_1 : decode cX8_in 1 = .ok (.iload_n 1, 1) := by decide +kernel
theorem dX8_in_2 : decode cX8_in 2 = .ok (.if_icmp .lt 12, 3) := by decide +kernel
theorem dX8_in_5 : decode cX8_in 5 = .ok (.iload_n 0, 1) := by decide +kernel
theorem dX8_in_6 : decode cX8_in 6 = .ok (.iload_n 2, 1) := by decide +kernel
theorem dX8_in_7 : decode cX8_in 7 = .ok (.if_icmp .gt 7, 3) := by decide +kernel
theorem dX8_in_10 : decode cX8_in 10 = .ok (.iconst 1, 1) := by decide +kernel
theorem dX8_in_11 : decode cX8_in 11 = .ok (.goto 4, 3) := by decide +kernel
theorem dX8_in_14 : decode cX8_in 14 = .ok (.iconst 0, 1) := by decide +kernel
theorem dX8_in_15 : decode cX8_in 15 = .ok (.ireturn, 1) := by decide +kernel
theorem dX8_isStation_0 : decode cX8_isStation 0 = .ok (.iload_n 1, 1) := by decide +kernel
theorem dX8_isStation_1 : decode cX8_isStation 1 = .ok (.iconst 0, 1) := by decide +kernel
theorem dX8_isStation_2 : decode cX8_isStation 2 = .ok (.aload_n 0, 1) := by decide +kernel
theorem dX8_isStation_3 : decode cX8_isStation 3 = .ok (.getfield 140, 3) := by decide +kernel
theorem dX8_isStation_6 : decode cX8_isStation 6 = .ok (.iconst 1, 1) := by decide +kernel
theorem dX8_isStation_7 : decode cX8_isStation 7 = .ok (.isub, 1) := by decide +kernel
theorem dX8_isStation_8 : decode cX8_isStation 8 = .ok (.invokestatic 144, 3) := by decide +kernel
theorem dX8_isStation_11 : decode cX8_isStation 11 = .ok (.ireturn, 1) := by decide +kernel
theorem dX8_isTrunk_0 : decode cX8_isTrunk 0 = .ok (.iload_n 1, 1) := by decide +kernel
theorem dX8_isTrunk_1 : decode cX8_isTrunk 1 = .ok (.iconst 0, 1) := by decide +kernel
theorem dX8_isTrunk_2 : decode cX8_isTrunk 2 = .ok (.aload_n 0, 1) := by decide +kernel
theorem dX8_isTrunk_3 : decode cX8_isTrunk 3 = .ok (.getfield 148, 3) := by decide +kernel
theorem dX8_isTrunk_6 : decode cX8_isTrunk 6 = .ok (.iconst 1, 1) := by decide +kernel
theorem dX8_isTrunk_7 : decode cX8_isTrunk 7 = .ok (.isub, 1) := by decide +kernel
theorem dX8_isTrunk_8 : decode cX8_isTrunk 8 = .ok (.invokestatic 144, 3) := by decide +kernel
theorem dX8_isTrunk_11 : decode cX8_isTrunk 11 = .ok (.ireturn, 1) := by decide +kernel
theorem dX8_isRaft_0 : decode cX8_isRaft 0 = .ok (.iload_n 1, 1) := by decide +kernel
theorem dX8_isRaft_1 : decode cX8_isRaft 1 = .ok (.iconst 0, 1) := by decide +kernel
theorem dX8_isRaft_2 : decode cX8_isRaft 2 = .ok (.aload_n 0, 1) := by decide +kernel
theorem dX8_isRaft_3 : decode cX8_isRaft 3 = .ok (.getfield 151, 3) := by decide +kernel
theorem dX8_isRaft_6 : decode cX8_isRaft 6 = .ok (.iconst 1, 1) := by decide +kernel
theorem dX8_isRaft_7 : decode cX8_isRaft 7 = .ok (.isub, 1) := by decide +kernel
theorem dX8_isRaft_8 : decode cX8_isRaft 8 = .ok (.invokestatic 144, 3) := by decide +kernel
theorem dX8_isRaft_11 : decode cX8_isRaft 11 = .ok (.ifCond .eq 17, 3) := by decide +kernel
theorem dX8_isRaft_14 : decode cX8_isRaft 14 = .ok (.aload_n 0, 1) := by decide +kernel
theorem dX8_isRaft_15 : decode cX8_isRaft 15 = .ok (.getfield 71, 3) := by decide +kernel
theorem dX8_isRaft_18 : decode cX8_isRaft 18 = .ok (.iload_n 1, 1) := by decide +kernel
theorem dX8_isRaft_19 : decode cX8_isRaft 19 = .ok (.iaload, 1) := by decide +kernel
theorem dX8_isRaft_20 : decode cX8_isRaft 20 = .ok (.iload_n 2, 1) := by decide +kernel
theorem dX8_isRaft_21 : decode cX8_isRaft 21 = .ok (.if_icmp .ne 7, 3) := by decide +kernel
theorem dX8_isRaft_24 : decode cX8_isRaft 24 = .ok (.iconst 1, 1) := by decide +kernel
theorem dX8_isRaft_25 : decode cX8_isRaft 25 = .ok (.goto 4, 3) := by decide +kernel
theorem dX8_isRaft_28 : decode cX8_isRaft 28 = .ok (.iconst 0, 1) := by decide +kernel
theorem dX8_isRaft_29 : decode cX8_isRaft 29 = .ok (.ireturn, 1) := by decide +kernel
theorem dX8_station_0 : decode cX8_station 0 = .ok (.aload_n 0, 1) := by decide +kernel
theorem dX8_station_1 : decode cX8_station 1 = .ok (.getfield 140, 3) := by decide +kernel
theorem dX8_station_4 : decode cX8_station 4 = .ok (.bipush 12, 2) := by decide +kernel
theorem dX8_station_6 : decode cX8_station 6 = .ok (.if_icmp .ne 5, 3) := by decide +kernel
theorem dX8_station_9 : decode cX8_station 9 = .ok (.iconst (-1), 1) := by decide +kernel
theorem dX8_station_10 : decode cX8_station 10 = .ok (.ireturn, 1) := by decide +kernel
theorem dX8_station_11 : decode cX8_station 11 = .ok (.aload_n 0, 1) := by decide +kernel
theorem dX8_station_12 : decode cX8_station 12 = .ok (.getfield 140, 3) := by decide +kernel
theorem dX8_station_15 : decode cX8_station 15 = .ok (.ifCond .le 142, 3) := by decide +kernel
theorem dX8_station_18 : decode cX8_station 18 = .ok (.aload_n 0, 1) := by decide +kernel
theorem dX8_station_19 : decode cX8_station 19 = .ok (.iload_n 1, 1) := by decide +kernel
theorem dX8_station_20 : decode cX8_station 20 = .ok (.invokevirtual 154, 3) := by decide +kernel
theorem dX8_station_23 : decode cX8_station 23 = .ok (.ifCond .eq 58, 3) := by decide +kernel
theorem dX8_station_26 : decode cX8_station 26 = .ok (.iload_n 2, 1) := by decide +kernel
theorem dX8_station_27 : decode cX8_station 27 = .ok (.ifCond .lt 54, 3) := by decide +kernel
theorem dX8_station_30 : decode cX8_station 30 = .ok (.iload_n 2, 1) := by decide +kernel
theorem dX8_station_31 : decode cX8_station 31 = .ok (.ldc 158, 2) := by decide +kernel
theorem dX8_station_33 : decode cX8_station 33 = .ok (.idiv, 1) := by decide +kernel
theorem dX8_station_34 : decode cX8_station 34 = .ok (.iconst 1, 1) := by decide +kernel
theorem dX8_station_35 : decode cX8_station 35 = .ok (.bipush 20, 2) := by decide +kernel
theorem dX8_station_37 : decode cX8_station 37 = .ok (.invokestatic 144, 3) := by decide +kernel
theorem dX8_station_40 : decode cX8_station 40 = .ok (.ifCond .eq 41, 3) := by decide +kernel
theorem dX8_station_43 : decode cX8_station 43 = .ok (.iload_n 2, 1) := by decide +kernel
theorem dX8_station_44 : decode cX8_station 44 = .ok (.sipush 1000, 3) := by decide +kernel
theorem dX8_station_47 : decode cX8_station 47 = .ok (.idiv, 1) := by decide +kernel
theorem dX8_station_48 : decode cX8_station 48 = .ok (.bipush 100, 2) := by decide +kernel
theorem dX8_station_50 : decode cX8_station 50 = .ok (.irem, 1) := by decide +kernel
theorem dX8_station_51 : decode cX8_station 51 = .ok (.iconst 1, 1) := by decide +kernel
theorem dX8_station_52 : decode cX8_station 52 = .ok (.bipush 60, 2) := by decide +kernel
theorem dX8_station_54 : decode cX8_station 54 = .ok (.invokestatic 144, 3) := by decide +kernel
theorem dX8_station_57 : decode cX8_station 57 = .ok (.ifCond .eq 24, 3) := by decide +kernel
theorem dX8_station_60 : decode cX8_station 60 = .ok (.iload_n 2, 1) := by decide +kernel
theorem dX8_station_61 : decode cX8_station 61 = .ok (.sipush 1000, 3) := by decide +kernel
theorem dX8_station_64 : decode cX8_station 64 = .ok (.irem, 1) := by decide +kernel
theorem dX8_station_65 : decode cX8_station 65 = .ok (.bipush 50, 2) := by decide +kernel
theorem dX8_station_67 : decode cX8_station 67 = .ok (.if_icmp .gt 14, 3) := by decide +kernel
theorem dX8_station_70 : decode cX8_station 70 = .ok (.iload_n 3, 1) := by decide +kernel
theorem dX8_station_71 : decode cX8_station 71 = .ok (.iconst 0, 1) := by decide +kernel
theorem dX8_station_72 : decode cX8_station 72 = .ok (.sipush 1000, 3) := by decide +kernel
theorem dX8_station_75 : decode cX8_station 75 = .ok (.invokestatic 144, 3) := by decide +kernel
theorem dX8_station_78 : decode cX8_station 78 = .ok (.ifCond .ne 5, 3) := by decide +kernel
theorem dX8_station_81 : decode cX8_station 81 = .ok (.iconst (-1), 1) := by decide +kernel
theorem dX8_station_82 : decode cX8_station 82 = .ok (.ireturn, 1) := by decide +kernel
theorem dX8_station_83 : decode cX8_station 83 = .ok (.aload_n 0, 1) := by decide +kernel
theorem dX8_station_84 : decode cX8_station 84 = .ok (.getfield 9, 3) := by decide +kernel
theorem dX8_station_87 : decode cX8_station 87 = .ok (.aload_n 0, 1) := by decide +kernel
theorem dX8_station_88 : decode cX8_station 88 = .ok (.getfield 140, 3) := by decide +kernel
theorem dX8_station_91 : decode cX8_station 91 = .ok (.iload_n 1, 1) := by decide +kernel
theorem dX8_station_92 : decode cX8_station 92 = .ok (.iastore, 1) := by decide +kernel
theorem dX8_station_93 : decode cX8_station 93 = .ok (.aload_n 0, 1) := by decide +kernel
theorem dX8_station_94 : decode cX8_station 94 = .ok (.getfield 13, 3) := by decide +kernel
theorem dX8_station_97 : decode cX8_station 97 = .ok (.aload_n 0, 1) := by decide +kernel
theorem dX8_station_98 : decode cX8_station 98 = .ok (.getfield 140, 3) := by decide +kernel
theorem dX8_station_101 : decode cX8_station 101 = .ok (.iload_n 2, 1) := by decide +kernel
theorem dX8_station_102 : decode cX8_station 102 = .ok (.ldc 158, 2) := by decide +kernel
theorem dX8_station_104 : decode cX8_station 104 = .ok (.idiv, 1) := by decide +kernel
theorem dX8_station_105 : decode cX8_station 105 = .ok (.iastore, 1) := by decide +kernel
theorem dX8_station_106 : decode cX8_station 106 = .ok (.aload_n 0, 1) := by decide +kernel
theorem dX8_station_107 : decode cX8_station 107 = .ok (.getfield 16, 3) := by decide +kernel
theorem dX8_station_110 : decode cX8_station 110 = .ok (.aload_n 0, 1) := by decide +kernel
theorem dX8_station_111 : decode cX8_station 111 = .ok (.getfield 140, 3) := by decide +kernel
theorem dX8_station_114 : decode cX8_station 114 = .ok (.iload_n 2, 1) := by decide +kernel
theorem dX8_station_115 : decode cX8_station 115 = .ok (.sipush 1000, 3) := by decide +kernel
theorem dX8_station_118 : decode cX8_station 118 = .ok (.idiv, 1) := by decide +kernel
theorem dX8_station_119 : decode cX8_station 119 = .ok (.bipush 100, 2) := by decide +kernel
theorem dX8_station_121 : decode cX8_station 121 = .ok (.irem, 1) := by decide +kernel
theorem dX8_station_122 : decode cX8_station 122 = .ok (.iastore, 1) := by decide +kernel
theorem dX8_station_123 : decode cX8_station 123 = .ok (.aload_n 0, 1) := by decide +kernel
theorem dX8_station_124 : decode cX8_station 124 = .ok (.getfield 19, 3) := by decide +kernel
theorem dX8_station_127 : decode cX8_station 127 = .ok (.aload_n 0, 1) := by decide +kernel
theorem dX8_station_128 : decode cX8_station 128 = .ok (.getfield 140, 3) := by decide +kernel
theorem dX8_station_131 : decode cX8_station 131 = .ok (.iload_n 2, 1) := by decide +kernel
theorem dX8_station_132 : decode cX8_station 132 = .ok (.sipush 1000, 3) := by decide +kernel
theorem dX8_station_135 : decode cX8_station 135 = .ok (.irem, 1) := by decide +kernel
theorem dX8_station_136 : decode cX8_station 136 = .ok (.iastore, 1) := by decide +kernel
theorem dX8_station_137 : decode cX8_station 137 = .ok (.aload_n 0, 1) := by decide +kernel
theorem dX8_station_138 : decode cX8_station 138 = .ok (.getfield 22, 3) := by decide +kernel
theorem dX8_station_141 : decode cX8_station 141 = .ok (.aload_n 0, 1) := by decide +kernel
theorem dX8_station_142 : decode cX8_station 142 = .ok (.getfield 140, 3) := by decide +kernel
theorem dX8_station_145 : decode cX8_station 145 = .ok (.iload_n 3, 1) := by decide +kernel
theorem dX8_station_146 : decode cX8_station 146 = .ok (.iastore, 1) := by decide +kernel
theorem dX8_station_147 : decode cX8_station 147 = .ok (.aload_n 0, 1) := by decide +kernel
theorem dX8_station_148 : decode cX8_station 148 = .ok (.getfield 25, 3) := by decide +kernel
theorem dX8_station_151 : decode cX8_station 151 = .ok (.aload_n 0, 1) := by decide +kernel
theorem dX8_station_152 : decode cX8_station 152 = .ok (.getfield 140, 3) := by decide +kernel
theorem dX8_station_155 : decode cX8_station 155 = .ok (.iload_n 3, 1) := by decide +kernel
theorem dX8_station_156 : decode cX8_station 156 = .ok (.iastore, 1) := by decide +kernel
theorem dX8_station_157 : decode cX8_station 157 = .ok (.aload_n 0, 1) := by decide +kernel
theorem dX8_station_158 : decode cX8_station 158 = .ok (.getfield 28, 3) := by decide +kernel
theorem dX8_station_161 : decode cX8_station 161 = .ok (.aload_n 0, 1) := by decide +kernel
theorem dX8_station_162 : decode cX8_station 162 = .ok (.getfield 140, 3) := by decide +kernel
theorem dX8_station_165 : decode cX8_station 165 = .ok (.iload 4, 2) := by decide +kernel
theorem dX8_station_167 : decode cX8_station 167 = .ok (.ifCond .ne 10, 3) := by decide +kernel
theorem dX8_station_170 : decode cX8_station 170 = .ok (.aload_n 0, 1) := by decide +kernel
theorem dX8_station_171 : decode cX8_station 171 = .ok (.getfield 140, 3) := by decide +kernel
theorem dX8_station_174 : decode cX8_station 174 = .ok (.ifCond .ne 7, 3) := by decide +kernel
theorem dX8_station_177 : decode cX8_station 177 = .ok (.iconst 1, 1) := by decide +kernel
theorem dX8_station_178 : decode cX8_station 178 = .ok (.goto 4, 3) := by decide +kernel
theorem dX8_station_181 : decode cX8_station 181 = .ok (.iconst 0, 1) := by decide +kernel
theorem dX8_station_182 : decode cX8_station 182 = .ok (.bastore, 1) := by decide +kernel
theorem dX8_station_183 : decode cX8_station 183 = .ok (.aload_n 0, 1) := by decide +kernel
theorem dX8_station_184 : decode cX8_station 184 = .ok (.dup, 1) := by decide +kernel
theorem dX8_station_185 : decode cX8_station 185 = .ok (.getfield 140, 3) := by decide +kernel
theorem dX8_station_188 : decode cX8_station 188 = .ok (.iconst 1, 1) := by decide +kernel
theorem dX8_station_189 : decode cX8_station 189 = .ok (.iadd, 1) := by decide +kernel
theorem dX8_station_190 : decode cX8_station 190 = .ok (.putfield 140, 3) := by decide +kernel
theorem dX8_station_193 : decode cX8_station 193 = .ok (.aload_n 0, 1) := by decide +kernel
theorem dX8_station_194 : decode cX8_station 194 = .ok (.getfield 140, 3) := by decide +kernel
theorem dX8_station_197 : decode cX8_station 197 = .ok (.iconst 1, 1) := by decide +kernel
theorem dX8_station_198 : decode cX8_station 198 = .ok (.isub, 1) := by decide +kernel
theorem dX8_station_199 : decode cX8_station 199 = .ok (.ireturn, 1) := by decide +kernel
theorem dX8_trunk_0 : decode cX8_trunk 0 = .ok (.iload_n 1, 1) := by decide +kernel
theorem dX8_trunk_1 : decode cX8_trunk 1 = .ok (.iconst 1, 1) := by decide +kernel
theorem dX8_trunk_2 : decode cX8_trunk 2 = .ok (.ldc 159, 2) := by decide +kernel
theorem dX8_trunk_4 : decode cX8_trunk 4 = .ok (.invokestatic 144, 3) := by decide +kernel
theorem dX8_trunk_7 : decode cX8_trunk 7 = .ok (.ifCond .eq 60, 3) := by decide +kernel
theorem dX8_trunk_10 : decode cX8_trunk 10 = .ok (.iload_n 2, 1) := by decide +kernel
theorem dX8_trunk_11 : decode cX8_trunk 11 = .ok (.ifCond .lt 56, 3) := by decide +kernel
theorem dX8_trunk_14 : decode cX8_trunk 14 = .ok (.iload_n 2, 1) := by decide +kernel
theorem dX8_trunk_15 : decode cX8_trunk 15 = .ok (.bipush 100, 2) := by decide +kernel
theorem dX8_trunk_17 : decode cX8_trunk 17 = .ok (.idiv, 1) := by decide +kernel
theorem dX8_trunk_18 : decode cX8_trunk 18 = .ok (.bipush 8, 2) := by decide +kernel
theorem dX8_trunk_20 : decode cX8_trunk 20 = .ok (.if_icmp .ge 47, 3) := by decide +kernel
theorem dX8_trunk_23 : decode cX8_trunk 23 = .ok (.iload_n 2, 1) := by decide +kernel
theorem dX8_trunk_24 : decode cX8_trunk 24 = .ok (.bipush 10, 2) := by decide +kernel
theorem dX8_trunk_26 : decode cX8_trunk 26 = .ok (.idiv, 1) := by decide +kernel
theorem dX8_trunk_27 : decode cX8_trunk 27 = .ok (.bipush 10, 2) := by decide +kernel
theorem dX8_trunk_29 : decode cX8_trunk 29 = .ok (.irem, 1) := by decide +kernel
theorem dX8_trunk_30 : decode cX8_trunk 30 = .ok (.iconst 3, 1) := by decide +kernel
theorem dX8_trunk_31 : decode cX8_trunk 31 = .ok (.if_icmp .gt 36, 3) := by decide +kernel
theorem dX8_trunk_34 : decode cX8_trunk 34 = .ok (.iload_n 2, 1) := by decide +kernel
theorem dX8_trunk_35 : decode cX8_trunk 35 = .ok (.bipush 10, 2) := by decide +kernel
theorem dX8_trunk_37 : decode cX8_trunk 37 = .ok (.irem, 1) := by decide +kernel
theorem dX8_trunk_38 : decode cX8_trunk 38 = .ok (.ifCond .eq 29, 3) := by decide +kernel
theorem dX8_trunk_41 : decode cX8_trunk 41 = .ok (.aload_n 0, 1) := by decide +kernel
theorem dX8_trunk_42 : decode cX8_trunk 42 = .ok (.iload_n 1, 1) := by decide +kernel
theorem dX8_trunk_43 : decode cX8_trunk 43 = .ok (.invokevirtual 160, 3) := by decide +kernel
theorem dX8_trunk_46 : decode cX8_trunk 46 = .ok (.iconst (-1), 1) := by decide +kernel
theorem dX8_trunk_47 : decode cX8_trunk 47 = .ok (.if_icmp .ne 20, 3) := by decide +kernel
theorem dX8_trunk_50 : decode cX8_trunk 50 = .ok (.aload_n 0, 1) := by decide +kernel
theorem dX8_trunk_51 : decode cX8_trunk 51 = .ok (.iload_n 3, 1) := by decide +kernel
theorem dX8_trunk_52 : decode cX8_trunk 52 = .ok (.invokevirtual 154, 3) := by decide +kernel
theorem dX8_trunk_55 : decode cX8_trunk 55 = .ok (.ifCond .eq 12, 3) := by decide +kernel
theorem dX8_trunk_58 : decode cX8_trunk 58 = .ok (.aload_n 0, 1) := by decide +kernel
theorem dX8_trunk_59 : decode cX8_trunk 59 = .ok (.getfield 148, 3) := by decide +kernel
theorem dX8_trunk_62 : decode cX8_trunk 62 = .ok (.bipush 120, 2) := by decide +kernel
theorem dX8_trunk_64 : decode cX8_trunk 64 = .ok (.if_icmp .ne 5, 3) := by decide +kernel
theorem dX8_trunk_67 : decode cX8_trunk 67 = .ok (.iconst (-1), 1) := by decide +kernel
theorem dX8_trunk_68 : decode cX8_trunk 68 = .ok (.ireturn, 1) := by decide +kernel
theorem dX8_trunk_69 : decode cX8_trunk 69 = .ok (.aload_n 0, 1) := by decide +kernel
theorem dX8_trunk_70 : decode cX8_trunk 70 = .ok (.getfield 38, 3) := by decide +kernel
theorem dX8_trunk_73 : decode cX8_trunk 73 = .ok (.aload_n 0, 1) := by decide +kernel
theorem dX8_trunk_74 : decode cX8_trunk 74 = .ok (.getfield 148, 3) := by decide +kernel
theorem dX8_trunk_77 : decode cX8_trunk 77 = .ok (.iload_n 1, 1) := by decide +kernel
theorem dX8_trunk_78 : decode cX8_trunk 78 = .ok (.iastore, 1) := by decide +kernel
theorem dX8_trunk_79 : decode cX8_trunk 79 = .ok (.aload_n 0, 1) := by decide +kernel
theorem dX8_trunk_80 : decode cX8_trunk 80 = .ok (.getfield 41, 3) := by decide +kernel
theorem dX8_trunk_83 : decode cX8_trunk 83 = .ok (.aload_n 0, 1) := by decide +kernel
theorem dX8_trunk_84 : decode cX8_trunk 84 = .ok (.getfield 148, 3) := by decide +kernel
theorem dX8_trunk_87 : decode cX8_trunk 87 = .ok (.iload_n 2, 1) := by decide +kernel
theorem dX8_trunk_88 : decode cX8_trunk 88 = .ok (.bipush 100, 2) := by decide +kernel
theorem dX8_trunk_90 : decode cX8_trunk 90 = .ok (.idiv, 1) := by decide +kernel
theorem dX8_trunk_91 : decode cX8_trunk 91 = .ok (.iastore, 1) := by decide +kernel
theorem dX8_trunk_92 : decode cX8_trunk 92 = .ok (.aload_n 0, 1) := by decide +kernel
theorem dX8_trunk_93 : decode cX8_trunk 93 = .ok (.getfield 44, 3) := by decide +kernel
theorem dX8_trunk_96 : decode cX8_trunk 96 = .ok (.aload_n 0, 1) := by decide +kernel
theorem dX8_trunk_97 : decode cX8_trunk 97 = .ok (.getfield 148, 3) := by decide +kernel
theorem dX8_trunk_100 : decode cX8_trunk 100 = .ok (.iload_n 2, 1) := by decide +kernel
theorem dX8_trunk_101 : decode cX8_trunk 101 = .ok (.bipush 10, 2) := by decide +kernel
theorem dX8_trunk_103 : decode cX8_trunk 103 = .ok (.idiv, 1) := by decide +kernel
theorem dX8_trunk_104 : decode cX8_trunk 104 = .ok (.bipush 10, 2) := by decide +kernel
theorem dX8_trunk_106 : decode cX8_trunk 106 = .ok (.irem, 1) := by decide +kernel
theorem dX8_trunk_107 : decode cX8_trunk 107 = .ok (.iastore, 1) := by decide +kernel
theorem dX8_trunk_108 : decode cX8_trunk 108 = .ok (.aload_n 0, 1) := by decide +kernel
theorem dX8_trunk_109 : decode cX8_trunk 109 = .ok (.getfield 47, 3) := by decide +kernel
theorem dX8_trunk_112 : decode cX8_trunk 112 = .ok (.aload_n 0, 1) := by decide +kernel
theorem dX8_trunk_113 : decode cX8_trunk 113 = .ok (.getfield 148, 3) := by decide +kernel
theorem dX8_trunk_116 : decode cX8_trunk 116 = .ok (.iload_n 2, 1) := by decide +kernel
theorem dX8_trunk_117 : decode cX8_trunk 117 = .ok (.bipush 10, 2) := by decide +kernel
theorem dX8_trunk_119 : decode cX8_trunk 119 = .ok (.irem, 1) := by decide +kernel
theorem dX8_trunk_120 : decode cX8_trunk 120 = .ok (.iastore, 1) := by decide +kernel
theorem dX8_trunk_121 : decode cX8_trunk 121 = .ok (.aload_n 0, 1) := by decide +kernel
theorem dX8_trunk_122 : decode cX8_trunk 122 = .ok (.getfield 53, 3) := by decide +kernel
theorem dX8_trunk_125 : decode cX8_trunk 125 = .ok (.aload_n 0, 1) := by decide +kernel
theorem dX8_trunk_126 : decode cX8_trunk 126 = .ok (.getfield 148, 3) := by decide +kernel
theorem dX8_trunk_129 : decode cX8_trunk 129 = .ok (.iload_n 3, 1) := by decide +kernel
theorem dX8_trunk_130 : decode cX8_trunk 130 = .ok (.iastore, 1) := by decide +kernel
theorem dX8_trunk_131 : decode cX8_trunk 131 = .ok (.aload_n 0, 1) := by decide +kernel
theorem dX8_trunk_132 : decode cX8_trunk 132 = .ok (.getfield 56, 3) := by decide +kernel
theorem dX8_trunk_135 : decode cX8_trunk 135 = .ok (.aload_n 0, 1) := by decide +kernel
theorem dX8_trunk_136 : decode cX8_trunk 136 = .ok (.getfield 148, 3) := by decide +kernel
theorem dX8_trunk_139 : decode cX8_trunk 139 = .ok (.iconst (-1), 1) := by decide +kernel
theorem dX8_trunk_140 : decode cX8_trunk 140 = .ok (.iastore, 1) := by decide +kernel
theorem dX8_trunk_141 : decode cX8_trunk 141 = .ok (.aload_n 0, 1) := by decide +kernel
theorem dX8_trunk_142 : decode cX8_trunk 142 = .ok (.getfield 65, 3) := by decide +kernel
theorem dX8_trunk_145 : decode cX8_trunk 145 = .ok (.aload_n 0, 1) := by decide +kernel
theorem dX8_trunk_146 : decode cX8_trunk 146 = .ok (.getfield 148, 3) := by decide +kernel
theorem dX8_trunk_149 : decode cX8_trunk 149 = .ok (.iconst (-1), 1) := by decide +kernel
theorem dX8_trunk_150 : decode cX8_trunk 150 = .ok (.iastore, 1) := by decide +kernel
theorem dX8_trunk_151 : decode cX8_trunk 151 = .ok (.aload_n 0, 1) := by decide +kernel
theorem dX8_trunk_152 : decode cX8_trunk 152 = .ok (.dup, 1) := by decide +kernel
theorem dX8_trunk_153 : decode cX8_trunk 153 = .ok (.getfield 148, 3) := by decide +kernel
theorem dX8_trunk_156 : decode cX8_trunk 156 = .ok (.iconst 1, 1) := by decide +kernel
theorem dX8_trunk_157 : decode cX8_trunk 157 = .ok (.iadd, 1) := by decide +kernel
theorem dX8_trunk_158 : decode cX8_trunk 158 = .ok (.putfield 148, 3) := by decide +kernel
theorem dX8_trunk_161 : decode cX8_trunk 161 = .ok (.aload_n 0, 1) := by decide +kernel
theorem dX8_trunk_162 : decode cX8_trunk 162 = .ok (.getfield 148, 3) := by decide +kernel
theorem dX8_trunk_165 : decode cX8_trunk 165 = .ok (.iconst 1, 1) := by decide +kernel
theorem dX8_trunk_166 : decode cX8_trunk 166 = .ok (.isub, 1) := by decide +kernel
theorem dX8_trunk_167 : decode cX8_trunk 167 = .ok (.ireturn, 1) := by decide +kernel
theorem dX8_find_0 : decode cX8_find 0 = .ok (.iconst 0, 1) := by decide +kernel
theorem dX8_find_1 : decode cX8_find 1 = .ok (.istore_n 2, 1) := by decide +kernel
theorem dX8_find_2 : decode cX8_find 2 = .ok (.iload_n 2, 1) := by decide +kernel
theorem dX8_find_3 : decode cX8_find 3 = .ok (.aload_n 0, 1) := by decide +kernel
theorem dX8_find_4 : decode cX8_find 4 = .ok (.getfield 148, 3) := by decide +kernel
theorem dX8_find_7 : decode cX8_find 7 = .ok (.if_icmp .ge 21, 3) := by decide +kernel
theorem dX8_find_10 : decode cX8_find 10 = .ok (.aload_n 0, 1) := by decide +kernel
theorem dX8_find_11 : decode cX8_find 11 = .ok (.getfield 38, 3) := by decide +kernel
theorem dX8_find_14 : decode cX8_find 14 = .ok (.iload_n 2, 1) := by decide +kernel
theorem dX8_find_15 : decode cX8_find 15 = .ok (.iaload, 1) := by decide +kernel
theorem dX8_find_16 : decode cX8_find 16 = .ok (.iload_n 1, 1) := by decide +kernel
theorem dX8_find_17 : decode cX8_find 17 = .ok (.if_icmp .ne 5, 3) := by decide +kernel
theorem dX8_find_20 : decode cX8_find 20 = .ok (.iload_n 2, 1) := by decide +kernel
theorem dX8_find_21 : decode cX8_find 21 = .ok (.ireturn, 1) := by decide +kernel
theorem dX8_find_22 : decode cX8_find 22 = .ok (.iinc 2 1, 3) := by decide +kernel
theorem dX8_find_25 : decode cX8_find 25 = .ok (.goto (-23), 3) := by decide +kernel
theorem dX8_find_28 : decode cX8_find 28 = .ok (.iconst (-1), 1) := by decide +kernel
theorem dX8_find_29 : decode cX8_find 29 = .ok (.ireturn, 1) := by decide +kernel
theorem dX8_isNext_0 : decode cX8_isNext 0 = .ok (.iconst 0, 1) := by decide +kernel
theorem dX8_isNext_1 : decode cX8_isNext 1 = .ok (.istore_n 2, 1) := by decide +kernel
theorem dX8_isNext_2 : decode cX8_isNext 2 = .ok (.iload_n 2, 1) := by decide +kernel
theorem dX8_isNext_3 : decode cX8_isNext 3 = .ok (.aload_n 0, 1) := by decide +kernel
theorem dX8_isNext_4 : decode cX8_isNext 4 = .ok (.getfield 164, 3) := by decide +kernel
theorem dX8_isNext_7 : decode cX8_isNext 7 = .ok (.if_icmp .ge 21, 3) := by decide +kernel
theorem dX8_isNext_10 : decode cX8_isNext 10 = .ok (.aload_n 0, 1) := by decide +kernel
theorem dX8_isNext_11 : decode cX8_isNext 11 = .ok (.getfield 68, 3) := by decide +kernel
theorem dX8_isNext_14 : decode cX8_isNext 14 = .ok (.iload_n 2, 1) := by decide +kernel
theorem dX8_isNext_15 : decode cX8_isNext 15 = .ok (.iaload, 1) := by decide +kernel
theorem dX8_isNext_16 : decode cX8_isNext 16 = .ok (.iload_n 1, 1) := by decide +kernel
theorem dX8_isNext_17 : decode cX8_isNext 17 = .ok (.if_icmp .ne 5, 3) := by decide +kernel
theorem dX8_isNext_20 : decode cX8_isNext 20 = .ok (.iconst 1, 1) := by decide +kernel
theorem dX8_isNext_21 : decode cX8_isNext 21 = .ok (.ireturn, 1) := by decide +kernel
theorem dX8_isNext_22 : decode cX8_isNext 22 = .ok (.iinc 2 1, 3) := by decide +kernel
theorem dX8_isNext_25 : decode cX8_isNext 25 = .ok (.goto (-23), 3) := by decide +kernel
theorem dX8_isNext_28 : decode cX8_isNext 28 = .ok (.iconst 0, 1) := by decide +kernel
theorem dX8_isNext_29 : decode cX8_isNext 29 = .ok (.ireturn, 1) := by decide +kernel
theorem dX8_put_0 : decode cX8_put 0 = .ok (.aload_n 0, 1) := by decide +kernel
theorem dX8_put_1 : decode cX8_put 1 = .ok (.iload_n 1, 1) := by decide +kernel
theorem dX8_put_2 : decode cX8_put 2 = .ok (.invokevirtual 167, 3) := by decide +kernel
theorem dX8_put_5 : decode cX8_put 5 = .ok (.ifCond .eq 29, 3) := by decide +kernel
theorem dX8_put_8 : decode cX8_put 8 = .ok (.aload_n 0, 1) := by decide +kernel
theorem dX8_put_9 : decode cX8_put 9 = .ok (.getfield 50, 3) := by decide +kernel
theorem dX8_put_12 : decode cX8_put 12 = .ok (.iload_n 1, 1) := by decide +kernel
theorem dX8_put_13 : decode cX8_put 13 = .ok (.iaload, 1) := by decide +kernel
theorem dX8_put_14 : decode cX8_put 14 = .ok (.ifCond .ne 20, 3) := by decide +kernel
theorem dX8_put_17 : decode cX8_put 17 = .ok (.aload_n 0, 1) := by decide +kernel
theorem dX8_put_18 : decode cX8_put 18 = .ok (.iload_n 1, 1) := by decide +kernel
theorem dX8_put_19 : decode cX8_put 19 = .ok (.invokevirtual 170, 3) := by decide +kernel
theorem dX8_put_22 : decode cX8_put 22 = .ok (.ifCond .ne 12, 3) := by decide +kernel
theorem dX8_put_25 : decode cX8_put 25 = .ok (.aload_n 0, 1) := by decide +kernel
theorem dX8_put_26 : decode cX8_put 26 = .ok (.getfield 164, 3) := by decide +kernel
theorem dX8_put_29 : decode cX8_put 29 = .ok (.bipush 9, 2) := by decide +kernel
theorem dX8_put_31 : decode cX8_put 31 = .ok (.if_icmp .ne 5, 3) := by decide +kernel
theorem dX8_put_34 : decode cX8_put 34 = .ok (.iconst (-1), 1) := by decide +kernel
theorem dX8_put_35 : decode cX8_put 35 = .ok (.ireturn, 1) := by decide +kernel
theorem dX8_put_36 : decode cX8_put 36 = .ok (.aload_n 0, 1) := by decide +kernel
theorem dX8_put_37 : decode cX8_put 37 = .ok (.getfield 164, 3) := by decide +kernel
theorem dX8_put_40 : decode cX8_put 40 = .ok (.ifCond .le 25, 3) := by decide +kernel
theorem dX8_put_43 : decode cX8_put 43 = .ok (.aload_n 0, 1) := by decide +kernel
theorem dX8_put_44 : decode cX8_put 44 = .ok (.getfield 53, 3) := by decide +kernel
theorem dX8_put_47 : decode cX8_put 47 = .ok (.aload_n 0, 1) := by decide +kernel
theorem dX8_put_48 : decode cX8_put 48 = .ok (.getfield 68, 3) := by decide +kernel
theorem dX8_put_51 : decode cX8_put 51 = .ok (.iconst 0, 1) := by decide +kernel
theorem dX8_put_52 : decode cX8_put 52 = .ok (.iaload, 1) := by decide +kernel
theorem dX8_put_53 : decode cX8_put 53 = .ok (.iaload, 1) := by decide +kernel
theorem dX8_put_54 : decode cX8_put 54 = .ok (.aload_n 0, 1) := by decide +kernel
theorem dX8_put_55 : decode cX8_put 55 = .ok (.getfield 53, 3) := by decide +kernel
theorem dX8_put_58 : decode cX8_put 58 = .ok (.iload_n 1, 1) := by decide +kernel
theorem dX8_put_59 : decode cX8_put 59 = .ok (.iaload, 1) := by decide +kernel
theorem dX8_put_60 : decode cX8_put 60 = .ok (.if_icmp .eq 5, 3) := by decide +kernel
theorem dX8_put_63 : decode cX8_put 63 = .ok (.iconst (-1), 1) := by decide +kernel
theorem dX8_put_64 : decode cX8_put 64 = .ok (.ireturn, 1) := by decide +kernel
theorem dX8_put_65 : decode cX8_put 65 = .ok (.aload_n 0, 1) := by decide +kernel
theorem dX8_put_66 : decode cX8_put 66 = .ok (.getfield 68, 3) := by decide +kernel
theorem dX8_put_69 : decode cX8_put 69 = .ok (.aload_n 0, 1) := by decide +kernel
theorem dX8_put_70 : decode cX8_put 70 = .ok (.getfield 164, 3) := by decide +kernel
theorem dX8_put_73 : decode cX8_put 73 = .ok (.iload_n 1, 1) := by decide +kernel
theorem dX8_put_74 : decode cX8_put 74 = .ok (.iastore, 1) := by decide +kernel
theorem dX8_put_75 : decode cX8_put 75 = .ok (.aload_n 0, 1) := by decide +kernel
theorem dX8_put_76 : decode cX8_put 76 = .ok (.dup, 1) := by decide +kernel
theorem dX8_put_77 : decode cX8_put 77 = .ok (.getfield 164, 3) := by decide +kernel
theorem dX8_put_80 : decode cX8_put 80 = .ok (.iconst 1, 1) := by decide +kernel
theorem dX8_put_81 : decode cX8_put 81 = .ok (.iadd, 1) := by decide +kernel
theorem dX8_put_82 : decode cX8_put 82 = .ok (.putfield 164, 3) := by decide +kernel
theorem dX8_put_85 : decode cX8_put 85 = .ok (.aload_n 0, 1) := by decide +kernel
theorem dX8_put_86 : decode cX8_put 86 = .ok (.getfield 164, 3) := by decide +kernel
theorem dX8_put_89 : decode cX8_put 89 = .ok (.ireturn, 1) := by decide +kernel
theorem dX8_newRaft_0 : decode cX8_newRaft 0 = .ok (.aload_n 0, 1) := by decide +kernel
theorem dX8_newRaft_1 : decode cX8_newRaft 1 = .ok (.getfield 71, 3) := by decide +kernel
theorem dX8_newRaft_4 : decode cX8_newRaft 4 = .ok (.aload_n 0, 1) := by decide +kernel
theorem dX8_newRaft_5 : decode cX8_newRaft 5 = .ok (.getfield 151, 3) := by decide +kernel
theorem dX8_newRaft_8 : decode cX8_newRaft 8 = .ok (.iconst 0, 1) := by decide +kernel
theorem dX8_newRaft_9 : decode cX8_newRaft 9 = .ok (.iastore, 1) := by decide +kernel
theorem dX8_newRaft_10 : decode cX8_newRaft 10 = .ok (.aload_n 0, 1) := by decide +kernel
theorem dX8_newRaft_11 : decode cX8_newRaft 11 = .ok (.getfield 74, 3) := by decide +kernel
theorem dX8_newRaft_14 : decode cX8_newRaft 14 = .ok (.aload_n 0, 1) := by decide +kernel
theorem dX8_newRaft_15 : decode cX8_newRaft 15 = .ok (.getfield 151, 3) := by decide +kernel
theorem dX8_newRaft_18 : decode cX8_newRaft 18 = .ok (.iload_n 1, 1) := by decide +kernel
theorem dX8_newRaft_19 : decode cX8_newRaft 19 = .ok (.iastore, 1) := by decide +kernel
theorem dX8_newRaft_20 : decode cX8_newRaft 20 = .ok (.aload_n 0, 1) := by decide +kernel
theorem dX8_newRaft_21 : decode cX8_newRaft 21 = .ok (.getfield 80, 3) := by decide +kernel
theorem dX8_newRaft_24 : decode cX8_newRaft 24 = .ok (.aload_n 0, 1) := by decide +kernel
theorem dX8_newRaft_25 : decode cX8_newRaft 25 = .ok (.getfield 151, 3) := by decide +kernel
theorem dX8_newRaft_28 : decode cX8_newRaft 28 = .ok (.iconst (-1), 1) := by decide +kernel
theorem dX8_newRaft_29 : decode cX8_newRaft 29 = .ok (.iastore, 1) := by decide +kernel
theorem dX8_newRaft_30 : decode cX8_newRaft 30 = .ok (.aload_n 0, 1) := by decide +kernel
theorem dX8_newRaft_31 : decode cX8_newRaft 31 = .ok (.getfield 83, 3) := by decide +kernel
theorem dX8_newRaft_34 : decode cX8_newRaft 34 = .ok (.aload_n 0, 1) := by decide +kernel
end
section
theorem dX8_newRaft_35 : decode cX8_newRaft 35 = .ok (.getfield 151, 3) := by decide +kernel
theorem dX8_newRaft_38 : decode cX8_newRaft 38 = .ok (.iconst (-1), 1) := by decide +kernel
theorem dX8_newRaft_39 : decode cX8_newRaft 39 = .ok (.iastore, 1) := by decide +kernel
theorem dX8_newRaft_40 : decode cX8_newRaft 40 = .ok (.aload_n 0, 1) := by decide +kernel
theorem dX8_newRaft_41 : decode cX8_newRaft 41 = .ok (.dup, 1) := by decide +kernel
theorem dX8_newRaft_42 : decode cX8_newRaft 42 = .ok (.getfield 151, 3) := by decide +kernel
theorem dX8_newRaft_45 : decode cX8_newRaft 45 = .ok (.iconst 1, 1) := by decide +kernel
theorem dX8_newRaft_46 : decode cX8_newRaft 46 = .ok (.iadd, 1) := by decide +kernel
theorem dX8_newRaft_47 : decode cX8_newRaft 47 = .ok (.putfield 151, 3) := by decide +kernel
theorem dX8_newRaft_50 : decode cX8_newRaft 50 = .ok (.aload_n 0, 1) := by decide +kernel
theorem dX8_newRaft_51 : decode cX8_newRaft 51 = .ok (.getfield 151, 3) := by decide +kernel
theorem dX8_newRaft_54 : decode cX8_newRaft 54 = .ok (.iconst 1, 1) := by decide +kernel
theorem dX8_newRaft_55 : decode cX8_newRaft 55 = .ok (.isub, 1) := by decide +kernel
theorem dX8_newRaft_56 : decode cX8_newRaft 56 = .ok (.ireturn, 1) := by decide +kernel
theorem dX8_bind_0 : decode cX8_bind 0 = .ok (.aload_n 0, 1) := by decide +kernel
theorem dX8_bind_1 : decode cX8_bind 1 = .ok (.getfield 164, 3) := by decide +kernel
theorem dX8_bind_4 : decode cX8_bind 4 = .ok (.ifCond .eq 12, 3) := by decide +kernel
theorem dX8_bind_7 : decode cX8_bind 7 = .ok (.aload_n 0, 1) := by decide +kernel
theorem dX8_bind_8 : decode cX8_bind 8 = .ok (.getfield 151, 3) := by decide +kernel
theorem dX8_bind_11 : decode cX8_bind 11 = .ok (.bipush 60, 2) := by decide +kernel
theorem dX8_bind_13 : decode cX8_bind 13 = .ok (.if_icmp .ne 5, 3) := by decide +kernel
theorem dX8_bind_16 : decode cX8_bind 16 = .ok (.iconst (-1), 1) := by decide +kernel
theorem dX8_bind_17 : decode cX8_bind 17 = .ok (.ireturn, 1) := by decide +kernel
theorem dX8_bind_18 : decode cX8_bind 18 = .ok (.aload_n 0, 1) := by decide +kernel
theorem dX8_bind_19 : decode cX8_bind 19 = .ok (.aload_n 0, 1) := by decide +kernel
theorem dX8_bind_20 : decode cX8_bind 20 = .ok (.getfield 53, 3) := by decide +kernel
theorem dX8_bind_23 : decode cX8_bind 23 = .ok (.aload_n 0, 1) := by decide +kernel
theorem dX8_bind_24 : decode cX8_bind 24 = .ok (.getfield 68, 3) := by decide +kernel
theorem dX8_bind_27 : decode cX8_bind 27 = .ok (.iconst 0, 1) := by decide +kernel
theorem dX8_bind_28 : decode cX8_bind 28 = .ok (.iaload, 1) := by decide +kernel
theorem dX8_bind_29 : decode cX8_bind 29 = .ok (.iaload, 1) := by decide +kernel
theorem dX8_bind_30 : decode cX8_bind 30 = .ok (.invokevirtual 173, 3) := by decide +kernel
theorem dX8_bind_33 : decode cX8_bind 33 = .ok (.istore_n 1, 1) := by decide +kernel
theorem dX8_bind_34 : decode cX8_bind 34 = .ok (.aload_n 0, 1) := by decide +kernel
theorem dX8_bind_35 : decode cX8_bind 35 = .ok (.getfield 77, 3) := by decide +kernel
theorem dX8_bind_38 : decode cX8_bind 38 = .ok (.iload_n 1, 1) := by decide +kernel
theorem dX8_bind_39 : decode cX8_bind 39 = .ok (.iconst 1, 1) := by decide +kernel
theorem dX8_bind_40 : decode cX8_bind 40 = .ok (.iastore, 1) := by decide +kernel
theorem dX8_bind_41 : decode cX8_bind 41 = .ok (.iconst 0, 1) := by decide +kernel
theorem dX8_bind_42 : decode cX8_bind 42 = .ok (.istore_n 2, 1) := by decide +kernel
theorem dX8_bind_43 : decode cX8_bind 43 = .ok (.iload_n 2, 1) := by decide +kernel
theorem dX8_bind_44 : decode cX8_bind 44 = .ok (.aload_n 0, 1) := by decide +kernel
theorem dX8_bind_45 : decode cX8_bind 45 = .ok (.getfield 164, 3) := by decide +kernel
theorem dX8_bind_48 : decode cX8_bind 48 = .ok (.if_icmp .ge 57, 3) := by decide +kernel
theorem dX8_bind_51 : decode cX8_bind 51 = .ok (.aload_n 0, 1) := by decide +kernel
theorem dX8_bind_52 : decode cX8_bind 52 = .ok (.getfield 50, 3) := by decide +kernel
theorem dX8_bind_55 : decode cX8_bind 55 = .ok (.aload_n 0, 1) := by decide +kernel
theorem dX8_bind_56 : decode cX8_bind 56 = .ok (.getfield 68, 3) := by decide +kernel
theorem dX8_bind_59 : decode cX8_bind 59 = .ok (.iload_n 2, 1) := by decide +kernel
theorem dX8_bind_60 : decode cX8_bind 60 = .ok (.iaload, 1) := by decide +kernel
theorem dX8_bind_61 : decode cX8_bind 61 = .ok (.iconst 1, 1) := by decide +kernel
theorem dX8_bind_62 : decode cX8_bind 62 = .ok (.iastore, 1) := by decide +kernel
theorem dX8_bind_63 : decode cX8_bind 63 = .ok (.aload_n 0, 1) := by decide +kernel
theorem dX8_bind_64 : decode cX8_bind 64 = .ok (.getfield 56, 3) := by decide +kernel
theorem dX8_bind_67 : decode cX8_bind 67 = .ok (.aload_n 0, 1) := by decide +kernel
theorem dX8_bind_68 : decode cX8_bind 68 = .ok (.getfield 68, 3) := by decide +kernel
theorem dX8_bind_71 : decode cX8_bind 71 = .ok (.iload_n 2, 1) := by decide +kernel
theorem dX8_bind_72 : decode cX8_bind 72 = .ok (.iaload, 1) := by decide +kernel
theorem dX8_bind_73 : decode cX8_bind 73 = .ok (.iload_n 1, 1) := by decide +kernel
theorem dX8_bind_74 : decode cX8_bind 74 = .ok (.iastore, 1) := by decide +kernel
theorem dX8_bind_75 : decode cX8_bind 75 = .ok (.aload_n 0, 1) := by decide +kernel
theorem dX8_bind_76 : decode cX8_bind 76 = .ok (.getfield 59, 3) := by decide +kernel
theorem dX8_bind_79 : decode cX8_bind 79 = .ok (.aload_n 0, 1) := by decide +kernel
theorem dX8_bind_80 : decode cX8_bind 80 = .ok (.getfield 68, 3) := by decide +kernel
theorem dX8_bind_83 : decode cX8_bind 83 = .ok (.iload_n 2, 1) := by decide +kernel
theorem dX8_bind_84 : decode cX8_bind 84 = .ok (.iaload, 1) := by decide +kernel
theorem dX8_bind_85 : decode cX8_bind 85 = .ok (.iconst 0, 1) := by decide +kernel
theorem dX8_bind_86 : decode cX8_bind 86 = .ok (.iastore, 1) := by decide +kernel
theorem dX8_bind_87 : decode cX8_bind 87 = .ok (.aload_n 0, 1) := by decide +kernel
theorem dX8_bind_88 : decode cX8_bind 88 = .ok (.getfield 62, 3) := by decide +kernel
theorem dX8_bind_91 : decode cX8_bind 91 = .ok (.aload_n 0, 1) := by decide +kernel
theorem dX8_bind_92 : decode cX8_bind 92 = .ok (.getfield 68, 3) := by decide +kernel
theorem dX8_bind_95 : decode cX8_bind 95 = .ok (.iload_n 2, 1) := by decide +kernel
theorem dX8_bind_96 : decode cX8_bind 96 = .ok (.iaload, 1) := by decide +kernel
theorem dX8_bind_97 : decode cX8_bind 97 = .ok (.iload_n 2, 1) := by decide +kernel
theorem dX8_bind_98 : decode cX8_bind 98 = .ok (.iastore, 1) := by decide +kernel
theorem dX8_bind_99 : decode cX8_bind 99 = .ok (.iinc 2 1, 3) := by decide +kernel
theorem dX8_bind_102 : decode cX8_bind 102 = .ok (.goto (-59), 3) := by decide +kernel
theorem dX8_bind_105 : decode cX8_bind 105 = .ok (.aload_n 0, 1) := by decide +kernel
theorem dX8_bind_106 : decode cX8_bind 106 = .ok (.iconst 0, 1) := by decide +kernel
theorem dX8_bind_107 : decode cX8_bind 107 = .ok (.putfield 164, 3) := by decide +kernel
theorem dX8_bind_110 : decode cX8_bind 110 = .ok (.iload_n 1, 1) := by decide +kernel
theorem dX8_bind_111 : decode cX8_bind 111 = .ok (.ireturn, 1) := by decide +kernel
theorem dX8_isOf_0 : decode cX8_isOf 0 = .ok (.aload_n 0, 1) := by decide +kernel
theorem dX8_isOf_1 : decode cX8_isOf 1 = .ok (.getfield 50, 3) := by decide +kernel
theorem dX8_isOf_4 : decode cX8_isOf 4 = .ok (.iload_n 1, 1) := by decide +kernel
theorem dX8_isOf_5 : decode cX8_isOf 5 = .ok (.iaload, 1) := by decide +kernel
theorem dX8_isOf_6 : decode cX8_isOf 6 = .ok (.iconst 1, 1) := by decide +kernel
theorem dX8_isOf_7 : decode cX8_isOf 7 = .ok (.if_icmp .ne 17, 3) := by decide +kernel
theorem dX8_isOf_10 : decode cX8_isOf 10 = .ok (.aload_n 0, 1) := by decide +kernel
theorem dX8_isOf_11 : decode cX8_isOf 11 = .ok (.getfield 56, 3) := by decide +kernel
theorem dX8_isOf_14 : decode cX8_isOf 14 = .ok (.iload_n 1, 1) := by decide +kernel
theorem dX8_isOf_15 : decode cX8_isOf 15 = .ok (.iaload, 1) := by decide +kernel
theorem dX8_isOf_16 : decode cX8_isOf 16 = .ok (.iload_n 2, 1) := by decide +kernel
theorem dX8_isOf_17 : decode cX8_isOf 17 = .ok (.if_icmp .ne 7, 3) := by decide +kernel
theorem dX8_isOf_20 : decode cX8_isOf 20 = .ok (.iconst 1, 1) := by decide +kernel
theorem dX8_isOf_21 : decode cX8_isOf 21 = .ok (.goto 4, 3) := by decide +kernel
theorem dX8_isOf_24 : decode cX8_isOf 24 = .ok (.iconst 0, 1) := by decide +kernel
theorem dX8_isOf_25 : decode cX8_isOf 25 = .ok (.ireturn, 1) := by decide +kernel
theorem dX8_join_0 : decode cX8_join 0 = .ok (.aload_n 0, 1) := by decide +kernel
theorem dX8_join_1 : decode cX8_join 1 = .ok (.iload_n 1, 1) := by decide +kernel
theorem dX8_join_2 : decode cX8_join 2 = .ok (.iconst 0, 1) := by decide +kernel
theorem dX8_join_3 : decode cX8_join 3 = .ok (.invokevirtual 176, 3) := by decide +kernel
theorem dX8_join_6 : decode cX8_join 6 = .ok (.ifCond .eq 50, 3) := by decide +kernel
theorem dX8_join_9 : decode cX8_join 9 = .ok (.aload_n 0, 1) := by decide +kernel
theorem dX8_join_10 : decode cX8_join 10 = .ok (.iload_n 2, 1) := by decide +kernel
theorem dX8_join_11 : decode cX8_join 11 = .ok (.iconst 0, 1) := by decide +kernel
theorem dX8_join_12 : decode cX8_join 12 = .ok (.invokevirtual 176, 3) := by decide +kernel
theorem dX8_join_15 : decode cX8_join 15 = .ok (.ifCond .eq 41, 3) := by decide +kernel
theorem dX8_join_18 : decode cX8_join 18 = .ok (.iload_n 1, 1) := by decide +kernel
theorem dX8_join_19 : decode cX8_join 19 = .ok (.iload_n 2, 1) := by decide +kernel
theorem dX8_join_20 : decode cX8_join 20 = .ok (.if_icmp .eq 36, 3) := by decide +kernel
theorem dX8_join_23 : decode cX8_join 23 = .ok (.aload_n 0, 1) := by decide +kernel
theorem dX8_join_24 : decode cX8_join 24 = .ok (.getfield 74, 3) := by decide +kernel
theorem dX8_join_27 : decode cX8_join 27 = .ok (.iload_n 1, 1) := by decide +kernel
theorem dX8_join_28 : decode cX8_join 28 = .ok (.iaload, 1) := by decide +kernel
theorem dX8_join_29 : decode cX8_join 29 = .ok (.aload_n 0, 1) := by decide +kernel
theorem dX8_join_30 : decode cX8_join 30 = .ok (.getfield 74, 3) := by decide +kernel
theorem dX8_join_33 : decode cX8_join 33 = .ok (.iload_n 2, 1) := by decide +kernel
theorem dX8_join_34 : decode cX8_join 34 = .ok (.iaload, 1) := by decide +kernel
theorem dX8_join_35 : decode cX8_join 35 = .ok (.if_icmp .ne 21, 3) := by decide +kernel
theorem dX8_join_38 : decode cX8_join 38 = .ok (.aload_n 0, 1) := by decide +kernel
theorem dX8_join_39 : decode cX8_join 39 = .ok (.getfield 77, 3) := by decide +kernel
theorem dX8_join_42 : decode cX8_join 42 = .ok (.iload_n 1, 1) := by decide +kernel
theorem dX8_join_43 : decode cX8_join 43 = .ok (.iaload, 1) := by decide +kernel
theorem dX8_join_44 : decode cX8_join 44 = .ok (.aload_n 0, 1) := by decide +kernel
theorem dX8_join_45 : decode cX8_join 45 = .ok (.getfield 77, 3) := by decide +kernel
theorem dX8_join_48 : decode cX8_join 48 = .ok (.iload_n 2, 1) := by decide +kernel
theorem dX8_join_49 : decode cX8_join 49 = .ok (.iaload, 1) := by decide +kernel
theorem dX8_join_50 : decode cX8_join 50 = .ok (.iadd, 1) := by decide +kernel
theorem dX8_join_51 : decode cX8_join 51 = .ok (.bipush 8, 2) := by decide +kernel
theorem dX8_join_53 : decode cX8_join 53 = .ok (.if_icmp .le 5, 3) := by decide +kernel
theorem dX8_join_56 : decode cX8_join 56 = .ok (.iconst 0, 1) := by decide +kernel
theorem dX8_join_57 : decode cX8_join 57 = .ok (.ireturn, 1) := by decide +kernel
theorem dX8_join_58 : decode cX8_join 58 = .ok (.iconst 0, 1) := by decide +kernel
theorem dX8_join_59 : decode cX8_join 59 = .ok (.istore_n 3, 1) := by decide +kernel
theorem dX8_join_60 : decode cX8_join 60 = .ok (.iload_n 3, 1) := by decide +kernel
theorem dX8_join_61 : decode cX8_join 61 = .ok (.aload_n 0, 1) := by decide +kernel
theorem dX8_join_62 : decode cX8_join 62 = .ok (.getfield 148, 3) := by decide +kernel
theorem dX8_join_65 : decode cX8_join 65 = .ok (.if_icmp .ge 43, 3) := by decide +kernel
theorem dX8_join_68 : decode cX8_join 68 = .ok (.aload_n 0, 1) := by decide +kernel
theorem dX8_join_69 : decode cX8_join 69 = .ok (.iload_n 3, 1) := by decide +kernel
theorem dX8_join_70 : decode cX8_join 70 = .ok (.iload_n 2, 1) := by decide +kernel
theorem dX8_join_71 : decode cX8_join 71 = .ok (.invokevirtual 180, 3) := by decide +kernel
theorem dX8_join_74 : decode cX8_join 74 = .ok (.ifCond .ne 6, 3) := by decide +kernel
theorem dX8_join_77 : decode cX8_join 77 = .ok (.goto 25, 3) := by decide +kernel
theorem dX8_join_80 : decode cX8_join 80 = .ok (.aload_n 0, 1) := by decide +kernel
theorem dX8_join_81 : decode cX8_join 81 = .ok (.getfield 56, 3) := by decide +kernel
theorem dX8_join_84 : decode cX8_join 84 = .ok (.iload_n 3, 1) := by decide +kernel
theorem dX8_join_85 : decode cX8_join 85 = .ok (.iload_n 1, 1) := by decide +kernel
theorem dX8_join_86 : decode cX8_join 86 = .ok (.iastore, 1) := by decide +kernel
theorem dX8_join_87 : decode cX8_join 87 = .ok (.aload_n 0, 1) := by decide +kernel
theorem dX8_join_88 : decode cX8_join 88 = .ok (.getfield 59, 3) := by decide +kernel
theorem dX8_join_91 : decode cX8_join 91 = .ok (.iload_n 3, 1) := by decide +kernel
theorem dX8_join_92 : decode cX8_join 92 = .ok (.dup2, 1) := by decide +kernel
theorem dX8_join_93 : decode cX8_join 93 = .ok (.iaload, 1) := by decide +kernel
theorem dX8_join_94 : decode cX8_join 94 = .ok (.aload_n 0, 1) := by decide +kernel
theorem dX8_join_95 : decode cX8_join 95 = .ok (.getfield 77, 3) := by decide +kernel
theorem dX8_join_98 : decode cX8_join 98 = .ok (.iload_n 1, 1) := by decide +kernel
theorem dX8_join_99 : decode cX8_join 99 = .ok (.iaload, 1) := by decide +kernel
theorem dX8_join_100 : decode cX8_join 100 = .ok (.iadd, 1) := by decide +kernel
theorem dX8_join_101 : decode cX8_join 101 = .ok (.iastore, 1) := by decide +kernel
theorem dX8_join_102 : decode cX8_join 102 = .ok (.iinc 3 1, 3) := by decide +kernel
theorem dX8_join_105 : decode cX8_join 105 = .ok (.goto (-45), 3) := by decide +kernel
theorem dX8_join_108 : decode cX8_join 108 = .ok (.aload_n 0, 1) := by decide +kernel
theorem dX8_join_109 : decode cX8_join 109 = .ok (.getfield 77, 3) := by decide +kernel
theorem dX8_join_112 : decode cX8_join 112 = .ok (.iload_n 1, 1) := by decide +kernel
theorem dX8_join_113 : decode cX8_join 113 = .ok (.dup2, 1) := by decide +kernel
theorem dX8_join_114 : decode cX8_join 114 = .ok (.iaload, 1) := by decide +kernel
theorem dX8_join_115 : decode cX8_join 115 = .ok (.aload_n 0, 1) := by decide +kernel
theorem dX8_join_116 : decode cX8_join 116 = .ok (.getfield 77, 3) := by decide +kernel
theorem dX8_join_119 : decode cX8_join 119 = .ok (.iload_n 2, 1) := by decide +kernel
theorem dX8_join_120 : decode cX8_join 120 = .ok (.iaload, 1) := by decide +kernel
theorem dX8_join_121 : decode cX8_join 121 = .ok (.iadd, 1) := by decide +kernel
theorem dX8_join_122 : decode cX8_join 122 = .ok (.iastore, 1) := by decide +kernel
theorem dX8_join_123 : decode cX8_join 123 = .ok (.aload_n 0, 1) := by decide +kernel
theorem dX8_join_124 : decode cX8_join 124 = .ok (.iload_n 2, 1) := by decide +kernel
theorem dX8_join_125 : decode cX8_join 125 = .ok (.invokevirtual 183, 3) := by decide +kernel
theorem dX8_join_128 : decode cX8_join 128 = .ok (.iconst 1, 1) := by decide +kernel
theorem dX8_join_129 : decode cX8_join 129 = .ok (.ireturn, 1) := by decide +kernel
theorem dX8_ends_0 : decode cX8_ends 0 = .ok (.aload_n 0, 1) := by decide +kernel
theorem dX8_ends_1 : decode cX8_ends 1 = .ok (.getfield 71, 3) := by decide +kernel
theorem dX8_ends_4 : decode cX8_ends 4 = .ok (.iload_n 1, 1) := by decide +kernel
theorem dX8_ends_5 : decode cX8_ends 5 = .ok (.iconst 3, 1) := by decide +kernel
theorem dX8_ends_6 : decode cX8_ends 6 = .ok (.iastore, 1) := by decide +kernel
theorem dX8_ends_7 : decode cX8_ends 7 = .ok (.aload_n 0, 1) := by decide +kernel
theorem dX8_ends_8 : decode cX8_ends 8 = .ok (.getfield 77, 3) := by decide +kernel
theorem dX8_ends_11 : decode cX8_ends 11 = .ok (.iload_n 1, 1) := by decide +kernel
theorem dX8_ends_12 : decode cX8_ends 12 = .ok (.iconst 0, 1) := by decide +kernel
theorem dX8_ends_13 : decode cX8_ends 13 = .ok (.iastore, 1) := by decide +kernel
theorem dX8_ends_14 : decode cX8_ends 14 = .ok (.aload_n 0, 1) := by decide +kernel
theorem dX8_ends_15 : decode cX8_ends 15 = .ok (.getfield 80, 3) := by decide +kernel
theorem dX8_ends_18 : decode cX8_ends 18 = .ok (.iload_n 1, 1) := by decide +kernel
theorem dX8_ends_19 : decode cX8_ends 19 = .ok (.iconst (-1), 1) := by decide +kernel
theorem dX8_ends_20 : decode cX8_ends 20 = .ok (.iastore, 1) := by decide +kernel
theorem dX8_ends_21 : decode cX8_ends 21 = .ok (.aload_n 0, 1) := by decide +kernel
theorem dX8_ends_22 : decode cX8_ends 22 = .ok (.getfield 83, 3) := by decide +kernel
theorem dX8_ends_25 : decode cX8_ends 25 = .ok (.iload_n 1, 1) := by decide +kernel
theorem dX8_ends_26 : decode cX8_ends 26 = .ok (.iconst (-1), 1) := by decide +kernel
theorem dX8_ends_27 : decode cX8_ends 27 = .ok (.iastore, 1) := by decide +kernel
theorem dX8_ends_28 : decode cX8_ends 28 = .ok (.return_, 1) := by decide +kernel
theorem dX8_part_0 : decode cX8_part 0 = .ok (.aload_n 0, 1) := by decide +kernel
theorem dX8_part_1 : decode cX8_part 1 = .ok (.iload_n 1, 1) := by decide +kernel
theorem dX8_part_2 : decode cX8_part 2 = .ok (.iconst 0, 1) := by decide +kernel
theorem dX8_part_3 : decode cX8_part 3 = .ok (.invokevirtual 176, 3) := by decide +kernel
theorem dX8_part_6 : decode cX8_part 6 = .ok (.ifCond .eq 27, 3) := by decide +kernel
theorem dX8_part_9 : decode cX8_part 9 = .ok (.iload_n 2, 1) := by decide +kernel
theorem dX8_part_10 : decode cX8_part 10 = .ok (.iconst 1, 1) := by decide +kernel
theorem dX8_part_11 : decode cX8_part 11 = .ok (.if_icmp .lt 22, 3) := by decide +kernel
theorem dX8_part_14 : decode cX8_part 14 = .ok (.aload_n 0, 1) := by decide +kernel
theorem dX8_part_15 : decode cX8_part 15 = .ok (.getfield 77, 3) := by decide +kernel
theorem dX8_part_18 : decode cX8_part 18 = .ok (.iload_n 1, 1) := by decide +kernel
theorem dX8_part_19 : decode cX8_part 19 = .ok (.iaload, 1) := by decide +kernel
theorem dX8_part_20 : decode cX8_part 20 = .ok (.iload_n 2, 1) := by decide +kernel
theorem dX8_part_21 : decode cX8_part 21 = .ok (.if_icmp .le 12, 3) := by decide +kernel
theorem dX8_part_24 : decode cX8_part 24 = .ok (.aload_n 0, 1) := by decide +kernel
theorem dX8_part_25 : decode cX8_part 25 = .ok (.getfield 151, 3) := by decide +kernel
theorem dX8_part_28 : decode cX8_part 28 = .ok (.bipush 60, 2) := by decide +kernel
theorem dX8_part_30 : decode cX8_part 30 = .ok (.if_icmp .ne 5, 3) := by decide +kernel
theorem dX8_part_33 : decode cX8_part 33 = .ok (.iconst (-1), 1) := by decide +kernel
theorem dX8_part_34 : decode cX8_part 34 = .ok (.ireturn, 1) := by decide +kernel
theorem dX8_part_35 : decode cX8_part 35 = .ok (.aload_n 0, 1) := by decide +kernel
theorem dX8_part_36 : decode cX8_part 36 = .ok (.aload_n 0, 1) := by decide +kernel
theorem dX8_part_37 : decode cX8_part 37 = .ok (.getfield 74, 3) := by decide +kernel
theorem dX8_part_40 : decode cX8_part 40 = .ok (.iload_n 1, 1) := by decide +kernel
theorem dX8_part_41 : decode cX8_part 41 = .ok (.iaload, 1) := by decide +kernel
theorem dX8_part_42 : decode cX8_part 42 = .ok (.invokevirtual 173, 3) := by decide +kernel
theorem dX8_part_45 : decode cX8_part 45 = .ok (.istore_n 3, 1) := by decide +kernel
theorem dX8_part_46 : decode cX8_part 46 = .ok (.aload_n 0, 1) := by decide +kernel
theorem dX8_part_47 : decode cX8_part 47 = .ok (.getfield 77, 3) := by decide +kernel
theorem dX8_part_50 : decode cX8_part 50 = .ok (.iload_n 3, 1) := by decide +kernel
theorem dX8_part_51 : decode cX8_part 51 = .ok (.iload_n 2, 1) := by decide +kernel
theorem dX8_part_52 : decode cX8_part 52 = .ok (.iastore, 1) := by decide +kernel
theorem dX8_part_53 : decode cX8_part 53 = .ok (.aload_n 0, 1) := by decide +kernel
theorem dX8_part_54 : decode cX8_part 54 = .ok (.getfield 77, 3) := by decide +kernel
theorem dX8_part_57 : decode cX8_part 57 = .ok (.iload_n 1, 1) := by decide +kernel
theorem dX8_part_58 : decode cX8_part 58 = .ok (.dup2, 1) := by decide +kernel
theorem dX8_part_59 : decode cX8_part 59 = .ok (.iaload, 1) := by decide +kernel
theorem dX8_part_60 : decode cX8_part 60 = .ok (.iload_n 2, 1) := by decide +kernel
theorem dX8_part_61 : decode cX8_part 61 = .ok (.isub, 1) := by decide +kernel
theorem dX8_part_62 : decode cX8_part 62 = .ok (.iastore, 1) := by decide +kernel
theorem dX8_part_63 : decode cX8_part 63 = .ok (.iconst 0, 1) := by decide +kernel
theorem dX8_part_64 : decode cX8_part 64 = .ok (.istore 4, 2) := by decide +kernel
theorem dX8_part_66 : decode cX8_part 66 = .ok (.iload 4, 2) := by decide +kernel
theorem dX8_part_68 : decode cX8_part 68 = .ok (.aload_n 0, 1) := by decide +kernel
theorem dX8_part_69 : decode cX8_part 69 = .ok (.getfield 148, 3) := by decide +kernel
theorem dX8_part_72 : decode cX8_part 72 = .ok (.if_icmp .ge 62, 3) := by decide +kernel
theorem dX8_part_75 : decode cX8_part 75 = .ok (.aload_n 0, 1) := by decide +kernel
theorem dX8_part_76 : decode cX8_part 76 = .ok (.iload 4, 2) := by decide +kernel
theorem dX8_part_78 : decode cX8_part 78 = .ok (.iload_n 1, 1) := by decide +kernel
theorem dX8_part_79 : decode cX8_part 79 = .ok (.invokevirtual 180, 3) := by decide +kernel
theorem dX8_part_82 : decode cX8_part 82 = .ok (.ifCond .eq 46, 3) := by decide +kernel
theorem dX8_part_85 : decode cX8_part 85 = .ok (.aload_n 0, 1) := by decide +kernel
theorem dX8_part_86 : decode cX8_part 86 = .ok (.getfield 59, 3) := by decide +kernel
theorem dX8_part_89 : decode cX8_part 89 = .ok (.iload 4, 2) := by decide +kernel
theorem dX8_part_91 : decode cX8_part 91 = .ok (.iaload, 1) := by decide +kernel
theorem dX8_part_92 : decode cX8_part 92 = .ok (.aload_n 0, 1) := by decide +kernel
theorem dX8_part_93 : decode cX8_part 93 = .ok (.getfield 77, 3) := by decide +kernel
theorem dX8_part_96 : decode cX8_part 96 = .ok (.iload_n 1, 1) := by decide +kernel
theorem dX8_part_97 : decode cX8_part 97 = .ok (.iaload, 1) := by decide +kernel
theorem dX8_part_98 : decode cX8_part 98 = .ok (.if_icmp .ge 6, 3) := by decide +kernel
theorem dX8_part_101 : decode cX8_part 101 = .ok (.goto 27, 3) := by decide +kernel
theorem dX8_part_104 : decode cX8_part 104 = .ok (.aload_n 0, 1) := by decide +kernel
theorem dX8_part_105 : decode cX8_part 105 = .ok (.getfield 56, 3) := by decide +kernel
theorem dX8_part_108 : decode cX8_part 108 = .ok (.iload 4, 2) := by decide +kernel
theorem dX8_part_110 : decode cX8_part 110 = .ok (.iload_n 3, 1) := by decide +kernel
theorem dX8_part_111 : decode cX8_part 111 = .ok (.iastore, 1) := by decide +kernel
theorem dX8_part_112 : decode cX8_part 112 = .ok (.aload_n 0, 1) := by decide +kernel
theorem dX8_part_113 : decode cX8_part 113 = .ok (.getfield 59, 3) := by decide +kernel
theorem dX8_part_116 : decode cX8_part 116 = .ok (.iload 4, 2) := by decide +kernel
theorem dX8_part_118 : decode cX8_part 118 = .ok (.dup2, 1) := by decide +kernel
theorem dX8_part_119 : decode cX8_part 119 = .ok (.iaload, 1) := by decide +kernel
theorem dX8_part_120 : decode cX8_part 120 = .ok (.aload_n 0, 1) := by decide +kernel
theorem dX8_part_121 : decode cX8_part 121 = .ok (.getfield 77, 3) := by decide +kernel
theorem dX8_part_124 : decode cX8_part 124 = .ok (.iload_n 1, 1) := by decide +kernel
theorem dX8_part_125 : decode cX8_part 125 = .ok (.iaload, 1) := by decide +kernel
theorem dX8_part_126 : decode cX8_part 126 = .ok (.isub, 1) := by decide +kernel
theorem dX8_part_127 : decode cX8_part 127 = .ok (.iastore, 1) := by decide +kernel
theorem dX8_part_128 : decode cX8_part 128 = .ok (.iinc 4 1, 3) := by decide +kernel
theorem dX8_part_131 : decode cX8_part 131 = .ok (.goto (-65), 3) := by decide +kernel
theorem dX8_part_134 : decode cX8_part 134 = .ok (.iload_n 3, 1) := by decide +kernel
theorem dX8_part_135 : decode cX8_part 135 = .ok (.ireturn, 1) := by decide +kernel
theorem dX8_lays_0 : decode cX8_lays 0 = .ok (.aload_n 0, 1) := by decide +kernel
theorem dX8_lays_1 : decode cX8_lays 1 = .ok (.getfield 50, 3) := by decide +kernel
theorem dX8_lays_4 : decode cX8_lays 4 = .ok (.iload_n 1, 1) := by decide +kernel
theorem dX8_lays_5 : decode cX8_lays 5 = .ok (.iconst 0, 1) := by decide +kernel
theorem dX8_lays_6 : decode cX8_lays 6 = .ok (.iastore, 1) := by decide +kernel
theorem dX8_lays_7 : decode cX8_lays 7 = .ok (.aload_n 0, 1) := by decide +kernel
theorem dX8_lays_8 : decode cX8_lays 8 = .ok (.getfield 53, 3) := by decide +kernel
theorem dX8_lays_11 : decode cX8_lays 11 = .ok (.iload_n 1, 1) := by decide +kernel
theorem dX8_lays_12 : decode cX8_lays 12 = .ok (.iload_n 2, 1) := by decide +kernel
theorem dX8_lays_13 : decode cX8_lays 13 = .ok (.iastore, 1) := by decide +kernel
theorem dX8_lays_14 : decode cX8_lays 14 = .ok (.aload_n 0, 1) := by decide +kernel
theorem dX8_lays_15 : decode cX8_lays 15 = .ok (.getfield 56, 3) := by decide +kernel
theorem dX8_lays_18 : decode cX8_lays 18 = .ok (.iload_n 1, 1) := by decide +kernel
theorem dX8_lays_19 : decode cX8_lays 19 = .ok (.iconst (-1), 1) := by decide +kernel
theorem dX8_lays_20 : decode cX8_lays 20 = .ok (.iastore, 1) := by decide +kernel
theorem dX8_lays_21 : decode cX8_lays 21 = .ok (.return_, 1) := by decide +kernel
theorem dX8_unbind_0 : decode cX8_unbind 0 = .ok (.aload_n 0, 1) := by decide +kernel
theorem dX8_unbind_1 : decode cX8_unbind 1 = .ok (.iload_n 1, 1) := by decide +kernel
theorem dX8_unbind_2 : decode cX8_unbind 2 = .ok (.iconst 0, 1) := by decide +kernel
theorem dX8_unbind_3 : decode cX8_unbind 3 = .ok (.invokevirtual 176, 3) := by decide +kernel
theorem dX8_unbind_6 : decode cX8_unbind 6 = .ok (.ifCond .ne 5, 3) := by decide +kernel
theorem dX8_unbind_9 : decode cX8_unbind 9 = .ok (.iconst 0, 1) := by decide +kernel
theorem dX8_unbind_10 : decode cX8_unbind 10 = .ok (.ireturn, 1) := by decide +kernel
theorem dX8_unbind_11 : decode cX8_unbind 11 = .ok (.iconst 0, 1) := by decide +kernel
theorem dX8_unbind_12 : decode cX8_unbind 12 = .ok (.istore_n 2, 1) := by decide +kernel
theorem dX8_unbind_13 : decode cX8_unbind 13 = .ok (.iload_n 2, 1) := by decide +kernel
theorem dX8_unbind_14 : decode cX8_unbind 14 = .ok (.aload_n 0, 1) := by decide +kernel
theorem dX8_unbind_15 : decode cX8_unbind 15 = .ok (.getfield 148, 3) := by decide +kernel
theorem dX8_unbind_18 : decode cX8_unbind 18 = .ok (.if_icmp .ge 29, 3) := by decide +kernel
theorem dX8_unbind_21 : decode cX8_unbind 21 = .ok (.aload_n 0, 1) := by decide +kernel
theorem dX8_unbind_22 : decode cX8_unbind 22 = .ok (.iload_n 2, 1) := by decide +kernel
theorem dX8_unbind_23 : decode cX8_unbind 23 = .ok (.iload_n 1, 1) := by decide +kernel
theorem dX8_unbind_24 : decode cX8_unbind 24 = .ok (.invokevirtual 180, 3) := by decide +kernel
theorem dX8_unbind_27 : decode cX8_unbind 27 = .ok (.ifCond .eq 14, 3) := by decide +kernel
theorem dX8_unbind_30 : decode cX8_unbind 30 = .ok (.aload_n 0, 1) := by decide +kernel
theorem dX8_unbind_31 : decode cX8_unbind 31 = .ok (.iload_n 2, 1) := by decide +kernel
theorem dX8_unbind_32 : decode cX8_unbind 32 = .ok (.aload_n 0, 1) := by decide +kernel
theorem dX8_unbind_33 : decode cX8_unbind 33 = .ok (.getfield 74, 3) := by decide +kernel
theorem dX8_unbind_36 : decode cX8_unbind 36 = .ok (.iload_n 1, 1) := by decide +kernel
theorem dX8_unbind_37 : decode cX8_unbind 37 = .ok (.iaload, 1) := by decide +kernel
theorem dX8_unbind_38 : decode cX8_unbind 38 = .ok (.invokevirtual 187, 3) := by decide +kernel
theorem dX8_unbind_41 : decode cX8_unbind 41 = .ok (.iinc 2 1, 3) := by decide +kernel
theorem dX8_unbind_44 : decode cX8_unbind 44 = .ok (.goto (-31), 3) := by decide +kernel
theorem dX8_unbind_47 : decode cX8_unbind 47 = .ok (.aload_n 0, 1) := by decide +kernel
theorem dX8_unbind_48 : decode cX8_unbind 48 = .ok (.iload_n 1, 1) := by decide +kernel
theorem dX8_unbind_49 : decode cX8_unbind 49 = .ok (.invokevirtual 183, 3) := by decide +kernel
theorem dX8_unbind_52 : decode cX8_unbind 52 = .ok (.iconst 1, 1) := by decide +kernel
theorem dX8_unbind_53 : decode cX8_unbind 53 = .ok (.ireturn, 1) := by decide +kernel
theorem dX8_many_0 : decode cX8_many 0 = .ok (.iconst 0, 1) := by decide +kernel
theorem dX8_many_1 : decode cX8_many 1 = .ok (.istore_n 2, 1) := by decide +kernel
theorem dX8_many_2 : decode cX8_many 2 = .ok (.iconst 0, 1) := by decide +kernel
theorem dX8_many_3 : decode cX8_many 3 = .ok (.istore_n 3, 1) := by decide +kernel
theorem dX8_many_4 : decode cX8_many 4 = .ok (.iload_n 3, 1) := by decide +kernel
theorem dX8_many_5 : decode cX8_many 5 = .ok (.aload_n 0, 1) := by decide +kernel
theorem dX8_many_6 : decode cX8_many 6 = .ok (.getfield 148, 3) := by decide +kernel
theorem dX8_many_9 : decode cX8_many 9 = .ok (.if_icmp .ge 26, 3) := by decide +kernel
theorem dX8_many_12 : decode cX8_many 12 = .ok (.iload_n 2, 1) := by decide +kernel
theorem dX8_many_13 : decode cX8_many 13 = .ok (.aload_n 0, 1) := by decide +kernel
theorem dX8_many_14 : decode cX8_many 14 = .ok (.iload_n 3, 1) := by decide +kernel
theorem dX8_many_15 : decode cX8_many 15 = .ok (.iload_n 1, 1) := by decide +kernel
theorem dX8_many_16 : decode cX8_many 16 = .ok (.invokevirtual 180, 3) := by decide +kernel
theorem dX8_many_19 : decode cX8_many 19 = .ok (.ifCond .eq 7, 3) := by decide +kernel
theorem dX8_many_22 : decode cX8_many 22 = .ok (.iconst 1, 1) := by decide +kernel
theorem dX8_many_23 : decode cX8_many 23 = .ok (.goto 4, 3) := by decide +kernel
theorem dX8_many_26 : decode cX8_many 26 = .ok (.iconst 0, 1) := by decide +kernel
theorem dX8_many_27 : decode cX8_many 27 = .ok (.iadd, 1) := by decide +kernel
theorem dX8_many_28 : decode cX8_many 28 = .ok (.istore_n 2, 1) := by decide +kernel
theorem dX8_many_29 : decode cX8_many 29 = .ok (.iinc 3 1, 3) := by decide +kernel
theorem dX8_many_32 : decode cX8_many 32 = .ok (.goto (-28), 3) := by decide +kernel
theorem dX8_many_35 : decode cX8_many 35 = .ok (.iload_n 2, 1) := by decide +kernel
theorem dX8_many_36 : decode cX8_many 36 = .ok (.ireturn, 1) := by decide +kernel
theorem dX8_width_0 : decode cX8_width 0 = .ok (.iconst 0, 1) := by decide +kernel
theorem dX8_width_1 : decode cX8_width 1 = .ok (.istore_n 2, 1) := by decide +kernel
theorem dX8_width_2 : decode cX8_width 2 = .ok (.iconst 0, 1) := by decide +kernel
theorem dX8_width_3 : decode cX8_width 3 = .ok (.istore_n 3, 1) := by decide +kernel
theorem dX8_width_4 : decode cX8_width 4 = .ok (.iload_n 3, 1) := by decide +kernel
theorem dX8_width_5 : decode cX8_width 5 = .ok (.aload_n 0, 1) := by decide +kernel
theorem dX8_width_6 : decode cX8_width 6 = .ok (.getfield 77, 3) := by decide +kernel
theorem dX8_width_9 : decode cX8_width 9 = .ok (.iload_n 1, 1) := by decide +kernel
theorem dX8_width_10 : decode cX8_width 10 = .ok (.iaload, 1) := by decide +kernel
theorem dX8_width_11 : decode cX8_width 11 = .ok (.if_icmp .ge 76, 3) := by decide +kernel
theorem dX8_width_14 : decode cX8_width 14 = .ok (.iconst 0, 1) := by decide +kernel
theorem dX8_width_15 : decode cX8_width 15 = .ok (.istore 4, 2) := by decide +kernel
theorem dX8_width_17 : decode cX8_width 17 = .ok (.iconst 0, 1) := by decide +kernel
theorem dX8_width_18 : decode cX8_width 18 = .ok (.istore 5, 2) := by decide +kernel
theorem dX8_width_20 : decode cX8_width 20 = .ok (.iload 5, 2) := by decide +kernel
theorem dX8_width_22 : decode cX8_width 22 = .ok (.aload_n 0, 1) := by decide +kernel
theorem dX8_width_23 : decode cX8_width 23 = .ok (.getfield 148, 3) := by decide +kernel
theorem dX8_width_26 : decode cX8_width 26 = .ok (.if_icmp .ge 46, 3) := by decide +kernel
theorem dX8_width_29 : decode cX8_width 29 = .ok (.iload 4, 2) := by decide +kernel
theorem dX8_width_31 : decode cX8_width 31 = .ok (.aload_n 0, 1) := by decide +kernel
theorem dX8_width_32 : decode cX8_width 32 = .ok (.iload 5, 2) := by decide +kernel
theorem dX8_width_34 : decode cX8_width 34 = .ok (.iload_n 1, 1) := by decide +kernel
theorem dX8_width_35 : decode cX8_width 35 = .ok (.invokevirtual 180, 3) := by decide +kernel
theorem dX8_width_38 : decode cX8_width 38 = .ok (.ifCond .eq 24, 3) := by decide +kernel
theorem dX8_width_41 : decode cX8_width 41 = .ok (.aload_n 0, 1) := by decide +kernel
theorem dX8_width_42 : decode cX8_width 42 = .ok (.getfield 59, 3) := by decide +kernel
theorem dX8_width_45 : decode cX8_width 45 = .ok (.iload 5, 2) := by decide +kernel
theorem dX8_width_47 : decode cX8_width 47 = .ok (.iaload, 1) := by decide +kernel
theorem dX8_width_48 : decode cX8_width 48 = .ok (.iload_n 3, 1) := by decide +kernel
theorem dX8_width_49 : decode cX8_width 49 = .ok (.if_icmp .ne 13, 3) := by decide +kernel
theorem dX8_width_52 : decode cX8_width 52 = .ok (.aload_n 0, 1) := by decide +kernel
theorem dX8_width_53 : decode cX8_width 53 = .ok (.getfield 47, 3) := by decide +kernel
theorem dX8_width_56 : decode cX8_width 56 = .ok (.iload 5, 2) := by decide +kernel
theorem dX8_width_58 : decode cX8_width 58 = .ok (.iaload, 1) := by decide +kernel
theorem dX8_width_59 : decode cX8_width 59 = .ok (.goto 4, 3) := by decide +kernel
theorem dX8_width_62 : decode cX8_width 62 = .ok (.iconst 0, 1) := by decide +kernel
theorem dX8_width_63 : decode cX8_width 63 = .ok (.iadd, 1) := by decide +kernel
theorem dX8_width_64 : decode cX8_width 64 = .ok (.istore 4, 2) := by decide +kernel
theorem dX8_width_66 : decode cX8_width 66 = .ok (.iinc 5 1, 3) := by decide +kernel
theorem dX8_width_69 : decode cX8_width 69 = .ok (.goto (-49), 3) := by decide +kernel
theorem dX8_width_72 : decode cX8_width 72 = .ok (.iload 4, 2) := by decide +kernel
theorem dX8_width_74 : decode cX8_width 74 = .ok (.iload_n 2, 1) := by decide +kernel
theorem dX8_width_75 : decode cX8_width 75 = .ok (.if_icmp .le 6, 3) := by decide +kernel
theorem dX8_width_78 : decode cX8_width 78 = .ok (.iload 4, 2) := by decide +kernel
theorem dX8_width_80 : decode cX8_width 80 = .ok (.istore_n 2, 1) := by decide +kernel
theorem dX8_width_81 : decode cX8_width 81 = .ok (.iinc 3 1, 3) := by decide +kernel
theorem dX8_width_84 : decode cX8_width 84 = .ok (.goto (-80), 3) := by decide +kernel
theorem dX8_width_87 : decode cX8_width 87 = .ok (.iload_n 2, 1) := by decide +kernel
theorem dX8_width_88 : decode cX8_width 88 = .ok (.ireturn, 1) := by decide +kernel
theorem dX8_first_0 : decode cX8_first 0 = .ok (.iconst 0, 1) := by decide +kernel
theorem dX8_first_1 : decode cX8_first 1 = .ok (.istore_n 2, 1) := by decide +kernel
theorem dX8_first_2 : decode cX8_first 2 = .ok (.iload_n 2, 1) := by decide +kernel
theorem dX8_first_3 : decode cX8_first 3 = .ok (.aload_n 0, 1) := by decide +kernel
theorem dX8_first_4 : decode cX8_first 4 = .ok (.getfield 148, 3) := by decide +kernel
theorem dX8_first_7 : decode cX8_first 7 = .ok (.if_icmp .ge 38, 3) := by decide +kernel
theorem dX8_first_10 : decode cX8_first 10 = .ok (.aload_n 0, 1) := by decide +kernel
theorem dX8_first_11 : decode cX8_first 11 = .ok (.iload_n 2, 1) := by decide +kernel
theorem dX8_first_12 : decode cX8_first 12 = .ok (.iload_n 1, 1) := by decide +kernel
theorem dX8_first_13 : decode cX8_first 13 = .ok (.invokevirtual 180, 3) := by decide +kernel
theorem dX8_first_16 : decode cX8_first 16 = .ok (.ifCond .eq 23, 3) := by decide +kernel
theorem dX8_first_19 : decode cX8_first 19 = .ok (.aload_n 0, 1) := by decide +kernel
theorem dX8_first_20 : decode cX8_first 20 = .ok (.getfield 59, 3) := by decide +kernel
theorem dX8_first_23 : decode cX8_first 23 = .ok (.iload_n 2, 1) := by decide +kernel
theorem dX8_first_24 : decode cX8_first 24 = .ok (.iaload, 1) := by decide +kernel
theorem dX8_first_25 : decode cX8_first 25 = .ok (.ifCond .ne 14, 3) := by decide +kernel
theorem dX8_first_28 : decode cX8_first 28 = .ok (.aload_n 0, 1) := by decide +kernel
theorem dX8_first_29 : decode cX8_first 29 = .ok (.getfield 62, 3) := by decide +kernel
theorem dX8_first_32 : decode cX8_first 32 = .ok (.iload_n 2, 1) := by decide +kernel
theorem dX8_first_33 : decode cX8_first 33 = .ok (.iaload, 1) := by decide +kernel
theorem dX8_first_34 : decode cX8_first 34 = .ok (.ifCond .ne 5, 3) := by decide +kernel
theorem dX8_first_37 : decode cX8_first 37 = .ok (.iload_n 2, 1) := by decide +kernel
theorem dX8_first_38 : decode cX8_first 38 = .ok (.ireturn, 1) := by decide +kernel
theorem dX8_first_39 : decode cX8_first 39 = .ok (.iinc 2 1, 3) := by decide +kernel
theorem dX8_first_42 : decode cX8_first 42 = .ok (.goto (-40), 3) := by decide +kernel
theorem dX8_first_45 : decode cX8_first 45 = .ok (.iconst (-1), 1) := by decide +kernel
theorem dX8_first_46 : decode cX8_first 46 = .ok (.ireturn, 1) := by decide +kernel
theorem dX8_crew_0 : decode cX8_crew 0 = .ok (.aload_n 0, 1) := by decide +kernel
theorem dX8_crew_1 : decode cX8_crew 1 = .ok (.iload_n 1, 1) := by decide +kernel
theorem dX8_crew_2 : decode cX8_crew 2 = .ok (.invokevirtual 154, 3) := by decide +kernel
theorem dX8_crew_5 : decode cX8_crew 5 = .ok (.ifCond .eq 12, 3) := by decide +kernel
theorem dX8_crew_8 : decode cX8_crew 8 = .ok (.aload_n 0, 1) := by decide +kernel
theorem dX8_crew_9 : decode cX8_crew 9 = .ok (.getfield 191, 3) := by decide +kernel
theorem dX8_crew_12 : decode cX8_crew 12 = .ok (.bipush 10, 2) := by decide +kernel
theorem dX8_crew_14 : decode cX8_crew 14 = .ok (.if_icmp .ne 5, 3) := by decide +kernel
theorem dX8_crew_17 : decode cX8_crew 17 = .ok (.iconst (-1), 1) := by decide +kernel
theorem dX8_crew_18 : decode cX8_crew 18 = .ok (.ireturn, 1) := by decide +kernel
theorem dX8_crew_19 : decode cX8_crew 19 = .ok (.aload_n 0, 1) := by decide +kernel
theorem dX8_crew_20 : decode cX8_crew 20 = .ok (.getfield 86, 3) := by decide +kernel
theorem dX8_crew_23 : decode cX8_crew 23 = .ok (.aload_n 0, 1) := by decide +kernel
theorem dX8_crew_24 : decode cX8_crew 24 = .ok (.getfield 191, 3) := by decide +kernel
theorem dX8_crew_27 : decode cX8_crew 27 = .ok (.iload_n 1, 1) := by decide +kernel
theorem dX8_crew_28 : decode cX8_crew 28 = .ok (.iastore, 1) := by decide +kernel
theorem dX8_crew_29 : decode cX8_crew 29 = .ok (.aload_n 0, 1) := by decide +kernel
theorem dX8_crew_30 : decode cX8_crew 30 = .ok (.getfield 92, 3) := by decide +kernel
theorem dX8_crew_33 : decode cX8_crew 33 = .ok (.aload_n 0, 1) := by decide +kernel
theorem dX8_crew_34 : decode cX8_crew 34 = .ok (.getfield 191, 3) := by decide +kernel
theorem dX8_crew_37 : decode cX8_crew 37 = .ok (.iload_n 1, 1) := by decide +kernel
theorem dX8_crew_38 : decode cX8_crew 38 = .ok (.iastore, 1) := by decide +kernel
theorem dX8_crew_39 : decode cX8_crew 39 = .ok (.aload_n 0, 1) := by decide +kernel
theorem dX8_crew_40 : decode cX8_crew 40 = .ok (.getfield 95, 3) := by decide +kernel
theorem dX8_crew_43 : decode cX8_crew 43 = .ok (.aload_n 0, 1) := by decide +kernel
theorem dX8_crew_44 : decode cX8_crew 44 = .ok (.getfield 191, 3) := by decide +kernel
theorem dX8_crew_47 : decode cX8_crew 47 = .ok (.aload_n 0, 1) := by decide +kernel
theorem dX8_crew_48 : decode cX8_crew 48 = .ok (.getfield 194, 3) := by decide +kernel
theorem dX8_crew_51 : decode cX8_crew 51 = .ok (.bipush 8, 2) := by decide +kernel
theorem dX8_crew_53 : decode cX8_crew 53 = .ok (.isub, 1) := by decide +kernel
theorem dX8_crew_54 : decode cX8_crew 54 = .ok (.iastore, 1) := by decide +kernel
theorem dX8_crew_55 : decode cX8_crew 55 = .ok (.aload_n 0, 1) := by decide +kernel
theorem dX8_crew_56 : decode cX8_crew 56 = .ok (.getfield 98, 3) := by decide +kernel
theorem dX8_crew_59 : decode cX8_crew 59 = .ok (.aload_n 0, 1) := by decide +kernel
theorem dX8_crew_60 : decode cX8_crew 60 = .ok (.getfield 191, 3) := by decide +kernel
theorem dX8_crew_63 : decode cX8_crew 63 = .ok (.iconst (-1), 1) := by decide +kernel
theorem dX8_crew_64 : decode cX8_crew 64 = .ok (.iastore, 1) := by decide +kernel
theorem dX8_crew_65 : decode cX8_crew 65 = .ok (.aload_n 0, 1) := by decide +kernel
theorem dX8_crew_66 : decode cX8_crew 66 = .ok (.dup, 1) := by decide +kernel
theorem dX8_crew_67 : decode cX8_crew 67 = .ok (.getfield 191, 3) := by decide +kernel
theorem dX8_crew_70 : decode cX8_crew 70 = .ok (.iconst 1, 1) := by decide +kernel
theorem dX8_crew_71 : decode cX8_crew 71 = .ok (.iadd, 1) := by decide +kernel
theorem dX8_crew_72 : decode cX8_crew 72 = .ok (.putfield 191, 3) := by decide +kernel
theorem dX8_crew_75 : decode cX8_crew 75 = .ok (.aload_n 0, 1) := by decide +kernel
theorem dX8_crew_76 : decode cX8_crew 76 = .ok (.getfield 191, 3) := by decide +kernel
theorem dX8_crew_79 : decode cX8_crew 79 = .ok (.iconst 1, 1) := by decide +kernel
theorem dX8_crew_80 : decode cX8_crew 80 = .ok (.isub, 1) := by decide +kernel
theorem dX8_crew_81 : decode cX8_crew 81 = .ok (.ireturn, 1) := by decide +kernel
theorem dX8_isResting_0 : decode cX8_isResting 0 = .ok (.aload_n 0, 1) := by decide +kernel
theorem dX8_isResting_1 : decode cX8_isResting 1 = .ok (.getfield 89, 3) := by decide +kernel
theorem dX8_isResting_4 : decode cX8_isResting 4 = .ok (.iload_n 1, 1) := by decide +kernel
theorem dX8_isResting_5 : decode cX8_isResting 5 = .ok (.iaload, 1) := by decide +kernel
theorem dX8_isResting_6 : decode cX8_isResting 6 = .ok (.ifCond .ne 23, 3) := by decide +kernel
theorem dX8_isResting_9 : decode cX8_isResting 9 = .ok (.aload_n 0, 1) := by decide +kernel
theorem dX8_isResting_10 : decode cX8_isResting 10 = .ok (.getfield 194, 3) := by decide +kernel
theorem dX8_isResting_13 : decode cX8_isResting 13 = .ok (.aload_n 0, 1) := by decide +kernel
theorem dX8_isResting_14 : decode cX8_isResting 14 = .ok (.getfield 95, 3) := by decide +kernel
theorem dX8_isResting_17 : decode cX8_isResting 17 = .ok (.iload_n 1, 1) := by decide +kernel
theorem dX8_isResting_18 : decode cX8_isResting 18 = .ok (.iaload, 1) := by decide +kernel
theorem dX8_isResting_19 : decode cX8_isResting 19 = .ok (.isub, 1) := by decide +kernel
theorem dX8_isResting_20 : decode cX8_isResting 20 = .ok (.bipush 8, 2) := by decide +kernel
theorem dX8_isResting_22 : decode cX8_isResting 22 = .ok (.if_icmp .ge 7, 3) := by decide +kernel
theorem dX8_isResting_25 : decode cX8_isResting 25 = .ok (.iconst 1, 1) := by decide +kernel
theorem dX8_isResting_26 : decode cX8_isResting 26 = .ok (.goto 4, 3) := by decide +kernel
theorem dX8_isResting_29 : decode cX8_isResting 29 = .ok (.iconst 0, 1) := by decide +kernel
theorem dX8_isResting_30 : decode cX8_isResting 30 = .ok (.ireturn, 1) := by decide +kernel
theorem dX8_ready_0 : decode cX8_ready 0 = .ok (.aload_n 0, 1) := by decide +kernel
theorem dX8_ready_1 : decode cX8_ready 1 = .ok (.iload_n 1, 1) := by decide +kernel
theorem dX8_ready_2 : decode cX8_ready 2 = .ok (.iconst 0, 1) := by decide +kernel
theorem dX8_ready_3 : decode cX8_ready 3 = .ok (.invokevirtual 176, 3) := by decide +kernel
theorem dX8_ready_6 : decode cX8_ready 6 = .ok (.ifCond .eq 26, 3) := by decide +kernel
theorem dX8_ready_9 : decode cX8_ready 9 = .ok (.aload_n 0, 1) := by decide +kernel
theorem dX8_ready_10 : decode cX8_ready 10 = .ok (.getfield 74, 3) := by decide +kernel
theorem dX8_ready_13 : decode cX8_ready 13 = .ok (.iload_n 1, 1) := by decide +kernel
theorem dX8_ready_14 : decode cX8_ready 14 = .ok (.iaload, 1) := by decide +kernel
theorem dX8_ready_15 : decode cX8_ready 15 = .ok (.ifCond .eq 17, 3) := by decide +kernel
theorem dX8_ready_18 : decode cX8_ready 18 = .ok (.iload_n 2, 1) := by decide +kernel
theorem dX8_ready_19 : decode cX8_ready 19 = .ok (.iconst 0, 1) := by decide +kernel
theorem dX8_ready_20 : decode cX8_ready 20 = .ok (.aload_n 0, 1) := by decide +kernel
theorem dX8_ready_21 : decode cX8_ready 21 = .ok (.getfield 191, 3) := by decide +kernel
theorem dX8_ready_24 : decode cX8_ready 24 = .ok (.iconst 1, 1) := by decide +kernel
theorem dX8_ready_25 : decode cX8_ready 25 = .ok (.isub, 1) := by decide +kernel
theorem dX8_ready_26 : decode cX8_ready 26 = .ok (.invokestatic 144, 3) := by decide +kernel
theorem dX8_ready_29 : decode cX8_ready 29 = .ok (.ifCond .ne 5, 3) := by decide +kernel
theorem dX8_ready_32 : decode cX8_ready 32 = .ok (.iconst 0, 1) := by decide +kernel
theorem dX8_ready_33 : decode cX8_ready 33 = .ok (.ireturn, 1) := by decide +kernel
theorem dX8_ready_34 : decode cX8_ready 34 = .ok (.aload_n 0, 1) := by decide +kernel
theorem dX8_ready_35 : decode cX8_ready 35 = .ok (.getfield 89, 3) := by decide +kernel
theorem dX8_ready_38 : decode cX8_ready 38 = .ok (.iload_n 2, 1) := by decide +kernel
theorem dX8_ready_39 : decode cX8_ready 39 = .ok (.iaload, 1) := by decide +kernel
theorem dX8_ready_40 : decode cX8_ready 40 = .ok (.ifCond .ne 26, 3) := by decide +kernel
theorem dX8_ready_43 : decode cX8_ready 43 = .ok (.aload_n 0, 1) := by decide +kernel
theorem dX8_ready_44 : decode cX8_ready 44 = .ok (.getfield 92, 3) := by decide +kernel
theorem dX8_ready_47 : decode cX8_ready 47 = .ok (.iload_n 2, 1) := by decide +kernel
theorem dX8_ready_48 : decode cX8_ready 48 = .ok (.iaload, 1) := by decide +kernel
theorem dX8_ready_49 : decode cX8_ready 49 = .ok (.aload_n 0, 1) := by decide +kernel
theorem dX8_ready_50 : decode cX8_ready 50 = .ok (.getfield 74, 3) := by decide +kernel
theorem dX8_ready_53 : decode cX8_ready 53 = .ok (.iload_n 1, 1) := by decide +kernel
theorem dX8_ready_54 : decode cX8_ready 54 = .ok (.iaload, 1) := by decide +kernel
theorem dX8_ready_55 : decode cX8_ready 55 = .ok (.if_icmp .ne 11, 3) := by decide +kernel
theorem dX8_ready_58 : decode cX8_ready 58 = .ok (.aload_n 0, 1) := by decide +kernel
theorem dX8_ready_59 : decode cX8_ready 59 = .ok (.iload_n 2, 1) := by decide +kernel
theorem dX8_ready_60 : decode cX8_ready 60 = .ok (.invokevirtual 197, 3) := by decide +kernel
theorem dX8_ready_63 : decode cX8_ready 63 = .ok (.ifCond .eq 5, 3) := by decide +kernel
theorem dX8_ready_66 : decode cX8_ready 66 = .ok (.iconst 0, 1) := by decide +kernel
theorem dX8_ready_67 : decode cX8_ready 67 = .ok (.ireturn, 1) := by decide +kernel
theorem dX8_ready_68 : decode cX8_ready 68 = .ok (.aload_n 0, 1) := by decide +kernel
theorem dX8_ready_69 : decode cX8_ready 69 = .ok (.getfield 71, 3) := by decide +kernel
theorem dX8_ready_72 : decode cX8_ready 72 = .ok (.iload_n 1, 1) := by decide +kernel
theorem dX8_ready_73 : decode cX8_ready 73 = .ok (.iconst 1, 1) := by decide +kernel
theorem dX8_ready_74 : decode cX8_ready 74 = .ok (.iastore, 1) := by decide +kernel
theorem dX8_ready_75 : decode cX8_ready 75 = .ok (.aload_n 0, 1) := by decide +kernel
theorem dX8_ready_76 : decode cX8_ready 76 = .ok (.getfield 80, 3) := by decide +kernel
theorem dX8_ready_79 : decode cX8_ready 79 = .ok (.iload_n 1, 1) := by decide +kernel
theorem dX8_ready_80 : decode cX8_ready 80 = .ok (.iload_n 2, 1) := by decide +kernel
theorem dX8_ready_81 : decode cX8_ready 81 = .ok (.iastore, 1) := by decide +kernel
theorem dX8_ready_82 : decode cX8_ready 82 = .ok (.aload_n 0, 1) := by decide +kernel
theorem dX8_ready_83 : decode cX8_ready 83 = .ok (.getfield 89, 3) := by decide +kernel
theorem dX8_ready_86 : decode cX8_ready 86 = .ok (.iload_n 2, 1) := by decide +kernel
theorem dX8_ready_87 : decode cX8_ready 87 = .ok (.iconst 1, 1) := by decide +kernel
theorem dX8_ready_88 : decode cX8_ready 88 = .ok (.iastore, 1) := by decide +kernel
theorem dX8_ready_89 : decode cX8_ready 89 = .ok (.iconst 1, 1) := by decide +kernel
theorem dX8_ready_90 : decode cX8_ready 90 = .ok (.ireturn, 1) := by decide +kernel
theorem dX8_lands_0 : decode cX8_lands 0 = .ok (.aload_n 0, 1) := by decide +kernel
theorem dX8_lands_1 : decode cX8_lands 1 = .ok (.getfield 89, 3) := by decide +kernel
theorem dX8_lands_4 : decode cX8_lands 4 = .ok (.iload_n 1, 1) := by decide +kernel
theorem dX8_lands_5 : decode cX8_lands 5 = .ok (.iconst 0, 1) := by decide +kernel
theorem dX8_lands_6 : decode cX8_lands 6 = .ok (.iastore, 1) := by decide +kernel
theorem dX8_lands_7 : decode cX8_lands 7 = .ok (.aload_n 0, 1) := by decide +kernel
theorem dX8_lands_8 : decode cX8_lands 8 = .ok (.getfield 92, 3) := by decide +kernel
theorem dX8_lands_11 : decode cX8_lands 11 = .ok (.iload_n 1, 1) := by decide +kernel
theorem dX8_lands_12 : decode cX8_lands 12 = .ok (.iload_n 2, 1) := by decide +kernel
theorem dX8_lands_13 : decode cX8_lands 13 = .ok (.iastore, 1) := by decide +kernel
theorem dX8_lands_14 : decode cX8_lands 14 = .ok (.aload_n 0, 1) := by decide +kernel
theorem dX8_lands_15 : decode cX8_lands 15 = .ok (.getfield 95, 3) := by decide +kernel
theorem dX8_lands_18 : decode cX8_lands 18 = .ok (.iload_n 1, 1) := by decide +kernel
theorem dX8_lands_19 : decode cX8_lands 19 = .ok (.iload_n 3, 1) := by decide +kernel
theorem dX8_lands_20 : decode cX8_lands 20 = .ok (.iastore, 1) := by decide +kernel
theorem dX8_lands_21 : decode cX8_lands 21 = .ok (.aload_n 0, 1) := by decide +kernel
theorem dX8_lands_22 : decode cX8_lands 22 = .ok (.getfield 98, 3) := by decide +kernel
theorem dX8_lands_25 : decode cX8_lands 25 = .ok (.iload_n 1, 1) := by decide +kernel
theorem dX8_lands_26 : decode cX8_lands 26 = .ok (.iconst (-1), 1) := by decide +kernel
theorem dX8_lands_27 : decode cX8_lands 27 = .ok (.iastore, 1) := by decide +kernel
theorem dX8_lands_28 : decode cX8_lands 28 = .ok (.return_, 1) := by decide +kernel
theorem dX8_tie_0 : decode cX8_tie 0 = .ok (.aload_n 0, 1) := by decide +kernel
theorem dX8_tie_1 : decode cX8_tie 1 = .ok (.iload_n 1, 1) := by decide +kernel
theorem dX8_tie_2 : decode cX8_tie 2 = .ok (.iconst 1, 1) := by decide +kernel
theorem dX8_tie_3 : decode cX8_tie 3 = .ok (.invokevirtual 176, 3) := by decide +kernel
theorem dX8_tie_6 : decode cX8_tie 6 = .ok (.ifCond .ne 5, 3) := by decide +kernel
theorem dX8_tie_9 : decode cX8_tie 9 = .ok (.iconst 0, 1) := by decide +kernel
theorem dX8_tie_10 : decode cX8_tie 10 = .ok (.ireturn, 1) := by decide +kernel
theorem dX8_tie_11 : decode cX8_tie 11 = .ok (.aload_n 0, 1) := by decide +kernel
theorem dX8_tie_12 : decode cX8_tie 12 = .ok (.getfield 71, 3) := by decide +kernel
theorem dX8_tie_15 : decode cX8_tie 15 = .ok (.iload_n 1, 1) := by decide +kernel
theorem dX8_tie_16 : decode cX8_tie 16 = .ok (.iconst 0, 1) := by decide +kernel
theorem dX8_tie_17 : decode cX8_tie 17 = .ok (.iastore, 1) := by decide +kernel
theorem dX8_tie_18 : decode cX8_tie 18 = .ok (.aload_n 0, 1) := by decide +kernel
theorem dX8_tie_19 : decode cX8_tie 19 = .ok (.aload_n 0, 1) := by decide +kernel
theorem dX8_tie_20 : decode cX8_tie 20 = .ok (.getfield 80, 3) := by decide +kernel
theorem dX8_tie_23 : decode cX8_tie 23 = .ok (.iload_n 1, 1) := by decide +kernel
theorem dX8_tie_24 : decode cX8_tie 24 = .ok (.iaload, 1) := by decide +kernel
theorem dX8_tie_25 : decode cX8_tie 25 = .ok (.aload_n 0, 1) := by decide +kernel
theorem dX8_tie_26 : decode cX8_tie 26 = .ok (.getfield 74, 3) := by decide +kernel
theorem dX8_tie_29 : decode cX8_tie 29 = .ok (.iload_n 1, 1) := by decide +kernel
theorem dX8_tie_30 : decode cX8_tie 30 = .ok (.iaload, 1) := by decide +kernel
theorem dX8_tie_31 : decode cX8_tie 31 = .ok (.aload_n 0, 1) := by decide +kernel
theorem dX8_tie_32 : decode cX8_tie 32 = .ok (.getfield 194, 3) := by decide +kernel
theorem dX8_tie_35 : decode cX8_tie 35 = .ok (.bipush 8, 2) := by decide +kernel
theorem dX8_tie_37 : decode cX8_tie 37 = .ok (.isub, 1) := by decide +kernel
theorem dX8_tie_38 : decode cX8_tie 38 = .ok (.invokevirtual 200, 3) := by decide +kernel
theorem dX8_tie_41 : decode cX8_tie 41 = .ok (.aload_n 0, 1) := by decide +kernel
theorem dX8_tie_42 : decode cX8_tie 42 = .ok (.getfield 80, 3) := by decide +kernel
theorem dX8_tie_45 : decode cX8_tie 45 = .ok (.iload_n 1, 1) := by decide +kernel
theorem dX8_tie_46 : decode cX8_tie 46 = .ok (.iconst (-1), 1) := by decide +kernel
theorem dX8_tie_47 : decode cX8_tie 47 = .ok (.iastore, 1) := by decide +kernel
theorem dX8_tie_48 : decode cX8_tie 48 = .ok (.iconst 1, 1) := by decide +kernel
theorem dX8_tie_49 : decode cX8_tie 49 = .ok (.ireturn, 1) := by decide +kernel
theorem dX8_walk_0 : decode cX8_walk 0 = .ok (.iload_n 1, 1) := by decide +kernel
theorem dX8_walk_1 : decode cX8_walk 1 = .ok (.iconst 0, 1) := by decide +kernel
theorem dX8_walk_2 : decode cX8_walk 2 = .ok (.aload_n 0, 1) := by decide +kernel
theorem dX8_walk_3 : decode cX8_walk 3 = .ok (.getfield 191, 3) := by decide +kernel
theorem dX8_walk_6 : decode cX8_walk 6 = .ok (.iconst 1, 1) := by decide +kernel
theorem dX8_walk_7 : decode cX8_walk 7 = .ok (.isub, 1) := by decide +kernel
theorem dX8_walk_8 : decode cX8_walk 8 = .ok (.invokestatic 144, 3) := by decide +kernel
theorem dX8_walk_11 : decode cX8_walk 11 = .ok (.ifCond .eq 27, 3) := by decide +kernel
theorem dX8_walk_14 : decode cX8_walk 14 = .ok (.aload_n 0, 1) := by decide +kernel
theorem dX8_walk_15 : decode cX8_walk 15 = .ok (.getfield 89, 3) := by decide +kernel
theorem dX8_walk_18 : decode cX8_walk 18 = .ok (.iload_n 1, 1) := by decide +kernel
theorem dX8_walk_19 : decode cX8_walk 19 = .ok (.iaload, 1) := by decide +kernel
theorem dX8_walk_20 : decode cX8_walk 20 = .ok (.ifCond .ne 18, 3) := by decide +kernel
theorem dX8_walk_23 : decode cX8_walk 23 = .ok (.aload_n 0, 1) := by decide +kernel
theorem dX8_walk_24 : decode cX8_walk 24 = .ok (.getfield 92, 3) := by decide +kernel
theorem dX8_walk_27 : decode cX8_walk 27 = .ok (.iload_n 1, 1) := by decide +kernel
theorem dX8_walk_28 : decode cX8_walk 28 = .ok (.iaload, 1) := by decide +kernel
theorem dX8_walk_29 : decode cX8_walk 29 = .ok (.aload_n 0, 1) := by decide +kernel
theorem dX8_walk_30 : decode cX8_walk 30 = .ok (.getfield 86, 3) := by decide +kernel
theorem dX8_walk_33 : decode cX8_walk 33 = .ok (.iload_n 1, 1) := by decide +kernel
theorem dX8_walk_34 : decode cX8_walk 34 = .ok (.iaload, 1) := by decide +kernel
theorem dX8_walk_35 : decode cX8_walk 35 = .ok (.if_icmp .ne 5, 3) := by decide +kernel
theorem dX8_walk_38 : decode cX8_walk 38 = .ok (.iconst (-1), 1) := by decide +kernel
theorem dX8_walk_39 : decode cX8_walk 39 = .ok (.ireturn, 1) := by decide +kernel
theorem dX8_walk_40 : decode cX8_walk 40 = .ok (.iconst 0, 1) := by decide +kernel
theorem dX8_walk_41 : decode cX8_walk 41 = .ok (.istore_n 2, 1) := by decide +kernel
theorem dX8_walk_42 : decode cX8_walk 42 = .ok (.aload_n 0, 1) := by decide +kernel
theorem dX8_walk_43 : decode cX8_walk 43 = .ok (.getfield 86, 3) := by decide +kernel
theorem dX8_walk_46 : decode cX8_walk 46 = .ok (.iload_n 1, 1) := by decide +kernel
theorem dX8_walk_47 : decode cX8_walk 47 = .ok (.iaload, 1) := by decide +kernel
theorem dX8_walk_48 : decode cX8_walk 48 = .ok (.istore_n 3, 1) := by decide +kernel
theorem dX8_walk_49 : decode cX8_walk 49 = .ok (.iload_n 3, 1) := by decide +kernel
theorem dX8_walk_50 : decode cX8_walk 50 = .ok (.ifCond .eq 32, 3) := by decide +kernel
theorem dX8_walk_53 : decode cX8_walk 53 = .ok (.iload_n 3, 1) := by decide +kernel
theorem dX8_walk_54 : decode cX8_walk 54 = .ok (.aload_n 0, 1) := by decide +kernel
theorem dX8_walk_55 : decode cX8_walk 55 = .ok (.getfield 92, 3) := by decide +kernel
theorem dX8_walk_58 : decode cX8_walk 58 = .ok (.iload_n 1, 1) := by decide +kernel
theorem dX8_walk_59 : decode cX8_walk 59 = .ok (.iaload, 1) := by decide +kernel
theorem dX8_walk_60 : decode cX8_walk 60 = .ok (.if_icmp .eq 22, 3) := by decide +kernel
theorem dX8_walk_63 : decode cX8_walk 63 = .ok (.iload_n 2, 1) := by decide +kernel
theorem dX8_walk_64 : decode cX8_walk 64 = .ok (.aload_n 0, 1) := by decide +kernel
theorem dX8_walk_65 : decode cX8_walk 65 = .ok (.getfield 13, 3) := by decide +kernel
theorem dX8_walk_68 : decode cX8_walk 68 = .ok (.iload_n 3, 1) := by decide +kernel
theorem dX8_walk_69 : decode cX8_walk 69 = .ok (.iaload, 1) := by decide +kernel
theorem dX8_walk_70 : decode cX8_walk 70 = .ok (.iadd, 1) := by decide +kernel
theorem dX8_walk_71 : decode cX8_walk 71 = .ok (.istore_n 2, 1) := by decide +kernel
theorem dX8_walk_72 : decode cX8_walk 72 = .ok (.aload_n 0, 1) := by decide +kernel
theorem dX8_walk_73 : decode cX8_walk 73 = .ok (.getfield 9, 3) := by decide +kernel
theorem dX8_walk_76 : decode cX8_walk 76 = .ok (.iload_n 3, 1) := by decide +kernel
theorem dX8_walk_77 : decode cX8_walk 77 = .ok (.iaload, 1) := by decide +kernel
theorem dX8_walk_78 : decode cX8_walk 78 = .ok (.istore_n 3, 1) := by decide +kernel
theorem dX8_walk_79 : decode cX8_walk 79 = .ok (.goto (-30), 3) := by decide +kernel
theorem dX8_walk_82 : decode cX8_walk 82 = .ok (.iload_n 3, 1) := by decide +kernel
theorem dX8_walk_83 : decode cX8_walk 83 = .ok (.aload_n 0, 1) := by decide +kernel
theorem dX8_walk_84 : decode cX8_walk 84 = .ok (.getfield 92, 3) := by decide +kernel
theorem dX8_walk_87 : decode cX8_walk 87 = .ok (.iload_n 1, 1) := by decide +kernel
theorem dX8_walk_88 : decode cX8_walk 88 = .ok (.iaload, 1) := by decide +kernel
theorem dX8_walk_89 : decode cX8_walk 89 = .ok (.if_icmp .eq 5, 3) := by decide +kernel
theorem dX8_walk_92 : decode cX8_walk 92 = .ok (.iconst (-1), 1) := by decide +kernel
theorem dX8_walk_93 : decode cX8_walk 93 = .ok (.ireturn, 1) := by decide +kernel
theorem dX8_walk_94 : decode cX8_walk 94 = .ok (.aload_n 0, 1) := by decide +kernel
theorem dX8_walk_95 : decode cX8_walk 95 = .ok (.getfield 89, 3) := by decide +kernel
theorem dX8_walk_98 : decode cX8_walk 98 = .ok (.iload_n 1, 1) := by decide +kernel
theorem dX8_walk_99 : decode cX8_walk 99 = .ok (.iconst 2, 1) := by decide +kernel
theorem dX8_walk_100 : decode cX8_walk 100 = .ok (.iastore, 1) := by decide +kernel
theorem dX8_walk_101 : decode cX8_walk 101 = .ok (.aload_n 0, 1) := by decide +kernel
theorem dX8_walk_102 : decode cX8_walk 102 = .ok (.getfield 98, 3) := by decide +kernel
theorem dX8_walk_105 : decode cX8_walk 105 = .ok (.iload_n 1, 1) := by decide +kernel
theorem dX8_walk_106 : decode cX8_walk 106 = .ok (.aload_n 0, 1) := by decide +kernel
theorem dX8_walk_107 : decode cX8_walk 107 = .ok (.getfield 194, 3) := by decide +kernel
theorem dX8_walk_110 : decode cX8_walk 110 = .ok (.iconst 2, 1) := by decide +kernel
theorem dX8_walk_111 : decode cX8_walk 111 = .ok (.iload_n 2, 1) := by decide +kernel
theorem dX8_walk_112 : decode cX8_walk 112 = .ok (.imul, 1) := by decide +kernel
theorem dX8_walk_113 : decode cX8_walk 113 = .ok (.iadd, 1) := by decide +kernel
theorem dX8_walk_114 : decode cX8_walk 114 = .ok (.iastore, 1) := by decide +kernel
theorem dX8_walk_115 : decode cX8_walk 115 = .ok (.aload_n 0, 1) := by decide +kernel
theorem dX8_walk_116 : decode cX8_walk 116 = .ok (.getfield 98, 3) := by decide +kernel
theorem dX8_walk_119 : decode cX8_walk 119 = .ok (.iload_n 1, 1) := by decide +kernel
theorem dX8_walk_120 : decode cX8_walk 120 = .ok (.iaload, 1) := by decide +kernel
theorem dX8_walk_121 : decode cX8_walk 121 = .ok (.ireturn, 1) := by decide +kernel
theorem dX8_tollOf_0 : decode cX8_tollOf 0 = .ok (.iconst (-1), 1) := by decide +kernel
theorem dX8_tollOf_1 : decode cX8_tollOf 1 = .ok (.istore_n 2, 1) := by decide +kernel
theorem dX8_tollOf_2 : decode cX8_tollOf 2 = .ok (.iconst 0, 1) := by decide +kernel
theorem dX8_tollOf_3 : decode cX8_tollOf 3 = .ok (.istore_n 3, 1) := by decide +kernel
theorem dX8_tollOf_4 : decode cX8_tollOf 4 = .ok (.iload_n 3, 1) := by decide +kernel
theorem dX8_tollOf_5 : decode cX8_tollOf 5 = .ok (.aload_n 0, 1) := by decide +kernel
theorem dX8_tollOf_6 : decode cX8_tollOf 6 = .ok (.getfield 204, 3) := by decide +kernel
theorem dX8_tollOf_9 : decode cX8_tollOf 9 = .ok (.if_icmp .ge 41, 3) := by decide +kernel
theorem dX8_tollOf_12 : decode cX8_tollOf 12 = .ok (.aload_n 0, 1) := by decide +kernel
theorem dX8_tollOf_13 : decode cX8_tollOf 13 = .ok (.getfield 107, 3) := by decide +kernel
theorem dX8_tollOf_16 : decode cX8_tollOf 16 = .ok (.iload_n 3, 1) := by decide +kernel
theorem dX8_tollOf_17 : decode cX8_tollOf 17 = .ok (.iaload, 1) := by decide +kernel
theorem dX8_tollOf_18 : decode cX8_tollOf 18 = .ok (.iload_n 1, 1) := by decide +kernel
theorem dX8_tollOf_19 : decode cX8_tollOf 19 = .ok (.if_icmp .gt 25, 3) := by decide +kernel
theorem dX8_tollOf_22 : decode cX8_tollOf 22 = .ok (.iload_n 2, 1) := by decide +kernel
theorem dX8_tollOf_23 : decode cX8_tollOf 23 = .ok (.iconst (-1), 1) := by decide +kernel
theorem dX8_tollOf_24 : decode cX8_tollOf 24 = .ok (.if_icmp .eq 18, 3) := by decide +kernel
theorem dX8_tollOf_27 : decode cX8_tollOf 27 = .ok (.aload_n 0, 1) := by decide +kernel
theorem dX8_tollOf_28 : decode cX8_tollOf 28 = .ok (.getfield 107, 3) := by decide +kernel
theorem dX8_tollOf_31 : decode cX8_tollOf 31 = .ok (.iload_n 3, 1) := by decide +kernel
theorem dX8_tollOf_32 : decode cX8_tollOf 32 = .ok (.iaload, 1) := by decide +kernel
theorem dX8_tollOf_33 : decode cX8_tollOf 33 = .ok (.aload_n 0, 1) := by decide +kernel
theorem dX8_tollOf_34 : decode cX8_tollOf 34 = .ok (.getfield 107, 3) := by decide +kernel
theorem dX8_tollOf_37 : decode cX8_tollOf 37 = .ok (.iload_n 2, 1) := by decide +kernel
theorem dX8_tollOf_38 : decode cX8_tollOf 38 = .ok (.iaload, 1) := by decide +kernel
theorem dX8_tollOf_39 : decode cX8_tollOf 39 = .ok (.if_icmp .lt 5, 3) := by decide +kernel
theorem dX8_tollOf_42 : decode cX8_tollOf 42 = .ok (.iload_n 3, 1) := by decide +kernel
theorem dX8_tollOf_43 : decode cX8_tollOf 43 = .ok (.istore_n 2, 1) := by decide +kernel
theorem dX8_tollOf_44 : decode cX8_tollOf 44 = .ok (.iinc 3 1, 3) := by decide +kernel
theorem dX8_tollOf_47 : decode cX8_tollOf 47 = .ok (.goto (-43), 3) := by decide +kernel
theorem dX8_tollOf_50 : decode cX8_tollOf 50 = .ok (.iload_n 2, 1) := by decide +kernel
theorem dX8_tollOf_51 : decode cX8_tollOf 51 = .ok (.iconst (-1), 1) := by decide +kernel
theorem dX8_tollOf_52 : decode cX8_tollOf 52 = .ok (.if_icmp .ne 7, 3) := by decide +kernel
theorem dX8_tollOf_55 : decode cX8_tollOf 55 = .ok (.iconst 0, 1) := by decide +kernel
theorem dX8_tollOf_56 : decode cX8_tollOf 56 = .ok (.goto 9, 3) := by decide +kernel
theorem dX8_tollOf_59 : decode cX8_tollOf 59 = .ok (.aload_n 0, 1) := by decide +kernel
theorem dX8_tollOf_60 : decode cX8_tollOf 60 = .ok (.getfield 110, 3) := by decide +kernel
theorem dX8_tollOf_63 : decode cX8_tollOf 63 = .ok (.iload_n 2, 1) := by decide +kernel
theorem dX8_tollOf_64 : decode cX8_tollOf 64 = .ok (.iaload, 1) := by decide +kernel
theorem dX8_tollOf_65 : decode cX8_tollOf 65 = .ok (.ireturn, 1) := by decide +kernel
theorem dX8_arrivals_0 : decode cX8_arrivals 0 = .ok (.iconst 0, 1) := by decide +kernel
theorem dX8_arrivals_1 : decode cX8_arrivals 1 = .ok (.istore_n 1, 1) := by decide +kernel
theorem dX8_arrivals_2 : decode cX8_arrivals 2 = .ok (.iload_n 1, 1) := by decide +kernel
theorem dX8_arrivals_3 : decode cX8_arrivals 3 = .ok (.aload_n 0, 1) := by decide +kernel
theorem dX8_arrivals_4 : decode cX8_arrivals 4 = .ok (.getfield 151, 3) := by decide +kernel
theorem dX8_arrivals_7 : decode cX8_arrivals 7 = .ok (.if_icmp .ge 76, 3) := by decide +kernel
theorem dX8_arrivals_10 : decode cX8_arrivals 10 = .ok (.aload_n 0, 1) := by decide +kernel
theorem dX8_arrivals_11 : decode cX8_arrivals 11 = .ok (.getfield 71, 3) := by decide +kernel
theorem dX8_arrivals_14 : decode cX8_arrivals 14 = .ok (.iload_n 1, 1) := by decide +kernel
theorem dX8_arrivals_15 : decode cX8_arrivals 15 = .ok (.iaload, 1) := by decide +kernel
theorem dX8_arrivals_16 : decode cX8_arrivals 16 = .ok (.iconst 2, 1) := by decide +kernel
theorem dX8_arrivals_17 : decode cX8_arrivals 17 = .ok (.if_icmp .ne 60, 3) := by decide +kernel
theorem dX8_arrivals_20 : decode cX8_arrivals 20 = .ok (.aload_n 0, 1) := by decide +kernel
theorem dX8_arrivals_21 : decode cX8_arrivals 21 = .ok (.getfield 83, 3) := by decide +kernel
theorem dX8_arrivals_24 : decode cX8_arrivals 24 = .ok (.iload_n 1, 1) := by decide +kernel
theorem dX8_arrivals_25 : decode cX8_arrivals 25 = .ok (.iaload, 1) := by decide +kernel
theorem dX8_arrivals_26 : decode cX8_arrivals 26 = .ok (.aload_n 0, 1) := by decide +kernel
theorem dX8_arrivals_27 : decode cX8_arrivals 27 = .ok (.getfield 194, 3) := by decide +kernel
theorem dX8_arrivals_30 : decode cX8_arrivals 30 = .ok (.if_icmp .eq 6, 3) := by decide +kernel
theorem dX8_arrivals_33 : decode cX8_arrivals 33 = .ok (.goto 44, 3) := by decide +kernel
theorem dX8_arrivals_36 : decode cX8_arrivals 36 = .ok (.aload_n 0, 1) := by decide +kernel
theorem dX8_arrivals_37 : decode cX8_arrivals 37 = .ok (.getfield 71, 3) := by decide +kernel
theorem dX8_arrivals_40 : decode cX8_arrivals 40 = .ok (.iload_n 1, 1) := by decide +kernel
theorem dX8_arrivals_41 : decode cX8_arrivals 41 = .ok (.iconst 0, 1) := by decide +kernel
theorem dX8_arrivals_42 : decode cX8_arrivals 42 = .ok (.iastore, 1) := by decide +kernel
theorem dX8_arrivals_43 : decode cX8_arrivals 43 = .ok (.aload_n 0, 1) := by decide +kernel
theorem dX8_arrivals_44 : decode cX8_arrivals 44 = .ok (.getfield 83, 3) := by decide +kernel
theorem dX8_arrivals_47 : decode cX8_arrivals 47 = .ok (.iload_n 1, 1) := by decide +kernel
theorem dX8_arrivals_48 : decode cX8_arrivals 48 = .ok (.iconst (-1), 1) := by decide +kernel
theorem dX8_arrivals_49 : decode cX8_arrivals 49 = .ok (.iastore, 1) := by decide +kernel
theorem dX8_arrivals_50 : decode cX8_arrivals 50 = .ok (.aload_n 0, 1) := by decide +kernel
theorem dX8_arrivals_51 : decode cX8_arrivals 51 = .ok (.aload_n 0, 1) := by decide +kernel
theorem dX8_arrivals_52 : decode cX8_arrivals 52 = .ok (.getfield 80, 3) := by decide +kernel
theorem dX8_arrivals_55 : decode cX8_arrivals 55 = .ok (.iload_n 1, 1) := by decide +kernel
theorem dX8_arrivals_56 : decode cX8_arrivals 56 = .ok (.iaload, 1) := by decide +kernel
theorem dX8_arrivals_57 : decode cX8_arrivals 57 = .ok (.aload_n 0, 1) := by decide +kernel
theorem dX8_arrivals_58 : decode cX8_arrivals 58 = .ok (.getfield 74, 3) := by decide +kernel
theorem dX8_arrivals_61 : decode cX8_arrivals 61 = .ok (.iload_n 1, 1) := by decide +kernel
theorem dX8_arrivals_62 : decode cX8_arrivals 62 = .ok (.iaload, 1) := by decide +kernel
theorem dX8_arrivals_63 : decode cX8_arrivals 63 = .ok (.aload_n 0, 1) := by decide +kernel
theorem dX8_arrivals_64 : decode cX8_arrivals 64 = .ok (.getfield 194, 3) := by decide +kernel
theorem dX8_arrivals_67 : decode cX8_arrivals 67 = .ok (.invokevirtual 200, 3) := by decide +kernel
theorem dX8_arrivals_70 : decode cX8_arrivals 70 = .ok (.aload_n 0, 1) := by decide +kernel
theorem dX8_arrivals_71 : decode cX8_arrivals 71 = .ok (.getfield 80, 3) := by decide +kernel
theorem dX8_arrivals_74 : decode cX8_arrivals 74 = .ok (.iload_n 1, 1) := by decide +kernel
theorem dX8_arrivals_75 : decode cX8_arrivals 75 = .ok (.iconst (-1), 1) := by decide +kernel
theorem dX8_arrivals_76 : decode cX8_arrivals 76 = .ok (.iastore, 1) := by decide +kernel
theorem dX8_arrivals_77 : decode cX8_arrivals 77 = .ok (.iinc 1 1, 3) := by decide +kernel
theorem dX8_arrivals_80 : decode cX8_arrivals 80 = .ok (.goto (-78), 3) := by decide +kernel
theorem dX8_arrivals_83 : decode cX8_arrivals 83 = .ok (.iconst 0, 1) := by decide +kernel
theorem dX8_arrivals_84 : decode cX8_arrivals 84 = .ok (.istore_n 1, 1) := by decide +kernel
theorem dX8_arrivals_85 : decode cX8_arrivals 85 = .ok (.iload_n 1, 1) := by decide +kernel
theorem dX8_arrivals_86 : decode cX8_arrivals 86 = .ok (.aload_n 0, 1) := by decide +kernel
theorem dX8_arrivals_87 : decode cX8_arrivals 87 = .ok (.getfield 191, 3) := by decide +kernel
theorem dX8_arrivals_90 : decode cX8_arrivals 90 = .ok (.if_icmp .ge 47, 3) := by decide +kernel
theorem dX8_arrivals_93 : decode cX8_arrivals 93 = .ok (.aload_n 0, 1) := by decide +kernel
theorem dX8_arrivals_94 : decode cX8_arrivals 94 = .ok (.getfield 89, 3) := by decide +kernel
theorem dX8_arrivals_97 : decode cX8_arrivals 97 = .ok (.iload_n 1, 1) := by decide +kernel
theorem dX8_arrivals_98 : decode cX8_arrivals 98 = .ok (.iaload, 1) := by decide +kernel
theorem dX8_arrivals_99 : decode cX8_arrivals 99 = .ok (.iconst 2, 1) := by decide +kernel
theorem dX8_arrivals_100 : decode cX8_arrivals 100 = .ok (.if_icmp .ne 31, 3) := by decide +kernel
theorem dX8_arrivals_103 : decode cX8_arrivals 103 = .ok (.aload_n 0, 1) := by decide +kernel
theorem dX8_arrivals_104 : decode cX8_arrivals 104 = .ok (.getfield 98, 3) := by decide +kernel
theorem dX8_arrivals_107 : decode cX8_arrivals 107 = .ok (.iload_n 1, 1) := by decide +kernel
theorem dX8_arrivals_108 : decode cX8_arrivals 108 = .ok (.iaload, 1) := by decide +kernel
theorem dX8_arrivals_109 : decode cX8_arrivals 109 = .ok (.aload_n 0, 1) := by decide +kernel
theorem dX8_arrivals_110 : decode cX8_arrivals 110 = .ok (.getfield 194, 3) := by decide +kernel
theorem dX8_arrivals_113 : decode cX8_arrivals 113 = .ok (.if_icmp .ne 18, 3) := by decide +kernel
theorem dX8_arrivals_116 : decode cX8_arrivals 116 = .ok (.aload_n 0, 1) := by decide +kernel
theorem dX8_arrivals_117 : decode cX8_arrivals 117 = .ok (.iload_n 1, 1) := by decide +kernel
theorem dX8_arrivals_118 : decode cX8_arrivals 118 = .ok (.aload_n 0, 1) := by decide +kernel
theorem dX8_arrivals_119 : decode cX8_arrivals 119 = .ok (.getfield 86, 3) := by decide +kernel
theorem dX8_arrivals_122 : decode cX8_arrivals 122 = .ok (.iload_n 1, 1) := by decide +kernel
theorem dX8_arrivals_123 : decode cX8_arrivals 123 = .ok (.iaload, 1) := by decide +kernel
theorem dX8_arrivals_124 : decode cX8_arrivals 124 = .ok (.aload_n 0, 1) := by decide +kernel
theorem dX8_arrivals_125 : decode cX8_arrivals 125 = .ok (.getfield 194, 3) := by decide +kernel
theorem dX8_arrivals_128 : decode cX8_arrivals 128 = .ok (.invokevirtual 200, 3) := by decide +kernel
theorem dX8_arrivals_131 : decode cX8_arrivals 131 = .ok (.iinc 1 1, 3) := by decide +kernel
theorem dX8_arrivals_134 : decode cX8_arrivals 134 = .ok (.goto (-49), 3) := by decide +kernel
theorem dX8_arrivals_137 : decode cX8_arrivals 137 = .ok (.return_, 1) := by decide +kernel
theorem dX8_isAhead_0 : decode cX8_isAhead 0 = .ok (.aload_n 0, 1) := by decide +kernel
theorem dX8_isAhead_1 : decode cX8_isAhead 1 = .ok (.getfield 101, 3) := by decide +kernel
theorem dX8_isAhead_4 : decode cX8_isAhead 4 = .ok (.aload_n 0, 1) := by decide +kernel
theorem dX8_isAhead_5 : decode cX8_isAhead 5 = .ok (.getfield 41, 3) := by decide +kernel
theorem dX8_isAhead_8 : decode cX8_isAhead 8 = .ok (.aload_n 0, 1) := by decide +kernel
theorem dX8_isAhead_9 : decode cX8_isAhead 9 = .ok (.iload_n 1, 1) := by decide +kernel
theorem dX8_isAhead_10 : decode cX8_isAhead 10 = .ok (.invokevirtual 207, 3) := by decide +kernel
theorem dX8_isAhead_13 : decode cX8_isAhead 13 = .ok (.iaload, 1) := by decide +kernel
theorem dX8_isAhead_14 : decode cX8_isAhead 14 = .ok (.iaload, 1) := by decide +kernel
theorem dX8_isAhead_15 : decode cX8_isAhead 15 = .ok (.istore_n 3, 1) := by decide +kernel
theorem dX8_isAhead_16 : decode cX8_isAhead 16 = .ok (.aload_n 0, 1) := by decide +kernel
theorem dX8_isAhead_17 : decode cX8_isAhead 17 = .ok (.getfield 101, 3) := by decide +kernel
theorem dX8_isAhead_20 : decode cX8_isAhead 20 = .ok (.aload_n 0, 1) := by decide +kernel
theorem dX8_isAhead_21 : decode cX8_isAhead 21 = .ok (.getfield 41, 3) := by decide +kernel
theorem dX8_isAhead_24 : decode cX8_isAhead 24 = .ok (.aload_n 0, 1) := by decide +kernel
theorem dX8_isAhead_25 : decode cX8_isAhead 25 = .ok (.iload_n 2, 1) := by decide +kernel
theorem dX8_isAhead_26 : decode cX8_isAhead 26 = .ok (.invokevirtual 207, 3) := by decide +kernel
theorem dX8_isAhead_29 : decode cX8_isAhead 29 = .ok (.iaload, 1) := by decide +kernel
theorem dX8_isAhead_30 : decode cX8_isAhead 30 = .ok (.iaload, 1) := by decide +kernel
theorem dX8_isAhead_31 : decode cX8_isAhead 31 = .ok (.istore 4, 2) := by decide +kernel
theorem dX8_isAhead_33 : decode cX8_isAhead 33 = .ok (.iload_n 3, 1) := by decide +kernel
theorem dX8_isAhead_34 : decode cX8_isAhead 34 = .ok (.iload 4, 2) := by decide +kernel
theorem dX8_isAhead_36 : decode cX8_isAhead 36 = .ok (.if_icmp .lt 22, 3) := by decide +kernel
theorem dX8_isAhead_39 : decode cX8_isAhead 39 = .ok (.iload_n 3, 1) := by decide +kernel
theorem dX8_isAhead_40 : decode cX8_isAhead 40 = .ok (.iload 4, 2) := by decide +kernel
theorem dX8_isAhead_42 : decode cX8_isAhead 42 = .ok (.if_icmp .ne 20, 3) := by decide +kernel
theorem dX8_isAhead_45 : decode cX8_isAhead 45 = .ok (.aload_n 0, 1) := by decide +kernel
theorem dX8_isAhead_46 : decode cX8_isAhead 46 = .ok (.iload_n 1, 1) := by decide +kernel
theorem dX8_isAhead_47 : decode cX8_isAhead 47 = .ok (.invokevirtual 210, 3) := by decide +kernel
theorem dX8_isAhead_50 : decode cX8_isAhead 50 = .ok (.aload_n 0, 1) := by decide +kernel
theorem dX8_isAhead_51 : decode cX8_isAhead 51 = .ok (.iload_n 2, 1) := by decide +kernel
theorem dX8_isAhead_52 : decode cX8_isAhead 52 = .ok (.invokevirtual 210, 3) := by decide +kernel
theorem dX8_isAhead_55 : decode cX8_isAhead 55 = .ok (.if_icmp .le 7, 3) := by decide +kernel
theorem dX8_isAhead_58 : decode cX8_isAhead 58 = .ok (.iconst 1, 1) := by decide +kernel
theorem dX8_isAhead_59 : decode cX8_isAhead 59 = .ok (.goto 4, 3) := by decide +kernel
theorem dX8_isAhead_62 : decode cX8_isAhead 62 = .ok (.iconst 0, 1) := by decide +kernel
theorem dX8_isAhead_63 : decode cX8_isAhead 63 = .ok (.ireturn, 1) := by decide +kernel
theorem dX8_weir_0 : decode cX8_weir 0 = .ok (.aload_n 0, 1) := by decide +kernel
theorem dX8_weir_1 : decode cX8_weir 1 = .ok (.getfield 194, 3) := by decide +kernel
theorem dX8_weir_4 : decode cX8_weir 4 = .ok (.aload_n 0, 1) := by decide +kernel
theorem dX8_weir_5 : decode cX8_weir 5 = .ok (.getfield 32, 3) := by decide +kernel
theorem dX8_weir_8 : decode cX8_weir 8 = .ok (.iload_n 1, 1) := by decide +kernel
theorem dX8_weir_9 : decode cX8_weir 9 = .ok (.iaload, 1) := by decide +kernel
theorem dX8_weir_10 : decode cX8_weir 10 = .ok (.aload_n 0, 1) := by decide +kernel
theorem dX8_weir_11 : decode cX8_weir 11 = .ok (.getfield 35, 3) := by decide +kernel
theorem dX8_weir_14 : decode cX8_weir 14 = .ok (.iload_n 1, 1) := by decide +kernel
theorem dX8_weir_15 : decode cX8_weir 15 = .ok (.iaload, 1) := by decide +kernel
theorem dX8_weir_16 : decode cX8_weir 16 = .ok (.iconst 1, 1) := by decide +kernel
theorem dX8_weir_17 : decode cX8_weir 17 = .ok (.isub, 1) := by decide +kernel
theorem dX8_weir_18 : decode cX8_weir 18 = .ok (.invokestatic 144, 3) := by decide +kernel
theorem dX8_weir_21 : decode cX8_weir 21 = .ok (.ifCond .eq 4, 3) := by decide +kernel
theorem dX8_weir_24 : decode cX8_weir 24 = .ok (.return_, 1) := by decide +kernel
theorem dX8_weir_25 : decode cX8_weir 25 = .ok (.iconst (-1), 1) := by decide +kernel
theorem dX8_weir_26 : decode cX8_weir 26 = .ok (.istore_n 2, 1) := by decide +kernel
theorem dX8_weir_27 : decode cX8_weir 27 = .ok (.iconst 0, 1) := by decide +kernel
theorem dX8_weir_28 : decode cX8_weir 28 = .ok (.istore_n 3, 1) := by decide +kernel
theorem dX8_weir_29 : decode cX8_weir 29 = .ok (.iload_n 3, 1) := by decide +kernel
theorem dX8_weir_30 : decode cX8_weir 30 = .ok (.aload_n 0, 1) := by decide +kernel
theorem dX8_weir_31 : decode cX8_weir 31 = .ok (.getfield 151, 3) := by decide +kernel
theorem dX8_weir_34 : decode cX8_weir 34 = .ok (.if_icmp .ge 79, 3) := by decide +kernel
theorem dX8_weir_37 : decode cX8_weir 37 = .ok (.aload_n 0, 1) := by decide +kernel
theorem dX8_weir_38 : decode cX8_weir 38 = .ok (.getfield 71, 3) := by decide +kernel
theorem dX8_weir_41 : decode cX8_weir 41 = .ok (.iload_n 3, 1) := by decide +kernel
theorem dX8_weir_42 : decode cX8_weir 42 = .ok (.iaload, 1) := by decide +kernel
theorem dX8_weir_43 : decode cX8_weir 43 = .ok (.iconst 1, 1) := by decide +kernel
theorem dX8_weir_44 : decode cX8_weir 44 = .ok (.if_icmp .ne 63, 3) := by decide +kernel
theorem dX8_weir_47 : decode cX8_weir 47 = .ok (.aload_n 0, 1) := by decide +kernel
theorem dX8_weir_48 : decode cX8_weir 48 = .ok (.getfield 74, 3) := by decide +kernel
theorem dX8_weir_51 : decode cX8_weir 51 = .ok (.iload_n 3, 1) := by decide +kernel
theorem dX8_weir_52 : decode cX8_weir 52 = .ok (.iaload, 1) := by decide +kernel
theorem dX8_weir_53 : decode cX8_weir 53 = .ok (.iload_n 1, 1) := by decide +kernel
theorem dX8_weir_54 : decode cX8_weir 54 = .ok (.if_icmp .ne 53, 3) := by decide +kernel
theorem dX8_weir_57 : decode cX8_weir 57 = .ok (.aload_n 0, 1) := by decide +kernel
theorem dX8_weir_58 : decode cX8_weir 58 = .ok (.iload_n 3, 1) := by decide +kernel
theorem dX8_weir_59 : decode cX8_weir 59 = .ok (.invokevirtual 213, 3) := by decide +kernel
theorem dX8_weir_62 : decode cX8_weir 62 = .ok (.aload_n 0, 1) := by decide +kernel
theorem dX8_weir_63 : decode cX8_weir 63 = .ok (.getfield 16, 3) := by decide +kernel
theorem dX8_weir_66 : decode cX8_weir 66 = .ok (.iload_n 1, 1) := by decide +kernel
theorem dX8_weir_67 : decode cX8_weir 67 = .ok (.iaload, 1) := by decide +kernel
theorem dX8_weir_68 : decode cX8_weir 68 = .ok (.if_icmp .gt 39, 3) := by decide +kernel
theorem dX8_weir_71 : decode cX8_weir 71 = .ok (.iconst 5, 1) := by decide +kernel
theorem dX8_weir_72 : decode cX8_weir 72 = .ok (.aload_n 0, 1) := by decide +kernel
theorem dX8_weir_73 : decode cX8_weir 73 = .ok (.getfield 77, 3) := by decide +kernel
theorem dX8_weir_76 : decode cX8_weir 76 = .ok (.iload_n 3, 1) := by decide +kernel
theorem dX8_weir_77 : decode cX8_weir 77 = .ok (.iaload, 1) := by decide +kernel
theorem dX8_weir_78 : decode cX8_weir 78 = .ok (.imul, 1) := by decide +kernel
theorem dX8_weir_79 : decode cX8_weir 79 = .ok (.aload_n 0, 1) := by decide +kernel
theorem dX8_weir_80 : decode cX8_weir 80 = .ok (.getfield 25, 3) := by decide +kernel
theorem dX8_weir_83 : decode cX8_weir 83 = .ok (.iload_n 1, 1) := by decide +kernel
theorem dX8_weir_84 : decode cX8_weir 84 = .ok (.iaload, 1) := by decide +kernel
theorem dX8_weir_85 : decode cX8_weir 85 = .ok (.if_icmp .le 6, 3) := by decide +kernel
theorem dX8_weir_88 : decode cX8_weir 88 = .ok (.goto 19, 3) := by decide +kernel
theorem dX8_weir_91 : decode cX8_weir 91 = .ok (.iload_n 2, 1) := by decide +kernel
theorem dX8_weir_92 : decode cX8_weir 92 = .ok (.iconst (-1), 1) := by decide +kernel
theorem dX8_weir_93 : decode cX8_weir 93 = .ok (.if_icmp .eq 12, 3) := by decide +kernel
theorem dX8_weir_96 : decode cX8_weir 96 = .ok (.aload_n 0, 1) := by decide +kernel
theorem dX8_weir_97 : decode cX8_weir 97 = .ok (.iload_n 3, 1) := by decide +kernel
theorem dX8_weir_98 : decode cX8_weir 98 = .ok (.iload_n 2, 1) := by decide +kernel
theorem dX8_weir_99 : decode cX8_weir 99 = .ok (.invokevirtual 216, 3) := by decide +kernel
theorem dX8_weir_102 : decode cX8_weir 102 = .ok (.ifCond .eq 5, 3) := by decide +kernel
theorem dX8_weir_105 : decode cX8_weir 105 = .ok (.iload_n 3, 1) := by decide +kernel
theorem dX8_weir_106 : decode cX8_weir 106 = .ok (.istore_n 2, 1) := by decide +kernel
theorem dX8_weir_107 : decode cX8_weir 107 = .ok (.iinc 3 1, 3) := by decide +kernel
theorem dX8_weir_110 : decode cX8_weir 110 = .ok (.goto (-81), 3) := by decide +kernel
theorem dX8_weir_113 : decode cX8_weir 113 = .ok (.iload_n 2, 1) := by decide +kernel
theorem dX8_weir_114 : decode cX8_weir 114 = .ok (.iconst (-1), 1) := by decide +kernel
theorem dX8_weir_115 : decode cX8_weir 115 = .ok (.if_icmp .ne 4, 3) := by decide +kernel
theorem dX8_weir_118 : decode cX8_weir 118 = .ok (.return_, 1) := by decide +kernel
theorem dX8_weir_119 : decode cX8_weir 119 = .ok (.aload_n 0, 1) := by decide +kernel
theorem dX8_weir_120 : decode cX8_weir 120 = .ok (.getfield 25, 3) := by decide +kernel
theorem dX8_weir_123 : decode cX8_weir 123 = .ok (.iload_n 1, 1) := by decide +kernel
theorem dX8_weir_124 : decode cX8_weir 124 = .ok (.dup2, 1) := by decide +kernel
theorem dX8_weir_125 : decode cX8_weir 125 = .ok (.iaload, 1) := by decide +kernel
theorem dX8_weir_126 : decode cX8_weir 126 = .ok (.iconst 5, 1) := by decide +kernel
theorem dX8_weir_127 : decode cX8_weir 127 = .ok (.aload_n 0, 1) := by decide +kernel
theorem dX8_weir_128 : decode cX8_weir 128 = .ok (.getfield 77, 3) := by decide +kernel
theorem dX8_weir_131 : decode cX8_weir 131 = .ok (.iload_n 2, 1) := by decide +kernel
theorem dX8_weir_132 : decode cX8_weir 132 = .ok (.iaload, 1) := by decide +kernel
theorem dX8_weir_133 : decode cX8_weir 133 = .ok (.imul, 1) := by decide +kernel
theorem dX8_weir_134 : decode cX8_weir 134 = .ok (.isub, 1) := by decide +kernel
theorem dX8_weir_135 : decode cX8_weir 135 = .ok (.iastore, 1) := by decide +kernel
theorem dX8_weir_136 : decode cX8_weir 136 = .ok (.aload_n 0, 1) := by decide +kernel
theorem dX8_weir_137 : decode cX8_weir 137 = .ok (.getfield 71, 3) := by decide +kernel
theorem dX8_weir_140 : decode cX8_weir 140 = .ok (.iload_n 2, 1) := by decide +kernel
theorem dX8_weir_141 : decode cX8_weir 141 = .ok (.iconst 2, 1) := by decide +kernel
theorem dX8_weir_142 : decode cX8_weir 142 = .ok (.iastore, 1) := by decide +kernel
theorem dX8_weir_143 : decode cX8_weir 143 = .ok (.aload_n 0, 1) := by decide +kernel
theorem dX8_weir_144 : decode cX8_weir 144 = .ok (.getfield 74, 3) := by decide +kernel
theorem dX8_weir_147 : decode cX8_weir 147 = .ok (.iload_n 2, 1) := by decide +kernel
theorem dX8_weir_148 : decode cX8_weir 148 = .ok (.aload_n 0, 1) := by decide +kernel
theorem dX8_weir_149 : decode cX8_weir 149 = .ok (.getfield 9, 3) := by decide +kernel
theorem dX8_weir_152 : decode cX8_weir 152 = .ok (.iload_n 1, 1) := by decide +kernel
theorem dX8_weir_153 : decode cX8_weir 153 = .ok (.iaload, 1) := by decide +kernel
theorem dX8_weir_154 : decode cX8_weir 154 = .ok (.iastore, 1) := by decide +kernel
theorem dX8_weir_155 : decode cX8_weir 155 = .ok (.aload_n 0, 1) := by decide +kernel
theorem dX8_weir_156 : decode cX8_weir 156 = .ok (.getfield 83, 3) := by decide +kernel
theorem dX8_weir_159 : decode cX8_weir 159 = .ok (.iload_n 2, 1) := by decide +kernel
theorem dX8_weir_160 : decode cX8_weir 160 = .ok (.aload_n 0, 1) := by decide +kernel
theorem dX8_weir_161 : decode cX8_weir 161 = .ok (.getfield 194, 3) := by decide +kernel
theorem dX8_weir_164 : decode cX8_weir 164 = .ok (.aload_n 0, 1) := by decide +kernel
theorem dX8_weir_165 : decode cX8_weir 165 = .ok (.getfield 13, 3) := by decide +kernel
theorem dX8_weir_168 : decode cX8_weir 168 = .ok (.iload_n 1, 1) := by decide +kernel
theorem dX8_weir_169 : decode cX8_weir 169 = .ok (.iaload, 1) := by decide +kernel
theorem dX8_weir_170 : decode cX8_weir 170 = .ok (.iadd, 1) := by decide +kernel
theorem dX8_weir_171 : decode cX8_weir 171 = .ok (.iastore, 1) := by decide +kernel
theorem dX8_weir_172 : decode cX8_weir 172 = .ok (.aload_n 0, 1) := by decide +kernel
theorem dX8_weir_173 : decode cX8_weir 173 = .ok (.aload_n 0, 1) := by decide +kernel
theorem dX8_weir_174 : decode cX8_weir 174 = .ok (.getfield 194, 3) := by decide +kernel
theorem dX8_weir_177 : decode cX8_weir 177 = .ok (.bipush 24, 2) := by decide +kernel
theorem dX8_weir_179 : decode cX8_weir 179 = .ok (.idiv, 1) := by decide +kernel
theorem dX8_weir_180 : decode cX8_weir 180 = .ok (.invokevirtual 219, 3) := by decide +kernel
theorem dX8_weir_183 : decode cX8_weir 183 = .ok (.istore_n 3, 1) := by decide +kernel
theorem dX8_weir_184 : decode cX8_weir 184 = .ok (.iconst 0, 1) := by decide +kernel
theorem dX8_weir_185 : decode cX8_weir 185 = .ok (.istore 4, 2) := by decide +kernel
theorem dX8_weir_187 : decode cX8_weir 187 = .ok (.iload 4, 2) := by decide +kernel
theorem dX8_weir_189 : decode cX8_weir 189 = .ok (.aload_n 0, 1) := by decide +kernel
theorem dX8_weir_190 : decode cX8_weir 190 = .ok (.getfield 148, 3) := by decide +kernel
theorem dX8_weir_193 : decode cX8_weir 193 = .ok (.if_icmp .ge 48, 3) := by decide +kernel
theorem dX8_weir_196 : decode cX8_weir 196 = .ok (.aload_n 0, 1) := by decide +kernel
theorem dX8_weir_197 : decode cX8_weir 197 = .ok (.iload 4, 2) := by decide +kernel
theorem dX8_weir_199 : decode cX8_weir 199 = .ok (.iload_n 2, 1) := by decide +kernel
theorem dX8_weir_200 : decode cX8_weir 200 = .ok (.invokevirtual 180, 3) := by decide +kernel
theorem dX8_weir_203 : decode cX8_weir 203 = .ok (.ifCond .ne 6, 3) := by decide +kernel
theorem dX8_weir_206 : decode cX8_weir 206 = .ok (.goto 29, 3) := by decide +kernel
theorem dX8_weir_209 : decode cX8_weir 209 = .ok (.aload_n 0, 1) := by decide +kernel
theorem dX8_weir_210 : decode cX8_weir 210 = .ok (.getfield 104, 3) := by decide +kernel
theorem dX8_weir_213 : decode cX8_weir 213 = .ok (.aload_n 0, 1) := by decide +kernel
theorem dX8_weir_214 : decode cX8_weir 214 = .ok (.getfield 41, 3) := by decide +kernel
theorem dX8_weir_217 : decode cX8_weir 217 = .ok (.iload 4, 2) := by decide +kernel
theorem dX8_weir_219 : decode cX8_weir 219 = .ok (.iaload, 1) := by decide +kernel
theorem dX8_weir_220 : decode cX8_weir 220 = .ok (.dup2, 1) := by decide +kernel
theorem dX8_weir_221 : decode cX8_weir 221 = .ok (.iaload, 1) := by decide +kernel
theorem dX8_weir_222 : decode cX8_weir 222 = .ok (.iload_n 3, 1) := by decide +kernel
theorem dX8_weir_223 : decode cX8_weir 223 = .ok (.isub, 1) := by decide +kernel
theorem dX8_weir_224 : decode cX8_weir 224 = .ok (.iastore, 1) := by decide +kernel
theorem dX8_weir_225 : decode cX8_weir 225 = .ok (.aload_n 0, 1) := by decide +kernel
theorem dX8_weir_226 : decode cX8_weir 226 = .ok (.dup, 1) := by decide +kernel
theorem dX8_weir_227 : decode cX8_weir 227 = .ok (.getfield 222, 3) := by decide +kernel
theorem dX8_weir_230 : decode cX8_weir 230 = .ok (.iload_n 3, 1) := by decide +kernel
theorem dX8_weir_231 : decode cX8_weir 231 = .ok (.iadd, 1) := by decide +kernel
theorem dX8_weir_232 : decode cX8_weir 232 = .ok (.putfield 222, 3) := by decide +kernel
theorem dX8_weir_235 : decode cX8_weir 235 = .ok (.iinc 4 1, 3) := by decide +kernel
theorem dX8_weir_238 : decode cX8_weir 238 = .ok (.goto (-51), 3) := by decide +kernel
theorem dX8_weir_241 : decode cX8_weir 241 = .ok (.return_, 1) := by decide +kernel
theorem dX8_go_0 : decode cX8_go 0 = .ok (.iload_n 1, 1) := by decide +kernel
theorem dX8_go_1 : decode cX8_go 1 = .ok (.iconst 0, 1) := by decide +kernel
theorem dX8_go_2 : decode cX8_go 2 = .ok (.sipush 500, 3) := by decide +kernel
theorem dX8_go_5 : decode cX8_go 5 = .ok (.invokestatic 144, 3) := by decide +kernel
theorem dX8_go_8 : decode cX8_go 8 = .ok (.ifCond .ne 5, 3) := by decide +kernel
theorem dX8_go_11 : decode cX8_go 11 = .ok (.iconst (-1), 1) := by decide +kernel
theorem dX8_go_12 : decode cX8_go 12 = .ok (.ireturn, 1) := by decide +kernel
theorem dX8_go_13 : decode cX8_go 13 = .ok (.iconst 0, 1) := by decide +kernel
theorem dX8_go_14 : decode cX8_go 14 = .ok (.istore_n 2, 1) := by decide +kernel
theorem dX8_go_15 : decode cX8_go 15 = .ok (.iload_n 2, 1) := by decide +kernel
theorem dX8_go_16 : decode cX8_go 16 = .ok (.iload_n 1, 1) := by decide +kernel
theorem dX8_go_17 : decode cX8_go 17 = .ok (.if_icmp .ge 120, 3) := by decide +kernel
theorem dX8_go_20 : decode cX8_go 20 = .ok (.aload_n 0, 1) := by decide +kernel
theorem dX8_go_21 : decode cX8_go 21 = .ok (.getfield 194, 3) := by decide +kernel
theorem dX8_go_24 : decode cX8_go 24 = .ok (.sipush 20000, 3) := by decide +kernel
theorem dX8_go_27 : decode cX8_go 27 = .ok (.if_icmp .ge 110, 3) := by decide +kernel
theorem dX8_go_30 : decode cX8_go 30 = .ok (.aload_n 0, 1) := by decide +kernel
theorem dX8_go_31 : decode cX8_go 31 = .ok (.invokevirtual 225, 3) := by decide +kernel
theorem dX8_go_34 : decode cX8_go 34 = .ok (.iconst 1, 1) := by decide +kernel
theorem dX8_go_35 : decode cX8_go 35 = .ok (.istore_n 3, 1) := by decide +kernel
theorem dX8_go_36 : decode cX8_go 36 = .ok (.iload_n 3, 1) := by decide +kernel
theorem dX8_go_37 : decode cX8_go 37 = .ok (.aload_n 0, 1) := by decide +kernel
theorem dX8_go_38 : decode cX8_go 38 = .ok (.getfield 140, 3) := by decide +kernel
theorem dX8_go_41 : decode cX8_go 41 = .ok (.if_icmp .ge 14, 3) := by decide +kernel
theorem dX8_go_44 : decode cX8_go 44 = .ok (.aload_n 0, 1) := by decide +kernel
theorem dX8_go_45 : decode cX8_go 45 = .ok (.iload_n 3, 1) := by decide +kernel
theorem dX8_go_46 : decode cX8_go 46 = .ok (.invokevirtual 228, 3) := by decide +kernel
theorem dX8_go_49 : decode cX8_go 49 = .ok (.iinc 3 1, 3) := by decide +kernel
theorem dX8_go_52 : decode cX8_go 52 = .ok (.goto (-16), 3) := by decide +kernel
theorem dX8_go_55 : decode cX8_go 55 = .ok (.iconst 1, 1) := by decide +kernel
theorem dX8_go_56 : decode cX8_go 56 = .ok (.istore_n 3, 1) := by decide +kernel
theorem dX8_go_57 : decode cX8_go 57 = .ok (.iload_n 3, 1) := by decide +kernel
theorem dX8_go_58 : decode cX8_go 58 = .ok (.aload_n 0, 1) := by decide +kernel
theorem dX8_go_59 : decode cX8_go 59 = .ok (.getfield 140, 3) := by decide +kernel
theorem dX8_go_62 : decode cX8_go 62 = .ok (.if_icmp .ge 59, 3) := by decide +kernel
theorem dX8_go_65 : decode cX8_go 65 = .ok (.aload_n 0, 1) := by decide +kernel
theorem dX8_go_66 : decode cX8_go 66 = .ok (.getfield 25, 3) := by decide +kernel
theorem dX8_go_69 : decode cX8_go 69 = .ok (.iload_n 3, 1) := by decide +kernel
theorem dX8_go_70 : decode cX8_go 70 = .ok (.aload_n 0, 1) := by decide +kernel
theorem dX8_go_71 : decode cX8_go 71 = .ok (.getfield 25, 3) := by decide +kernel
theorem dX8_go_74 : decode cX8_go 74 = .ok (.iload_n 3, 1) := by decide +kernel
theorem dX8_go_75 : decode cX8_go 75 = .ok (.iaload, 1) := by decide +kernel
theorem dX8_go_76 : decode cX8_go 76 = .ok (.aload_n 0, 1) := by decide +kernel
theorem dX8_go_77 : decode cX8_go 77 = .ok (.getfield 19, 3) := by decide +kernel
theorem dX8_go_80 : decode cX8_go 80 = .ok (.iload_n 3, 1) := by decide +kernel
theorem dX8_go_81 : decode cX8_go 81 = .ok (.iaload, 1) := by decide +kernel
theorem dX8_go_82 : decode cX8_go 82 = .ok (.iadd, 1) := by decide +kernel
theorem dX8_go_83 : decode cX8_go 83 = .ok (.aload_n 0, 1) := by decide +kernel
theorem dX8_go_84 : decode cX8_go 84 = .ok (.getfield 22, 3) := by decide +kernel
theorem dX8_go_87 : decode cX8_go 87 = .ok (.iload_n 3, 1) := by decide +kernel
theorem dX8_go_88 : decode cX8_go 88 = .ok (.iaload, 1) := by decide +kernel
theorem dX8_go_89 : decode cX8_go 89 = .ok (.if_icmp .le 12, 3) := by decide +kernel
theorem dX8_go_92 : decode cX8_go 92 = .ok (.aload_n 0, 1) := by decide +kernel
theorem dX8_go_93 : decode cX8_go 93 = .ok (.getfield 22, 3) := by decide +kernel
theorem dX8_go_96 : decode cX8_go 96 = .ok (.iload_n 3, 1) := by decide +kernel
theorem dX8_go_97 : decode cX8_go 97 = .ok (.iaload, 1) := by decide +kernel
theorem dX8_go_98 : decode cX8_go 98 = .ok (.goto 16, 3) := by decide +kernel
theorem dX8_go_101 : decode cX8_go 101 = .ok (.aload_n 0, 1) := by decide +kernel
theorem dX8_go_102 : decode cX8_go 102 = .ok (.getfield 25, 3) := by decide +kernel
theorem dX8_go_105 : decode cX8_go 105 = .ok (.iload_n 3, 1) := by decide +kernel
theorem dX8_go_106 : decode cX8_go 106 = .ok (.iaload, 1) := by decide +kernel
theorem dX8_go_107 : decode cX8_go 107 = .ok (.aload_n 0, 1) := by decide +kernel
theorem dX8_go_108 : decode cX8_go 108 = .ok (.getfield 19, 3) := by decide +kernel
theorem dX8_go_111 : decode cX8_go 111 = .ok (.iload_n 3, 1) := by decide +kernel
theorem dX8_go_112 : decode cX8_go 112 = .ok (.iaload, 1) := by decide +kernel
theorem dX8_go_113 : decode cX8_go 113 = .ok (.iadd, 1) := by decide +kernel
theorem dX8_go_114 : decode cX8_go 114 = .ok (.iastore, 1) := by decide +kernel
theorem dX8_go_115 : decode cX8_go 115 = .ok (.iinc 3 1, 3) := by decide +kernel
theorem dX8_go_118 : decode cX8_go 118 = .ok (.goto (-61), 3) := by decide +kernel
theorem dX8_go_121 : decode cX8_go 121 = .ok (.aload_n 0, 1) := by decide +kernel
theorem dX8_go_122 : decode cX8_go 122 = .ok (.dup, 1) := by decide +kernel
theorem dX8_go_123 : decode cX8_go 123 = .ok (.getfield 194, 3) := by decide +kernel
theorem dX8_go_126 : decode cX8_go 126 = .ok (.iconst 1, 1) := by decide +kernel
theorem dX8_go_127 : decode cX8_go 127 = .ok (.iadd, 1) := by decide +kernel
theorem dX8_go_128 : decode cX8_go 128 = .ok (.putfield 194, 3) := by decide +kernel
theorem dX8_go_131 : decode cX8_go 131 = .ok (.iinc 2 1, 3) := by decide +kernel
theorem dX8_go_134 : decode cX8_go 134 = .ok (.goto (-119), 3) := by decide +kernel
theorem dX8_go_137 : decode cX8_go 137 = .ok (.aload_n 0, 1) := by decide +kernel
theorem dX8_go_138 : decode cX8_go 138 = .ok (.getfield 194, 3) := by decide +kernel
theorem dX8_go_141 : decode cX8_go 141 = .ok (.ireturn, 1) := by decide +kernel
theorem dX8_storm_0 : decode cX8_storm 0 = .ok (.aload_n 0, 1) := by decide +kernel
theorem dX8_storm_1 : decode cX8_storm 1 = .ok (.iload_n 1, 1) := by decide +kernel
theorem dX8_storm_2 : decode cX8_storm 2 = .ok (.invokevirtual 154, 3) := by decide +kernel
theorem dX8_storm_5 : decode cX8_storm 5 = .ok (.ifCond .eq 16, 3) := by decide +kernel
theorem dX8_storm_8 : decode cX8_storm 8 = .ok (.iload_n 2, 1) := by decide +kernel
theorem dX8_storm_9 : decode cX8_storm 9 = .ok (.aload_n 0, 1) := by decide +kernel
theorem dX8_storm_10 : decode cX8_storm 10 = .ok (.getfield 194, 3) := by decide +kernel
theorem dX8_storm_13 : decode cX8_storm 13 = .ok (.if_icmp .lt 8, 3) := by decide +kernel
theorem dX8_storm_16 : decode cX8_storm 16 = .ok (.iload_n 3, 1) := by decide +kernel
theorem dX8_storm_17 : decode cX8_storm 17 = .ok (.iload_n 2, 1) := by decide +kernel
theorem dX8_storm_18 : decode cX8_storm 18 = .ok (.if_icmp .gt 5, 3) := by decide +kernel
theorem dX8_storm_21 : decode cX8_storm 21 = .ok (.iconst 0, 1) := by decide +kernel
theorem dX8_storm_22 : decode cX8_storm 22 = .ok (.ireturn, 1) := by decide +kernel
theorem dX8_storm_23 : decode cX8_storm 23 = .ok (.aload_n 0, 1) := by decide +kernel
theorem dX8_storm_24 : decode cX8_storm 24 = .ok (.getfield 32, 3) := by decide +kernel
theorem dX8_storm_27 : decode cX8_storm 27 = .ok (.iload_n 1, 1) := by decide +kernel
theorem dX8_storm_28 : decode cX8_storm 28 = .ok (.iload_n 2, 1) := by decide +kernel
theorem dX8_storm_29 : decode cX8_storm 29 = .ok (.iastore, 1) := by decide +kernel
theorem dX8_storm_30 : decode cX8_storm 30 = .ok (.aload_n 0, 1) := by decide +kernel
theorem dX8_storm_31 : decode cX8_storm 31 = .ok (.getfield 35, 3) := by decide +kernel
theorem dX8_storm_34 : decode cX8_storm 34 = .ok (.iload_n 1, 1) := by decide +kernel
theorem dX8_storm_35 : decode cX8_storm 35 = .ok (.iload_n 3, 1) := by decide +kernel
theorem dX8_storm_36 : decode cX8_storm 36 = .ok (.iastore, 1) := by decide +kernel
theorem dX8_storm_37 : decode cX8_storm 37 = .ok (.iconst 1, 1) := by decide +kernel
theorem dX8_storm_38 : decode cX8_storm 38 = .ok (.ireturn, 1) := by decide +kernel
theorem dX8_breaks_0 : decode cX8_breaks 0 = .ok (.aload_n 0, 1) := by decide +kernel
theorem dX8_breaks_1 : decode cX8_breaks 1 = .ok (.iload_n 1, 1) := by decide +kernel
theorem dX8_breaks_2 : decode cX8_breaks 2 = .ok (.iconst 2, 1) := by decide +kernel
theorem dX8_breaks_3 : decode cX8_breaks 3 = .ok (.invokevirtual 176, 3) := by decide +kernel
theorem dX8_breaks_6 : decode cX8_breaks 6 = .ok (.ifCond .ne 5, 3) := by decide +kernel
theorem dX8_breaks_9 : decode cX8_breaks 9 = .ok (.iconst (-1), 1) := by decide +kernel
theorem dX8_breaks_10 : decode cX8_breaks 10 = .ok (.ireturn, 1) := by decide +kernel
theorem dX8_breaks_11 : decode cX8_breaks 11 = .ok (.iconst 0, 1) := by decide +kernel
theorem dX8_breaks_12 : decode cX8_breaks 12 = .ok (.istore_n 3, 1) := by decide +kernel
theorem dX8_breaks_13 : decode cX8_breaks 13 = .ok (.iconst 0, 1) := by decide +kernel
theorem dX8_breaks_14 : decode cX8_breaks 14 = .ok (.istore 4, 2) := by decide +kernel
theorem dX8_breaks_16 : decode cX8_breaks 16 = .ok (.iload 4, 2) := by decide +kernel
theorem dX8_breaks_18 : decode cX8_breaks 18 = .ok (.aload_n 0, 1) := by decide +kernel
theorem dX8_breaks_19 : decode cX8_breaks 19 = .ok (.getfield 148, 3) := by decide +kernel
theorem dX8_breaks_22 : decode cX8_breaks 22 = .ok (.if_icmp .ge 64, 3) := by decide +kernel
theorem dX8_breaks_25 : decode cX8_breaks 25 = .ok (.aload_n 0, 1) := by decide +kernel
theorem dX8_breaks_26 : decode cX8_breaks 26 = .ok (.iload 4, 2) := by decide +kernel
theorem dX8_breaks_28 : decode cX8_breaks 28 = .ok (.iload_n 1, 1) := by decide +kernel
theorem dX8_breaks_29 : decode cX8_breaks 29 = .ok (.invokevirtual 180, 3) := by decide +kernel
theorem dX8_breaks_32 : decode cX8_breaks 32 = .ok (.ifCond .ne 6, 3) := by decide +kernel
theorem dX8_breaks_35 : decode cX8_breaks 35 = .ok (.goto 45, 3) := by decide +kernel
theorem dX8_breaks_38 : decode cX8_breaks 38 = .ok (.aload_n 0, 1) := by decide +kernel
theorem dX8_breaks_39 : decode cX8_breaks 39 = .ok (.iload 4, 2) := by decide +kernel
theorem dX8_breaks_41 : decode cX8_breaks 41 = .ok (.aload_n 0, 1) := by decide +kernel
theorem dX8_breaks_42 : decode cX8_breaks 42 = .ok (.getfield 74, 3) := by decide +kernel
theorem dX8_breaks_45 : decode cX8_breaks 45 = .ok (.iload_n 1, 1) := by decide +kernel
theorem dX8_breaks_46 : decode cX8_breaks 46 = .ok (.iaload, 1) := by decide +kernel
theorem dX8_breaks_47 : decode cX8_breaks 47 = .ok (.invokevirtual 187, 3) := by decide +kernel
theorem dX8_breaks_50 : decode cX8_breaks 50 = .ok (.iload 4, 2) := by decide +kernel
theorem dX8_breaks_52 : decode cX8_breaks 52 = .ok (.iconst 2, 1) := by decide +kernel
theorem dX8_breaks_53 : decode cX8_breaks 53 = .ok (.irem, 1) := by decide +kernel
theorem dX8_breaks_54 : decode cX8_breaks 54 = .ok (.iload_n 2, 1) := by decide +kernel
theorem dX8_breaks_55 : decode cX8_breaks 55 = .ok (.ifCond .eq 7, 3) := by decide +kernel
theorem dX8_breaks_58 : decode cX8_breaks 58 = .ok (.iconst 1, 1) := by decide +kernel
theorem dX8_breaks_59 : decode cX8_breaks 59 = .ok (.goto 4, 3) := by decide +kernel
theorem dX8_breaks_62 : decode cX8_breaks 62 = .ok (.iconst 0, 1) := by decide +kernel
theorem dX8_breaks_63 : decode cX8_breaks 63 = .ok (.if_icmp .eq 6, 3) := by decide +kernel
theorem dX8_breaks_66 : decode cX8_breaks 66 = .ok (.goto 14, 3) := by decide +kernel
theorem dX8_breaks_69 : decode cX8_breaks 69 = .ok (.aload_n 0, 1) := by decide +kernel
theorem dX8_breaks_70 : decode cX8_breaks 70 = .ok (.getfield 50, 3) := by decide +kernel
theorem dX8_breaks_73 : decode cX8_breaks 73 = .ok (.iload 4, 2) := by decide +kernel
theorem dX8_breaks_75 : decode cX8_breaks 75 = .ok (.iconst 3, 1) := by decide +kernel
theorem dX8_breaks_76 : decode cX8_breaks 76 = .ok (.iastore, 1) := by decide +kernel
theorem dX8_breaks_77 : decode cX8_breaks 77 = .ok (.iinc 3 1, 3) := by decide +kernel
theorem dX8_breaks_80 : decode cX8_breaks 80 = .ok (.iinc 4 1, 3) := by decide +kernel
theorem dX8_breaks_83 : decode cX8_breaks 83 = .ok (.goto (-67), 3) := by decide +kernel
theorem dX8_breaks_86 : decode cX8_breaks 86 = .ok (.aload_n 0, 1) := by decide +kernel
theorem dX8_breaks_87 : decode cX8_breaks 87 = .ok (.aload_n 0, 1) := by decide +kernel
theorem dX8_breaks_88 : decode cX8_breaks 88 = .ok (.getfield 80, 3) := by decide +kernel
theorem dX8_breaks_91 : decode cX8_breaks 91 = .ok (.iload_n 1, 1) := by decide +kernel
theorem dX8_breaks_92 : decode cX8_breaks 92 = .ok (.iaload, 1) := by decide +kernel
theorem dX8_breaks_93 : decode cX8_breaks 93 = .ok (.aload_n 0, 1) := by decide +kernel
theorem dX8_breaks_94 : decode cX8_breaks 94 = .ok (.getfield 74, 3) := by decide +kernel
theorem dX8_breaks_97 : decode cX8_breaks 97 = .ok (.iload_n 1, 1) := by decide +kernel
theorem dX8_breaks_98 : decode cX8_breaks 98 = .ok (.iaload, 1) := by decide +kernel
theorem dX8_breaks_99 : decode cX8_breaks 99 = .ok (.aload_n 0, 1) := by decide +kernel
theorem dX8_breaks_100 : decode cX8_breaks 100 = .ok (.getfield 194, 3) := by decide +kernel
theorem dX8_breaks_103 : decode cX8_breaks 103 = .ok (.invokevirtual 200, 3) := by decide +kernel
theorem dX8_breaks_106 : decode cX8_breaks 106 = .ok (.aload_n 0, 1) := by decide +kernel
theorem dX8_breaks_107 : decode cX8_breaks 107 = .ok (.iload_n 1, 1) := by decide +kernel
theorem dX8_breaks_108 : decode cX8_breaks 108 = .ok (.invokevirtual 183, 3) := by decide +kernel
theorem dX8_breaks_111 : decode cX8_breaks 111 = .ok (.iload_n 3, 1) := by decide +kernel
theorem dX8_breaks_112 : decode cX8_breaks 112 = .ok (.ireturn, 1) := by decide +kernel
theorem dX8_right_0 : decode cX8_right 0 = .ok (.iload_n 1, 1) := by decide +kernel
theorem dX8_right_1 : decode cX8_right 1 = .ok (.iconst 0, 1) := by decide +kernel
theorem dX8_right_2 : decode cX8_right 2 = .ok (.bipush 7, 2) := by decide +kernel
theorem dX8_right_4 : decode cX8_right 4 = .ok (.invokestatic 144, 3) := by decide +kernel
theorem dX8_right_7 : decode cX8_right 7 = .ok (.ifCond .eq 13, 3) := by decide +kernel
theorem dX8_right_10 : decode cX8_right 10 = .ok (.iload_n 2, 1) := by decide +kernel
theorem dX8_right_11 : decode cX8_right 11 = .ok (.iconst 0, 1) := by decide +kernel
theorem dX8_right_12 : decode cX8_right 12 = .ok (.bipush 9, 2) := by decide +kernel
theorem dX8_right_14 : decode cX8_right 14 = .ok (.invokestatic 144, 3) := by decide +kernel
theorem dX8_right_17 : decode cX8_right 17 = .ok (.ifCond .ne 5, 3) := by decide +kernel
theorem dX8_right_20 : decode cX8_right 20 = .ok (.iconst 0, 1) := by decide +kernel
theorem dX8_right_21 : decode cX8_right 21 = .ok (.ireturn, 1) := by decide +kernel
theorem dX8_right_22 : decode cX8_right 22 = .ok (.aload_n 0, 1) := by decide +kernel
theorem dX8_right_23 : decode cX8_right 23 = .ok (.getfield 101, 3) := by decide +kernel
theorem dX8_right_26 : decode cX8_right 26 = .ok (.iload_n 1, 1) := by decide +kernel
theorem dX8_right_27 : decode cX8_right 27 = .ok (.iload_n 2, 1) := by decide +kernel
theorem dX8_right_28 : decode cX8_right 28 = .ok (.iastore, 1) := by decide +kernel
theorem dX8_right_29 : decode cX8_right 29 = .ok (.iconst 1, 1) := by decide +kernel
theorem dX8_right_30 : decode cX8_right 30 = .ok (.ireturn, 1) := by decide +kernel
theorem dX8_toll_0 : decode cX8_toll 0 = .ok (.iload_n 1, 1) := by decide +kernel
theorem dX8_toll_1 : decode cX8_toll 1 = .ok (.iconst 0, 1) := by decide +kernel
theorem dX8_toll_2 : decode cX8_toll 2 = .ok (.sipush 1000, 3) := by decide +kernel
theorem dX8_toll_5 : decode cX8_toll 5 = .ok (.invokestatic 144, 3) := by decide +kernel
theorem dX8_toll_8 : decode cX8_toll 8 = .ok (.ifCond .eq 22, 3) := by decide +kernel
theorem dX8_toll_11 : decode cX8_toll 11 = .ok (.iload_n 2, 1) := by decide +kernel
theorem dX8_toll_12 : decode cX8_toll 12 = .ok (.iconst 0, 1) := by decide +kernel
theorem dX8_toll_13 : decode cX8_toll 13 = .ok (.bipush 100, 2) := by decide +kernel
theorem dX8_toll_15 : decode cX8_toll 15 = .ok (.invokestatic 144, 3) := by decide +kernel
theorem dX8_toll_18 : decode cX8_toll 18 = .ok (.ifCond .eq 12, 3) := by decide +kernel
theorem dX8_toll_21 : decode cX8_toll 21 = .ok (.aload_n 0, 1) := by decide +kernel
theorem dX8_toll_22 : decode cX8_toll 22 = .ok (.getfield 204, 3) := by decide +kernel
theorem dX8_toll_25 : decode cX8_toll 25 = .ok (.bipush 30, 2) := by decide +kernel
theorem dX8_toll_27 : decode cX8_toll 27 = .ok (.if_icmp .ne 5, 3) := by decide +kernel
theorem dX8_toll_30 : decode cX8_toll 30 = .ok (.iconst 0, 1) := by decide +kernel
theorem dX8_toll_31 : decode cX8_toll 31 = .ok (.ireturn, 1) := by decide +kernel
theorem dX8_toll_32 : decode cX8_toll 32 = .ok (.aload_n 0, 1) := by decide +kernel
theorem dX8_toll_33 : decode cX8_toll 33 = .ok (.getfield 107, 3) := by decide +kernel
theorem dX8_toll_36 : decode cX8_toll 36 = .ok (.aload_n 0, 1) := by decide +kernel
theorem dX8_toll_37 : decode cX8_toll 37 = .ok (.getfield 204, 3) := by decide +kernel
theorem dX8_toll_40 : decode cX8_toll 40 = .ok (.iload_n 1, 1) := by decide +kernel
theorem dX8_toll_41 : decode cX8_toll 41 = .ok (.iastore, 1) := by decide +kernel
theorem dX8_toll_42 : decode cX8_toll 42 = .ok (.aload_n 0, 1) := by decide +kernel
theorem dX8_toll_43 : decode cX8_toll 43 = .ok (.getfield 110, 3) := by decide +kernel
theorem dX8_toll_46 : decode cX8_toll 46 = .ok (.aload_n 0, 1) := by decide +kernel
theorem dX8_toll_47 : decode cX8_toll 47 = .ok (.getfield 204, 3) := by decide +kernel
theorem dX8_toll_50 : decode cX8_toll 50 = .ok (.iload_n 2, 1) := by decide +kernel
theorem dX8_toll_51 : decode cX8_toll 51 = .ok (.iastore, 1) := by decide +kernel
theorem dX8_toll_52 : decode cX8_toll 52 = .ok (.aload_n 0, 1) := by decide +kernel
theorem dX8_toll_53 : decode cX8_toll 53 = .ok (.dup, 1) := by decide +kernel
theorem dX8_toll_54 : decode cX8_toll 54 = .ok (.getfield 204, 3) := by decide +kernel
theorem dX8_toll_57 : decode cX8_toll 57 = .ok (.iconst 1, 1) := by decide +kernel
theorem dX8_toll_58 : decode cX8_toll 58 = .ok (.iadd, 1) := by decide +kernel
theorem dX8_toll_59 : decode cX8_toll 59 = .ok (.putfield 204, 3) := by decide +kernel
theorem dX8_toll_62 : decode cX8_toll 62 = .ok (.iconst 1, 1) := by decide +kernel
theorem dX8_toll_63 : decode cX8_toll 63 = .ok (.ireturn, 1) := by decide +kernel
theorem dX8_price_0 : decode cX8_price 0 = .ok (.aload_n 0, 1) := by decide +kernel
theorem dX8_price_1 : decode cX8_price 1 = .ok (.iload_n 1, 1) := by decide +kernel
theorem dX8_price_2 : decode cX8_price 2 = .ok (.invokevirtual 154, 3) := by decide +kernel
theorem dX8_price_5 : decode cX8_price 5 = .ok (.ifCond .eq 53, 3) := by decide +kernel
theorem dX8_price_8 : decode cX8_price 8 = .ok (.aload_n 0, 1) := by decide +kernel
theorem dX8_price_9 : decode cX8_price 9 = .ok (.getfield 28, 3) := by decide +kernel
theorem dX8_price_12 : decode cX8_price 12 = .ok (.iload_n 1, 1) := by decide +kernel
theorem dX8_price_13 : decode cX8_price 13 = .ok (.baload, 1) := by decide +kernel
theorem dX8_price_14 : decode cX8_price 14 = .ok (.ifCond .eq 44, 3) := by decide +kernel
theorem dX8_price_17 : decode cX8_price 17 = .ok (.iload_n 2, 1) := by decide +kernel
theorem dX8_price_18 : decode cX8_price 18 = .ok (.iconst 0, 1) := by decide +kernel
theorem dX8_price_19 : decode cX8_price 19 = .ok (.iconst 3, 1) := by decide +kernel
theorem dX8_price_20 : decode cX8_price 20 = .ok (.invokestatic 144, 3) := by decide +kernel
theorem dX8_price_23 : decode cX8_price 23 = .ok (.ifCond .eq 35, 3) := by decide +kernel
theorem dX8_price_26 : decode cX8_price 26 = .ok (.iload_n 3, 1) := by decide +kernel
theorem dX8_price_27 : decode cX8_price 27 = .ok (.iconst 0, 1) := by decide +kernel
theorem dX8_price_28 : decode cX8_price 28 = .ok (.sipush 1000, 3) := by decide +kernel
theorem dX8_price_31 : decode cX8_price 31 = .ok (.invokestatic 144, 3) := by decide +kernel
theorem dX8_price_34 : decode cX8_price 34 = .ok (.ifCond .eq 24, 3) := by decide +kernel
theorem dX8_price_37 : decode cX8_price 37 = .ok (.iload 4, 2) := by decide +kernel
theorem dX8_price_39 : decode cX8_price 39 = .ok (.iconst 0, 1) := by decide +kernel
theorem dX8_price_40 : decode cX8_price 40 = .ok (.sipush 1000, 3) := by decide +kernel
theorem dX8_price_43 : decode cX8_price 43 = .ok (.invokestatic 144, 3) := by decide +kernel
theorem dX8_price_46 : decode cX8_price 46 = .ok (.ifCond .eq 12, 3) := by decide +kernel
theorem dX8_price_49 : decode cX8_price 49 = .ok (.aload_n 0, 1) := by decide +kernel
theorem dX8_price_50 : decode cX8_price 50 = .ok (.getfield 231, 3) := by decide +kernel
theorem dX8_price_53 : decode cX8_price 53 = .ok (.bipush 100, 2) := by decide +kernel
theorem dX8_price_55 : decode cX8_price 55 = .ok (.if_icmp .ne 5, 3) := by decide +kernel
theorem dX8_price_58 : decode cX8_price 58 = .ok (.iconst 0, 1) := by decide +kernel
theorem dX8_price_59 : decode cX8_price 59 = .ok (.ireturn, 1) := by decide +kernel
theorem dX8_price_60 : decode cX8_price 60 = .ok (.aload_n 0, 1) := by decide +kernel
theorem dX8_price_61 : decode cX8_price 61 = .ok (.getfield 113, 3) := by decide +kernel
theorem dX8_price_64 : decode cX8_price 64 = .ok (.aload_n 0, 1) := by decide +kernel
theorem dX8_price_65 : decode cX8_price 65 = .ok (.getfield 231, 3) := by decide +kernel
theorem dX8_price_68 : decode cX8_price 68 = .ok (.iload_n 1, 1) := by decide +kernel
theorem dX8_price_69 : decode cX8_price 69 = .ok (.iastore, 1) := by decide +kernel
theorem dX8_price_70 : decode cX8_price 70 = .ok (.aload_n 0, 1) := by decide +kernel
theorem dX8_price_71 : decode cX8_price 71 = .ok (.getfield 116, 3) := by decide +kernel
theorem dX8_price_74 : decode cX8_price 74 = .ok (.aload_n 0, 1) := by decide +kernel
theorem dX8_price_75 : decode cX8_price 75 = .ok (.getfield 231, 3) := by decide +kernel
theorem dX8_price_78 : decode cX8_price 78 = .ok (.iload_n 2, 1) := by decide +kernel
theorem dX8_price_79 : decode cX8_price 79 = .ok (.iastore, 1) := by decide +kernel
theorem dX8_price_80 : decode cX8_price 80 = .ok (.aload_n 0, 1) := by decide +kernel
theorem dX8_price_81 : decode cX8_price 81 = .ok (.getfield 119, 3) := by decide +kernel
theorem dX8_price_84 : decode cX8_price 84 = .ok (.aload_n 0, 1) := by decide +kernel
theorem dX8_price_85 : decode cX8_price 85 = .ok (.getfield 231, 3) := by decide +kernel
theorem dX8_price_88 : decode cX8_price 88 = .ok (.iload_n 3, 1) := by decide +kernel
theorem dX8_price_89 : decode cX8_price 89 = .ok (.iastore, 1) := by decide +kernel
theorem dX8_price_90 : decode cX8_price 90 = .ok (.aload_n 0, 1) := by decide +kernel
theorem dX8_price_91 : decode cX8_price 91 = .ok (.getfield 122, 3) := by decide +kernel
theorem dX8_price_94 : decode cX8_price 94 = .ok (.aload_n 0, 1) := by decide +kernel
theorem dX8_price_95 : decode cX8_price 95 = .ok (.getfield 231, 3) := by decide +kernel
theorem dX8_price_98 : decode cX8_price 98 = .ok (.iload 4, 2) := by decide +kernel
theorem dX8_price_100 : decode cX8_price 100 = .ok (.iastore, 1) := by decide +kernel
theorem dX8_price_101 : decode cX8_price 101 = .ok (.aload_n 0, 1) := by decide +kernel
theorem dX8_price_102 : decode cX8_price 102 = .ok (.dup, 1) := by decide +kernel
theorem dX8_price_103 : decode cX8_price 103 = .ok (.getfield 231, 3) := by decide +kernel
theorem dX8_price_106 : decode cX8_price 106 = .ok (.iconst 1, 1) := by decide +kernel
theorem dX8_price_107 : decode cX8_price 107 = .ok (.iadd, 1) := by decide +kernel
theorem dX8_price_108 : decode cX8_price 108 = .ok (.putfield 231, 3) := by decide +kernel
theorem dX8_price_111 : decode cX8_price 111 = .ok (.iconst 1, 1) := by decide +kernel
theorem dX8_price_112 : decode cX8_price 112 = .ok (.ireturn, 1) := by decide +kernel
theorem dX8_priceNow_0 : decode cX8_priceNow 0 = .ok (.iconst (-1), 1) := by decide +kernel
theorem dX8_priceNow_1 : decode cX8_priceNow 1 = .ok (.istore_n 3, 1) := by decide +kernel
theorem dX8_priceNow_2 : decode cX8_priceNow 2 = .ok (.iconst 0, 1) := by decide +kernel
theorem dX8_priceNow_3 : decode cX8_priceNow 3 = .ok (.istore 4, 2) := by decide +kernel
theorem dX8_priceNow_5 : decode cX8_priceNow 5 = .ok (.iload 4, 2) := by decide +kernel
theorem dX8_priceNow_7 : decode cX8_priceNow 7 = .ok (.aload_n 0, 1) := by decide +kernel
theorem dX8_priceNow_8 : decode cX8_priceNow 8 = .ok (.getfield 231, 3) := by decide +kernel
theorem dX8_priceNow_11 : decode cX8_priceNow 11 = .ok (.if_icmp .ge 72, 3) := by decide +kernel
theorem dX8_priceNow_14 : decode cX8_priceNow 14 = .ok (.aload_n 0, 1) := by decide +kernel
theorem dX8_priceNow_15 : decode cX8_priceNow 15 = .ok (.getfield 113, 3) := by decide +kernel
theorem dX8_priceNow_18 : decode cX8_priceNow 18 = .ok (.iload 4, 2) := by decide +kernel
theorem dX8_priceNow_20 : decode cX8_priceNow 20 = .ok (.iaload, 1) := by decide +kernel
theorem dX8_priceNow_21 : decode cX8_priceNow 21 = .ok (.iload_n 1, 1) := by decide +kernel
theorem dX8_priceNow_22 : decode cX8_priceNow 22 = .ok (.if_icmp .ne 55, 3) := by decide +kernel
theorem dX8_priceNow_25 : decode cX8_priceNow 25 = .ok (.aload_n 0, 1) := by decide +kernel
theorem dX8_priceNow_26 : decode cX8_priceNow 26 = .ok (.getfield 116, 3) := by decide +kernel
theorem dX8_priceNow_29 : decode cX8_priceNow 29 = .ok (.iload 4, 2) := by decide +kernel
theorem dX8_priceNow_31 : decode cX8_priceNow 31 = .ok (.iaload, 1) := by decide +kernel
theorem dX8_priceNow_32 : decode cX8_priceNow 32 = .ok (.iload_n 2, 1) := by decide +kernel
theorem dX8_priceNow_33 : decode cX8_priceNow 33 = .ok (.if_icmp .ne 44, 3) := by decide +kernel
theorem dX8_priceNow_36 : decode cX8_priceNow 36 = .ok (.aload_n 0, 1) := by decide +kernel
theorem dX8_priceNow_37 : decode cX8_priceNow 37 = .ok (.getfield 119, 3) := by decide +kernel
theorem dX8_priceNow_40 : decode cX8_priceNow 40 = .ok (.iload 4, 2) := by decide +kernel
theorem dX8_priceNow_42 : decode cX8_priceNow 42 = .ok (.iaload, 1) := by decide +kernel
theorem dX8_priceNow_43 : decode cX8_priceNow 43 = .ok (.aload_n 0, 1) := by decide +kernel
theorem dX8_priceNow_44 : decode cX8_priceNow 44 = .ok (.getfield 194, 3) := by decide +kernel
theorem dX8_priceNow_47 : decode cX8_priceNow 47 = .ok (.bipush 24, 2) := by decide +kernel
theorem dX8_priceNow_49 : decode cX8_priceNow 49 = .ok (.idiv, 1) := by decide +kernel
theorem dX8_priceNow_50 : decode cX8_priceNow 50 = .ok (.if_icmp .gt 27, 3) := by decide +kernel
theorem dX8_priceNow_53 : decode cX8_priceNow 53 = .ok (.iload_n 3, 1) := by decide +kernel
theorem dX8_priceNow_54 : decode cX8_priceNow 54 = .ok (.iconst (-1), 1) := by decide +kernel
theorem dX8_priceNow_55 : decode cX8_priceNow 55 = .ok (.if_icmp .eq 19, 3) := by decide +kernel
theorem dX8_priceNow_58 : decode cX8_priceNow 58 = .ok (.aload_n 0, 1) := by decide +kernel
theorem dX8_priceNow_59 : decode cX8_priceNow 59 = .ok (.getfield 119, 3) := by decide +kernel
theorem dX8_priceNow_62 : decode cX8_priceNow 62 = .ok (.iload 4, 2) := by decide +kernel
theorem dX8_priceNow_64 : decode cX8_priceNow 64 = .ok (.iaload, 1) := by decide +kernel
theorem dX8_priceNow_65 : decode cX8_priceNow 65 = .ok (.aload_n 0, 1) := by decide +kernel
theorem dX8_priceNow_66 : decode cX8_priceNow 66 = .ok (.getfield 119, 3) := by decide +kernel
theorem dX8_priceNow_69 : decode cX8_priceNow 69 = .ok (.iload_n 3, 1) := by decide +kernel
theorem dX8_priceNow_70 : decode cX8_priceNow 70 = .ok (.iaload, 1) := by decide +kernel
theorem dX8_priceNow_71 : decode cX8_priceNow 71 = .ok (.if_icmp .lt 6, 3) := by decide +kernel
theorem dX8_priceNow_74 : decode cX8_priceNow 74 = .ok (.iload 4, 2) := by decide +kernel
theorem dX8_priceNow_76 : decode cX8_priceNow 76 = .ok (.istore_n 3, 1) := by decide +kernel
theorem dX8_priceNow_77 : decode cX8_priceNow 77 = .ok (.iinc 4 1, 3) := by decide +kernel
theorem dX8_priceNow_80 : decode cX8_priceNow 80 = .ok (.goto (-75), 3) := by decide +kernel
theorem dX8_priceNow_83 : decode cX8_priceNow 83 = .ok (.iload_n 3, 1) := by decide +kernel
theorem dX8_priceNow_84 : decode cX8_priceNow 84 = .ok (.iconst (-1), 1) := by decide +kernel
theorem dX8_priceNow_85 : decode cX8_priceNow 85 = .ok (.if_icmp .ne 7, 3) := by decide +kernel
theorem dX8_priceNow_88 : decode cX8_priceNow 88 = .ok (.iconst 0, 1) := by decide +kernel
theorem dX8_priceNow_89 : decode cX8_priceNow 89 = .ok (.goto 9, 3) := by decide +kernel
theorem dX8_priceNow_92 : decode cX8_priceNow 92 = .ok (.aload_n 0, 1) := by decide +kernel
theorem dX8_priceNow_93 : decode cX8_priceNow 93 = .ok (.getfield 122, 3) := by decide +kernel
theorem dX8_priceNow_96 : decode cX8_priceNow 96 = .ok (.iload_n 3, 1) := by decide +kernel
theorem dX8_priceNow_97 : decode cX8_priceNow 97 = .ok (.iaload, 1) := by decide +kernel
theorem dX8_priceNow_98 : decode cX8_priceNow 98 = .ok (.ireturn, 1) := by decide +kernel
theorem dX8_sell_0 : decode cX8_sell 0 = .ok (.aload_n 0, 1) := by decide +kernel
theorem dX8_sell_1 : decode cX8_sell 1 = .ok (.iload_n 1, 1) := by decide +kernel
theorem dX8_sell_2 : decode cX8_sell 2 = .ok (.invokevirtual 167, 3) := by decide +kernel
theorem dX8_sell_5 : decode cX8_sell 5 = .ok (.ifCond .eq 34, 3) := by decide +kernel
theorem dX8_sell_8 : decode cX8_sell 8 = .ok (.aload_n 0, 1) := by decide +kernel
theorem dX8_sell_9 : decode cX8_sell 9 = .ok (.getfield 50, 3) := by decide +kernel
theorem dX8_sell_12 : decode cX8_sell 12 = .ok (.iload_n 1, 1) := by decide +kernel
theorem dX8_sell_13 : decode cX8_sell 13 = .ok (.iaload, 1) := by decide +kernel
theorem dX8_sell_14 : decode cX8_sell 14 = .ok (.ifCond .ne 25, 3) := by decide +kernel
theorem dX8_sell_17 : decode cX8_sell 17 = .ok (.aload_n 0, 1) := by decide +kernel
theorem dX8_sell_18 : decode cX8_sell 18 = .ok (.getfield 28, 3) := by decide +kernel
theorem dX8_sell_21 : decode cX8_sell 21 = .ok (.aload_n 0, 1) := by decide +kernel
theorem dX8_sell_22 : decode cX8_sell 22 = .ok (.getfield 53, 3) := by decide +kernel
theorem dX8_sell_25 : decode cX8_sell 25 = .ok (.iload_n 1, 1) := by decide +kernel
theorem dX8_sell_26 : decode cX8_sell 26 = .ok (.iaload, 1) := by decide +kernel
theorem dX8_sell_27 : decode cX8_sell 27 = .ok (.baload, 1) := by decide +kernel
theorem dX8_sell_28 : decode cX8_sell 28 = .ok (.ifCond .eq 11, 3) := by decide +kernel
theorem dX8_sell_31 : decode cX8_sell 31 = .ok (.aload_n 0, 1) := by decide +kernel
theorem dX8_sell_32 : decode cX8_sell 32 = .ok (.iload_n 1, 1) := by decide +kernel
theorem dX8_sell_33 : decode cX8_sell 33 = .ok (.invokevirtual 170, 3) := by decide +kernel
theorem dX8_sell_36 : decode cX8_sell 36 = .ok (.ifCond .eq 5, 3) := by decide +kernel
theorem dX8_sell_39 : decode cX8_sell 39 = .ok (.iconst (-1), 1) := by decide +kernel
theorem dX8_sell_40 : decode cX8_sell 40 = .ok (.ireturn, 1) := by decide +kernel
theorem dX8_sell_41 : decode cX8_sell 41 = .ok (.aload_n 0, 1) := by decide +kernel
theorem dX8_sell_42 : decode cX8_sell 42 = .ok (.aload_n 0, 1) := by decide +kernel
theorem dX8_sell_43 : decode cX8_sell 43 = .ok (.getfield 53, 3) := by decide +kernel
theorem dX8_sell_46 : decode cX8_sell 46 = .ok (.iload_n 1, 1) := by decide +kernel
theorem dX8_sell_47 : decode cX8_sell 47 = .ok (.iaload, 1) := by decide +kernel
theorem dX8_sell_48 : decode cX8_sell 48 = .ok (.aload_n 0, 1) := by decide +kernel
theorem dX8_sell_49 : decode cX8_sell 49 = .ok (.getfield 44, 3) := by decide +kernel
theorem dX8_sell_52 : decode cX8_sell 52 = .ok (.iload_n 1, 1) := by decide +kernel
theorem dX8_sell_53 : decode cX8_sell 53 = .ok (.iaload, 1) := by decide +kernel
theorem dX8_sell_54 : decode cX8_sell 54 = .ok (.invokevirtual 234, 3) := by decide +kernel
theorem dX8_sell_57 : decode cX8_sell 57 = .ok (.aload_n 0, 1) := by decide +kernel
theorem dX8_sell_58 : decode cX8_sell 58 = .ok (.getfield 47, 3) := by decide +kernel
theorem dX8_sell_61 : decode cX8_sell 61 = .ok (.iload_n 1, 1) := by decide +kernel
theorem dX8_sell_62 : decode cX8_sell 62 = .ok (.iaload, 1) := by decide +kernel
theorem dX8_sell_63 : decode cX8_sell 63 = .ok (.imul, 1) := by decide +kernel
theorem dX8_sell_64 : decode cX8_sell 64 = .ok (.istore_n 2, 1) := by decide +kernel
theorem dX8_sell_65 : decode cX8_sell 65 = .ok (.aload_n 0, 1) := by decide +kernel
theorem dX8_sell_66 : decode cX8_sell 66 = .ok (.getfield 50, 3) := by decide +kernel
theorem dX8_sell_69 : decode cX8_sell 69 = .ok (.iload_n 1, 1) := by decide +kernel
theorem dX8_sell_70 : decode cX8_sell 70 = .ok (.iconst 2, 1) := by decide +kernel
theorem dX8_sell_71 : decode cX8_sell 71 = .ok (.iastore, 1) := by decide +kernel
theorem dX8_sell_72 : decode cX8_sell 72 = .ok (.aload_n 0, 1) := by decide +kernel
theorem dX8_sell_73 : decode cX8_sell 73 = .ok (.getfield 65, 3) := by decide +kernel
theorem dX8_sell_76 : decode cX8_sell 76 = .ok (.iload_n 1, 1) := by decide +kernel
theorem dX8_sell_77 : decode cX8_sell 77 = .ok (.iload_n 2, 1) := by decide +kernel
theorem dX8_sell_78 : decode cX8_sell 78 = .ok (.iastore, 1) := by decide +kernel
theorem dX8_sell_79 : decode cX8_sell 79 = .ok (.aload_n 0, 1) := by decide +kernel
theorem dX8_sell_80 : decode cX8_sell 80 = .ok (.getfield 104, 3) := by decide +kernel
theorem dX8_sell_83 : decode cX8_sell 83 = .ok (.aload_n 0, 1) := by decide +kernel
theorem dX8_sell_84 : decode cX8_sell 84 = .ok (.getfield 41, 3) := by decide +kernel
theorem dX8_sell_87 : decode cX8_sell 87 = .ok (.iload_n 1, 1) := by decide +kernel
theorem dX8_sell_88 : decode cX8_sell 88 = .ok (.iaload, 1) := by decide +kernel
theorem dX8_sell_89 : decode cX8_sell 89 = .ok (.dup2, 1) := by decide +kernel
theorem dX8_sell_90 : decode cX8_sell 90 = .ok (.iaload, 1) := by decide +kernel
theorem dX8_sell_91 : decode cX8_sell 91 = .ok (.iload_n 2, 1) := by decide +kernel
theorem dX8_sell_92 : decode cX8_sell 92 = .ok (.iadd, 1) := by decide +kernel
theorem dX8_sell_93 : decode cX8_sell 93 = .ok (.iastore, 1) := by decide +kernel
theorem dX8_sell_94 : decode cX8_sell 94 = .ok (.iload_n 2, 1) := by decide +kernel
theorem dX8_sell_95 : decode cX8_sell 95 = .ok (.ireturn, 1) := by decide +kernel
theorem dX8_advance_0 : decode cX8_advance 0 = .ok (.iload_n 1, 1) := by decide +kernel
theorem dX8_advance_1 : decode cX8_advance 1 = .ok (.iconst 0, 1) := by decide +kernel
theorem dX8_advance_2 : decode cX8_advance 2 = .ok (.bipush 7, 2) := by decide +kernel
theorem dX8_advance_4 : decode cX8_advance 4 = .ok (.invokestatic 144, 3) := by decide +kernel
theorem dX8_advance_7 : decode cX8_advance 7 = .ok (.ifCond .eq 13, 3) := by decide +kernel
theorem dX8_advance_10 : decode cX8_advance 10 = .ok (.iload_n 2, 1) := by decide +kernel
theorem dX8_advance_11 : decode cX8_advance 11 = .ok (.iconst 1, 1) := by decide +kernel
theorem dX8_advance_12 : decode cX8_advance 12 = .ok (.ldc 158, 2) := by decide +kernel
theorem dX8_advance_14 : decode cX8_advance 14 = .ok (.invokestatic 144, 3) := by decide +kernel
theorem dX8_advance_17 : decode cX8_advance 17 = .ok (.ifCond .ne 6, 3) := by decide +kernel
theorem dX8_advance_20 : decode cX8_advance 20 = .ok (.ldc 238, 2) := by decide +kernel
theorem dX8_advance_22 : decode cX8_advance 22 = .ok (.ireturn, 1) := by decide +kernel
theorem dX8_advance_23 : decode cX8_advance 23 = .ok (.aload_n 0, 1) := by decide +kernel
theorem dX8_advance_24 : decode cX8_advance 24 = .ok (.getfield 104, 3) := by decide +kernel
theorem dX8_advance_27 : decode cX8_advance 27 = .ok (.iload_n 1, 1) := by decide +kernel
theorem dX8_advance_28 : decode cX8_advance 28 = .ok (.dup2, 1) := by decide +kernel
theorem dX8_advance_29 : decode cX8_advance 29 = .ok (.iaload, 1) := by decide +kernel
theorem dX8_advance_30 : decode cX8_advance 30 = .ok (.iload_n 2, 1) := by decide +kernel
theorem dX8_advance_31 : decode cX8_advance 31 = .ok (.isub, 1) := by decide +kernel
theorem dX8_advance_32 : decode cX8_advance 32 = .ok (.iastore, 1) := by decide +kernel
theorem dX8_advance_33 : decode cX8_advance 33 = .ok (.aload_n 0, 1) := by decide +kernel
theorem dX8_advance_34 : decode cX8_advance 34 = .ok (.getfield 104, 3) := by decide +kernel
theorem dX8_advance_37 : decode cX8_advance 37 = .ok (.iload_n 1, 1) := by decide +kernel
theorem dX8_advance_38 : decode cX8_advance 38 = .ok (.iaload, 1) := by decide +kernel
theorem dX8_advance_39 : decode cX8_advance 39 = .ok (.ireturn, 1) := by decide +kernel
theorem dX8_balance_0 : decode cX8_balance 0 = .ok (.iload_n 1, 1) := by decide +kernel
theorem dX8_balance_1 : decode cX8_balance 1 = .ok (.iconst 0, 1) := by decide +kernel
theorem dX8_balance_2 : decode cX8_balance 2 = .ok (.bipush 7, 2) := by decide +kernel
theorem dX8_balance_4 : decode cX8_balance 4 = .ok (.invokestatic 144, 3) := by decide +kernel
theorem dX8_balance_7 : decode cX8_balance 7 = .ok (.ifCond .eq 12, 3) := by decide +kernel
theorem dX8_balance_10 : decode cX8_balance 10 = .ok (.aload_n 0, 1) := by decide +kernel
theorem dX8_balance_11 : decode cX8_balance 11 = .ok (.getfield 104, 3) := by decide +kernel
theorem dX8_balance_14 : decode cX8_balance 14 = .ok (.iload_n 1, 1) := by decide +kernel
theorem dX8_balance_15 : decode cX8_balance 15 = .ok (.iaload, 1) := by decide +kernel
theorem dX8_balance_16 : decode cX8_balance 16 = .ok (.goto 4, 3) := by decide +kernel
theorem dX8_balance_19 : decode cX8_balance 19 = .ok (.iconst 0, 1) := by decide +kernel
theorem dX8_balance_20 : decode cX8_balance 20 = .ok (.ireturn, 1) := by decide +kernel
theorem dX8_tries_0 : decode cX8_tries 0 = .ok (.iload_n 1, 1) := by decide +kernel
theorem dX8_tries_1 : decode cX8_tries 1 = .ok (.iconst 1, 1) := by decide +kernel
theorem dX8_tries_2 : decode cX8_tries 2 = .ok (.aload_n 0, 1) := by decide +kernel
theorem dX8_tries_3 : decode cX8_tries 3 = .ok (.getfield 140, 3) := by decide +kernel
theorem dX8_tries_6 : decode cX8_tries 6 = .ok (.iconst 1, 1) := by decide +kernel
theorem dX8_tries_7 : decode cX8_tries 7 = .ok (.isub, 1) := by decide +kernel
theorem dX8_tries_8 : decode cX8_tries 8 = .ok (.invokestatic 144, 3) := by decide +kernel
theorem dX8_tries_11 : decode cX8_tries 11 = .ok (.ifCond .ne 5, 3) := by decide +kernel
theorem dX8_tries_14 : decode cX8_tries 14 = .ok (.iconst (-1), 1) := by decide +kernel
theorem dX8_tries_15 : decode cX8_tries 15 = .ok (.ireturn, 1) := by decide +kernel
theorem dX8_tries_16 : decode cX8_tries 16 = .ok (.iconst 0, 1) := by decide +kernel
theorem dX8_tries_17 : decode cX8_tries 17 = .ok (.istore_n 2, 1) := by decide +kernel
theorem dX8_tries_18 : decode cX8_tries 18 = .ok (.iconst 0, 1) := by decide +kernel
theorem dX8_tries_19 : decode cX8_tries 19 = .ok (.istore_n 3, 1) := by decide +kernel
theorem dX8_tries_20 : decode cX8_tries 20 = .ok (.iload_n 3, 1) := by decide +kernel
theorem dX8_tries_21 : decode cX8_tries 21 = .ok (.aload_n 0, 1) := by decide +kernel
theorem dX8_tries_22 : decode cX8_tries 22 = .ok (.getfield 151, 3) := by decide +kernel
theorem dX8_tries_25 : decode cX8_tries 25 = .ok (.if_icmp .ge 80, 3) := by decide +kernel
theorem dX8_tries_28 : decode cX8_tries 28 = .ok (.aload_n 0, 1) := by decide +kernel
theorem dX8_tries_29 : decode cX8_tries 29 = .ok (.getfield 71, 3) := by decide +kernel
theorem dX8_tries_32 : decode cX8_tries 32 = .ok (.iload_n 3, 1) := by decide +kernel
theorem dX8_tries_33 : decode cX8_tries 33 = .ok (.iaload, 1) := by decide +kernel
theorem dX8_tries_34 : decode cX8_tries 34 = .ok (.iconst 1, 1) := by decide +kernel
theorem dX8_tries_35 : decode cX8_tries 35 = .ok (.if_icmp .ne 64, 3) := by decide +kernel
theorem dX8_tries_38 : decode cX8_tries 38 = .ok (.aload_n 0, 1) := by decide +kernel
theorem dX8_tries_39 : decode cX8_tries 39 = .ok (.getfield 74, 3) := by decide +kernel
theorem dX8_tries_42 : decode cX8_tries 42 = .ok (.iload_n 3, 1) := by decide +kernel
theorem dX8_tries_43 : decode cX8_tries 43 = .ok (.iaload, 1) := by decide +kernel
theorem dX8_tries_44 : decode cX8_tries 44 = .ok (.iload_n 1, 1) := by decide +kernel
theorem dX8_tries_45 : decode cX8_tries 45 = .ok (.if_icmp .ne 54, 3) := by decide +kernel
theorem dX8_tries_48 : decode cX8_tries 48 = .ok (.aload_n 0, 1) := by decide +kernel
theorem dX8_tries_49 : decode cX8_tries 49 = .ok (.iload_n 3, 1) := by decide +kernel
theorem dX8_tries_50 : decode cX8_tries 50 = .ok (.invokevirtual 213, 3) := by decide +kernel
theorem dX8_tries_53 : decode cX8_tries 53 = .ok (.aload_n 0, 1) := by decide +kernel
theorem dX8_tries_54 : decode cX8_tries 54 = .ok (.getfield 16, 3) := by decide +kernel
theorem dX8_tries_57 : decode cX8_tries 57 = .ok (.iload_n 1, 1) := by decide +kernel
theorem dX8_tries_58 : decode cX8_tries 58 = .ok (.iaload, 1) := by decide +kernel
theorem dX8_tries_59 : decode cX8_tries 59 = .ok (.if_icmp .gt 40, 3) := by decide +kernel
theorem dX8_tries_62 : decode cX8_tries 62 = .ok (.iconst 5, 1) := by decide +kernel
theorem dX8_tries_63 : decode cX8_tries 63 = .ok (.aload_n 0, 1) := by decide +kernel
theorem dX8_tries_64 : decode cX8_tries 64 = .ok (.getfield 77, 3) := by decide +kernel
theorem dX8_tries_67 : decode cX8_tries 67 = .ok (.iload_n 3, 1) := by decide +kernel
theorem dX8_tries_68 : decode cX8_tries 68 = .ok (.iaload, 1) := by decide +kernel
theorem dX8_tries_69 : decode cX8_tries 69 = .ok (.imul, 1) := by decide +kernel
theorem dX8_tries_70 : decode cX8_tries 70 = .ok (.aload_n 0, 1) := by decide +kernel
theorem dX8_tries_71 : decode cX8_tries 71 = .ok (.getfield 22, 3) := by decide +kernel
theorem dX8_tries_74 : decode cX8_tries 74 = .ok (.iload_n 1, 1) := by decide +kernel
theorem dX8_tries_75 : decode cX8_tries 75 = .ok (.iaload, 1) := by decide +kernel
theorem dX8_tries_76 : decode cX8_tries 76 = .ok (.if_icmp .le 6, 3) := by decide +kernel
theorem dX8_tries_79 : decode cX8_tries 79 = .ok (.goto 20, 3) := by decide +kernel
theorem dX8_tries_82 : decode cX8_tries 82 = .ok (.iload_n 2, 1) := by decide +kernel
theorem dX8_tries_83 : decode cX8_tries 83 = .ok (.iconst 5, 1) := by decide +kernel
theorem dX8_tries_84 : decode cX8_tries 84 = .ok (.if_icmp .ne 5, 3) := by decide +kernel
theorem dX8_tries_87 : decode cX8_tries 87 = .ok (.iconst (-1), 1) := by decide +kernel
theorem dX8_tries_88 : decode cX8_tries 88 = .ok (.ireturn, 1) := by decide +kernel
theorem dX8_tries_89 : decode cX8_tries 89 = .ok (.aload_n 0, 1) := by decide +kernel
theorem dX8_tries_90 : decode cX8_tries 90 = .ok (.getfield 125, 3) := by decide +kernel
theorem dX8_tries_93 : decode cX8_tries 93 = .ok (.iload_n 2, 1) := by decide +kernel
theorem dX8_tries_94 : decode cX8_tries 94 = .ok (.iload_n 3, 1) := by decide +kernel
theorem dX8_tries_95 : decode cX8_tries 95 = .ok (.iastore, 1) := by decide +kernel
theorem dX8_tries_96 : decode cX8_tries 96 = .ok (.iinc 2 1, 3) := by decide +kernel
theorem dX8_tries_99 : decode cX8_tries 99 = .ok (.iinc 3 1, 3) := by decide +kernel
theorem dX8_tries_102 : decode cX8_tries 102 = .ok (.goto (-82), 3) := by decide +kernel
theorem dX8_tries_105 : decode cX8_tries 105 = .ok (.iload_n 2, 1) := by decide +kernel
theorem dX8_tries_106 : decode cX8_tries 106 = .ok (.ifCond .ne 7, 3) := by decide +kernel
theorem dX8_tries_109 : decode cX8_tries 109 = .ok (.iconst 0, 1) := by decide +kernel
theorem dX8_tries_110 : decode cX8_tries 110 = .ok (.goto 4, 3) := by decide +kernel
theorem dX8_tries_113 : decode cX8_tries 113 = .ok (.iconst 1, 1) := by decide +kernel
theorem dX8_tries_114 : decode cX8_tries 114 = .ok (.istore_n 3, 1) := by decide +kernel
theorem dX8_tries_115 : decode cX8_tries 115 = .ok (.iconst 2, 1) := by decide +kernel
theorem dX8_tries_116 : decode cX8_tries 116 = .ok (.istore 4, 2) := by decide +kernel
end
section
theorem dX8_tries_118 : decode cX8_tries 118 = .ok (.iload 4, 2) := by decide +kernel
theorem dX8_tries_120 : decode cX8_tries 120 = .ok (.iload_n 2, 1) := by decide +kernel
theorem dX8_tries_121 : decode cX8_tries 121 = .ok (.if_icmp .gt 14, 3) := by decide +kernel
theorem dX8_tries_124 : decode cX8_tries 124 = .ok (.iload_n 3, 1) := by decide +kernel
theorem dX8_tries_125 : decode cX8_tries 125 = .ok (.iload 4, 2) := by decide +kernel
theorem dX8_tries_127 : decode cX8_tries 127 = .ok (.imul, 1) := by decide +kernel
theorem dX8_tries_128 : decode cX8_tries 128 = .ok (.istore_n 3, 1) := by decide +kernel
theorem dX8_tries_129 : decode cX8_tries 129 = .ok (.iinc 4 1, 3) := by decide +kernel
theorem dX8_tries_132 : decode cX8_tries 132 = .ok (.goto (-14), 3) := by decide +kernel
theorem dX8_tries_135 : decode cX8_tries 135 = .ok (.iconst (-1), 1) := by decide +kernel
theorem dX8_tries_136 : decode cX8_tries 136 = .ok (.istore 4, 2) := by decide +kernel
theorem dX8_tries_138 : decode cX8_tries 138 = .ok (.iconst 0, 1) := by decide +kernel
theorem dX8_tries_139 : decode cX8_tries 139 = .ok (.istore 5, 2) := by decide +kernel
theorem dX8_tries_141 : decode cX8_tries 141 = .ok (.iload 5, 2) := by decide +kernel
theorem dX8_tries_143 : decode cX8_tries 143 = .ok (.iload_n 3, 1) := by decide +kernel
theorem dX8_tries_144 : decode cX8_tries 144 = .ok (.if_icmp .ge 98, 3) := by decide +kernel
theorem dX8_tries_147 : decode cX8_tries 147 = .ok (.aload_n 0, 1) := by decide +kernel
theorem dX8_tries_148 : decode cX8_tries 148 = .ok (.iload 5, 2) := by decide +kernel
theorem dX8_tries_150 : decode cX8_tries 150 = .ok (.iload_n 2, 1) := by decide +kernel
theorem dX8_tries_151 : decode cX8_tries 151 = .ok (.invokevirtual 239, 3) := by decide +kernel
theorem dX8_tries_154 : decode cX8_tries 154 = .ok (.aload_n 0, 1) := by decide +kernel
theorem dX8_tries_155 : decode cX8_tries 155 = .ok (.iload_n 1, 1) := by decide +kernel
theorem dX8_tries_156 : decode cX8_tries 156 = .ok (.iload_n 2, 1) := by decide +kernel
theorem dX8_tries_157 : decode cX8_tries 157 = .ok (.invokevirtual 242, 3) := by decide +kernel
theorem dX8_tries_160 : decode cX8_tries 160 = .ok (.istore 6, 2) := by decide +kernel
theorem dX8_tries_162 : decode cX8_tries 162 = .ok (.iload 6, 2) := by decide +kernel
theorem dX8_tries_164 : decode cX8_tries 164 = .ok (.iconst (-1), 1) := by decide +kernel
theorem dX8_tries_165 : decode cX8_tries 165 = .ok (.if_icmp .eq 71, 3) := by decide +kernel
theorem dX8_tries_168 : decode cX8_tries 168 = .ok (.iload 4, 2) := by decide +kernel
theorem dX8_tries_170 : decode cX8_tries 170 = .ok (.iconst (-1), 1) := by decide +kernel
theorem dX8_tries_171 : decode cX8_tries 171 = .ok (.if_icmp .eq 13, 3) := by decide +kernel
theorem dX8_tries_174 : decode cX8_tries 174 = .ok (.iload 6, 2) := by decide +kernel
theorem dX8_tries_176 : decode cX8_tries 176 = .ok (.iload 4, 2) := by decide +kernel
theorem dX8_tries_178 : decode cX8_tries 178 = .ok (.if_icmp .lt 6, 3) := by decide +kernel
theorem dX8_tries_181 : decode cX8_tries 181 = .ok (.goto 55, 3) := by decide +kernel
theorem dX8_tries_184 : decode cX8_tries 184 = .ok (.iload 6, 2) := by decide +kernel
theorem dX8_tries_186 : decode cX8_tries 186 = .ok (.istore 4, 2) := by decide +kernel
theorem dX8_tries_188 : decode cX8_tries 188 = .ok (.iconst 0, 1) := by decide +kernel
theorem dX8_tries_189 : decode cX8_tries 189 = .ok (.istore 7, 2) := by decide +kernel
theorem dX8_tries_191 : decode cX8_tries 191 = .ok (.iload 7, 2) := by decide +kernel
theorem dX8_tries_193 : decode cX8_tries 193 = .ok (.iload_n 2, 1) := by decide +kernel
theorem dX8_tries_194 : decode cX8_tries 194 = .ok (.if_icmp .ge 42, 3) := by decide +kernel
theorem dX8_tries_197 : decode cX8_tries 197 = .ok (.aload_n 0, 1) := by decide +kernel
theorem dX8_tries_198 : decode cX8_tries 198 = .ok (.getfield 134, 3) := by decide +kernel
theorem dX8_tries_201 : decode cX8_tries 201 = .ok (.iload 7, 2) := by decide +kernel
theorem dX8_tries_203 : decode cX8_tries 203 = .ok (.aload_n 0, 1) := by decide +kernel
theorem dX8_tries_204 : decode cX8_tries 204 = .ok (.getfield 125, 3) := by decide +kernel
theorem dX8_tries_207 : decode cX8_tries 207 = .ok (.aload_n 0, 1) := by decide +kernel
theorem dX8_tries_208 : decode cX8_tries 208 = .ok (.getfield 128, 3) := by decide +kernel
theorem dX8_tries_211 : decode cX8_tries 211 = .ok (.iload 7, 2) := by decide +kernel
theorem dX8_tries_213 : decode cX8_tries 213 = .ok (.iaload, 1) := by decide +kernel
theorem dX8_tries_214 : decode cX8_tries 214 = .ok (.iaload, 1) := by decide +kernel
theorem dX8_tries_215 : decode cX8_tries 215 = .ok (.iastore, 1) := by decide +kernel
theorem dX8_tries_216 : decode cX8_tries 216 = .ok (.aload_n 0, 1) := by decide +kernel
theorem dX8_tries_217 : decode cX8_tries 217 = .ok (.getfield 137, 3) := by decide +kernel
theorem dX8_tries_220 : decode cX8_tries 220 = .ok (.iload 7, 2) := by decide +kernel
theorem dX8_tries_222 : decode cX8_tries 222 = .ok (.aload_n 0, 1) := by decide +kernel
theorem dX8_tries_223 : decode cX8_tries 223 = .ok (.getfield 131, 3) := by decide +kernel
theorem dX8_tries_226 : decode cX8_tries 226 = .ok (.iload 7, 2) := by decide +kernel
theorem dX8_tries_228 : decode cX8_tries 228 = .ok (.iaload, 1) := by decide +kernel
theorem dX8_tries_229 : decode cX8_tries 229 = .ok (.iastore, 1) := by decide +kernel
theorem dX8_tries_230 : decode cX8_tries 230 = .ok (.iinc 7 1, 3) := by decide +kernel
theorem dX8_tries_233 : decode cX8_tries 233 = .ok (.goto (-42), 3) := by decide +kernel
theorem dX8_tries_236 : decode cX8_tries 236 = .ok (.iinc 5 1, 3) := by decide +kernel
theorem dX8_tries_239 : decode cX8_tries 239 = .ok (.goto (-98), 3) := by decide +kernel
theorem dX8_tries_242 : decode cX8_tries 242 = .ok (.iload 4, 2) := by decide +kernel
theorem dX8_tries_244 : decode cX8_tries 244 = .ok (.iconst (-1), 1) := by decide +kernel
theorem dX8_tries_245 : decode cX8_tries 245 = .ok (.if_icmp .ne 7, 3) := by decide +kernel
theorem dX8_tries_248 : decode cX8_tries 248 = .ok (.iconst (-1), 1) := by decide +kernel
theorem dX8_tries_249 : decode cX8_tries 249 = .ok (.goto 4, 3) := by decide +kernel
theorem dX8_tries_252 : decode cX8_tries 252 = .ok (.iload_n 2, 1) := by decide +kernel
theorem dX8_tries_253 : decode cX8_tries 253 = .ok (.ireturn, 1) := by decide +kernel
theorem dX8_sumOf_0 : decode cX8_sumOf 0 = .ok (.aload_n 0, 1) := by decide +kernel
theorem dX8_sumOf_1 : decode cX8_sumOf 1 = .ok (.getfield 25, 3) := by decide +kernel
theorem dX8_sumOf_4 : decode cX8_sumOf 4 = .ok (.iload_n 1, 1) := by decide +kernel
theorem dX8_sumOf_5 : decode cX8_sumOf 5 = .ok (.iaload, 1) := by decide +kernel
theorem dX8_sumOf_6 : decode cX8_sumOf 6 = .ok (.istore_n 3, 1) := by decide +kernel
theorem dX8_sumOf_7 : decode cX8_sumOf 7 = .ok (.aload_n 0, 1) := by decide +kernel
theorem dX8_sumOf_8 : decode cX8_sumOf 8 = .ok (.getfield 194, 3) := by decide +kernel
theorem dX8_sumOf_11 : decode cX8_sumOf 11 = .ok (.istore 4, 2) := by decide +kernel
theorem dX8_sumOf_13 : decode cX8_sumOf 13 = .ok (.iconst 0, 1) := by decide +kernel
theorem dX8_sumOf_14 : decode cX8_sumOf 14 = .ok (.istore 5, 2) := by decide +kernel
theorem dX8_sumOf_16 : decode cX8_sumOf 16 = .ok (.iconst 0, 1) := by decide +kernel
theorem dX8_sumOf_17 : decode cX8_sumOf 17 = .ok (.istore 6, 2) := by decide +kernel
theorem dX8_sumOf_19 : decode cX8_sumOf 19 = .ok (.iload 6, 2) := by decide +kernel
theorem dX8_sumOf_21 : decode cX8_sumOf 21 = .ok (.iload_n 2, 1) := by decide +kernel
theorem dX8_sumOf_22 : decode cX8_sumOf 22 = .ok (.if_icmp .ge 147, 3) := by decide +kernel
theorem dX8_sumOf_25 : decode cX8_sumOf 25 = .ok (.iconst 5, 1) := by decide +kernel
theorem dX8_sumOf_26 : decode cX8_sumOf 26 = .ok (.aload_n 0, 1) := by decide +kernel
theorem dX8_sumOf_27 : decode cX8_sumOf 27 = .ok (.getfield 77, 3) := by decide +kernel
theorem dX8_sumOf_30 : decode cX8_sumOf 30 = .ok (.aload_n 0, 1) := by decide +kernel
theorem dX8_sumOf_31 : decode cX8_sumOf 31 = .ok (.getfield 125, 3) := by decide +kernel
theorem dX8_sumOf_34 : decode cX8_sumOf 34 = .ok (.aload_n 0, 1) := by decide +kernel
theorem dX8_sumOf_35 : decode cX8_sumOf 35 = .ok (.getfield 128, 3) := by decide +kernel
theorem dX8_sumOf_38 : decode cX8_sumOf 38 = .ok (.iload 6, 2) := by decide +kernel
theorem dX8_sumOf_40 : decode cX8_sumOf 40 = .ok (.iaload, 1) := by decide +kernel
theorem dX8_sumOf_41 : decode cX8_sumOf 41 = .ok (.iaload, 1) := by decide +kernel
theorem dX8_sumOf_42 : decode cX8_sumOf 42 = .ok (.iaload, 1) := by decide +kernel
theorem dX8_sumOf_43 : decode cX8_sumOf 43 = .ok (.imul, 1) := by decide +kernel
theorem dX8_sumOf_44 : decode cX8_sumOf 44 = .ok (.istore 7, 2) := by decide +kernel
theorem dX8_sumOf_46 : decode cX8_sumOf 46 = .ok (.iload_n 3, 1) := by decide +kernel
theorem dX8_sumOf_47 : decode cX8_sumOf 47 = .ok (.iload 7, 2) := by decide +kernel
theorem dX8_sumOf_49 : decode cX8_sumOf 49 = .ok (.if_icmp .ge 55, 3) := by decide +kernel
theorem dX8_sumOf_52 : decode cX8_sumOf 52 = .ok (.aload_n 0, 1) := by decide +kernel
theorem dX8_sumOf_53 : decode cX8_sumOf 53 = .ok (.getfield 19, 3) := by decide +kernel
theorem dX8_sumOf_56 : decode cX8_sumOf 56 = .ok (.iload_n 1, 1) := by decide +kernel
theorem dX8_sumOf_57 : decode cX8_sumOf 57 = .ok (.iaload, 1) := by decide +kernel
theorem dX8_sumOf_58 : decode cX8_sumOf 58 = .ok (.ifCond .ne 5, 3) := by decide +kernel
theorem dX8_sumOf_61 : decode cX8_sumOf 61 = .ok (.iconst (-1), 1) := by decide +kernel
theorem dX8_sumOf_62 : decode cX8_sumOf 62 = .ok (.ireturn, 1) := by decide +kernel
theorem dX8_sumOf_63 : decode cX8_sumOf 63 = .ok (.iload_n 3, 1) := by decide +kernel
theorem dX8_sumOf_64 : decode cX8_sumOf 64 = .ok (.aload_n 0, 1) := by decide +kernel
theorem dX8_sumOf_65 : decode cX8_sumOf 65 = .ok (.getfield 19, 3) := by decide +kernel
theorem dX8_sumOf_68 : decode cX8_sumOf 68 = .ok (.iload_n 1, 1) := by decide +kernel
theorem dX8_sumOf_69 : decode cX8_sumOf 69 = .ok (.iaload, 1) := by decide +kernel
theorem dX8_sumOf_70 : decode cX8_sumOf 70 = .ok (.iadd, 1) := by decide +kernel
theorem dX8_sumOf_71 : decode cX8_sumOf 71 = .ok (.aload_n 0, 1) := by decide +kernel
theorem dX8_sumOf_72 : decode cX8_sumOf 72 = .ok (.getfield 22, 3) := by decide +kernel
theorem dX8_sumOf_75 : decode cX8_sumOf 75 = .ok (.iload_n 1, 1) := by decide +kernel
theorem dX8_sumOf_76 : decode cX8_sumOf 76 = .ok (.iaload, 1) := by decide +kernel
theorem dX8_sumOf_77 : decode cX8_sumOf 77 = .ok (.if_icmp .le 12, 3) := by decide +kernel
theorem dX8_sumOf_80 : decode cX8_sumOf 80 = .ok (.aload_n 0, 1) := by decide +kernel
theorem dX8_sumOf_81 : decode cX8_sumOf 81 = .ok (.getfield 22, 3) := by decide +kernel
theorem dX8_sumOf_84 : decode cX8_sumOf 84 = .ok (.iload_n 1, 1) := by decide +kernel
theorem dX8_sumOf_85 : decode cX8_sumOf 85 = .ok (.iaload, 1) := by decide +kernel
theorem dX8_sumOf_86 : decode cX8_sumOf 86 = .ok (.goto 11, 3) := by decide +kernel
theorem dX8_sumOf_89 : decode cX8_sumOf 89 = .ok (.iload_n 3, 1) := by decide +kernel
theorem dX8_sumOf_90 : decode cX8_sumOf 90 = .ok (.aload_n 0, 1) := by decide +kernel
theorem dX8_sumOf_91 : decode cX8_sumOf 91 = .ok (.getfield 19, 3) := by decide +kernel
theorem dX8_sumOf_94 : decode cX8_sumOf 94 = .ok (.iload_n 1, 1) := by decide +kernel
theorem dX8_sumOf_95 : decode cX8_sumOf 95 = .ok (.iaload, 1) := by decide +kernel
theorem dX8_sumOf_96 : decode cX8_sumOf 96 = .ok (.iadd, 1) := by decide +kernel
theorem dX8_sumOf_97 : decode cX8_sumOf 97 = .ok (.istore_n 3, 1) := by decide +kernel
theorem dX8_sumOf_98 : decode cX8_sumOf 98 = .ok (.iinc 4 1, 3) := by decide +kernel
theorem dX8_sumOf_101 : decode cX8_sumOf 101 = .ok (.goto (-55), 3) := by decide +kernel
theorem dX8_sumOf_104 : decode cX8_sumOf 104 = .ok (.aload_n 0, 1) := by decide +kernel
theorem dX8_sumOf_105 : decode cX8_sumOf 105 = .ok (.getfield 131, 3) := by decide +kernel
theorem dX8_sumOf_108 : decode cX8_sumOf 108 = .ok (.iload 6, 2) := by decide +kernel
theorem dX8_sumOf_110 : decode cX8_sumOf 110 = .ok (.iload 4, 2) := by decide +kernel
theorem dX8_sumOf_112 : decode cX8_sumOf 112 = .ok (.iastore, 1) := by decide +kernel
theorem dX8_sumOf_113 : decode cX8_sumOf 113 = .ok (.iload 5, 2) := by decide +kernel
theorem dX8_sumOf_115 : decode cX8_sumOf 115 = .ok (.iload 4, 2) := by decide +kernel
theorem dX8_sumOf_117 : decode cX8_sumOf 117 = .ok (.iadd, 1) := by decide +kernel
theorem dX8_sumOf_118 : decode cX8_sumOf 118 = .ok (.istore 5, 2) := by decide +kernel
theorem dX8_sumOf_120 : decode cX8_sumOf 120 = .ok (.iload_n 3, 1) := by decide +kernel
theorem dX8_sumOf_121 : decode cX8_sumOf 121 = .ok (.iload 7, 2) := by decide +kernel
theorem dX8_sumOf_123 : decode cX8_sumOf 123 = .ok (.isub, 1) := by decide +kernel
theorem dX8_sumOf_124 : decode cX8_sumOf 124 = .ok (.istore_n 3, 1) := by decide +kernel
theorem dX8_sumOf_125 : decode cX8_sumOf 125 = .ok (.iload_n 3, 1) := by decide +kernel
theorem dX8_sumOf_126 : decode cX8_sumOf 126 = .ok (.aload_n 0, 1) := by decide +kernel
theorem dX8_sumOf_127 : decode cX8_sumOf 127 = .ok (.getfield 19, 3) := by decide +kernel
theorem dX8_sumOf_130 : decode cX8_sumOf 130 = .ok (.iload_n 1, 1) := by decide +kernel
theorem dX8_sumOf_131 : decode cX8_sumOf 131 = .ok (.iaload, 1) := by decide +kernel
theorem dX8_sumOf_132 : decode cX8_sumOf 132 = .ok (.iadd, 1) := by decide +kernel
theorem dX8_sumOf_133 : decode cX8_sumOf 133 = .ok (.aload_n 0, 1) := by decide +kernel
theorem dX8_sumOf_134 : decode cX8_sumOf 134 = .ok (.getfield 22, 3) := by decide +kernel
theorem dX8_sumOf_137 : decode cX8_sumOf 137 = .ok (.iload_n 1, 1) := by decide +kernel
theorem dX8_sumOf_138 : decode cX8_sumOf 138 = .ok (.iaload, 1) := by decide +kernel
theorem dX8_sumOf_139 : decode cX8_sumOf 139 = .ok (.if_icmp .le 12, 3) := by decide +kernel
theorem dX8_sumOf_142 : decode cX8_sumOf 142 = .ok (.aload_n 0, 1) := by decide +kernel
theorem dX8_sumOf_143 : decode cX8_sumOf 143 = .ok (.getfield 22, 3) := by decide +kernel
theorem dX8_sumOf_146 : decode cX8_sumOf 146 = .ok (.iload_n 1, 1) := by decide +kernel
theorem dX8_sumOf_147 : decode cX8_sumOf 147 = .ok (.iaload, 1) := by decide +kernel
theorem dX8_sumOf_148 : decode cX8_sumOf 148 = .ok (.goto 11, 3) := by decide +kernel
theorem dX8_sumOf_151 : decode cX8_sumOf 151 = .ok (.iload_n 3, 1) := by decide +kernel
theorem dX8_sumOf_152 : decode cX8_sumOf 152 = .ok (.aload_n 0, 1) := by decide +kernel
theorem dX8_sumOf_153 : decode cX8_sumOf 153 = .ok (.getfield 19, 3) := by decide +kernel
theorem dX8_sumOf_156 : decode cX8_sumOf 156 = .ok (.iload_n 1, 1) := by decide +kernel
theorem dX8_sumOf_157 : decode cX8_sumOf 157 = .ok (.iaload, 1) := by decide +kernel
theorem dX8_sumOf_158 : decode cX8_sumOf 158 = .ok (.iadd, 1) := by decide +kernel
theorem dX8_sumOf_159 : decode cX8_sumOf 159 = .ok (.istore_n 3, 1) := by decide +kernel
theorem dX8_sumOf_160 : decode cX8_sumOf 160 = .ok (.iinc 4 1, 3) := by decide +kernel
theorem dX8_sumOf_163 : decode cX8_sumOf 163 = .ok (.iinc 6 1, 3) := by decide +kernel
theorem dX8_sumOf_166 : decode cX8_sumOf 166 = .ok (.goto (-147), 3) := by decide +kernel
theorem dX8_sumOf_169 : decode cX8_sumOf 169 = .ok (.iload 5, 2) := by decide +kernel
theorem dX8_sumOf_171 : decode cX8_sumOf 171 = .ok (.ireturn, 1) := by decide +kernel
theorem dX8_orders_0 : decode cX8_orders 0 = .ok (.iload_n 1, 1) := by decide +kernel
theorem dX8_orders_1 : decode cX8_orders 1 = .ok (.istore_n 3, 1) := by decide +kernel
theorem dX8_orders_2 : decode cX8_orders 2 = .ok (.iconst 0, 1) := by decide +kernel
theorem dX8_orders_3 : decode cX8_orders 3 = .ok (.istore 4, 2) := by decide +kernel
theorem dX8_orders_5 : decode cX8_orders 5 = .ok (.iconst 0, 1) := by decide +kernel
theorem dX8_orders_6 : decode cX8_orders 6 = .ok (.istore 5, 2) := by decide +kernel
theorem dX8_orders_8 : decode cX8_orders 8 = .ok (.iload 5, 2) := by decide +kernel
theorem dX8_orders_10 : decode cX8_orders 10 = .ok (.iload_n 2, 1) := by decide +kernel
theorem dX8_orders_11 : decode cX8_orders 11 = .ok (.if_icmp .ge 117, 3) := by decide +kernel
theorem dX8_orders_14 : decode cX8_orders 14 = .ok (.iconst 1, 1) := by decide +kernel
theorem dX8_orders_15 : decode cX8_orders 15 = .ok (.istore 6, 2) := by decide +kernel
theorem dX8_orders_17 : decode cX8_orders 17 = .ok (.iconst 2, 1) := by decide +kernel
theorem dX8_orders_18 : decode cX8_orders 18 = .ok (.istore 7, 2) := by decide +kernel
theorem dX8_orders_20 : decode cX8_orders 20 = .ok (.iload 7, 2) := by decide +kernel
theorem dX8_orders_22 : decode cX8_orders 22 = .ok (.iload_n 2, 1) := by decide +kernel
theorem dX8_orders_23 : decode cX8_orders 23 = .ok (.iload 5, 2) := by decide +kernel
theorem dX8_orders_25 : decode cX8_orders 25 = .ok (.isub, 1) := by decide +kernel
theorem dX8_orders_26 : decode cX8_orders 26 = .ok (.if_icmp .ge 16, 3) := by decide +kernel
theorem dX8_orders_29 : decode cX8_orders 29 = .ok (.iload 6, 2) := by decide +kernel
theorem dX8_orders_31 : decode cX8_orders 31 = .ok (.iload 7, 2) := by decide +kernel
theorem dX8_orders_33 : decode cX8_orders 33 = .ok (.imul, 1) := by decide +kernel
theorem dX8_orders_34 : decode cX8_orders 34 = .ok (.istore 6, 2) := by decide +kernel
theorem dX8_orders_36 : decode cX8_orders 36 = .ok (.iinc 7 1, 3) := by decide +kernel
theorem dX8_orders_39 : decode cX8_orders 39 = .ok (.goto (-19), 3) := by decide +kernel
theorem dX8_orders_42 : decode cX8_orders 42 = .ok (.iload_n 3, 1) := by decide +kernel
theorem dX8_orders_43 : decode cX8_orders 43 = .ok (.iload 6, 2) := by decide +kernel
theorem dX8_orders_45 : decode cX8_orders 45 = .ok (.idiv, 1) := by decide +kernel
theorem dX8_orders_46 : decode cX8_orders 46 = .ok (.istore 7, 2) := by decide +kernel
theorem dX8_orders_48 : decode cX8_orders 48 = .ok (.iload_n 3, 1) := by decide +kernel
theorem dX8_orders_49 : decode cX8_orders 49 = .ok (.iload 6, 2) := by decide +kernel
theorem dX8_orders_51 : decode cX8_orders 51 = .ok (.irem, 1) := by decide +kernel
theorem dX8_orders_52 : decode cX8_orders 52 = .ok (.istore_n 3, 1) := by decide +kernel
theorem dX8_orders_53 : decode cX8_orders 53 = .ok (.iconst 0, 1) := by decide +kernel
theorem dX8_orders_54 : decode cX8_orders 54 = .ok (.istore 8, 2) := by decide +kernel
theorem dX8_orders_56 : decode cX8_orders 56 = .ok (.iload 4, 2) := by decide +kernel
theorem dX8_orders_58 : decode cX8_orders 58 = .ok (.iload 8, 2) := by decide +kernel
theorem dX8_orders_60 : decode cX8_orders 60 = .ok (.ishr, 1) := by decide +kernel
theorem dX8_orders_61 : decode cX8_orders 61 = .ok (.iconst 1, 1) := by decide +kernel
theorem dX8_orders_62 : decode cX8_orders 62 = .ok (.iand, 1) := by decide +kernel
theorem dX8_orders_63 : decode cX8_orders 63 = .ok (.iconst 1, 1) := by decide +kernel
theorem dX8_orders_64 : decode cX8_orders 64 = .ok (.if_icmp .ne 9, 3) := by decide +kernel
theorem dX8_orders_67 : decode cX8_orders 67 = .ok (.iinc 8 1, 3) := by decide +kernel
theorem dX8_orders_70 : decode cX8_orders 70 = .ok (.goto (-14), 3) := by decide +kernel
theorem dX8_orders_73 : decode cX8_orders 73 = .ok (.iload 7, 2) := by decide +kernel
theorem dX8_orders_75 : decode cX8_orders 75 = .ok (.ifCond .le 29, 3) := by decide +kernel
theorem dX8_orders_78 : decode cX8_orders 78 = .ok (.iinc 8 1, 3) := by decide +kernel
theorem dX8_orders_81 : decode cX8_orders 81 = .ok (.iload 4, 2) := by decide +kernel
theorem dX8_orders_83 : decode cX8_orders 83 = .ok (.iload 8, 2) := by decide +kernel
theorem dX8_orders_85 : decode cX8_orders 85 = .ok (.ishr, 1) := by decide +kernel
theorem dX8_orders_86 : decode cX8_orders 86 = .ok (.iconst 1, 1) := by decide +kernel
theorem dX8_orders_87 : decode cX8_orders 87 = .ok (.iand, 1) := by decide +kernel
theorem dX8_orders_88 : decode cX8_orders 88 = .ok (.iconst 1, 1) := by decide +kernel
theorem dX8_orders_89 : decode cX8_orders 89 = .ok (.if_icmp .ne 9, 3) := by decide +kernel
theorem dX8_orders_92 : decode cX8_orders 92 = .ok (.iinc 8 1, 3) := by decide +kernel
theorem dX8_orders_95 : decode cX8_orders 95 = .ok (.goto (-14), 3) := by decide +kernel
theorem dX8_orders_98 : decode cX8_orders 98 = .ok (.iinc 7 (-1), 3) := by decide +kernel
theorem dX8_orders_101 : decode cX8_orders 101 = .ok (.goto (-28), 3) := by decide +kernel
theorem dX8_orders_104 : decode cX8_orders 104 = .ok (.aload_n 0, 1) := by decide +kernel
theorem dX8_orders_105 : decode cX8_orders 105 = .ok (.getfield 128, 3) := by decide +kernel
theorem dX8_orders_108 : decode cX8_orders 108 = .ok (.iload 5, 2) := by decide +kernel
theorem dX8_orders_110 : decode cX8_orders 110 = .ok (.iload 8, 2) := by decide +kernel
theorem dX8_orders_112 : decode cX8_orders 112 = .ok (.iastore, 1) := by decide +kernel
theorem dX8_orders_113 : decode cX8_orders 113 = .ok (.iload 4, 2) := by decide +kernel
theorem dX8_orders_115 : decode cX8_orders 115 = .ok (.iconst 1, 1) := by decide +kernel
theorem dX8_orders_116 : decode cX8_orders 116 = .ok (.iload 8, 2) := by decide +kernel
theorem dX8_orders_118 : decode cX8_orders 118 = .ok (.ishl, 1) := by decide +kernel
theorem dX8_orders_119 : decode cX8_orders 119 = .ok (.ior, 1) := by decide +kernel
theorem dX8_orders_120 : decode cX8_orders 120 = .ok (.istore 4, 2) := by decide +kernel
theorem dX8_orders_122 : decode cX8_orders 122 = .ok (.iinc 5 1, 3) := by decide +kernel
theorem dX8_orders_125 : decode cX8_orders 125 = .ok (.goto (-117), 3) := by decide +kernel
theorem dX8_orders_128 : decode cX8_orders 128 = .ok (.return_, 1) := by decide +kernel
theorem dX8_best_0 : decode cX8_best 0 = .ok (.iload_n 2, 1) := by decide +kernel
theorem dX8_best_1 : decode cX8_best 1 = .ok (.iconst 0, 1) := by decide +kernel
theorem dX8_best_2 : decode cX8_best 2 = .ok (.aload_n 0, 1) := by decide +kernel
theorem dX8_best_3 : decode cX8_best 3 = .ok (.iload_n 1, 1) := by decide +kernel
theorem dX8_best_4 : decode cX8_best 4 = .ok (.invokevirtual 245, 3) := by decide +kernel
theorem dX8_best_7 : decode cX8_best 7 = .ok (.iconst 1, 1) := by decide +kernel
theorem dX8_best_8 : decode cX8_best 8 = .ok (.isub, 1) := by decide +kernel
theorem dX8_best_9 : decode cX8_best 9 = .ok (.invokestatic 144, 3) := by decide +kernel
theorem dX8_best_12 : decode cX8_best 12 = .ok (.ifCond .eq 12, 3) := by decide +kernel
theorem dX8_best_15 : decode cX8_best 15 = .ok (.aload_n 0, 1) := by decide +kernel
theorem dX8_best_16 : decode cX8_best 16 = .ok (.getfield 134, 3) := by decide +kernel
theorem dX8_best_19 : decode cX8_best 19 = .ok (.iload_n 2, 1) := by decide +kernel
theorem dX8_best_20 : decode cX8_best 20 = .ok (.iaload, 1) := by decide +kernel
theorem dX8_best_21 : decode cX8_best 21 = .ok (.goto 4, 3) := by decide +kernel
theorem dX8_best_24 : decode cX8_best 24 = .ok (.iconst (-1), 1) := by decide +kernel
theorem dX8_best_25 : decode cX8_best 25 = .ok (.ireturn, 1) := by decide +kernel
theorem dX8_passes_0 : decode cX8_passes 0 = .ok (.iload_n 2, 1) := by decide +kernel
theorem dX8_passes_1 : decode cX8_passes 1 = .ok (.iconst 0, 1) := by decide +kernel
theorem dX8_passes_2 : decode cX8_passes 2 = .ok (.aload_n 0, 1) := by decide +kernel
theorem dX8_passes_3 : decode cX8_passes 3 = .ok (.iload_n 1, 1) := by decide +kernel
theorem dX8_passes_4 : decode cX8_passes 4 = .ok (.invokevirtual 245, 3) := by decide +kernel
theorem dX8_passes_7 : decode cX8_passes 7 = .ok (.iconst 1, 1) := by decide +kernel
theorem dX8_passes_8 : decode cX8_passes 8 = .ok (.isub, 1) := by decide +kernel
theorem dX8_passes_9 : decode cX8_passes 9 = .ok (.invokestatic 144, 3) := by decide +kernel
theorem dX8_passes_12 : decode cX8_passes 12 = .ok (.ifCond .eq 12, 3) := by decide +kernel
theorem dX8_passes_15 : decode cX8_passes 15 = .ok (.aload_n 0, 1) := by decide +kernel
theorem dX8_passes_16 : decode cX8_passes 16 = .ok (.getfield 137, 3) := by decide +kernel
theorem dX8_passes_19 : decode cX8_passes 19 = .ok (.iload_n 2, 1) := by decide +kernel
theorem dX8_passes_20 : decode cX8_passes 20 = .ok (.iaload, 1) := by decide +kernel
theorem dX8_passes_21 : decode cX8_passes 21 = .ok (.goto 4, 3) := by decide +kernel
theorem dX8_passes_24 : decode cX8_passes 24 = .ok (.iconst (-1), 1) := by decide +kernel
theorem dX8_passes_25 : decode cX8_passes 25 = .ok (.ireturn, 1) := by decide +kernel
theorem dX8_told_0 : decode cX8_told 0 = .ok (.aload_n 0, 1) := by decide +kernel
theorem dX8_told_1 : decode cX8_told 1 = .ok (.iload_n 1, 1) := by decide +kernel
theorem dX8_told_2 : decode cX8_told 2 = .ok (.invokevirtual 167, 3) := by decide +kernel
theorem dX8_told_5 : decode cX8_told 5 = .ok (.ifCond .ne 5, 3) := by decide +kernel
theorem dX8_told_8 : decode cX8_told 8 = .ok (.iconst (-1), 1) := by decide +kernel
theorem dX8_told_9 : decode cX8_told 9 = .ok (.ireturn, 1) := by decide +kernel
theorem dX8_told_10 : decode cX8_told 10 = .ok (.iload_n 2, 1) := by decide +kernel
theorem dX8_told_11 : decode cX8_told 11 = .ok (.tableswitch 128 0 7 #[45, 52, 59, 66, 73, 80, 100, 121], 45) := by decide +kernel
theorem dX8_told_56 : decode cX8_told 56 = .ok (.aload_n 0, 1) := by decide +kernel
theorem dX8_told_57 : decode cX8_told 57 = .ok (.getfield 38, 3) := by decide +kernel
theorem dX8_told_60 : decode cX8_told 60 = .ok (.iload_n 1, 1) := by decide +kernel
theorem dX8_told_61 : decode cX8_told 61 = .ok (.iaload, 1) := by decide +kernel
theorem dX8_told_62 : decode cX8_told 62 = .ok (.ireturn, 1) := by decide +kernel
theorem dX8_told_63 : decode cX8_told 63 = .ok (.aload_n 0, 1) := by decide +kernel
theorem dX8_told_64 : decode cX8_told 64 = .ok (.getfield 41, 3) := by decide +kernel
theorem dX8_told_67 : decode cX8_told 67 = .ok (.iload_n 1, 1) := by decide +kernel
theorem dX8_told_68 : decode cX8_told 68 = .ok (.iaload, 1) := by decide +kernel
theorem dX8_told_69 : decode cX8_told 69 = .ok (.ireturn, 1) := by decide +kernel
theorem dX8_told_70 : decode cX8_told 70 = .ok (.aload_n 0, 1) := by decide +kernel
theorem dX8_told_71 : decode cX8_told 71 = .ok (.getfield 44, 3) := by decide +kernel
theorem dX8_told_74 : decode cX8_told 74 = .ok (.iload_n 1, 1) := by decide +kernel
theorem dX8_told_75 : decode cX8_told 75 = .ok (.iaload, 1) := by decide +kernel
theorem dX8_told_76 : decode cX8_told 76 = .ok (.ireturn, 1) := by decide +kernel
theorem dX8_told_77 : decode cX8_told 77 = .ok (.aload_n 0, 1) := by decide +kernel
theorem dX8_told_78 : decode cX8_told 78 = .ok (.getfield 47, 3) := by decide +kernel
theorem dX8_told_81 : decode cX8_told 81 = .ok (.iload_n 1, 1) := by decide +kernel
theorem dX8_told_82 : decode cX8_told 82 = .ok (.iaload, 1) := by decide +kernel
theorem dX8_told_83 : decode cX8_told 83 = .ok (.ireturn, 1) := by decide +kernel
theorem dX8_told_84 : decode cX8_told 84 = .ok (.aload_n 0, 1) := by decide +kernel
theorem dX8_told_85 : decode cX8_told 85 = .ok (.getfield 50, 3) := by decide +kernel
theorem dX8_told_88 : decode cX8_told 88 = .ok (.iload_n 1, 1) := by decide +kernel
theorem dX8_told_89 : decode cX8_told 89 = .ok (.iaload, 1) := by decide +kernel
theorem dX8_told_90 : decode cX8_told 90 = .ok (.ireturn, 1) := by decide +kernel
theorem dX8_told_91 : decode cX8_told 91 = .ok (.aload_n 0, 1) := by decide +kernel
theorem dX8_told_92 : decode cX8_told 92 = .ok (.getfield 50, 3) := by decide +kernel
theorem dX8_told_95 : decode cX8_told 95 = .ok (.iload_n 1, 1) := by decide +kernel
theorem dX8_told_96 : decode cX8_told 96 = .ok (.iaload, 1) := by decide +kernel
theorem dX8_told_97 : decode cX8_told 97 = .ok (.ifCond .ne 12, 3) := by decide +kernel
theorem dX8_told_100 : decode cX8_told 100 = .ok (.aload_n 0, 1) := by decide +kernel
theorem dX8_told_101 : decode cX8_told 101 = .ok (.getfield 53, 3) := by decide +kernel
theorem dX8_told_104 : decode cX8_told 104 = .ok (.iload_n 1, 1) := by decide +kernel
theorem dX8_told_105 : decode cX8_told 105 = .ok (.iaload, 1) := by decide +kernel
theorem dX8_told_106 : decode cX8_told 106 = .ok (.goto 4, 3) := by decide +kernel
theorem dX8_told_109 : decode cX8_told 109 = .ok (.iconst (-1), 1) := by decide +kernel
theorem dX8_told_110 : decode cX8_told 110 = .ok (.ireturn, 1) := by decide +kernel
theorem dX8_told_111 : decode cX8_told 111 = .ok (.aload_n 0, 1) := by decide +kernel
theorem dX8_told_112 : decode cX8_told 112 = .ok (.getfield 50, 3) := by decide +kernel
theorem dX8_told_115 : decode cX8_told 115 = .ok (.iload_n 1, 1) := by decide +kernel
theorem dX8_told_116 : decode cX8_told 116 = .ok (.iaload, 1) := by decide +kernel
theorem dX8_told_117 : decode cX8_told 117 = .ok (.iconst 1, 1) := by decide +kernel
theorem dX8_told_118 : decode cX8_told 118 = .ok (.if_icmp .ne 12, 3) := by decide +kernel
theorem dX8_told_121 : decode cX8_told 121 = .ok (.aload_n 0, 1) := by decide +kernel
theorem dX8_told_122 : decode cX8_told 122 = .ok (.getfield 56, 3) := by decide +kernel
theorem dX8_told_125 : decode cX8_told 125 = .ok (.iload_n 1, 1) := by decide +kernel
theorem dX8_told_126 : decode cX8_told 126 = .ok (.iaload, 1) := by decide +kernel
theorem dX8_told_127 : decode cX8_told 127 = .ok (.goto 4, 3) := by decide +kernel
theorem dX8_told_130 : decode cX8_told 130 = .ok (.iconst (-1), 1) := by decide +kernel
theorem dX8_told_131 : decode cX8_told 131 = .ok (.ireturn, 1) := by decide +kernel
theorem dX8_told_132 : decode cX8_told 132 = .ok (.aload_n 0, 1) := by decide +kernel
theorem dX8_told_133 : decode cX8_told 133 = .ok (.getfield 65, 3) := by decide +kernel
theorem dX8_told_136 : decode cX8_told 136 = .ok (.iload_n 1, 1) := by decide +kernel
theorem dX8_told_137 : decode cX8_told 137 = .ok (.iaload, 1) := by decide +kernel
theorem dX8_told_138 : decode cX8_told 138 = .ok (.ireturn, 1) := by decide +kernel
theorem dX8_told_139 : decode cX8_told 139 = .ok (.iconst (-1), 1) := by decide +kernel
theorem dX8_told_140 : decode cX8_told 140 = .ok (.ireturn, 1) := by decide +kernel
theorem dX8_raft_0 : decode cX8_raft 0 = .ok (.iload_n 1, 1) := by decide +kernel
theorem dX8_raft_1 : decode cX8_raft 1 = .ok (.iconst 0, 1) := by decide +kernel
theorem dX8_raft_2 : decode cX8_raft 2 = .ok (.aload_n 0, 1) := by decide +kernel
theorem dX8_raft_3 : decode cX8_raft 3 = .ok (.getfield 151, 3) := by decide +kernel
theorem dX8_raft_6 : decode cX8_raft 6 = .ok (.iconst 1, 1) := by decide +kernel
theorem dX8_raft_7 : decode cX8_raft 7 = .ok (.isub, 1) := by decide +kernel
theorem dX8_raft_8 : decode cX8_raft 8 = .ok (.invokestatic 144, 3) := by decide +kernel
theorem dX8_raft_11 : decode cX8_raft 11 = .ok (.ifCond .ne 5, 3) := by decide +kernel
theorem dX8_raft_14 : decode cX8_raft 14 = .ok (.iconst (-1), 1) := by decide +kernel
theorem dX8_raft_15 : decode cX8_raft 15 = .ok (.ireturn, 1) := by decide +kernel
theorem dX8_raft_16 : decode cX8_raft 16 = .ok (.iload_n 2, 1) := by decide +kernel
theorem dX8_raft_17 : decode cX8_raft 17 = .ok (.tableswitch 104 0 6 #[43, 50, 71, 78, 84, 90, 97], 43) := by decide +kernel
theorem dX8_raft_60 : decode cX8_raft 60 = .ok (.aload_n 0, 1) := by decide +kernel
theorem dX8_raft_61 : decode cX8_raft 61 = .ok (.getfield 71, 3) := by decide +kernel
theorem dX8_raft_64 : decode cX8_raft 64 = .ok (.iload_n 1, 1) := by decide +kernel
theorem dX8_raft_65 : decode cX8_raft 65 = .ok (.iaload, 1) := by decide +kernel
theorem dX8_raft_66 : decode cX8_raft 66 = .ok (.ireturn, 1) := by decide +kernel
theorem dX8_raft_67 : decode cX8_raft 67 = .ok (.aload_n 0, 1) := by decide +kernel
theorem dX8_raft_68 : decode cX8_raft 68 = .ok (.getfield 71, 3) := by decide +kernel
theorem dX8_raft_71 : decode cX8_raft 71 = .ok (.iload_n 1, 1) := by decide +kernel
theorem dX8_raft_72 : decode cX8_raft 72 = .ok (.iaload, 1) := by decide +kernel
theorem dX8_raft_73 : decode cX8_raft 73 = .ok (.iconst 3, 1) := by decide +kernel
theorem dX8_raft_74 : decode cX8_raft 74 = .ok (.if_icmp .ne 7, 3) := by decide +kernel
theorem dX8_raft_77 : decode cX8_raft 77 = .ok (.iconst (-1), 1) := by decide +kernel
theorem dX8_raft_78 : decode cX8_raft 78 = .ok (.goto 9, 3) := by decide +kernel
theorem dX8_raft_81 : decode cX8_raft 81 = .ok (.aload_n 0, 1) := by decide +kernel
theorem dX8_raft_82 : decode cX8_raft 82 = .ok (.getfield 74, 3) := by decide +kernel
theorem dX8_raft_85 : decode cX8_raft 85 = .ok (.iload_n 1, 1) := by decide +kernel
theorem dX8_raft_86 : decode cX8_raft 86 = .ok (.iaload, 1) := by decide +kernel
theorem dX8_raft_87 : decode cX8_raft 87 = .ok (.ireturn, 1) := by decide +kernel
theorem dX8_raft_88 : decode cX8_raft 88 = .ok (.aload_n 0, 1) := by decide +kernel
theorem dX8_raft_89 : decode cX8_raft 89 = .ok (.getfield 77, 3) := by decide +kernel
theorem dX8_raft_92 : decode cX8_raft 92 = .ok (.iload_n 1, 1) := by decide +kernel
theorem dX8_raft_93 : decode cX8_raft 93 = .ok (.iaload, 1) := by decide +kernel
theorem dX8_raft_94 : decode cX8_raft 94 = .ok (.ireturn, 1) := by decide +kernel
theorem dX8_raft_95 : decode cX8_raft 95 = .ok (.aload_n 0, 1) := by decide +kernel
theorem dX8_raft_96 : decode cX8_raft 96 = .ok (.iload_n 1, 1) := by decide +kernel
theorem dX8_raft_97 : decode cX8_raft 97 = .ok (.invokevirtual 210, 3) := by decide +kernel
theorem dX8_raft_100 : decode cX8_raft 100 = .ok (.ireturn, 1) := by decide +kernel
theorem dX8_raft_101 : decode cX8_raft 101 = .ok (.aload_n 0, 1) := by decide +kernel
theorem dX8_raft_102 : decode cX8_raft 102 = .ok (.iload_n 1, 1) := by decide +kernel
theorem dX8_raft_103 : decode cX8_raft 103 = .ok (.invokevirtual 213, 3) := by decide +kernel
theorem dX8_raft_106 : decode cX8_raft 106 = .ok (.ireturn, 1) := by decide +kernel
theorem dX8_raft_107 : decode cX8_raft 107 = .ok (.aload_n 0, 1) := by decide +kernel
theorem dX8_raft_108 : decode cX8_raft 108 = .ok (.getfield 80, 3) := by decide +kernel
theorem dX8_raft_111 : decode cX8_raft 111 = .ok (.iload_n 1, 1) := by decide +kernel
theorem dX8_raft_112 : decode cX8_raft 112 = .ok (.iaload, 1) := by decide +kernel
theorem dX8_raft_113 : decode cX8_raft 113 = .ok (.ireturn, 1) := by decide +kernel
theorem dX8_raft_114 : decode cX8_raft 114 = .ok (.aload_n 0, 1) := by decide +kernel
theorem dX8_raft_115 : decode cX8_raft 115 = .ok (.getfield 83, 3) := by decide +kernel
theorem dX8_raft_118 : decode cX8_raft 118 = .ok (.iload_n 1, 1) := by decide +kernel
theorem dX8_raft_119 : decode cX8_raft 119 = .ok (.iaload, 1) := by decide +kernel
theorem dX8_raft_120 : decode cX8_raft 120 = .ok (.ireturn, 1) := by decide +kernel
theorem dX8_raft_121 : decode cX8_raft 121 = .ok (.iconst (-1), 1) := by decide +kernel
theorem dX8_raft_122 : decode cX8_raft 122 = .ok (.ireturn, 1) := by decide +kernel
theorem dX8_crewed_0 : decode cX8_crewed 0 = .ok (.iload_n 1, 1) := by decide +kernel
theorem dX8_crewed_1 : decode cX8_crewed 1 = .ok (.iconst 0, 1) := by decide +kernel
theorem dX8_crewed_2 : decode cX8_crewed 2 = .ok (.aload_n 0, 1) := by decide +kernel
theorem dX8_crewed_3 : decode cX8_crewed 3 = .ok (.getfield 191, 3) := by decide +kernel
theorem dX8_crewed_6 : decode cX8_crewed 6 = .ok (.iconst 1, 1) := by decide +kernel
theorem dX8_crewed_7 : decode cX8_crewed 7 = .ok (.isub, 1) := by decide +kernel
theorem dX8_crewed_8 : decode cX8_crewed 8 = .ok (.invokestatic 144, 3) := by decide +kernel
theorem dX8_crewed_11 : decode cX8_crewed 11 = .ok (.ifCond .ne 5, 3) := by decide +kernel
theorem dX8_crewed_14 : decode cX8_crewed 14 = .ok (.iconst (-1), 1) := by decide +kernel
theorem dX8_crewed_15 : decode cX8_crewed 15 = .ok (.ireturn, 1) := by decide +kernel
theorem dX8_crewed_16 : decode cX8_crewed 16 = .ok (.iload_n 2, 1) := by decide +kernel
theorem dX8_crewed_17 : decode cX8_crewed 17 = .ok (.tableswitch 93 0 3 #[31, 38, 58, 79], 31) := by decide +kernel
theorem dX8_crewed_48 : decode cX8_crewed 48 = .ok (.aload_n 0, 1) := by decide +kernel
theorem dX8_crewed_49 : decode cX8_crewed 49 = .ok (.getfield 89, 3) := by decide +kernel
theorem dX8_crewed_52 : decode cX8_crewed 52 = .ok (.iload_n 1, 1) := by decide +kernel
theorem dX8_crewed_53 : decode cX8_crewed 53 = .ok (.iaload, 1) := by decide +kernel
theorem dX8_crewed_54 : decode cX8_crewed 54 = .ok (.ireturn, 1) := by decide +kernel
theorem dX8_crewed_55 : decode cX8_crewed 55 = .ok (.aload_n 0, 1) := by decide +kernel
theorem dX8_crewed_56 : decode cX8_crewed 56 = .ok (.getfield 89, 3) := by decide +kernel
theorem dX8_crewed_59 : decode cX8_crewed 59 = .ok (.iload_n 1, 1) := by decide +kernel
theorem dX8_crewed_60 : decode cX8_crewed 60 = .ok (.iaload, 1) := by decide +kernel
theorem dX8_crewed_61 : decode cX8_crewed 61 = .ok (.ifCond .ne 12, 3) := by decide +kernel
theorem dX8_crewed_64 : decode cX8_crewed 64 = .ok (.aload_n 0, 1) := by decide +kernel
theorem dX8_crewed_65 : decode cX8_crewed 65 = .ok (.getfield 92, 3) := by decide +kernel
theorem dX8_crewed_68 : decode cX8_crewed 68 = .ok (.iload_n 1, 1) := by decide +kernel
theorem dX8_crewed_69 : decode cX8_crewed 69 = .ok (.iaload, 1) := by decide +kernel
theorem dX8_crewed_70 : decode cX8_crewed 70 = .ok (.goto 4, 3) := by decide +kernel
theorem dX8_crewed_73 : decode cX8_crewed 73 = .ok (.iconst (-1), 1) := by decide +kernel
theorem dX8_crewed_74 : decode cX8_crewed 74 = .ok (.ireturn, 1) := by decide +kernel
theorem dX8_crewed_75 : decode cX8_crewed 75 = .ok (.aload_n 0, 1) := by decide +kernel
theorem dX8_crewed_76 : decode cX8_crewed 76 = .ok (.getfield 89, 3) := by decide +kernel
theorem dX8_crewed_79 : decode cX8_crewed 79 = .ok (.iload_n 1, 1) := by decide +kernel
theorem dX8_crewed_80 : decode cX8_crewed 80 = .ok (.iaload, 1) := by decide +kernel
theorem dX8_crewed_81 : decode cX8_crewed 81 = .ok (.iconst 2, 1) := by decide +kernel
theorem dX8_crewed_82 : decode cX8_crewed 82 = .ok (.if_icmp .ne 12, 3) := by decide +kernel
theorem dX8_crewed_85 : decode cX8_crewed 85 = .ok (.aload_n 0, 1) := by decide +kernel
theorem dX8_crewed_86 : decode cX8_crewed 86 = .ok (.getfield 98, 3) := by decide +kernel
theorem dX8_crewed_89 : decode cX8_crewed 89 = .ok (.iload_n 1, 1) := by decide +kernel
theorem dX8_crewed_90 : decode cX8_crewed 90 = .ok (.iaload, 1) := by decide +kernel
theorem dX8_crewed_91 : decode cX8_crewed 91 = .ok (.goto 4, 3) := by decide +kernel
theorem dX8_crewed_94 : decode cX8_crewed 94 = .ok (.iconst (-1), 1) := by decide +kernel
theorem dX8_crewed_95 : decode cX8_crewed 95 = .ok (.ireturn, 1) := by decide +kernel
theorem dX8_crewed_96 : decode cX8_crewed 96 = .ok (.aload_n 0, 1) := by decide +kernel
theorem dX8_crewed_97 : decode cX8_crewed 97 = .ok (.iload_n 1, 1) := by decide +kernel
theorem dX8_crewed_98 : decode cX8_crewed 98 = .ok (.invokevirtual 197, 3) := by decide +kernel
theorem dX8_crewed_101 : decode cX8_crewed 101 = .ok (.ifCond .eq 7, 3) := by decide +kernel
theorem dX8_crewed_104 : decode cX8_crewed 104 = .ok (.iconst 1, 1) := by decide +kernel
theorem dX8_crewed_105 : decode cX8_crewed 105 = .ok (.goto 4, 3) := by decide +kernel
theorem dX8_crewed_108 : decode cX8_crewed 108 = .ok (.iconst 0, 1) := by decide +kernel
theorem dX8_crewed_109 : decode cX8_crewed 109 = .ok (.ireturn, 1) := by decide +kernel
theorem dX8_crewed_110 : decode cX8_crewed 110 = .ok (.iconst (-1), 1) := by decide +kernel
theorem dX8_crewed_111 : decode cX8_crewed 111 = .ok (.ireturn, 1) := by decide +kernel
theorem dX8_count_0 : decode cX8_count 0 = .ok (.iconst 0, 1) := by decide +kernel
theorem dX8_count_1 : decode cX8_count 1 = .ok (.istore_n 2, 1) := by decide +kernel
theorem dX8_count_2 : decode cX8_count 2 = .ok (.iload_n 1, 1) := by decide +kernel
theorem dX8_count_3 : decode cX8_count 3 = .ok (.tableswitch 147 0 7 #[45, 50, 55, 60, 65, 70, 75, 111], 45) := by decide +kernel
theorem dX8_count_48 : decode cX8_count 48 = .ok (.aload_n 0, 1) := by decide +kernel
theorem dX8_count_49 : decode cX8_count 49 = .ok (.getfield 194, 3) := by decide +kernel
theorem dX8_count_52 : decode cX8_count 52 = .ok (.ireturn, 1) := by decide +kernel
theorem dX8_count_53 : decode cX8_count 53 = .ok (.aload_n 0, 1) := by decide +kernel
theorem dX8_count_54 : decode cX8_count 54 = .ok (.getfield 140, 3) := by decide +kernel
theorem dX8_count_57 : decode cX8_count 57 = .ok (.ireturn, 1) := by decide +kernel
theorem dX8_count_58 : decode cX8_count 58 = .ok (.aload_n 0, 1) := by decide +kernel
theorem dX8_count_59 : decode cX8_count 59 = .ok (.getfield 148, 3) := by decide +kernel
theorem dX8_count_62 : decode cX8_count 62 = .ok (.ireturn, 1) := by decide +kernel
theorem dX8_count_63 : decode cX8_count 63 = .ok (.aload_n 0, 1) := by decide +kernel
theorem dX8_count_64 : decode cX8_count 64 = .ok (.getfield 151, 3) := by decide +kernel
theorem dX8_count_67 : decode cX8_count 67 = .ok (.ireturn, 1) := by decide +kernel
theorem dX8_count_68 : decode cX8_count 68 = .ok (.aload_n 0, 1) := by decide +kernel
theorem dX8_count_69 : decode cX8_count 69 = .ok (.getfield 191, 3) := by decide +kernel
theorem dX8_count_72 : decode cX8_count 72 = .ok (.ireturn, 1) := by decide +kernel
theorem dX8_count_73 : decode cX8_count 73 = .ok (.aload_n 0, 1) := by decide +kernel
theorem dX8_count_74 : decode cX8_count 74 = .ok (.getfield 222, 3) := by decide +kernel
theorem dX8_count_77 : decode cX8_count 77 = .ok (.ireturn, 1) := by decide +kernel
theorem dX8_count_78 : decode cX8_count 78 = .ok (.iconst 0, 1) := by decide +kernel
theorem dX8_count_79 : decode cX8_count 79 = .ok (.istore_n 3, 1) := by decide +kernel
theorem dX8_count_80 : decode cX8_count 80 = .ok (.iload_n 3, 1) := by decide +kernel
theorem dX8_count_81 : decode cX8_count 81 = .ok (.aload_n 0, 1) := by decide +kernel
theorem dX8_count_82 : decode cX8_count 82 = .ok (.getfield 148, 3) := by decide +kernel
theorem dX8_count_85 : decode cX8_count 85 = .ok (.if_icmp .ge 27, 3) := by decide +kernel
theorem dX8_count_88 : decode cX8_count 88 = .ok (.iload_n 2, 1) := by decide +kernel
theorem dX8_count_89 : decode cX8_count 89 = .ok (.aload_n 0, 1) := by decide +kernel
theorem dX8_count_90 : decode cX8_count 90 = .ok (.getfield 50, 3) := by decide +kernel
theorem dX8_count_93 : decode cX8_count 93 = .ok (.iload_n 3, 1) := by decide +kernel
theorem dX8_count_94 : decode cX8_count 94 = .ok (.iaload, 1) := by decide +kernel
theorem dX8_count_95 : decode cX8_count 95 = .ok (.iconst 2, 1) := by decide +kernel
theorem dX8_count_96 : decode cX8_count 96 = .ok (.if_icmp .ne 7, 3) := by decide +kernel
theorem dX8_count_99 : decode cX8_count 99 = .ok (.iconst 1, 1) := by decide +kernel
theorem dX8_count_100 : decode cX8_count 100 = .ok (.goto 4, 3) := by decide +kernel
theorem dX8_count_103 : decode cX8_count 103 = .ok (.iconst 0, 1) := by decide +kernel
theorem dX8_count_104 : decode cX8_count 104 = .ok (.iadd, 1) := by decide +kernel
theorem dX8_count_105 : decode cX8_count 105 = .ok (.istore_n 2, 1) := by decide +kernel
theorem dX8_count_106 : decode cX8_count 106 = .ok (.iinc 3 1, 3) := by decide +kernel
theorem dX8_count_109 : decode cX8_count 109 = .ok (.goto (-29), 3) := by decide +kernel
theorem dX8_count_112 : decode cX8_count 112 = .ok (.iload_n 2, 1) := by decide +kernel
theorem dX8_count_113 : decode cX8_count 113 = .ok (.ireturn, 1) := by decide +kernel
theorem dX8_count_114 : decode cX8_count 114 = .ok (.iconst 0, 1) := by decide +kernel
theorem dX8_count_115 : decode cX8_count 115 = .ok (.istore_n 3, 1) := by decide +kernel
theorem dX8_count_116 : decode cX8_count 116 = .ok (.iload_n 3, 1) := by decide +kernel
theorem dX8_count_117 : decode cX8_count 117 = .ok (.aload_n 0, 1) := by decide +kernel
theorem dX8_count_118 : decode cX8_count 118 = .ok (.getfield 148, 3) := by decide +kernel
theorem dX8_count_121 : decode cX8_count 121 = .ok (.if_icmp .ge 27, 3) := by decide +kernel
theorem dX8_count_124 : decode cX8_count 124 = .ok (.iload_n 2, 1) := by decide +kernel
theorem dX8_count_125 : decode cX8_count 125 = .ok (.aload_n 0, 1) := by decide +kernel
theorem dX8_count_126 : decode cX8_count 126 = .ok (.getfield 50, 3) := by decide +kernel
theorem dX8_count_129 : decode cX8_count 129 = .ok (.iload_n 3, 1) := by decide +kernel
theorem dX8_count_130 : decode cX8_count 130 = .ok (.iaload, 1) := by decide +kernel
theorem dX8_count_131 : decode cX8_count 131 = .ok (.iconst 3, 1) := by decide +kernel
theorem dX8_count_132 : decode cX8_count 132 = .ok (.if_icmp .ne 7, 3) := by decide +kernel
theorem dX8_count_135 : decode cX8_count 135 = .ok (.iconst 1, 1) := by decide +kernel
theorem dX8_count_136 : decode cX8_count 136 = .ok (.goto 4, 3) := by decide +kernel
theorem dX8_count_139 : decode cX8_count 139 = .ok (.iconst 0, 1) := by decide +kernel
theorem dX8_count_140 : decode cX8_count 140 = .ok (.iadd, 1) := by decide +kernel
theorem dX8_count_141 : decode cX8_count 141 = .ok (.istore_n 2, 1) := by decide +kernel
theorem dX8_count_142 : decode cX8_count 142 = .ok (.iinc 3 1, 3) := by decide +kernel
theorem dX8_count_145 : decode cX8_count 145 = .ok (.goto (-29), 3) := by decide +kernel
theorem dX8_count_148 : decode cX8_count 148 = .ok (.iload_n 2, 1) := by decide +kernel
theorem dX8_count_149 : decode cX8_count 149 = .ok (.ireturn, 1) := by decide +kernel
theorem dX8_count_150 : decode cX8_count 150 = .ok (.iload_n 1, 1) := by decide +kernel
theorem dX8_count_151 : decode cX8_count 151 = .ok (.bipush 100, 2) := by decide +kernel
theorem dX8_count_153 : decode cX8_count 153 = .ok (.bipush 99, 2) := by decide +kernel
theorem dX8_count_155 : decode cX8_count 155 = .ok (.aload_n 0, 1) := by decide +kernel
theorem dX8_count_156 : decode cX8_count 156 = .ok (.getfield 140, 3) := by decide +kernel
theorem dX8_count_159 : decode cX8_count 159 = .ok (.iadd, 1) := by decide +kernel
theorem dX8_count_160 : decode cX8_count 160 = .ok (.invokestatic 144, 3) := by decide +kernel
theorem dX8_count_163 : decode cX8_count 163 = .ok (.ifCond .eq 15, 3) := by decide +kernel
theorem dX8_count_166 : decode cX8_count 166 = .ok (.aload_n 0, 1) := by decide +kernel
theorem dX8_count_167 : decode cX8_count 167 = .ok (.getfield 25, 3) := by decide +kernel
theorem dX8_count_170 : decode cX8_count 170 = .ok (.iload_n 1, 1) := by decide +kernel
theorem dX8_count_171 : decode cX8_count 171 = .ok (.bipush 100, 2) := by decide +kernel
theorem dX8_count_173 : decode cX8_count 173 = .ok (.isub, 1) := by decide +kernel
theorem dX8_count_174 : decode cX8_count 174 = .ok (.iaload, 1) := by decide +kernel
theorem dX8_count_175 : decode cX8_count 175 = .ok (.goto 4, 3) := by decide +kernel
theorem dX8_count_178 : decode cX8_count 178 = .ok (.iconst (-1), 1) := by decide +kernel
theorem dX8_count_179 : decode cX8_count 179 = .ok (.ireturn, 1) := by decide +kernel
theorem dJ9_max_7cf53_0 : decode cJ9_max_7cf53 0 = .ok (.iload_n 0, 1) := by decide +kernel
theorem dJ9_max_7cf53_1 : decode cJ9_max_7cf53 1 = .ok (.iload_n 1, 1) := by decide +kernel
theorem dJ9_max_7cf53_2 : decode cJ9_max_7cf53 2 = .ok (.if_icmp .lt 7, 3) := by decide +kernel
theorem dJ9_max_7cf53_5 : decode cJ9_max_7cf53 5 = .ok (.iload_n 0, 1) := by decide +kernel
theorem dJ9_max_7cf53_6 : decode cJ9_max_7cf53 6 = .ok (.goto 4, 3) := by decide +kernel
theorem dJ9_max_7cf53_9 : decode cJ9_max_7cf53 9 = .ok (.iload_n 1, 1) := by decide +kernel
theorem dJ9_max_7cf53_10 : decode cJ9_max_7cf53 10 = .ok (.ireturn, 1) := by decide +kernel
theorem dJ9_min_7cf53_0 : decode cJ9_min_7cf53 0 = .ok (.iload_n 0, 1) := by decide +kernel
theorem dJ9_min_7cf53_1 : decode cJ9_min_7cf53 1 = .ok (.iload_n 1, 1) := by decide +kernel
theorem dJ9_min_7cf53_2 : decode cJ9_min_7cf53 2 = .ok (.if_icmp .gt 7, 3) := by decide +kernel
theorem dJ9_min_7cf53_5 : decode cJ9_min_7cf53 5 = .ok (.iload_n 0, 1) := by decide +kernel
theorem dJ9_min_7cf53_6 : decode cJ9_min_7cf53 6 = .ok (.goto 4, 3) := by decide +kernel
theorem dJ9_min_7cf53_9 : decode cJ9_min_7cf53 9 = .ok (.iload_n 1, 1) := by decide +kernel
theorem dJ9_min_7cf53_10 : decode cJ9_min_7cf53 10 = .ok (.ireturn, 1) := by decide +kernel
theorem dL_law_0 : decode cL_law 0 = .ok (.new 7, 3) := by decide +kernel
theorem dL_law_3 : decode cL_law 3 = .ok (.dup, 1) := by decide +kernel
theorem dL_law_4 : decode cL_law 4 = .ok (.invokespecial 9, 3) := by decide +kernel
theorem dL_law_7 : decode cL_law 7 = .ok (.astore_n 1, 1) := by decide +kernel
theorem dL_law_8 : decode cL_law 8 = .ok (.new 10, 3) := by decide +kernel
theorem dL_law_11 : decode cL_law 11 = .ok (.dup, 1) := by decide +kernel
theorem dL_law_12 : decode cL_law 12 = .ok (.invokespecial 12, 3) := by decide +kernel
theorem dL_law_15 : decode cL_law 15 = .ok (.astore_n 2, 1) := by decide +kernel
theorem dL_law_16 : decode cL_law 16 = .ok (.iconst 0, 1) := by decide +kernel
theorem dL_law_17 : decode cL_law 17 = .ok (.istore_n 3, 1) := by decide +kernel
theorem dL_law_18 : decode cL_law 18 = .ok (.iload_n 3, 1) := by decide +kernel
theorem dL_law_19 : decode cL_law 19 = .ok (.aload_n 0, 1) := by decide +kernel
theorem dL_law_20 : decode cL_law 20 = .ok (.arraylength, 1) := by decide +kernel
theorem dL_law_21 : decode cL_law 21 = .ok (.iconst 5, 1) := by decide +kernel
theorem dL_law_22 : decode cL_law 22 = .ok (.isub, 1) := by decide +kernel
theorem dL_law_23 : decode cL_law 23 = .ok (.if_icmp .gt 1002, 3) := by decide +kernel
theorem dL_law_26 : decode cL_law 26 = .ok (.aload_n 0, 1) := by decide +kernel
theorem dL_law_27 : decode cL_law 27 = .ok (.iload_n 3, 1) := by decide +kernel
theorem dL_law_28 : decode cL_law 28 = .ok (.iaload, 1) := by decide +kernel
theorem dL_law_29 : decode cL_law 29 = .ok (.bipush 31, 2) := by decide +kernel
theorem dL_law_31 : decode cL_law 31 = .ok (.iand, 1) := by decide +kernel
theorem dL_law_32 : decode cL_law 32 = .ok (.tableswitch 987 0 26 #[124, 193, 236, 259, 282, 295, 328, 361, 384, 407, 440, 463, 486, 509, 552, 601, 634, 667, 720, 743, 776, 799, 832, 865, 898, 931, 964], 124) := by decide +kernel
theorem dL_law_156 : decode cL_law 156 = .ok (.aload_n 1, 1) := by decide +kernel
theorem dL_law_157 : decode cL_law 157 = .ok (.aload_n 0, 1) := by decide +kernel
theorem dL_law_158 : decode cL_law 158 = .ok (.iload_n 3, 1) := by decide +kernel
theorem dL_law_159 : decode cL_law 159 = .ok (.iconst 1, 1) := by decide +kernel
theorem dL_law_160 : decode cL_law 160 = .ok (.iadd, 1) := by decide +kernel
theorem dL_law_161 : decode cL_law 161 = .ok (.iaload, 1) := by decide +kernel
theorem dL_law_162 : decode cL_law 162 = .ok (.aload_n 0, 1) := by decide +kernel
theorem dL_law_163 : decode cL_law 163 = .ok (.iload_n 3, 1) := by decide +kernel
theorem dL_law_164 : decode cL_law 164 = .ok (.iconst 2, 1) := by decide +kernel
theorem dL_law_165 : decode cL_law 165 = .ok (.iadd, 1) := by decide +kernel
theorem dL_law_166 : decode cL_law 166 = .ok (.iaload, 1) := by decide +kernel
theorem dL_law_167 : decode cL_law 167 = .ok (.aload_n 0, 1) := by decide +kernel
theorem dL_law_168 : decode cL_law 168 = .ok (.iload_n 3, 1) := by decide +kernel
theorem dL_law_169 : decode cL_law 169 = .ok (.iconst 3, 1) := by decide +kernel
theorem dL_law_170 : decode cL_law 170 = .ok (.iadd, 1) := by decide +kernel
theorem dL_law_171 : decode cL_law 171 = .ok (.iaload, 1) := by decide +kernel
theorem dL_law_172 : decode cL_law 172 = .ok (.aload_n 0, 1) := by decide +kernel
theorem dL_law_173 : decode cL_law 173 = .ok (.iload_n 3, 1) := by decide +kernel
theorem dL_law_174 : decode cL_law 174 = .ok (.iconst 4, 1) := by decide +kernel
theorem dL_law_175 : decode cL_law 175 = .ok (.iadd, 1) := by decide +kernel
theorem dL_law_176 : decode cL_law 176 = .ok (.iaload, 1) := by decide +kernel
theorem dL_law_177 : decode cL_law 177 = .ok (.ifCond .eq 7, 3) := by decide +kernel
theorem dL_law_180 : decode cL_law 180 = .ok (.iconst 1, 1) := by decide +kernel
theorem dL_law_181 : decode cL_law 181 = .ok (.goto 4, 3) := by decide +kernel
theorem dL_law_184 : decode cL_law 184 = .ok (.iconst 0, 1) := by decide +kernel
theorem dL_law_185 : decode cL_law 185 = .ok (.invokevirtual 13, 3) := by decide +kernel
theorem dL_law_188 : decode cL_law 188 = .ok (.aload_n 2, 1) := by decide +kernel
theorem dL_law_189 : decode cL_law 189 = .ok (.aload_n 0, 1) := by decide +kernel
theorem dL_law_190 : decode cL_law 190 = .ok (.iload_n 3, 1) := by decide +kernel
theorem dL_law_191 : decode cL_law 191 = .ok (.iconst 1, 1) := by decide +kernel
theorem dL_law_192 : decode cL_law 192 = .ok (.iadd, 1) := by decide +kernel
theorem dL_law_193 : decode cL_law 193 = .ok (.iaload, 1) := by decide +kernel
theorem dL_law_194 : decode cL_law 194 = .ok (.aload_n 0, 1) := by decide +kernel
theorem dL_law_195 : decode cL_law 195 = .ok (.iload_n 3, 1) := by decide +kernel
theorem dL_law_196 : decode cL_law 196 = .ok (.iconst 2, 1) := by decide +kernel
theorem dL_law_197 : decode cL_law 197 = .ok (.iadd, 1) := by decide +kernel
theorem dL_law_198 : decode cL_law 198 = .ok (.iaload, 1) := by decide +kernel
theorem dL_law_199 : decode cL_law 199 = .ok (.aload_n 0, 1) := by decide +kernel
theorem dL_law_200 : decode cL_law 200 = .ok (.iload_n 3, 1) := by decide +kernel
theorem dL_law_201 : decode cL_law 201 = .ok (.iconst 3, 1) := by decide +kernel
theorem dL_law_202 : decode cL_law 202 = .ok (.iadd, 1) := by decide +kernel
theorem dL_law_203 : decode cL_law 203 = .ok (.iaload, 1) := by decide +kernel
theorem dL_law_204 : decode cL_law 204 = .ok (.aload_n 0, 1) := by decide +kernel
theorem dL_law_205 : decode cL_law 205 = .ok (.iload_n 3, 1) := by decide +kernel
theorem dL_law_206 : decode cL_law 206 = .ok (.iconst 4, 1) := by decide +kernel
theorem dL_law_207 : decode cL_law 207 = .ok (.iadd, 1) := by decide +kernel
theorem dL_law_208 : decode cL_law 208 = .ok (.iaload, 1) := by decide +kernel
theorem dL_law_209 : decode cL_law 209 = .ok (.ifCond .eq 7, 3) := by decide +kernel
theorem dL_law_212 : decode cL_law 212 = .ok (.iconst 1, 1) := by decide +kernel
theorem dL_law_213 : decode cL_law 213 = .ok (.goto 4, 3) := by decide +kernel
theorem dL_law_216 : decode cL_law 216 = .ok (.iconst 0, 1) := by decide +kernel
theorem dL_law_217 : decode cL_law 217 = .ok (.invokevirtual 17, 3) := by decide +kernel
theorem dL_law_220 : decode cL_law 220 = .ok (.if_icmp .eq 799, 3) := by decide +kernel
theorem dL_law_223 : decode cL_law 223 = .ok (.iconst 0, 1) := by decide +kernel
theorem dL_law_224 : decode cL_law 224 = .ok (.ireturn, 1) := by decide +kernel
theorem dL_law_225 : decode cL_law 225 = .ok (.aload_n 1, 1) := by decide +kernel
theorem dL_law_226 : decode cL_law 226 = .ok (.aload_n 0, 1) := by decide +kernel
theorem dL_law_227 : decode cL_law 227 = .ok (.iload_n 3, 1) := by decide +kernel
theorem dL_law_228 : decode cL_law 228 = .ok (.iconst 1, 1) := by decide +kernel
theorem dL_law_229 : decode cL_law 229 = .ok (.iadd, 1) := by decide +kernel
theorem dL_law_230 : decode cL_law 230 = .ok (.iaload, 1) := by decide +kernel
theorem dL_law_231 : decode cL_law 231 = .ok (.aload_n 0, 1) := by decide +kernel
theorem dL_law_232 : decode cL_law 232 = .ok (.iload_n 3, 1) := by decide +kernel
theorem dL_law_233 : decode cL_law 233 = .ok (.iconst 2, 1) := by decide +kernel
theorem dL_law_234 : decode cL_law 234 = .ok (.iadd, 1) := by decide +kernel
theorem dL_law_235 : decode cL_law 235 = .ok (.iaload, 1) := by decide +kernel
theorem dL_law_236 : decode cL_law 236 = .ok (.aload_n 0, 1) := by decide +kernel
theorem dL_law_237 : decode cL_law 237 = .ok (.iload_n 3, 1) := by decide +kernel
theorem dL_law_238 : decode cL_law 238 = .ok (.iconst 3, 1) := by decide +kernel
theorem dL_law_239 : decode cL_law 239 = .ok (.iadd, 1) := by decide +kernel
theorem dL_law_240 : decode cL_law 240 = .ok (.iaload, 1) := by decide +kernel
theorem dL_law_241 : decode cL_law 241 = .ok (.invokevirtual 18, 3) := by decide +kernel
theorem dL_law_244 : decode cL_law 244 = .ok (.aload_n 2, 1) := by decide +kernel
theorem dL_law_245 : decode cL_law 245 = .ok (.aload_n 0, 1) := by decide +kernel
theorem dL_law_246 : decode cL_law 246 = .ok (.iload_n 3, 1) := by decide +kernel
theorem dL_law_247 : decode cL_law 247 = .ok (.iconst 1, 1) := by decide +kernel
theorem dL_law_248 : decode cL_law 248 = .ok (.iadd, 1) := by decide +kernel
theorem dL_law_249 : decode cL_law 249 = .ok (.iaload, 1) := by decide +kernel
theorem dL_law_250 : decode cL_law 250 = .ok (.aload_n 0, 1) := by decide +kernel
theorem dL_law_251 : decode cL_law 251 = .ok (.iload_n 3, 1) := by decide +kernel
theorem dL_law_252 : decode cL_law 252 = .ok (.iconst 2, 1) := by decide +kernel
theorem dL_law_253 : decode cL_law 253 = .ok (.iadd, 1) := by decide +kernel
theorem dL_law_254 : decode cL_law 254 = .ok (.iaload, 1) := by decide +kernel
theorem dL_law_255 : decode cL_law 255 = .ok (.aload_n 0, 1) := by decide +kernel
theorem dL_law_256 : decode cL_law 256 = .ok (.iload_n 3, 1) := by decide +kernel
theorem dL_law_257 : decode cL_law 257 = .ok (.iconst 3, 1) := by decide +kernel
theorem dL_law_258 : decode cL_law 258 = .ok (.iadd, 1) := by decide +kernel
theorem dL_law_259 : decode cL_law 259 = .ok (.iaload, 1) := by decide +kernel
theorem dL_law_260 : decode cL_law 260 = .ok (.invokevirtual 22, 3) := by decide +kernel
theorem dL_law_263 : decode cL_law 263 = .ok (.if_icmp .eq 756, 3) := by decide +kernel
theorem dL_law_266 : decode cL_law 266 = .ok (.iconst 0, 1) := by decide +kernel
theorem dL_law_267 : decode cL_law 267 = .ok (.ireturn, 1) := by decide +kernel
theorem dL_law_268 : decode cL_law 268 = .ok (.aload_n 1, 1) := by decide +kernel
theorem dL_law_269 : decode cL_law 269 = .ok (.aload_n 0, 1) := by decide +kernel
theorem dL_law_270 : decode cL_law 270 = .ok (.iload_n 3, 1) := by decide +kernel
theorem dL_law_271 : decode cL_law 271 = .ok (.iconst 1, 1) := by decide +kernel
theorem dL_law_272 : decode cL_law 272 = .ok (.iadd, 1) := by decide +kernel
theorem dL_law_273 : decode cL_law 273 = .ok (.iaload, 1) := by decide +kernel
theorem dL_law_274 : decode cL_law 274 = .ok (.invokevirtual 23, 3) := by decide +kernel
theorem dL_law_277 : decode cL_law 277 = .ok (.aload_n 2, 1) := by decide +kernel
theorem dL_law_278 : decode cL_law 278 = .ok (.aload_n 0, 1) := by decide +kernel
theorem dL_law_279 : decode cL_law 279 = .ok (.iload_n 3, 1) := by decide +kernel
theorem dL_law_280 : decode cL_law 280 = .ok (.iconst 1, 1) := by decide +kernel
theorem dL_law_281 : decode cL_law 281 = .ok (.iadd, 1) := by decide +kernel
theorem dL_law_282 : decode cL_law 282 = .ok (.iaload, 1) := by decide +kernel
theorem dL_law_283 : decode cL_law 283 = .ok (.invokevirtual 27, 3) := by decide +kernel
theorem dL_law_286 : decode cL_law 286 = .ok (.if_icmp .eq 733, 3) := by decide +kernel
theorem dL_law_289 : decode cL_law 289 = .ok (.iconst 0, 1) := by decide +kernel
theorem dL_law_290 : decode cL_law 290 = .ok (.ireturn, 1) := by decide +kernel
theorem dL_law_291 : decode cL_law 291 = .ok (.aload_n 1, 1) := by decide +kernel
theorem dL_law_292 : decode cL_law 292 = .ok (.aload_n 0, 1) := by decide +kernel
theorem dL_law_293 : decode cL_law 293 = .ok (.iload_n 3, 1) := by decide +kernel
theorem dL_law_294 : decode cL_law 294 = .ok (.iconst 1, 1) := by decide +kernel
theorem dL_law_295 : decode cL_law 295 = .ok (.iadd, 1) := by decide +kernel
theorem dL_law_296 : decode cL_law 296 = .ok (.iaload, 1) := by decide +kernel
theorem dL_law_297 : decode cL_law 297 = .ok (.invokevirtual 28, 3) := by decide +kernel
theorem dL_law_300 : decode cL_law 300 = .ok (.aload_n 2, 1) := by decide +kernel
theorem dL_law_301 : decode cL_law 301 = .ok (.aload_n 0, 1) := by decide +kernel
theorem dL_law_302 : decode cL_law 302 = .ok (.iload_n 3, 1) := by decide +kernel
theorem dL_law_303 : decode cL_law 303 = .ok (.iconst 1, 1) := by decide +kernel
theorem dL_law_304 : decode cL_law 304 = .ok (.iadd, 1) := by decide +kernel
theorem dL_law_305 : decode cL_law 305 = .ok (.iaload, 1) := by decide +kernel
theorem dL_law_306 : decode cL_law 306 = .ok (.invokevirtual 31, 3) := by decide +kernel
theorem dL_law_309 : decode cL_law 309 = .ok (.if_icmp .eq 710, 3) := by decide +kernel
theorem dL_law_312 : decode cL_law 312 = .ok (.iconst 0, 1) := by decide +kernel
theorem dL_law_313 : decode cL_law 313 = .ok (.ireturn, 1) := by decide +kernel
theorem dL_law_314 : decode cL_law 314 = .ok (.aload_n 1, 1) := by decide +kernel
theorem dL_law_315 : decode cL_law 315 = .ok (.invokevirtual 32, 3) := by decide +kernel
theorem dL_law_318 : decode cL_law 318 = .ok (.aload_n 2, 1) := by decide +kernel
theorem dL_law_319 : decode cL_law 319 = .ok (.invokevirtual 36, 3) := by decide +kernel
theorem dL_law_322 : decode cL_law 322 = .ok (.if_icmp .eq 697, 3) := by decide +kernel
theorem dL_law_325 : decode cL_law 325 = .ok (.iconst 0, 1) := by decide +kernel
theorem dL_law_326 : decode cL_law 326 = .ok (.ireturn, 1) := by decide +kernel
theorem dL_law_327 : decode cL_law 327 = .ok (.aload_n 1, 1) := by decide +kernel
theorem dL_law_328 : decode cL_law 328 = .ok (.aload_n 0, 1) := by decide +kernel
theorem dL_law_329 : decode cL_law 329 = .ok (.iload_n 3, 1) := by decide +kernel
theorem dL_law_330 : decode cL_law 330 = .ok (.iconst 1, 1) := by decide +kernel
theorem dL_law_331 : decode cL_law 331 = .ok (.iadd, 1) := by decide +kernel
theorem dL_law_332 : decode cL_law 332 = .ok (.iaload, 1) := by decide +kernel
theorem dL_law_333 : decode cL_law 333 = .ok (.aload_n 0, 1) := by decide +kernel
theorem dL_law_334 : decode cL_law 334 = .ok (.iload_n 3, 1) := by decide +kernel
theorem dL_law_335 : decode cL_law 335 = .ok (.iconst 2, 1) := by decide +kernel
theorem dL_law_336 : decode cL_law 336 = .ok (.iadd, 1) := by decide +kernel
theorem dL_law_337 : decode cL_law 337 = .ok (.iaload, 1) := by decide +kernel
theorem dL_law_338 : decode cL_law 338 = .ok (.invokevirtual 37, 3) := by decide +kernel
theorem dL_law_341 : decode cL_law 341 = .ok (.aload_n 2, 1) := by decide +kernel
theorem dL_law_342 : decode cL_law 342 = .ok (.aload_n 0, 1) := by decide +kernel
theorem dL_law_343 : decode cL_law 343 = .ok (.iload_n 3, 1) := by decide +kernel
theorem dL_law_344 : decode cL_law 344 = .ok (.iconst 1, 1) := by decide +kernel
theorem dL_law_345 : decode cL_law 345 = .ok (.iadd, 1) := by decide +kernel
theorem dL_law_346 : decode cL_law 346 = .ok (.iaload, 1) := by decide +kernel
theorem dL_law_347 : decode cL_law 347 = .ok (.aload_n 0, 1) := by decide +kernel
theorem dL_law_348 : decode cL_law 348 = .ok (.iload_n 3, 1) := by decide +kernel
theorem dL_law_349 : decode cL_law 349 = .ok (.iconst 2, 1) := by decide +kernel
theorem dL_law_350 : decode cL_law 350 = .ok (.iadd, 1) := by decide +kernel
theorem dL_law_351 : decode cL_law 351 = .ok (.iaload, 1) := by decide +kernel
theorem dL_law_352 : decode cL_law 352 = .ok (.invokevirtual 41, 3) := by decide +kernel
theorem dL_law_355 : decode cL_law 355 = .ok (.if_icmp .eq 664, 3) := by decide +kernel
theorem dL_law_358 : decode cL_law 358 = .ok (.iconst 0, 1) := by decide +kernel
theorem dL_law_359 : decode cL_law 359 = .ok (.ireturn, 1) := by decide +kernel
theorem dL_law_360 : decode cL_law 360 = .ok (.aload_n 1, 1) := by decide +kernel
theorem dL_law_361 : decode cL_law 361 = .ok (.aload_n 0, 1) := by decide +kernel
theorem dL_law_362 : decode cL_law 362 = .ok (.iload_n 3, 1) := by decide +kernel
theorem dL_law_363 : decode cL_law 363 = .ok (.iconst 1, 1) := by decide +kernel
theorem dL_law_364 : decode cL_law 364 = .ok (.iadd, 1) := by decide +kernel
theorem dL_law_365 : decode cL_law 365 = .ok (.iaload, 1) := by decide +kernel
theorem dL_law_366 : decode cL_law 366 = .ok (.aload_n 0, 1) := by decide +kernel
theorem dL_law_367 : decode cL_law 367 = .ok (.iload_n 3, 1) := by decide +kernel
theorem dL_law_368 : decode cL_law 368 = .ok (.iconst 2, 1) := by decide +kernel
theorem dL_law_369 : decode cL_law 369 = .ok (.iadd, 1) := by decide +kernel
theorem dL_law_370 : decode cL_law 370 = .ok (.iaload, 1) := by decide +kernel
theorem dL_law_371 : decode cL_law 371 = .ok (.invokevirtual 42, 3) := by decide +kernel
theorem dL_law_374 : decode cL_law 374 = .ok (.aload_n 2, 1) := by decide +kernel
theorem dL_law_375 : decode cL_law 375 = .ok (.aload_n 0, 1) := by decide +kernel
theorem dL_law_376 : decode cL_law 376 = .ok (.iload_n 3, 1) := by decide +kernel
theorem dL_law_377 : decode cL_law 377 = .ok (.iconst 1, 1) := by decide +kernel
theorem dL_law_378 : decode cL_law 378 = .ok (.iadd, 1) := by decide +kernel
theorem dL_law_379 : decode cL_law 379 = .ok (.iaload, 1) := by decide +kernel
theorem dL_law_380 : decode cL_law 380 = .ok (.aload_n 0, 1) := by decide +kernel
theorem dL_law_381 : decode cL_law 381 = .ok (.iload_n 3, 1) := by decide +kernel
theorem dL_law_382 : decode cL_law 382 = .ok (.iconst 2, 1) := by decide +kernel
theorem dL_law_383 : decode cL_law 383 = .ok (.iadd, 1) := by decide +kernel
theorem dL_law_384 : decode cL_law 384 = .ok (.iaload, 1) := by decide +kernel
theorem dL_law_385 : decode cL_law 385 = .ok (.invokevirtual 46, 3) := by decide +kernel
theorem dL_law_388 : decode cL_law 388 = .ok (.if_icmp .eq 631, 3) := by decide +kernel
theorem dL_law_391 : decode cL_law 391 = .ok (.iconst 0, 1) := by decide +kernel
theorem dL_law_392 : decode cL_law 392 = .ok (.ireturn, 1) := by decide +kernel
theorem dL_law_393 : decode cL_law 393 = .ok (.aload_n 1, 1) := by decide +kernel
theorem dL_law_394 : decode cL_law 394 = .ok (.aload_n 0, 1) := by decide +kernel
theorem dL_law_395 : decode cL_law 395 = .ok (.iload_n 3, 1) := by decide +kernel
theorem dL_law_396 : decode cL_law 396 = .ok (.iconst 1, 1) := by decide +kernel
theorem dL_law_397 : decode cL_law 397 = .ok (.iadd, 1) := by decide +kernel
theorem dL_law_398 : decode cL_law 398 = .ok (.iaload, 1) := by decide +kernel
theorem dL_law_399 : decode cL_law 399 = .ok (.invokevirtual 47, 3) := by decide +kernel
theorem dL_law_402 : decode cL_law 402 = .ok (.aload_n 2, 1) := by decide +kernel
theorem dL_law_403 : decode cL_law 403 = .ok (.aload_n 0, 1) := by decide +kernel
theorem dL_law_404 : decode cL_law 404 = .ok (.iload_n 3, 1) := by decide +kernel
theorem dL_law_405 : decode cL_law 405 = .ok (.iconst 1, 1) := by decide +kernel
theorem dL_law_406 : decode cL_law 406 = .ok (.iadd, 1) := by decide +kernel
theorem dL_law_407 : decode cL_law 407 = .ok (.iaload, 1) := by decide +kernel
theorem dL_law_408 : decode cL_law 408 = .ok (.invokevirtual 51, 3) := by decide +kernel
theorem dL_law_411 : decode cL_law 411 = .ok (.if_icmp .eq 608, 3) := by decide +kernel
theorem dL_law_414 : decode cL_law 414 = .ok (.iconst 0, 1) := by decide +kernel
theorem dL_law_415 : decode cL_law 415 = .ok (.ireturn, 1) := by decide +kernel
theorem dL_law_416 : decode cL_law 416 = .ok (.aload_n 1, 1) := by decide +kernel
theorem dL_law_417 : decode cL_law 417 = .ok (.aload_n 0, 1) := by decide +kernel
theorem dL_law_418 : decode cL_law 418 = .ok (.iload_n 3, 1) := by decide +kernel
theorem dL_law_419 : decode cL_law 419 = .ok (.iconst 1, 1) := by decide +kernel
theorem dL_law_420 : decode cL_law 420 = .ok (.iadd, 1) := by decide +kernel
theorem dL_law_421 : decode cL_law 421 = .ok (.iaload, 1) := by decide +kernel
theorem dL_law_422 : decode cL_law 422 = .ok (.invokevirtual 52, 3) := by decide +kernel
theorem dL_law_425 : decode cL_law 425 = .ok (.aload_n 2, 1) := by decide +kernel
theorem dL_law_426 : decode cL_law 426 = .ok (.aload_n 0, 1) := by decide +kernel
theorem dL_law_427 : decode cL_law 427 = .ok (.iload_n 3, 1) := by decide +kernel
theorem dL_law_428 : decode cL_law 428 = .ok (.iconst 1, 1) := by decide +kernel
theorem dL_law_429 : decode cL_law 429 = .ok (.iadd, 1) := by decide +kernel
theorem dL_law_430 : decode cL_law 430 = .ok (.iaload, 1) := by decide +kernel
theorem dL_law_431 : decode cL_law 431 = .ok (.invokevirtual 55, 3) := by decide +kernel
theorem dL_law_434 : decode cL_law 434 = .ok (.if_icmp .eq 585, 3) := by decide +kernel
theorem dL_law_437 : decode cL_law 437 = .ok (.iconst 0, 1) := by decide +kernel
theorem dL_law_438 : decode cL_law 438 = .ok (.ireturn, 1) := by decide +kernel
theorem dL_law_439 : decode cL_law 439 = .ok (.aload_n 1, 1) := by decide +kernel
theorem dL_law_440 : decode cL_law 440 = .ok (.aload_n 0, 1) := by decide +kernel
theorem dL_law_441 : decode cL_law 441 = .ok (.iload_n 3, 1) := by decide +kernel
theorem dL_law_442 : decode cL_law 442 = .ok (.iconst 1, 1) := by decide +kernel
theorem dL_law_443 : decode cL_law 443 = .ok (.iadd, 1) := by decide +kernel
theorem dL_law_444 : decode cL_law 444 = .ok (.iaload, 1) := by decide +kernel
theorem dL_law_445 : decode cL_law 445 = .ok (.aload_n 0, 1) := by decide +kernel
theorem dL_law_446 : decode cL_law 446 = .ok (.iload_n 3, 1) := by decide +kernel
theorem dL_law_447 : decode cL_law 447 = .ok (.iconst 2, 1) := by decide +kernel
theorem dL_law_448 : decode cL_law 448 = .ok (.iadd, 1) := by decide +kernel
theorem dL_law_449 : decode cL_law 449 = .ok (.iaload, 1) := by decide +kernel
theorem dL_law_450 : decode cL_law 450 = .ok (.invokevirtual 56, 3) := by decide +kernel
theorem dL_law_453 : decode cL_law 453 = .ok (.aload_n 2, 1) := by decide +kernel
theorem dL_law_454 : decode cL_law 454 = .ok (.aload_n 0, 1) := by decide +kernel
theorem dL_law_455 : decode cL_law 455 = .ok (.iload_n 3, 1) := by decide +kernel
theorem dL_law_456 : decode cL_law 456 = .ok (.iconst 1, 1) := by decide +kernel
theorem dL_law_457 : decode cL_law 457 = .ok (.iadd, 1) := by decide +kernel
theorem dL_law_458 : decode cL_law 458 = .ok (.iaload, 1) := by decide +kernel
theorem dL_law_459 : decode cL_law 459 = .ok (.aload_n 0, 1) := by decide +kernel
theorem dL_law_460 : decode cL_law 460 = .ok (.iload_n 3, 1) := by decide +kernel
theorem dL_law_461 : decode cL_law 461 = .ok (.iconst 2, 1) := by decide +kernel
theorem dL_law_462 : decode cL_law 462 = .ok (.iadd, 1) := by decide +kernel
theorem dL_law_463 : decode cL_law 463 = .ok (.iaload, 1) := by decide +kernel
theorem dL_law_464 : decode cL_law 464 = .ok (.invokevirtual 59, 3) := by decide +kernel
theorem dL_law_467 : decode cL_law 467 = .ok (.if_icmp .eq 552, 3) := by decide +kernel
theorem dL_law_470 : decode cL_law 470 = .ok (.iconst 0, 1) := by decide +kernel
theorem dL_law_471 : decode cL_law 471 = .ok (.ireturn, 1) := by decide +kernel
theorem dL_law_472 : decode cL_law 472 = .ok (.aload_n 1, 1) := by decide +kernel
theorem dL_law_473 : decode cL_law 473 = .ok (.aload_n 0, 1) := by decide +kernel
theorem dL_law_474 : decode cL_law 474 = .ok (.iload_n 3, 1) := by decide +kernel
theorem dL_law_475 : decode cL_law 475 = .ok (.iconst 1, 1) := by decide +kernel
theorem dL_law_476 : decode cL_law 476 = .ok (.iadd, 1) := by decide +kernel
theorem dL_law_477 : decode cL_law 477 = .ok (.iaload, 1) := by decide +kernel
theorem dL_law_478 : decode cL_law 478 = .ok (.invokevirtual 60, 3) := by decide +kernel
theorem dL_law_481 : decode cL_law 481 = .ok (.aload_n 2, 1) := by decide +kernel
theorem dL_law_482 : decode cL_law 482 = .ok (.aload_n 0, 1) := by decide +kernel
theorem dL_law_483 : decode cL_law 483 = .ok (.iload_n 3, 1) := by decide +kernel
theorem dL_law_484 : decode cL_law 484 = .ok (.iconst 1, 1) := by decide +kernel
theorem dL_law_485 : decode cL_law 485 = .ok (.iadd, 1) := by decide +kernel
theorem dL_law_486 : decode cL_law 486 = .ok (.iaload, 1) := by decide +kernel
theorem dL_law_487 : decode cL_law 487 = .ok (.invokevirtual 63, 3) := by decide +kernel
theorem dL_law_490 : decode cL_law 490 = .ok (.if_icmp .eq 529, 3) := by decide +kernel
theorem dL_law_493 : decode cL_law 493 = .ok (.iconst 0, 1) := by decide +kernel
theorem dL_law_494 : decode cL_law 494 = .ok (.ireturn, 1) := by decide +kernel
theorem dL_law_495 : decode cL_law 495 = .ok (.aload_n 1, 1) := by decide +kernel
theorem dL_law_496 : decode cL_law 496 = .ok (.aload_n 0, 1) := by decide +kernel
theorem dL_law_497 : decode cL_law 497 = .ok (.iload_n 3, 1) := by decide +kernel
theorem dL_law_498 : decode cL_law 498 = .ok (.iconst 1, 1) := by decide +kernel
theorem dL_law_499 : decode cL_law 499 = .ok (.iadd, 1) := by decide +kernel
theorem dL_law_500 : decode cL_law 500 = .ok (.iaload, 1) := by decide +kernel
theorem dL_law_501 : decode cL_law 501 = .ok (.invokevirtual 64, 3) := by decide +kernel
theorem dL_law_504 : decode cL_law 504 = .ok (.aload_n 2, 1) := by decide +kernel
theorem dL_law_505 : decode cL_law 505 = .ok (.aload_n 0, 1) := by decide +kernel
theorem dL_law_506 : decode cL_law 506 = .ok (.iload_n 3, 1) := by decide +kernel
theorem dL_law_507 : decode cL_law 507 = .ok (.iconst 1, 1) := by decide +kernel
theorem dL_law_508 : decode cL_law 508 = .ok (.iadd, 1) := by decide +kernel
theorem dL_law_509 : decode cL_law 509 = .ok (.iaload, 1) := by decide +kernel
theorem dL_law_510 : decode cL_law 510 = .ok (.invokevirtual 67, 3) := by decide +kernel
theorem dL_law_513 : decode cL_law 513 = .ok (.if_icmp .eq 506, 3) := by decide +kernel
theorem dL_law_516 : decode cL_law 516 = .ok (.iconst 0, 1) := by decide +kernel
theorem dL_law_517 : decode cL_law 517 = .ok (.ireturn, 1) := by decide +kernel
theorem dL_law_518 : decode cL_law 518 = .ok (.aload_n 1, 1) := by decide +kernel
theorem dL_law_519 : decode cL_law 519 = .ok (.aload_n 0, 1) := by decide +kernel
theorem dL_law_520 : decode cL_law 520 = .ok (.iload_n 3, 1) := by decide +kernel
theorem dL_law_521 : decode cL_law 521 = .ok (.iconst 1, 1) := by decide +kernel
theorem dL_law_522 : decode cL_law 522 = .ok (.iadd, 1) := by decide +kernel
theorem dL_law_523 : decode cL_law 523 = .ok (.iaload, 1) := by decide +kernel
theorem dL_law_524 : decode cL_law 524 = .ok (.invokevirtual 68, 3) := by decide +kernel
theorem dL_law_527 : decode cL_law 527 = .ok (.aload_n 2, 1) := by decide +kernel
theorem dL_law_528 : decode cL_law 528 = .ok (.aload_n 0, 1) := by decide +kernel
theorem dL_law_529 : decode cL_law 529 = .ok (.iload_n 3, 1) := by decide +kernel
theorem dL_law_530 : decode cL_law 530 = .ok (.iconst 1, 1) := by decide +kernel
theorem dL_law_531 : decode cL_law 531 = .ok (.iadd, 1) := by decide +kernel
theorem dL_law_532 : decode cL_law 532 = .ok (.iaload, 1) := by decide +kernel
theorem dL_law_533 : decode cL_law 533 = .ok (.invokevirtual 71, 3) := by decide +kernel
theorem dL_law_536 : decode cL_law 536 = .ok (.if_icmp .eq 483, 3) := by decide +kernel
theorem dL_law_539 : decode cL_law 539 = .ok (.iconst 0, 1) := by decide +kernel
theorem dL_law_540 : decode cL_law 540 = .ok (.ireturn, 1) := by decide +kernel
theorem dL_law_541 : decode cL_law 541 = .ok (.aload_n 1, 1) := by decide +kernel
theorem dL_law_542 : decode cL_law 542 = .ok (.aload_n 0, 1) := by decide +kernel
theorem dL_law_543 : decode cL_law 543 = .ok (.iload_n 3, 1) := by decide +kernel
theorem dL_law_544 : decode cL_law 544 = .ok (.iconst 1, 1) := by decide +kernel
theorem dL_law_545 : decode cL_law 545 = .ok (.iadd, 1) := by decide +kernel
theorem dL_law_546 : decode cL_law 546 = .ok (.iaload, 1) := by decide +kernel
theorem dL_law_547 : decode cL_law 547 = .ok (.aload_n 0, 1) := by decide +kernel
theorem dL_law_548 : decode cL_law 548 = .ok (.iload_n 3, 1) := by decide +kernel
theorem dL_law_549 : decode cL_law 549 = .ok (.iconst 2, 1) := by decide +kernel
theorem dL_law_550 : decode cL_law 550 = .ok (.iadd, 1) := by decide +kernel
theorem dL_law_551 : decode cL_law 551 = .ok (.iaload, 1) := by decide +kernel
theorem dL_law_552 : decode cL_law 552 = .ok (.aload_n 0, 1) := by decide +kernel
theorem dL_law_553 : decode cL_law 553 = .ok (.iload_n 3, 1) := by decide +kernel
theorem dL_law_554 : decode cL_law 554 = .ok (.iconst 3, 1) := by decide +kernel
theorem dL_law_555 : decode cL_law 555 = .ok (.iadd, 1) := by decide +kernel
theorem dL_law_556 : decode cL_law 556 = .ok (.iaload, 1) := by decide +kernel
theorem dL_law_557 : decode cL_law 557 = .ok (.invokevirtual 72, 3) := by decide +kernel
theorem dL_law_560 : decode cL_law 560 = .ok (.aload_n 2, 1) := by decide +kernel
theorem dL_law_561 : decode cL_law 561 = .ok (.aload_n 0, 1) := by decide +kernel
theorem dL_law_562 : decode cL_law 562 = .ok (.iload_n 3, 1) := by decide +kernel
theorem dL_law_563 : decode cL_law 563 = .ok (.iconst 1, 1) := by decide +kernel
theorem dL_law_564 : decode cL_law 564 = .ok (.iadd, 1) := by decide +kernel
theorem dL_law_565 : decode cL_law 565 = .ok (.iaload, 1) := by decide +kernel
theorem dL_law_566 : decode cL_law 566 = .ok (.aload_n 0, 1) := by decide +kernel
theorem dL_law_567 : decode cL_law 567 = .ok (.iload_n 3, 1) := by decide +kernel
theorem dL_law_568 : decode cL_law 568 = .ok (.iconst 2, 1) := by decide +kernel
theorem dL_law_569 : decode cL_law 569 = .ok (.iadd, 1) := by decide +kernel
theorem dL_law_570 : decode cL_law 570 = .ok (.iaload, 1) := by decide +kernel
theorem dL_law_571 : decode cL_law 571 = .ok (.aload_n 0, 1) := by decide +kernel
theorem dL_law_572 : decode cL_law 572 = .ok (.iload_n 3, 1) := by decide +kernel
theorem dL_law_573 : decode cL_law 573 = .ok (.iconst 3, 1) := by decide +kernel
theorem dL_law_574 : decode cL_law 574 = .ok (.iadd, 1) := by decide +kernel
theorem dL_law_575 : decode cL_law 575 = .ok (.iaload, 1) := by decide +kernel
theorem dL_law_576 : decode cL_law 576 = .ok (.invokevirtual 76, 3) := by decide +kernel
theorem dL_law_579 : decode cL_law 579 = .ok (.if_icmp .eq 440, 3) := by decide +kernel
theorem dL_law_582 : decode cL_law 582 = .ok (.iconst 0, 1) := by decide +kernel
theorem dL_law_583 : decode cL_law 583 = .ok (.ireturn, 1) := by decide +kernel
theorem dL_law_584 : decode cL_law 584 = .ok (.aload_n 1, 1) := by decide +kernel
theorem dL_law_585 : decode cL_law 585 = .ok (.aload_n 0, 1) := by decide +kernel
theorem dL_law_586 : decode cL_law 586 = .ok (.iload_n 3, 1) := by decide +kernel
theorem dL_law_587 : decode cL_law 587 = .ok (.iconst 1, 1) := by decide +kernel
theorem dL_law_588 : decode cL_law 588 = .ok (.iadd, 1) := by decide +kernel
theorem dL_law_589 : decode cL_law 589 = .ok (.iaload, 1) := by decide +kernel
theorem dL_law_590 : decode cL_law 590 = .ok (.aload_n 0, 1) := by decide +kernel
theorem dL_law_591 : decode cL_law 591 = .ok (.iload_n 3, 1) := by decide +kernel
theorem dL_law_592 : decode cL_law 592 = .ok (.iconst 2, 1) := by decide +kernel
theorem dL_law_593 : decode cL_law 593 = .ok (.iadd, 1) := by decide +kernel
theorem dL_law_594 : decode cL_law 594 = .ok (.iaload, 1) := by decide +kernel
theorem dL_law_595 : decode cL_law 595 = .ok (.ifCond .eq 7, 3) := by decide +kernel
theorem dL_law_598 : decode cL_law 598 = .ok (.iconst 1, 1) := by decide +kernel
theorem dL_law_599 : decode cL_law 599 = .ok (.goto 4, 3) := by decide +kernel
theorem dL_law_602 : decode cL_law 602 = .ok (.iconst 0, 1) := by decide +kernel
theorem dL_law_603 : decode cL_law 603 = .ok (.invokevirtual 77, 3) := by decide +kernel
theorem dL_law_606 : decode cL_law 606 = .ok (.aload_n 2, 1) := by decide +kernel
theorem dL_law_607 : decode cL_law 607 = .ok (.aload_n 0, 1) := by decide +kernel
theorem dL_law_608 : decode cL_law 608 = .ok (.iload_n 3, 1) := by decide +kernel
theorem dL_law_609 : decode cL_law 609 = .ok (.iconst 1, 1) := by decide +kernel
theorem dL_law_610 : decode cL_law 610 = .ok (.iadd, 1) := by decide +kernel
theorem dL_law_611 : decode cL_law 611 = .ok (.iaload, 1) := by decide +kernel
theorem dL_law_612 : decode cL_law 612 = .ok (.aload_n 0, 1) := by decide +kernel
theorem dL_law_613 : decode cL_law 613 = .ok (.iload_n 3, 1) := by decide +kernel
theorem dL_law_614 : decode cL_law 614 = .ok (.iconst 2, 1) := by decide +kernel
theorem dL_law_615 : decode cL_law 615 = .ok (.iadd, 1) := by decide +kernel
theorem dL_law_616 : decode cL_law 616 = .ok (.iaload, 1) := by decide +kernel
theorem dL_law_617 : decode cL_law 617 = .ok (.ifCond .eq 7, 3) := by decide +kernel
theorem dL_law_620 : decode cL_law 620 = .ok (.iconst 1, 1) := by decide +kernel
theorem dL_law_621 : decode cL_law 621 = .ok (.goto 4, 3) := by decide +kernel
theorem dL_law_624 : decode cL_law 624 = .ok (.iconst 0, 1) := by decide +kernel
theorem dL_law_625 : decode cL_law 625 = .ok (.invokevirtual 81, 3) := by decide +kernel
theorem dL_law_628 : decode cL_law 628 = .ok (.if_icmp .eq 391, 3) := by decide +kernel
theorem dL_law_631 : decode cL_law 631 = .ok (.iconst 0, 1) := by decide +kernel
theorem dL_law_632 : decode cL_law 632 = .ok (.ireturn, 1) := by decide +kernel
theorem dL_law_633 : decode cL_law 633 = .ok (.aload_n 1, 1) := by decide +kernel
theorem dL_law_634 : decode cL_law 634 = .ok (.aload_n 0, 1) := by decide +kernel
theorem dL_law_635 : decode cL_law 635 = .ok (.iload_n 3, 1) := by decide +kernel
theorem dL_law_636 : decode cL_law 636 = .ok (.iconst 1, 1) := by decide +kernel
theorem dL_law_637 : decode cL_law 637 = .ok (.iadd, 1) := by decide +kernel
theorem dL_law_638 : decode cL_law 638 = .ok (.iaload, 1) := by decide +kernel
theorem dL_law_639 : decode cL_law 639 = .ok (.aload_n 0, 1) := by decide +kernel
theorem dL_law_640 : decode cL_law 640 = .ok (.iload_n 3, 1) := by decide +kernel
theorem dL_law_641 : decode cL_law 641 = .ok (.iconst 2, 1) := by decide +kernel
theorem dL_law_642 : decode cL_law 642 = .ok (.iadd, 1) := by decide +kernel
theorem dL_law_643 : decode cL_law 643 = .ok (.iaload, 1) := by decide +kernel
theorem dL_law_644 : decode cL_law 644 = .ok (.invokevirtual 82, 3) := by decide +kernel
theorem dL_law_647 : decode cL_law 647 = .ok (.aload_n 2, 1) := by decide +kernel
theorem dL_law_648 : decode cL_law 648 = .ok (.aload_n 0, 1) := by decide +kernel
theorem dL_law_649 : decode cL_law 649 = .ok (.iload_n 3, 1) := by decide +kernel
theorem dL_law_650 : decode cL_law 650 = .ok (.iconst 1, 1) := by decide +kernel
theorem dL_law_651 : decode cL_law 651 = .ok (.iadd, 1) := by decide +kernel
theorem dL_law_652 : decode cL_law 652 = .ok (.iaload, 1) := by decide +kernel
theorem dL_law_653 : decode cL_law 653 = .ok (.aload_n 0, 1) := by decide +kernel
theorem dL_law_654 : decode cL_law 654 = .ok (.iload_n 3, 1) := by decide +kernel
theorem dL_law_655 : decode cL_law 655 = .ok (.iconst 2, 1) := by decide +kernel
theorem dL_law_656 : decode cL_law 656 = .ok (.iadd, 1) := by decide +kernel
theorem dL_law_657 : decode cL_law 657 = .ok (.iaload, 1) := by decide +kernel
theorem dL_law_658 : decode cL_law 658 = .ok (.invokevirtual 85, 3) := by decide +kernel
theorem dL_law_661 : decode cL_law 661 = .ok (.if_icmp .eq 358, 3) := by decide +kernel
theorem dL_law_664 : decode cL_law 664 = .ok (.iconst 0, 1) := by decide +kernel
theorem dL_law_665 : decode cL_law 665 = .ok (.ireturn, 1) := by decide +kernel
theorem dL_law_666 : decode cL_law 666 = .ok (.aload_n 1, 1) := by decide +kernel
theorem dL_law_667 : decode cL_law 667 = .ok (.aload_n 0, 1) := by decide +kernel
theorem dL_law_668 : decode cL_law 668 = .ok (.iload_n 3, 1) := by decide +kernel
theorem dL_law_669 : decode cL_law 669 = .ok (.iconst 1, 1) := by decide +kernel
theorem dL_law_670 : decode cL_law 670 = .ok (.iadd, 1) := by decide +kernel
theorem dL_law_671 : decode cL_law 671 = .ok (.iaload, 1) := by decide +kernel
theorem dL_law_672 : decode cL_law 672 = .ok (.aload_n 0, 1) := by decide +kernel
theorem dL_law_673 : decode cL_law 673 = .ok (.iload_n 3, 1) := by decide +kernel
theorem dL_law_674 : decode cL_law 674 = .ok (.iconst 2, 1) := by decide +kernel
theorem dL_law_675 : decode cL_law 675 = .ok (.iadd, 1) := by decide +kernel
theorem dL_law_676 : decode cL_law 676 = .ok (.iaload, 1) := by decide +kernel
theorem dL_law_677 : decode cL_law 677 = .ok (.invokevirtual 86, 3) := by decide +kernel
theorem dL_law_680 : decode cL_law 680 = .ok (.aload_n 2, 1) := by decide +kernel
theorem dL_law_681 : decode cL_law 681 = .ok (.aload_n 0, 1) := by decide +kernel
theorem dL_law_682 : decode cL_law 682 = .ok (.iload_n 3, 1) := by decide +kernel
theorem dL_law_683 : decode cL_law 683 = .ok (.iconst 1, 1) := by decide +kernel
theorem dL_law_684 : decode cL_law 684 = .ok (.iadd, 1) := by decide +kernel
theorem dL_law_685 : decode cL_law 685 = .ok (.iaload, 1) := by decide +kernel
theorem dL_law_686 : decode cL_law 686 = .ok (.aload_n 0, 1) := by decide +kernel
theorem dL_law_687 : decode cL_law 687 = .ok (.iload_n 3, 1) := by decide +kernel
theorem dL_law_688 : decode cL_law 688 = .ok (.iconst 2, 1) := by decide +kernel
theorem dL_law_689 : decode cL_law 689 = .ok (.iadd, 1) := by decide +kernel
theorem dL_law_690 : decode cL_law 690 = .ok (.iaload, 1) := by decide +kernel
theorem dL_law_691 : decode cL_law 691 = .ok (.invokevirtual 89, 3) := by decide +kernel
theorem dL_law_694 : decode cL_law 694 = .ok (.if_icmp .eq 325, 3) := by decide +kernel
theorem dL_law_697 : decode cL_law 697 = .ok (.iconst 0, 1) := by decide +kernel
theorem dL_law_698 : decode cL_law 698 = .ok (.ireturn, 1) := by decide +kernel
theorem dL_law_699 : decode cL_law 699 = .ok (.aload_n 1, 1) := by decide +kernel
theorem dL_law_700 : decode cL_law 700 = .ok (.aload_n 0, 1) := by decide +kernel
theorem dL_law_701 : decode cL_law 701 = .ok (.iload_n 3, 1) := by decide +kernel
theorem dL_law_702 : decode cL_law 702 = .ok (.iconst 1, 1) := by decide +kernel
theorem dL_law_703 : decode cL_law 703 = .ok (.iadd, 1) := by decide +kernel
theorem dL_law_704 : decode cL_law 704 = .ok (.iaload, 1) := by decide +kernel
theorem dL_law_705 : decode cL_law 705 = .ok (.aload_n 0, 1) := by decide +kernel
theorem dL_law_706 : decode cL_law 706 = .ok (.iload_n 3, 1) := by decide +kernel
theorem dL_law_707 : decode cL_law 707 = .ok (.iconst 2, 1) := by decide +kernel
theorem dL_law_708 : decode cL_law 708 = .ok (.iadd, 1) := by decide +kernel
theorem dL_law_709 : decode cL_law 709 = .ok (.iaload, 1) := by decide +kernel
theorem dL_law_710 : decode cL_law 710 = .ok (.aload_n 0, 1) := by decide +kernel
theorem dL_law_711 : decode cL_law 711 = .ok (.iload_n 3, 1) := by decide +kernel
theorem dL_law_712 : decode cL_law 712 = .ok (.iconst 3, 1) := by decide +kernel
theorem dL_law_713 : decode cL_law 713 = .ok (.iadd, 1) := by decide +kernel
theorem dL_law_714 : decode cL_law 714 = .ok (.iaload, 1) := by decide +kernel
theorem dL_law_715 : decode cL_law 715 = .ok (.aload_n 0, 1) := by decide +kernel
theorem dL_law_716 : decode cL_law 716 = .ok (.iload_n 3, 1) := by decide +kernel
theorem dL_law_717 : decode cL_law 717 = .ok (.iconst 4, 1) := by decide +kernel
theorem dL_law_718 : decode cL_law 718 = .ok (.iadd, 1) := by decide +kernel
theorem dL_law_719 : decode cL_law 719 = .ok (.iaload, 1) := by decide +kernel
theorem dL_law_720 : decode cL_law 720 = .ok (.invokevirtual 90, 3) := by decide +kernel
theorem dL_law_723 : decode cL_law 723 = .ok (.aload_n 2, 1) := by decide +kernel
theorem dL_law_724 : decode cL_law 724 = .ok (.aload_n 0, 1) := by decide +kernel
theorem dL_law_725 : decode cL_law 725 = .ok (.iload_n 3, 1) := by decide +kernel
theorem dL_law_726 : decode cL_law 726 = .ok (.iconst 1, 1) := by decide +kernel
theorem dL_law_727 : decode cL_law 727 = .ok (.iadd, 1) := by decide +kernel
theorem dL_law_728 : decode cL_law 728 = .ok (.iaload, 1) := by decide +kernel
theorem dL_law_729 : decode cL_law 729 = .ok (.aload_n 0, 1) := by decide +kernel
theorem dL_law_730 : decode cL_law 730 = .ok (.iload_n 3, 1) := by decide +kernel
theorem dL_law_731 : decode cL_law 731 = .ok (.iconst 2, 1) := by decide +kernel
theorem dL_law_732 : decode cL_law 732 = .ok (.iadd, 1) := by decide +kernel
theorem dL_law_733 : decode cL_law 733 = .ok (.iaload, 1) := by decide +kernel
theorem dL_law_734 : decode cL_law 734 = .ok (.aload_n 0, 1) := by decide +kernel
theorem dL_law_735 : decode cL_law 735 = .ok (.iload_n 3, 1) := by decide +kernel
theorem dL_law_736 : decode cL_law 736 = .ok (.iconst 3, 1) := by decide +kernel
theorem dL_law_737 : decode cL_law 737 = .ok (.iadd, 1) := by decide +kernel
theorem dL_law_738 : decode cL_law 738 = .ok (.iaload, 1) := by decide +kernel
theorem dL_law_739 : decode cL_law 739 = .ok (.aload_n 0, 1) := by decide +kernel
theorem dL_law_740 : decode cL_law 740 = .ok (.iload_n 3, 1) := by decide +kernel
theorem dL_law_741 : decode cL_law 741 = .ok (.iconst 4, 1) := by decide +kernel
theorem dL_law_742 : decode cL_law 742 = .ok (.iadd, 1) := by decide +kernel
theorem dL_law_743 : decode cL_law 743 = .ok (.iaload, 1) := by decide +kernel
theorem dL_law_744 : decode cL_law 744 = .ok (.invokevirtual 94, 3) := by decide +kernel
theorem dL_law_747 : decode cL_law 747 = .ok (.if_icmp .eq 272, 3) := by decide +kernel
theorem dL_law_750 : decode cL_law 750 = .ok (.iconst 0, 1) := by decide +kernel
theorem dL_law_751 : decode cL_law 751 = .ok (.ireturn, 1) := by decide +kernel
theorem dL_law_752 : decode cL_law 752 = .ok (.aload_n 1, 1) := by decide +kernel
theorem dL_law_753 : decode cL_law 753 = .ok (.aload_n 0, 1) := by decide +kernel
theorem dL_law_754 : decode cL_law 754 = .ok (.iload_n 3, 1) := by decide +kernel
theorem dL_law_755 : decode cL_law 755 = .ok (.iconst 1, 1) := by decide +kernel
theorem dL_law_756 : decode cL_law 756 = .ok (.iadd, 1) := by decide +kernel
theorem dL_law_757 : decode cL_law 757 = .ok (.iaload, 1) := by decide +kernel
theorem dL_law_758 : decode cL_law 758 = .ok (.invokevirtual 95, 3) := by decide +kernel
theorem dL_law_761 : decode cL_law 761 = .ok (.aload_n 2, 1) := by decide +kernel
theorem dL_law_762 : decode cL_law 762 = .ok (.aload_n 0, 1) := by decide +kernel
theorem dL_law_763 : decode cL_law 763 = .ok (.iload_n 3, 1) := by decide +kernel
theorem dL_law_764 : decode cL_law 764 = .ok (.iconst 1, 1) := by decide +kernel
theorem dL_law_765 : decode cL_law 765 = .ok (.iadd, 1) := by decide +kernel
theorem dL_law_766 : decode cL_law 766 = .ok (.iaload, 1) := by decide +kernel
theorem dL_law_767 : decode cL_law 767 = .ok (.invokevirtual 98, 3) := by decide +kernel
theorem dL_law_770 : decode cL_law 770 = .ok (.if_icmp .eq 249, 3) := by decide +kernel
theorem dL_law_773 : decode cL_law 773 = .ok (.iconst 0, 1) := by decide +kernel
theorem dL_law_774 : decode cL_law 774 = .ok (.ireturn, 1) := by decide +kernel
theorem dL_law_775 : decode cL_law 775 = .ok (.aload_n 1, 1) := by decide +kernel
theorem dL_law_776 : decode cL_law 776 = .ok (.aload_n 0, 1) := by decide +kernel
theorem dL_law_777 : decode cL_law 777 = .ok (.iload_n 3, 1) := by decide +kernel
theorem dL_law_778 : decode cL_law 778 = .ok (.iconst 1, 1) := by decide +kernel
theorem dL_law_779 : decode cL_law 779 = .ok (.iadd, 1) := by decide +kernel
theorem dL_law_780 : decode cL_law 780 = .ok (.iaload, 1) := by decide +kernel
theorem dL_law_781 : decode cL_law 781 = .ok (.aload_n 0, 1) := by decide +kernel
theorem dL_law_782 : decode cL_law 782 = .ok (.iload_n 3, 1) := by decide +kernel
theorem dL_law_783 : decode cL_law 783 = .ok (.iconst 2, 1) := by decide +kernel
theorem dL_law_784 : decode cL_law 784 = .ok (.iadd, 1) := by decide +kernel
theorem dL_law_785 : decode cL_law 785 = .ok (.iaload, 1) := by decide +kernel
theorem dL_law_786 : decode cL_law 786 = .ok (.invokevirtual 99, 3) := by decide +kernel
theorem dL_law_789 : decode cL_law 789 = .ok (.aload_n 2, 1) := by decide +kernel
theorem dL_law_790 : decode cL_law 790 = .ok (.aload_n 0, 1) := by decide +kernel
theorem dL_law_791 : decode cL_law 791 = .ok (.iload_n 3, 1) := by decide +kernel
theorem dL_law_792 : decode cL_law 792 = .ok (.iconst 1, 1) := by decide +kernel
theorem dL_law_793 : decode cL_law 793 = .ok (.iadd, 1) := by decide +kernel
theorem dL_law_794 : decode cL_law 794 = .ok (.iaload, 1) := by decide +kernel
theorem dL_law_795 : decode cL_law 795 = .ok (.aload_n 0, 1) := by decide +kernel
theorem dL_law_796 : decode cL_law 796 = .ok (.iload_n 3, 1) := by decide +kernel
theorem dL_law_797 : decode cL_law 797 = .ok (.iconst 2, 1) := by decide +kernel
theorem dL_law_798 : decode cL_law 798 = .ok (.iadd, 1) := by decide +kernel
theorem dL_law_799 : decode cL_law 799 = .ok (.iaload, 1) := by decide +kernel
theorem dL_law_800 : decode cL_law 800 = .ok (.invokevirtual 102, 3) := by decide +kernel
theorem dL_law_803 : decode cL_law 803 = .ok (.if_icmp .eq 216, 3) := by decide +kernel
theorem dL_law_806 : decode cL_law 806 = .ok (.iconst 0, 1) := by decide +kernel
theorem dL_law_807 : decode cL_law 807 = .ok (.ireturn, 1) := by decide +kernel
theorem dL_law_808 : decode cL_law 808 = .ok (.aload_n 1, 1) := by decide +kernel
theorem dL_law_809 : decode cL_law 809 = .ok (.aload_n 0, 1) := by decide +kernel
theorem dL_law_810 : decode cL_law 810 = .ok (.iload_n 3, 1) := by decide +kernel
theorem dL_law_811 : decode cL_law 811 = .ok (.iconst 1, 1) := by decide +kernel
theorem dL_law_812 : decode cL_law 812 = .ok (.iadd, 1) := by decide +kernel
theorem dL_law_813 : decode cL_law 813 = .ok (.iaload, 1) := by decide +kernel
theorem dL_law_814 : decode cL_law 814 = .ok (.invokevirtual 103, 3) := by decide +kernel
theorem dL_law_817 : decode cL_law 817 = .ok (.aload_n 2, 1) := by decide +kernel
theorem dL_law_818 : decode cL_law 818 = .ok (.aload_n 0, 1) := by decide +kernel
theorem dL_law_819 : decode cL_law 819 = .ok (.iload_n 3, 1) := by decide +kernel
theorem dL_law_820 : decode cL_law 820 = .ok (.iconst 1, 1) := by decide +kernel
theorem dL_law_821 : decode cL_law 821 = .ok (.iadd, 1) := by decide +kernel
theorem dL_law_822 : decode cL_law 822 = .ok (.iaload, 1) := by decide +kernel
theorem dL_law_823 : decode cL_law 823 = .ok (.invokevirtual 106, 3) := by decide +kernel
theorem dL_law_826 : decode cL_law 826 = .ok (.if_icmp .eq 193, 3) := by decide +kernel
theorem dL_law_829 : decode cL_law 829 = .ok (.iconst 0, 1) := by decide +kernel
theorem dL_law_830 : decode cL_law 830 = .ok (.ireturn, 1) := by decide +kernel
theorem dL_law_831 : decode cL_law 831 = .ok (.aload_n 1, 1) := by decide +kernel
theorem dL_law_832 : decode cL_law 832 = .ok (.aload_n 0, 1) := by decide +kernel
theorem dL_law_833 : decode cL_law 833 = .ok (.iload_n 3, 1) := by decide +kernel
theorem dL_law_834 : decode cL_law 834 = .ok (.iconst 1, 1) := by decide +kernel
theorem dL_law_835 : decode cL_law 835 = .ok (.iadd, 1) := by decide +kernel
theorem dL_law_836 : decode cL_law 836 = .ok (.iaload, 1) := by decide +kernel
theorem dL_law_837 : decode cL_law 837 = .ok (.aload_n 0, 1) := by decide +kernel
theorem dL_law_838 : decode cL_law 838 = .ok (.iload_n 3, 1) := by decide +kernel
theorem dL_law_839 : decode cL_law 839 = .ok (.iconst 2, 1) := by decide +kernel
theorem dL_law_840 : decode cL_law 840 = .ok (.iadd, 1) := by decide +kernel
theorem dL_law_841 : decode cL_law 841 = .ok (.iaload, 1) := by decide +kernel
theorem dL_law_842 : decode cL_law 842 = .ok (.invokevirtual 107, 3) := by decide +kernel
theorem dL_law_845 : decode cL_law 845 = .ok (.aload_n 2, 1) := by decide +kernel
theorem dL_law_846 : decode cL_law 846 = .ok (.aload_n 0, 1) := by decide +kernel
theorem dL_law_847 : decode cL_law 847 = .ok (.iload_n 3, 1) := by decide +kernel
theorem dL_law_848 : decode cL_law 848 = .ok (.iconst 1, 1) := by decide +kernel
theorem dL_law_849 : decode cL_law 849 = .ok (.iadd, 1) := by decide +kernel
theorem dL_law_850 : decode cL_law 850 = .ok (.iaload, 1) := by decide +kernel
theorem dL_law_851 : decode cL_law 851 = .ok (.aload_n 0, 1) := by decide +kernel
theorem dL_law_852 : decode cL_law 852 = .ok (.iload_n 3, 1) := by decide +kernel
theorem dL_law_853 : decode cL_law 853 = .ok (.iconst 2, 1) := by decide +kernel
theorem dL_law_854 : decode cL_law 854 = .ok (.iadd, 1) := by decide +kernel
theorem dL_law_855 : decode cL_law 855 = .ok (.iaload, 1) := by decide +kernel
theorem dL_law_856 : decode cL_law 856 = .ok (.invokevirtual 110, 3) := by decide +kernel
theorem dL_law_859 : decode cL_law 859 = .ok (.if_icmp .eq 160, 3) := by decide +kernel
theorem dL_law_862 : decode cL_law 862 = .ok (.iconst 0, 1) := by decide +kernel
theorem dL_law_863 : decode cL_law 863 = .ok (.ireturn, 1) := by decide +kernel
theorem dL_law_864 : decode cL_law 864 = .ok (.aload_n 1, 1) := by decide +kernel
theorem dL_law_865 : decode cL_law 865 = .ok (.aload_n 0, 1) := by decide +kernel
theorem dL_law_866 : decode cL_law 866 = .ok (.iload_n 3, 1) := by decide +kernel
theorem dL_law_867 : decode cL_law 867 = .ok (.iconst 1, 1) := by decide +kernel
theorem dL_law_868 : decode cL_law 868 = .ok (.iadd, 1) := by decide +kernel
theorem dL_law_869 : decode cL_law 869 = .ok (.iaload, 1) := by decide +kernel
theorem dL_law_870 : decode cL_law 870 = .ok (.aload_n 0, 1) := by decide +kernel
theorem dL_law_871 : decode cL_law 871 = .ok (.iload_n 3, 1) := by decide +kernel
theorem dL_law_872 : decode cL_law 872 = .ok (.iconst 2, 1) := by decide +kernel
theorem dL_law_873 : decode cL_law 873 = .ok (.iadd, 1) := by decide +kernel
theorem dL_law_874 : decode cL_law 874 = .ok (.iaload, 1) := by decide +kernel
theorem dL_law_875 : decode cL_law 875 = .ok (.invokevirtual 111, 3) := by decide +kernel
theorem dL_law_878 : decode cL_law 878 = .ok (.aload_n 2, 1) := by decide +kernel
theorem dL_law_879 : decode cL_law 879 = .ok (.aload_n 0, 1) := by decide +kernel
theorem dL_law_880 : decode cL_law 880 = .ok (.iload_n 3, 1) := by decide +kernel
theorem dL_law_881 : decode cL_law 881 = .ok (.iconst 1, 1) := by decide +kernel
theorem dL_law_882 : decode cL_law 882 = .ok (.iadd, 1) := by decide +kernel
theorem dL_law_883 : decode cL_law 883 = .ok (.iaload, 1) := by decide +kernel
theorem dL_law_884 : decode cL_law 884 = .ok (.aload_n 0, 1) := by decide +kernel
theorem dL_law_885 : decode cL_law 885 = .ok (.iload_n 3, 1) := by decide +kernel
theorem dL_law_886 : decode cL_law 886 = .ok (.iconst 2, 1) := by decide +kernel
theorem dL_law_887 : decode cL_law 887 = .ok (.iadd, 1) := by decide +kernel
theorem dL_law_888 : decode cL_law 888 = .ok (.iaload, 1) := by decide +kernel
theorem dL_law_889 : decode cL_law 889 = .ok (.invokevirtual 114, 3) := by decide +kernel
theorem dL_law_892 : decode cL_law 892 = .ok (.if_icmp .eq 127, 3) := by decide +kernel
theorem dL_law_895 : decode cL_law 895 = .ok (.iconst 0, 1) := by decide +kernel
theorem dL_law_896 : decode cL_law 896 = .ok (.ireturn, 1) := by decide +kernel
theorem dL_law_897 : decode cL_law 897 = .ok (.aload_n 1, 1) := by decide +kernel
theorem dL_law_898 : decode cL_law 898 = .ok (.aload_n 0, 1) := by decide +kernel
theorem dL_law_899 : decode cL_law 899 = .ok (.iload_n 3, 1) := by decide +kernel
theorem dL_law_900 : decode cL_law 900 = .ok (.iconst 1, 1) := by decide +kernel
theorem dL_law_901 : decode cL_law 901 = .ok (.iadd, 1) := by decide +kernel
theorem dL_law_902 : decode cL_law 902 = .ok (.iaload, 1) := by decide +kernel
theorem dL_law_903 : decode cL_law 903 = .ok (.aload_n 0, 1) := by decide +kernel
theorem dL_law_904 : decode cL_law 904 = .ok (.iload_n 3, 1) := by decide +kernel
theorem dL_law_905 : decode cL_law 905 = .ok (.iconst 2, 1) := by decide +kernel
theorem dL_law_906 : decode cL_law 906 = .ok (.iadd, 1) := by decide +kernel
theorem dL_law_907 : decode cL_law 907 = .ok (.iaload, 1) := by decide +kernel
theorem dL_law_908 : decode cL_law 908 = .ok (.invokevirtual 115, 3) := by decide +kernel
theorem dL_law_911 : decode cL_law 911 = .ok (.aload_n 2, 1) := by decide +kernel
theorem dL_law_912 : decode cL_law 912 = .ok (.aload_n 0, 1) := by decide +kernel
theorem dL_law_913 : decode cL_law 913 = .ok (.iload_n 3, 1) := by decide +kernel
theorem dL_law_914 : decode cL_law 914 = .ok (.iconst 1, 1) := by decide +kernel
theorem dL_law_915 : decode cL_law 915 = .ok (.iadd, 1) := by decide +kernel
theorem dL_law_916 : decode cL_law 916 = .ok (.iaload, 1) := by decide +kernel
theorem dL_law_917 : decode cL_law 917 = .ok (.aload_n 0, 1) := by decide +kernel
theorem dL_law_918 : decode cL_law 918 = .ok (.iload_n 3, 1) := by decide +kernel
theorem dL_law_919 : decode cL_law 919 = .ok (.iconst 2, 1) := by decide +kernel
theorem dL_law_920 : decode cL_law 920 = .ok (.iadd, 1) := by decide +kernel
theorem dL_law_921 : decode cL_law 921 = .ok (.iaload, 1) := by decide +kernel
theorem dL_law_922 : decode cL_law 922 = .ok (.invokevirtual 118, 3) := by decide +kernel
theorem dL_law_925 : decode cL_law 925 = .ok (.if_icmp .eq 94, 3) := by decide +kernel
theorem dL_law_928 : decode cL_law 928 = .ok (.iconst 0, 1) := by decide +kernel
theorem dL_law_929 : decode cL_law 929 = .ok (.ireturn, 1) := by decide +kernel
theorem dL_law_930 : decode cL_law 930 = .ok (.aload_n 1, 1) := by decide +kernel
theorem dL_law_931 : decode cL_law 931 = .ok (.aload_n 0, 1) := by decide +kernel
theorem dL_law_932 : decode cL_law 932 = .ok (.iload_n 3, 1) := by decide +kernel
theorem dL_law_933 : decode cL_law 933 = .ok (.iconst 1, 1) := by decide +kernel
theorem dL_law_934 : decode cL_law 934 = .ok (.iadd, 1) := by decide +kernel
theorem dL_law_935 : decode cL_law 935 = .ok (.iaload, 1) := by decide +kernel
theorem dL_law_936 : decode cL_law 936 = .ok (.aload_n 0, 1) := by decide +kernel
theorem dL_law_937 : decode cL_law 937 = .ok (.iload_n 3, 1) := by decide +kernel
theorem dL_law_938 : decode cL_law 938 = .ok (.iconst 2, 1) := by decide +kernel
theorem dL_law_939 : decode cL_law 939 = .ok (.iadd, 1) := by decide +kernel
theorem dL_law_940 : decode cL_law 940 = .ok (.iaload, 1) := by decide +kernel
theorem dL_law_941 : decode cL_law 941 = .ok (.invokevirtual 119, 3) := by decide +kernel
theorem dL_law_944 : decode cL_law 944 = .ok (.aload_n 2, 1) := by decide +kernel
theorem dL_law_945 : decode cL_law 945 = .ok (.aload_n 0, 1) := by decide +kernel
theorem dL_law_946 : decode cL_law 946 = .ok (.iload_n 3, 1) := by decide +kernel
theorem dL_law_947 : decode cL_law 947 = .ok (.iconst 1, 1) := by decide +kernel
theorem dL_law_948 : decode cL_law 948 = .ok (.iadd, 1) := by decide +kernel
theorem dL_law_949 : decode cL_law 949 = .ok (.iaload, 1) := by decide +kernel
theorem dL_law_950 : decode cL_law 950 = .ok (.aload_n 0, 1) := by decide +kernel
theorem dL_law_951 : decode cL_law 951 = .ok (.iload_n 3, 1) := by decide +kernel
theorem dL_law_952 : decode cL_law 952 = .ok (.iconst 2, 1) := by decide +kernel
theorem dL_law_953 : decode cL_law 953 = .ok (.iadd, 1) := by decide +kernel
theorem dL_law_954 : decode cL_law 954 = .ok (.iaload, 1) := by decide +kernel
theorem dL_law_955 : decode cL_law 955 = .ok (.invokevirtual 122, 3) := by decide +kernel
theorem dL_law_958 : decode cL_law 958 = .ok (.if_icmp .eq 61, 3) := by decide +kernel
theorem dL_law_961 : decode cL_law 961 = .ok (.iconst 0, 1) := by decide +kernel
theorem dL_law_962 : decode cL_law 962 = .ok (.ireturn, 1) := by decide +kernel
theorem dL_law_963 : decode cL_law 963 = .ok (.aload_n 1, 1) := by decide +kernel
theorem dL_law_964 : decode cL_law 964 = .ok (.aload_n 0, 1) := by decide +kernel
theorem dL_law_965 : decode cL_law 965 = .ok (.iload_n 3, 1) := by decide +kernel
theorem dL_law_966 : decode cL_law 966 = .ok (.iconst 1, 1) := by decide +kernel
theorem dL_law_967 : decode cL_law 967 = .ok (.iadd, 1) := by decide +kernel
theorem dL_law_968 : decode cL_law 968 = .ok (.iaload, 1) := by decide +kernel
theorem dL_law_969 : decode cL_law 969 = .ok (.aload_n 0, 1) := by decide +kernel
theorem dL_law_970 : decode cL_law 970 = .ok (.iload_n 3, 1) := by decide +kernel
theorem dL_law_971 : decode cL_law 971 = .ok (.iconst 2, 1) := by decide +kernel
theorem dL_law_972 : decode cL_law 972 = .ok (.iadd, 1) := by decide +kernel
theorem dL_law_973 : decode cL_law 973 = .ok (.iaload, 1) := by decide +kernel
theorem dL_law_974 : decode cL_law 974 = .ok (.invokevirtual 123, 3) := by decide +kernel
theorem dL_law_977 : decode cL_law 977 = .ok (.aload_n 2, 1) := by decide +kernel
theorem dL_law_978 : decode cL_law 978 = .ok (.aload_n 0, 1) := by decide +kernel
theorem dL_law_979 : decode cL_law 979 = .ok (.iload_n 3, 1) := by decide +kernel
theorem dL_law_980 : decode cL_law 980 = .ok (.iconst 1, 1) := by decide +kernel
theorem dL_law_981 : decode cL_law 981 = .ok (.iadd, 1) := by decide +kernel
theorem dL_law_982 : decode cL_law 982 = .ok (.iaload, 1) := by decide +kernel
theorem dL_law_983 : decode cL_law 983 = .ok (.aload_n 0, 1) := by decide +kernel
theorem dL_law_984 : decode cL_law 984 = .ok (.iload_n 3, 1) := by decide +kernel
theorem dL_law_985 : decode cL_law 985 = .ok (.iconst 2, 1) := by decide +kernel
theorem dL_law_986 : decode cL_law 986 = .ok (.iadd, 1) := by decide +kernel
theorem dL_law_987 : decode cL_law 987 = .ok (.iaload, 1) := by decide +kernel
theorem dL_law_988 : decode cL_law 988 = .ok (.invokevirtual 126, 3) := by decide +kernel
theorem dL_law_991 : decode cL_law 991 = .ok (.if_icmp .eq 28, 3) := by decide +kernel
theorem dL_law_994 : decode cL_law 994 = .ok (.iconst 0, 1) := by decide +kernel
theorem dL_law_995 : decode cL_law 995 = .ok (.ireturn, 1) := by decide +kernel
theorem dL_law_996 : decode cL_law 996 = .ok (.aload_n 1, 1) := by decide +kernel
theorem dL_law_997 : decode cL_law 997 = .ok (.aload_n 0, 1) := by decide +kernel
theorem dL_law_998 : decode cL_law 998 = .ok (.iload_n 3, 1) := by decide +kernel
theorem dL_law_999 : decode cL_law 999 = .ok (.iconst 1, 1) := by decide +kernel
theorem dL_law_1000 : decode cL_law 1000 = .ok (.iadd, 1) := by decide +kernel
theorem dL_law_1001 : decode cL_law 1001 = .ok (.iaload, 1) := by decide +kernel
theorem dL_law_1002 : decode cL_law 1002 = .ok (.invokevirtual 127, 3) := by decide +kernel
theorem dL_law_1005 : decode cL_law 1005 = .ok (.aload_n 2, 1) := by decide +kernel
theorem dL_law_1006 : decode cL_law 1006 = .ok (.aload_n 0, 1) := by decide +kernel
theorem dL_law_1007 : decode cL_law 1007 = .ok (.iload_n 3, 1) := by decide +kernel
theorem dL_law_1008 : decode cL_law 1008 = .ok (.iconst 1, 1) := by decide +kernel
theorem dL_law_1009 : decode cL_law 1009 = .ok (.iadd, 1) := by decide +kernel
theorem dL_law_1010 : decode cL_law 1010 = .ok (.iaload, 1) := by decide +kernel
theorem dL_law_1011 : decode cL_law 1011 = .ok (.invokevirtual 130, 3) := by decide +kernel
theorem dL_law_1014 : decode cL_law 1014 = .ok (.if_icmp .eq 5, 3) := by decide +kernel
theorem dL_law_1017 : decode cL_law 1017 = .ok (.iconst 0, 1) := by decide +kernel
theorem dL_law_1018 : decode cL_law 1018 = .ok (.ireturn, 1) := by decide +kernel
theorem dL_law_1019 : decode cL_law 1019 = .ok (.iinc 3 5, 3) := by decide +kernel
theorem dL_law_1022 : decode cL_law 1022 = .ok (.goto (-1004), 3) := by decide +kernel
theorem dL_law_1025 : decode cL_law 1025 = .ok (.iconst 1, 1) := by decide +kernel
theorem dL_law_1026 : decode cL_law 1026 = .ok (.ireturn, 1) := by decide +kernel
end
section
/-! kinds: 0-8 the classes, from 9 on the arrays, one kind for each field that holds an array -/
def kR (k : Nat) : String := match k with
  | 0 => RX0
  | 1 => RX1
  | 2 => RX2
  | 3 => RX3
  | 4 => RX4
  | 5 => RX5
  | 6 => RX6
  | 7 => RX7
  | _ => RX8
def kT (k : Nat) : u_T := match k with
  | 0 => TX0
  | 1 => TX1
  | 2 => TX2
  | 3 => TX3
  | 4 => TX4
  | 5 => TX5
  | 6 => TX6
  | 7 => TX7
  | _ => TX8
def kY (k : Nat) : Nat → FieldType := match k with
  | 0 => tyX0
  | 1 => tyX1
  | 2 => tyX2
  | 3 => tyX3
  | 4 => tyX4
  | 5 => tyX5
  | 6 => tyX6
  | 7 => tyX7
  | _ => tyX8
def nfT : List Nat := [6, 8, 6, 3, 10, 4, 8, 18, 52]
def nf (k : Nat) : Nat := nfT.getD k 0
def ftT : List (List (Option Nat)) := [[none, some 4, some 4, some 2, none, none], [some 9, some 10, some 11, some 12, some 13, none, none, none], [none, some 14, none, some 4, some 0, none], [some 15, none, none], [none, some 4, none, none, none, none, none, none, none, none], [some 16, some 17, some 18, none], [none, none, none, none, none, some 4, some 2, none], [some 19, none, some 20, none, some 21, none, some 22, none, some 3, some 5, some 5, some 23, some 24, some 1, none, none, none, none], [none, none, some 25, some 26, some 27, some 28, some 29, some 30, some 31, some 32, some 33, none, some 34, some 35, some 36, some 37, some 38, some 39, some 40, some 41, some 42, some 43, none, some 44, none, some 45, some 46, some 47, some 48, some 49, none, some 50, some 51, some 52, some 53, some 54, some 55, some 56, none, some 57, some 58, none, some 59, some 60, some 61, some 62, none, some 63, some 64, some 65, some 66, some 67]]
def fty (k i : Nat) : Option Nat := (ftT.getD k []).getD i none
def aeT : List (Option Nat) := [some 2, none, none, none, none, some 3, some 6, none, none, none, some 4, some 6, some 2, some 0, none, none, none, none, none, none, none, none, none, none, none, none, none, none, none, none, none, none, none, none, none, none, none, none, none, none, none, none, none, none, none, none, none, none, none, none, none, none, none, none, none, none, none, none, none]
def ael (k : Nat) : Option Nat := aeT.getD (k - 9) none
def atT : List Nat := [3, 0, 0, 0, 0, 4, 6, 0, 0, 0, 5, 6, 3, 2, 0, 0, 0, 0, 0, 0, 0, 0, 1, 0, 0, 0, 0, 0, 0, 0, 0, 0, 0, 0, 0, 0, 0, 0, 0, 0, 0, 0, 0, 0, 0, 0, 0, 0, 0, 0, 0, 0, 0, 0, 0, 0, 0, 0, 0]
def atx (k : Nat) : Nat := atT.getD (k - 9) 0
def rk (k i : Nat) : Nat := if k < 9 then (fty k i).getD 0 else (ael k).getD 0
abbrev tysL (cA : Nat → ClassId) : List (ClassId × FieldType) := [(cA 0, .int), (cA 1, .boolean), (cA 2, .object RX0), (cA 3, .object RX2), (cA 4, .object RX3), (cA 5, .object RX4), (cA 6, .object RX6)]
def gws : List Cond := lw_tbl.filter goodWord
theorem gw (i : Nat) {w : Cond} (h : lw_tbl[i]? = some w) (g : goodWord w = true) : w ∈ gws := List.mem_filter.mpr ⟨List.mem_of_getElem? h, g⟩
theorem ig0 : ∀ w ∈ u_ws RX0 TX0 6, w ∈ gws := by
  intro w hw
  have e : u_ws RX0 TX0 6 = ([467, 469, 471, 473, 475, 477] : List Nat).filterMap (fun i => lw_tbl[i]?) := by decide +kernel
  have g : (u_ws RX0 TX0 6).all goodWord = true := by decide +kernel
  have g1 := List.all_eq_true.mp g w hw
  rw [e] at hw
  obtain ⟨i, -, hi⟩ := List.mem_filterMap.mp hw
  exact gw i hi g1
theorem ig1 : ∀ w ∈ u_ws RX1 TX1 8, w ∈ gws := by
  intro w hw
  have e : u_ws RX1 TX1 8 = ([126, 128, 130, 132, 134, 136, 138, 140] : List Nat).filterMap (fun i => lw_tbl[i]?) := by decide +kernel
  have g : (u_ws RX1 TX1 8).all goodWord = true := by decide +kernel
  have g1 := List.all_eq_true.mp g w hw
  rw [e] at hw
  obtain ⟨i, -, hi⟩ := List.mem_filterMap.mp hw
  exact gw i hi g1
theorem ig2 : ∀ w ∈ u_ws RX2 TX2 6, w ∈ gws := by
  intro w hw
  have e : u_ws RX2 TX2 6 = ([377, 379, 381, 383, 385, 387] : List Nat).filterMap (fun i => lw_tbl[i]?) := by decide +kernel
  have g : (u_ws RX2 TX2 6).all goodWord = true := by decide +kernel
  have g1 := List.all_eq_true.mp g w hw
  rw [e] at hw
  obtain ⟨i, -, hi⟩ := List.mem_filterMap.mp hw
  exact gw i hi g1
theorem ig3 : ∀ w ∈ u_ws RX3 TX3 3, w ∈ gws := by
  intro w hw
  have e : u_ws RX3 TX3 3 = ([81, 83, 85] : List Nat).filterMap (fun i => lw_tbl[i]?) := by decide +kernel
  have g : (u_ws RX3 TX3 3).all goodWord = true := by decide +kernel
  have g1 := List.all_eq_true.mp g w hw
  rw [e] at hw
  obtain ⟨i, -, hi⟩ := List.mem_filterMap.mp hw
  exact gw i hi g1
theorem ig4 : ∀ w ∈ u_ws RX4 TX4 10, w ∈ gws := by
  intro w hw
  have e : u_ws RX4 TX4 10 = ([231, 233, 235, 237, 239, 241, 243, 245, 247, 249] : List Nat).filterMap (fun i => lw_tbl[i]?) := by decide +kernel
  have g : (u_ws RX4 TX4 10).all goodWord = true := by decide +kernel
  have g1 := List.all_eq_true.mp g w hw
  rw [e] at hw
  obtain ⟨i, -, hi⟩ := List.mem_filterMap.mp hw
  exact gw i hi g1
theorem ig5 : ∀ w ∈ u_ws RX5 TX5 4, w ∈ gws := by
  intro w hw
  have e : u_ws RX5 TX5 4 = ([101, 103, 105, 107] : List Nat).filterMap (fun i => lw_tbl[i]?) := by decide +kernel
  have g : (u_ws RX5 TX5 4).all goodWord = true := by decide +kernel
  have g1 := List.all_eq_true.mp g w hw
  rw [e] at hw
  obtain ⟨i, -, hi⟩ := List.mem_filterMap.mp hw
  exact gw i hi g1
theorem ig6 : ∀ w ∈ u_ws RX6 TX6 8, w ∈ gws := by
  intro w hw
  have e : u_ws RX6 TX6 8 = ([304, 306, 308, 310, 312, 314, 316, 318] : List Nat).filterMap (fun i => lw_tbl[i]?) := by decide +kernel
  have g : (u_ws RX6 TX6 8).all goodWord = true := by decide +kernel
  have g1 := List.all_eq_true.mp g w hw
  rw [e] at hw
  obtain ⟨i, -, hi⟩ := List.mem_filterMap.mp hw
  exact gw i hi g1
theorem ig7 : ∀ w ∈ u_ws RX7 TX7 18, w ∈ gws := by
  intro w hw
  have e : u_ws RX7 TX7 18 = ([161, 163, 165, 167, 169, 171, 173, 175, 177, 179, 181, 183, 185, 187, 189, 191, 193, 195] : List Nat).filterMap (fun i => lw_tbl[i]?) := by decide +kernel
  have g : (u_ws RX7 TX7 18).all goodWord = true := by decide +kernel
  have g1 := List.all_eq_true.mp g w hw
  rw [e] at hw
  obtain ⟨i, -, hi⟩ := List.mem_filterMap.mp hw
  exact gw i hi g1
theorem ig8 : ∀ w ∈ u_ws RX8 TX8 52, w ∈ gws := by
  intro w hw
  have e : u_ws RX8 TX8 52 = ([784, 786, 788, 790, 792, 794, 796, 798, 800, 802, 804, 806, 808, 810, 812, 814, 816, 818, 820, 822, 824, 826, 828, 830, 832, 834, 836, 838, 840, 842, 844, 846, 848, 850, 852, 854, 856, 858, 860, 862, 864, 866, 868, 870, 872, 874, 876, 878, 880, 882, 884, 886] : List Nat).filterMap (fun i => lw_tbl[i]?) := by decide +kernel
  have g : (u_ws RX8 TX8 52).all goodWord = true := by decide +kernel
  have g1 := List.all_eq_true.mp g w hw
  rw [e] at hw
  obtain ⟨i, -, hi⟩ := List.mem_filterMap.mp hw
  exact gw i hi g1
theorem kcl : ∀ k, k < 9 → vwCl[k]? = some (kR k, kT k, nf k) := by
  intro k hk
  match k, hk with
  | 0, _ => exact rfl
  | 1, _ => exact rfl
  | 2, _ => exact rfl
  | 3, _ => exact rfl
  | 4, _ => exact rfl
  | 5, _ => exact rfl
  | 6, _ => exact rfl
  | 7, _ => exact rfl
  | 8, _ => exact rfl
  | n + 9, h => exact absurd h (by omega)
theorem kig : ∀ k, k < 9 → ∀ w ∈ u_ws (kR k) (kT k) (nf k), w ∈ gws := by
  intro k hk
  match k, hk with
  | 0, _ => exact ig0
  | 1, _ => exact ig1
  | 2, _ => exact ig2
  | 3, _ => exact ig3
  | 4, _ => exact ig4
  | 5, _ => exact ig5
  | 6, _ => exact ig6
  | 7, _ => exact ig7
  | 8, _ => exact ig8
  | n + 9, h => exact absurd h (by omega)
theorem kty : ∀ k, k < 9 → ∀ i, i < nf k → parseFieldDescriptor (kT k i).2.2.1 = some (kY k i) := by
  intro k hk
  match k, hk with
  | 0, _ => exact tyX0_ok
  | 1, _ => exact tyX1_ok
  | 2, _ => exact tyX2_ok
  | 3, _ => exact tyX3_ok
  | 4, _ => exact tyX4_ok
  | 5, _ => exact tyX5_ok
  | 6, _ => exact tyX6_ok
  | 7, _ => exact tyX7_ok
  | 8, _ => exact tyX8_ok
  | n + 9, h => exact absurd h (by omega)
theorem knm : ∀ k, k < 9 → ∀ a, a < nf k → ∀ b, b < nf k → a ≠ b → (kT k a).2.1 ≠ (kT k b).2.1 := by
  intro k hk
  match k, hk with
  | 0, _ => exact nmX0
  | 1, _ => exact nmX1
  | 2, _ => exact nmX2
  | 3, _ => exact nmX3
  | 4, _ => exact nmX4
  | 5, _ => exact nmX5
  | 6, _ => exact nmX6
  | 7, _ => exact nmX7
  | 8, _ => exact nmX8
  | n + 9, h => exact absurd h (by omega)
theorem kd0 : ∀ i, i < 6 → (TX0 i).1 = RX0 := by decide +kernel
theorem kd1 : ∀ i, i < 8 → (TX1 i).1 = RX1 := by decide +kernel
theorem kd2 : ∀ i, i < 6 → (TX2 i).1 = RX2 := by decide +kernel
theorem kd3 : ∀ i, i < 3 → (TX3 i).1 = RX3 := by decide +kernel
theorem kd4 : ∀ i, i < 10 → (TX4 i).1 = RX4 := by decide +kernel
theorem kd5 : ∀ i, i < 4 → (TX5 i).1 = RX5 := by decide +kernel
theorem kd6 : ∀ i, i < 8 → (TX6 i).1 = RX6 := by decide +kernel
theorem kd7 : ∀ i, i < 18 → (TX7 i).1 = RX7 := by decide +kernel
theorem kd8 : ∀ i, i < 52 → (TX8 i).1 = RX8 := by decide +kernel
theorem kdc : ∀ k, k < 9 → ∀ i, i < nf k → (kT k i).1 = kR k := by
  intro k hk
  match k, hk with
  | 0, _ => exact kd0
  | 1, _ => exact kd1
  | 2, _ => exact kd2
  | 3, _ => exact kd3
  | 4, _ => exact kd4
  | 5, _ => exact kd5
  | 6, _ => exact kd6
  | 7, _ => exact kd7
  | 8, _ => exact kd8
  | n + 9, h => exact absurd h (by omega)
def isRT (t : FieldType) : Bool := match t with
  | .object _ => true
  | .array _ => true
  | _ => false
theorem kf0 : ∀ i, i < 6 → isRT (tyX0 i) = (fty 0 i).isSome ∧ (isRT (tyX0 i) = false → tyX0 i = .int ∨ tyX0 i = .boolean) := by decide +kernel
theorem kf1 : ∀ i, i < 8 → isRT (tyX1 i) = (fty 1 i).isSome ∧ (isRT (tyX1 i) = false → tyX1 i = .int ∨ tyX1 i = .boolean) := by decide +kernel
theorem kf2 : ∀ i, i < 6 → isRT (tyX2 i) = (fty 2 i).isSome ∧ (isRT (tyX2 i) = false → tyX2 i = .int ∨ tyX2 i = .boolean) := by decide +kernel
theorem kf3 : ∀ i, i < 3 → isRT (tyX3 i) = (fty 3 i).isSome ∧ (isRT (tyX3 i) = false → tyX3 i = .int ∨ tyX3 i = .boolean) := by decide +kernel
theorem kf4 : ∀ i, i < 10 → isRT (tyX4 i) = (fty 4 i).isSome ∧ (isRT (tyX4 i) = false → tyX4 i = .int ∨ tyX4 i = .boolean) := by decide +kernel
theorem kf5 : ∀ i, i < 4 → isRT (tyX5 i) = (fty 5 i).isSome ∧ (isRT (tyX5 i) = false → tyX5 i = .int ∨ tyX5 i = .boolean) := by decide +kernel
theorem kf6 : ∀ i, i < 8 → isRT (tyX6 i) = (fty 6 i).isSome ∧ (isRT (tyX6 i) = false → tyX6 i = .int ∨ tyX6 i = .boolean) := by decide +kernel
theorem kf7 : ∀ i, i < 18 → isRT (tyX7 i) = (fty 7 i).isSome ∧ (isRT (tyX7 i) = false → tyX7 i = .int ∨ tyX7 i = .boolean) := by decide +kernel
theorem kf8 : ∀ i, i < 52 → isRT (tyX8 i) = (fty 8 i).isSome ∧ (isRT (tyX8 i) = false → tyX8 i = .int ∨ tyX8 i = .boolean) := by decide +kernel
theorem kft : ∀ k, k < 9 → ∀ i, i < nf k → isRT (kY k i) = (fty k i).isSome ∧ (isRT (kY k i) = false → kY k i = .int ∨ kY k i = .boolean) := by
  intro k hk
  match k, hk with
  | 0, _ => exact kf0
  | 1, _ => exact kf1
  | 2, _ => exact kf2
  | 3, _ => exact kf3
  | 4, _ => exact kf4
  | 5, _ => exact kf5
  | 6, _ => exact kf6
  | 7, _ => exact kf7
  | 8, _ => exact kf8
  | n + 9, h => exact absurd h (by omega)
def nestW : List Cond := [(Cond.methodLinkNest "RaftRivers" (48 : Nat) ({ cls := "RaftRivers$Row", name := "<init>", desc := "()V" } : Jvm.MethodName) "RaftRivers"), (Cond.methodLinkNest "RaftRivers" (74 : Nat) ({ cls := "RaftRivers$Plan", name := "<init>", desc := "()V" } : Jvm.MethodName) "RaftRivers"), (Cond.methodLinkNest "RaftRivers$Station" (45 : Nat) ({ cls := "RaftRivers", name := "within", desc := "(III)Z" } : Jvm.MethodName) "RaftRivers"), (Cond.methodLinkNest "RaftRivers$Trunk" (38 : Nat) ({ cls := "RaftRivers", name := "isOwner", desc := "(I)Z" } : Jvm.MethodName) "RaftRivers"), (Cond.methodLinkNest "RaftRivers$Trunk" (42 : Nat) ({ cls := "RaftRivers", name := "within", desc := "(III)Z" } : Jvm.MethodName) "RaftRivers"), (Cond.methodLinkNest "RaftRivers$Plan" (40 : Nat) ({ cls := "RaftRivers", name := "within", desc := "(III)Z" } : Jvm.MethodName) "RaftRivers")]
def aoW : List String := [RX0, RX2, RX3, RX4, RX6]
end
section
/-! the heap as numbers and places of kinds; what the machine's heap holds of it -/
abbrev Hp : Type := (Nat → Nat) × (Nat → Nat → Nat) × (Nat → Nat → Nat → Int32) × (Nat → Nat → Nat → Option Nat)
def pC (h : Hp) (k : Nat) : Nat := h.1 k
def pL (h : Hp) (k n : Nat) : Nat := h.2.1 k n
def pI (h : Hp) (k n i : Nat) : Int32 := h.2.2.1 k n i
def pR (h : Hp) (k n i : Nat) : Option Nat := h.2.2.2 k n i
def wI (h : Hp) (k n i : Nat) (v : Int32) : Hp := (h.1, h.2.1, fun k' n' i' => if k' = k ∧ n' = n ∧ i' = i then v else h.2.2.1 k' n' i', h.2.2.2)
def wR (h : Hp) (k n i : Nat) (v : Option Nat) : Hp := (h.1, h.2.1, h.2.2.1, fun k' n' i' => if k' = k ∧ n' = n ∧ i' = i then v else h.2.2.2 k' n' i')
def wN (h : Hp) (k len : Nat) : Hp := (fun k' => if k' = k then h.1 k + 1 else h.1 k', fun k' n' => if k' = k ∧ n' = h.1 k then len else h.2.1 k' n', fun k' n' i' => if k' = k ∧ n' = h.1 k then 0 else h.2.2.1 k' n' i', fun k' n' i' => if k' = k ∧ n' = h.1 k then none else h.2.2.2 k' n' i')
theorem pC_wI (h : Hp) (k n i : Nat) (v : Int32) (k' : Nat) : pC (wI h k n i v) k' = pC h k' := rfl
theorem pL_wI (h : Hp) (k n i : Nat) (v : Int32) (k' n' : Nat) : pL (wI h k n i v) k' n' = pL h k' n' := rfl
theorem pR_wI (h : Hp) (k n i : Nat) (v : Int32) (k' n' i' : Nat) : pR (wI h k n i v) k' n' i' = pR h k' n' i' := rfl
theorem pI_wI (h : Hp) (k n i : Nat) (v : Int32) (k' n' i' : Nat) : pI (wI h k n i v) k' n' i' = if k' = k ∧ n' = n ∧ i' = i then v else pI h k' n' i' := rfl
theorem pC_wR (h : Hp) (k n i : Nat) (v : Option Nat) (k' : Nat) : pC (wR h k n i v) k' = pC h k' := rfl
theorem pL_wR (h : Hp) (k n i : Nat) (v : Option Nat) (k' n' : Nat) : pL (wR h k n i v) k' n' = pL h k' n' := rfl
theorem pI_wR (h : Hp) (k n i : Nat) (v : Option Nat) (k' n' i' : Nat) : pI (wR h k n i v) k' n' i' = pI h k' n' i' := rfl
theorem pR_wR (h : Hp) (k n i : Nat) (v : Option Nat) (k' n' i' : Nat) : pR (wR h k n i v) k' n' i' = if k' = k ∧ n' = n ∧ i' = i then v else pR h k' n' i' := rfl
theorem pC_wN (h : Hp) (k len k' : Nat) : pC (wN h k len) k' = if k' = k then pC h k + 1 else pC h k' := rfl
theorem pL_wN (h : Hp) (k len k' n' : Nat) : pL (wN h k len) k' n' = if k' = k ∧ n' = pC h k then len else pL h k' n' := rfl
theorem pI_wN (h : Hp) (k len k' n' i' : Nat) : pI (wN h k len) k' n' i' = if k' = k ∧ n' = pC h k then 0 else pI h k' n' i' := rfl
theorem pR_wN (h : Hp) (k len k' n' i' : Nat) : pR (wN h k len) k' n' i' = if k' = k ∧ n' = pC h k then none else pR h k' n' i' := rfl
abbrev AV : Type := Int32 ⊕ (Nat × Option Nat)
def cv (al : Nat → Nat → Nat) (v : AV) : Value := match v with
  | .inl x => .int x
  | .inr q => va_rf (q.2.map (al q.1))
def okV (h : Hp) (v : AV) : Prop := match v with
  | .inl _ => True
  | .inr q => ∀ n, q.2 = some n → n < pC h q.1
def fV (al : Nat → Nat → Nat) (h : Hp) (k n i : Nat) : Value := match fty k i with
  | none => .int (pI h k n i)
  | some k' => va_rf ((pR h k n i).map (al k'))
def cE (cA : Nat → ClassId) (al : Nat → Nat → Nat) (h : Hp) (k n : Nat) : va_E :=
  if k < 9 then .inr (k, (List.range (nf k)).map (fV al h k n)) else .inl (cA (atx k), pL h k n, match ael k with
    | none => .inl (fun i => pI h k n i)
    | some k' => .inr (.inr (.inr (.inr (fun i => (pR h k n i).map (al k'))))))
def wl (cA : Nat → ClassId) (al : Nat → Nat → Nat) (h : Hp) (L : List (Nat × Nat)) : va_W := L.map (fun q => (al q.1 q.2, cE cA al h q.1 q.2))
def Clo (h : Hp) : Prop := ∀ k n i j, pR h k n i = some j → j < pC h (rk k i)
def Rep (D : va_G) (cA : Nat → ClassId) (A : Nat → Prop) (al : Nat → Nat → Nat) (h : Hp) (H : Heap) : Prop :=
  Clo h ∧ ∃ L : List (Nat × Nat), L.Nodup ∧ (∀ q, q ∈ L ↔ q.2 < pC h q.1 ∧ q.1 < 99) ∧ va_P D vwCl (wl cA al h L) H ∧ va_D A (wl cA al h L)
def EV (D : va_G) (cA : Nat → ClassId) (U : State) : Prop := va_K D vwCl (tysL cA) U ∧ (∀ w ∈ nestW, va_Nw w U) ∧ ∀ C ∈ aoW, va_AO C U
theorem EV.warm {D : va_G} {cA : Nat → ClassId} {s U : State} (hW : s.WarmedH U.vm) (h : EV D cA s) : EV D cA U := by
  refine ⟨va_K.moved hW.alike h.1, fun w hw => ?_, fun C hC => (h.2.2 C hC).moved hW.alike⟩
  have h1 := h.2.1 w hw
  simp only [nestW, List.mem_cons, List.not_mem_nil, or_false] at hw
  rcases hw with rfl | rfl | rfl | rfl | rfl | rfl <;> exact va_Nw.warmM hW h1
theorem EV.same {D : va_G} {cA : Nat → ClassId} {s U : State} (hv : s.vm = U.vm) (h : EV D cA s) : EV D cA U := by
  refine ⟨va_K.moved (by rw [hv]; exact Vm.Alike.refl _) h.1, fun w hw => ?_, fun C hC => (h.2.2 C hC).moved (by rw [hv]; exact Vm.Alike.refl _)⟩
  have h1 := h.2.1 w hw
  simp only [nestW, List.mem_cons, List.not_mem_nil, or_false] at hw
  rcases hw with rfl | rfl | rfl | rfl | rfl | rfl <;> exact va_Nw.same rfl hv h1
theorem wl_get {cA : Nat → ClassId} {al : Nat → Nat → Nat} {h : Hp} {L : List (Nat × Nat)} {k n : Nat} (hm : (k, n) ∈ L) : ∃ q0 : Nat, L[q0]? = some (k, n) ∧ (wl cA al h L)[q0]? = some (al k n, cE cA al h k n) := by
  obtain ⟨q0, hq⟩ := List.getElem?_of_mem hm
  exact ⟨q0, hq, by simp [wl, hq]⟩
theorem nodup_get {L : List (Nat × Nat)} (hn : L.Nodup) {i j : Nat} {q : Nat × Nat} (hi : L[i]? = some q) (hj : L[j]? = some q) : i = j := by
  obtain ⟨hi1, hi2⟩ := List.getElem?_eq_some_iff.mp hi
  obtain ⟨hj1, hj2⟩ := List.getElem?_eq_some_iff.mp hj
  rcases Nat.lt_trichotomy i j with g | g | g
  · exact absurd (hi2.trans hj2.symm) (List.pairwise_iff_getElem.mp hn i j hi1 hj1 g)
  · exact g
  · exact absurd (hj2.trans hi2.symm) (List.pairwise_iff_getElem.mp hn j i hj1 hi1 g)
theorem wl_set {cA : Nat → ClassId} {al : Nat → Nat → Nat} {h h' : Hp} {L : List (Nat × Nat)} (hn : L.Nodup) {q0 k n : Nat} (hq : L[q0]? = some (k, n)) (hs : ∀ k' n', ¬ (k' = k ∧ n' = n) → cE cA al h' k' n' = cE cA al h k' n') :
    (wl cA al h L).set q0 (al k n, cE cA al h' k n) = wl cA al h' L := by
  apply List.ext_getElem?
  intro i
  by_cases hi : i = q0
  · subst hi
    have hl : i < (wl cA al h L).length := by simp [wl]; exact (List.getElem?_eq_some_iff.mp hq).1
    rw [List.getElem?_set_self hl]
    simp [wl, hq]
  · rw [List.getElem?_set_ne (Ne.symm hi)]
    simp only [wl, List.getElem?_map]
    cases hL : L[i]? with
    | none => rfl
    | some q =>
      obtain ⟨a, b⟩ := q
      simp only [Option.map_some]
      rw [hs a b (fun e => hi (nodup_get hn hL (by rw [hq, e.1, e.2])))]
theorem cE_obj {cA : Nat → ClassId} {al : Nat → Nat → Nat} {h : Hp} {k n : Nat} (hk : k < 9) : cE cA al h k n = .inr (k, (List.range (nf k)).map (fV al h k n)) := by simp [cE, hk]
theorem cE_arrI {cA : Nat → ClassId} {al : Nat → Nat → Nat} {h : Hp} {k n : Nat} (hk : ¬ k < 9) (he : ael k = none) : cE cA al h k n = .inl (cA (atx k), pL h k n, .inl (fun i => pI h k n i)) := by simp [cE, hk, he]
theorem cE_arrR {cA : Nat → ClassId} {al : Nat → Nat → Nat} {h : Hp} {k n k' : Nat} (hk : ¬ k < 9) (he : ael k = some k') : cE cA al h k n = .inl (cA (atx k), pL h k n, .inr (.inr (.inr (.inr (fun i => (pR h k n i).map (al k')))))) := by simp [cE, hk, he]
theorem cE_wI {cA : Nat → ClassId} {al : Nat → Nat → Nat} {h : Hp} {k n i : Nat} {v : Int32} {k' n' : Nat} (hne : ¬ (k' = k ∧ n' = n)) : cE cA al (wI h k n i v) k' n' = cE cA al h k' n' := by
  have e : ∀ i', pI (wI h k n i v) k' n' i' = pI h k' n' i' := fun i' => by rw [pI_wI, if_neg (fun q => hne ⟨q.1, q.2.1⟩)]
  have f : fV al (wI h k n i v) k' n' = fV al h k' n' := by funext i'; simp only [fV, e, pR_wI]
  simp only [cE, f, e, pL_wI, pR_wI]
theorem cE_wR {cA : Nat → ClassId} {al : Nat → Nat → Nat} {h : Hp} {k n i : Nat} {v : Option Nat} {k' n' : Nat} (hne : ¬ (k' = k ∧ n' = n)) : cE cA al (wR h k n i v) k' n' = cE cA al h k' n' := by
  have e : ∀ i', pR (wR h k n i v) k' n' i' = pR h k' n' i' := fun i' => by rw [pR_wR, if_neg (fun q => hne ⟨q.1, q.2.1⟩)]
  have f : fV al (wR h k n i v) k' n' = fV al h k' n' := by funext i'; simp only [fV, e, pI_wR]
  simp only [cE, f, e, pL_wR, pI_wR]
theorem range_set {α : Type} (f g : Nat → α) {N i : Nat} {v : α} (hi : i < N) (hg : g i = v) (ho : ∀ j, j ≠ i → g j = f j) : ((List.range N).map f).set i v = (List.range N).map g := by
  apply List.ext_getElem?
  intro j
  by_cases hj : j = i
  · subst hj
    rw [List.getElem?_set_self (by simp; exact hi)]
    simp [hi, hg]
  · rw [List.getElem?_set_ne (Ne.symm hj)]
    simp only [List.getElem?_map]
    cases hL : (List.range N)[j]? with
    | none => rfl
    | some q =>
      have : q = j := by
        have := (List.getElem?_eq_some_iff.mp hL).2
        simpa using this.symm
      subst this
      simp [ho q hj]
theorem fV_int {al : Nat → Nat → Nat} {h : Hp} {k n i : Nat} (he : fty k i = none) : fV al h k n i = .int (pI h k n i) := by simp [fV, he]
theorem fV_ref {al : Nat → Nat → Nat} {h : Hp} {k n i k' : Nat} (he : fty k i = some k') : fV al h k n i = va_rf ((pR h k n i).map (al k')) := by simp [fV, he]
theorem fs_wI {al : Nat → Nat → Nat} {h : Hp} {k n i N : Nat} {v : Int32} (he : fty k i = none) (hi : i < N) : ((List.range N).map (fV al h k n)).set i (.int v) = (List.range N).map (fV al (wI h k n i v) k n) := by
  refine range_set _ _ hi ?_ (fun j hj => ?_)
  · rw [fV_int he, pI_wI, if_pos ⟨rfl, rfl, rfl⟩]
  · simp only [fV, pR_wI, pI_wI, hj, and_false, if_false]
theorem fs_wR {al : Nat → Nat → Nat} {h : Hp} {k n i N k' : Nat} {v : Option Nat} (he : fty k i = some k') (hi : i < N) : ((List.range N).map (fV al h k n)).set i (va_rf (v.map (al k'))) = (List.range N).map (fV al (wR h k n i v) k n) := by
  refine range_set _ _ hi ?_ (fun j hj => ?_)
  · rw [fV_ref he, pR_wR, if_pos ⟨rfl, rfl, rfl⟩]
  · simp only [fV, pR_wR, pI_wR, hj, and_false, if_false]
theorem Clo.wI {h : Hp} (hc : Clo h) (k n i : Nat) (v : Int32) : Clo (wI h k n i v) := hc
theorem Clo.wR {h : Hp} (hc : Clo h) (k n i : Nat) (v : Option Nat) (hv : ∀ j, v = some j → j < pC h (rk k i)) : Clo (wR h k n i v) := by
  intro k' n' i' j hj
  rw [pR_wR] at hj
  rw [pC_wR]
  by_cases e : k' = k ∧ n' = n ∧ i' = i
  · rw [if_pos e] at hj
    obtain ⟨rfl, rfl, rfl⟩ := e
    exact hv j hj
  · rw [if_neg e] at hj
    exact hc k' n' i' j hj
theorem Clo.wN {h : Hp} (hc : Clo h) (k len : Nat) : Clo (wN h k len) := by
  intro k' n' i' j hj
  rw [pR_wN] at hj
  rw [pC_wN]
  by_cases e : k' = k ∧ n' = pC h k
  · rw [if_pos e] at hj; cases hj
  · rw [if_neg e] at hj
    have := hc k' n' i' j hj
    split
    · rename_i e2; rw [e2] at this; omega
    · exact this
/-- a new object's place -/
def alN (al : Nat → Nat → Nat) (h : Hp) (k q : Nat) : Nat → Nat → Nat := fun k' n' => if k' = k ∧ n' = pC h k then q else al k' n'
theorem alN_old {al : Nat → Nat → Nat} {h : Hp} {k q k' n' : Nat} (hn : n' < pC h k') : alN al h k q k' n' = al k' n' := by
  unfold alN
  rw [if_neg]
  rintro ⟨rfl, rfl⟩
  omega
theorem alN_new {al : Nat → Nat → Nat} {h : Hp} {k q : Nat} : alN al h k q k (pC h k) = q := by simp [alN]
theorem map_al {al al' : Nat → Nat → Nat} {h : Hp} (hal : ∀ k n, n < pC h k → al' k n = al k n) {o : Option Nat} {k : Nat} (ho : ∀ j, o = some j → j < pC h k) : o.map (al' k) = o.map (al k) := by
  cases o with
  | none => rfl
  | some j => simp [hal k j (ho j rfl)]
theorem cv_al {al al' : Nat → Nat → Nat} {h : Hp} (hal : ∀ k n, n < pC h k → al' k n = al k n) {v : AV} (hv : okV h v) : cv al' v = cv al v := by
  cases v with
  | inl x => rfl
  | inr q => simp only [cv]; rw [map_al hal hv]
theorem cE_wN {cA : Nat → ClassId} {al al' : Nat → Nat → Nat} {h : Hp} (hc : Clo h) {k len k' n' : Nat} (hal : ∀ k n, n < pC h k → al' k n = al k n) (hn : n' < pC h k') : cE cA al' (wN h k len) k' n' = cE cA al h k' n' := by
  have hne : ¬ (k' = k ∧ n' = pC h k) := by rintro ⟨rfl, rfl⟩; omega
  have e1 : ∀ i', pI (wN h k len) k' n' i' = pI h k' n' i' := fun i' => by rw [pI_wN, if_neg hne]
  have e2 : ∀ i', pR (wN h k len) k' n' i' = pR h k' n' i' := fun i' => by rw [pR_wN, if_neg hne]
  have e3 : pL (wN h k len) k' n' = pL h k' n' := by rw [pL_wN, if_neg hne]
  by_cases hk : k' < 9
  · rw [cE_obj hk, cE_obj hk]
    have f : ∀ i', fV al' (wN h k len) k' n' i' = fV al h k' n' i' := by
      intro i'
      cases he : fty k' i' with
      | none => rw [fV_int he, fV_int he, e1]
      | some k'' =>
        rw [fV_ref he, fV_ref he, e2]
        rw [map_al hal (fun j hj => by have := hc k' n' i' j hj; simpa [rk, hk, he] using this)]
    rw [funext f]
  · cases he : ael k' with
    | none => rw [cE_arrI hk he, cE_arrI hk he, e3, funext e1]
    | some k'' =>
      rw [cE_arrR hk he, cE_arrR hk he, e3]
      have f : (fun i => (pR (wN h k len) k' n' i).map (al' k'')) = fun i => (pR h k' n' i).map (al k'') := by
        funext i'
        rw [e2, map_al hal (fun j hj => by have := hc k' n' i' j hj; simpa [rk, hk, he] using this)]
      rw [f]
end
section
/-! the judgement over kinds -/
abbrev JT : Type := Nat → List (Option AV) → List AV → Hp → Nat → Nat → Prop
def inb (x : Int32) (n : Nat) : Bool := decide (¬ x < 0) && decide (x.toNatClampNeg < n)
theorem inb_in {x : Int32} {n : Nat} (h : inb x n = true) : vp_in x n := by
  simp only [inb, Bool.and_eq_true, decide_eq_true_eq] at h
  intro q
  rcases q with q | q
  · exact h.1 q
  · omega
theorem cv_cat (al : Nat → Nat → Nat) (v : AV) : (cv al v).category = 1 := by
  cases v with
  | inl x => rfl
  | inr q => cases q with
    | mk k r => cases r <;> rfl
theorem cat_sum {al : Nat → Nat → Nat} {st : List AV} : ((st.map (cv al)).map fun v => v.category).sum = st.length := by
  induction st with
  | nil => rfl
  | cons v st ih =>
    simp only [List.map_cons, List.sum_cons, List.length_cons, cv_cat, ih]
    omega
theorem okS_c {h : Hp} {v : AV} {st : List AV} (hv : okV h v) (hs : ∀ w ∈ st, okV h w) : ∀ w ∈ v :: st, okV h w := fun w hw => by
  rcases List.mem_cons.mp hw with rfl | hw
  · exact hv
  · exact hs w hw
theorem okS_i {h : Hp} {x : Int32} {st : List AV} (hs : ∀ w ∈ st, okV h w) : ∀ w ∈ (.inl x :: st : List AV), okV h w := okS_c trivial hs
theorem okS_t {h : Hp} {v : AV} {st : List AV} (hs : ∀ w ∈ v :: st, okV h w) : ∀ w ∈ st, okV h w := fun w hw => hs w (List.mem_cons_of_mem _ hw)
theorem okS_h {h : Hp} {v : AV} {st : List AV} (hs : ∀ w ∈ v :: st, okV h w) : okV h v := hs v List.mem_cons_self
theorem okL_set {h : Hp} {ls : List (Option AV)} {i : Nat} {v : AV} (hs : ∀ (i : Nat) (v : AV), ls[i]? = some (some v) → okV h v) (hv : okV h v) : ∀ (j : Nat) (w : AV), (ls.set i (some v))[j]? = some (some w) → okV h w := by
  intro j w hw
  by_cases hj : i = j
  · subst hj
    rw [List.getElem?_set] at hw
    simp only [if_true] at hw
    split at hw
    · cases hw; exact hv
    · cases hw
  · rw [List.getElem?_set_ne hj] at hw
    exact hs j w hw
def la (al : Nat → Nat → Nat) (ls : List (Option AV)) : List (Nat × Value) := (List.range ls.length).filterMap (fun j => match ls[j]? with
  | some (some w) => some (j, cv al w)
  | _ => none)
theorem la_mem {al : Nat → Nat → Nat} {ls : List (Option AV)} {q : Nat × Value} : q ∈ la al ls ↔ ∃ w, ls[q.1]? = some (some w) ∧ q.2 = cv al w := by
  unfold la
  rw [List.mem_filterMap]
  constructor
  · rintro ⟨j, hj, hq⟩
    split at hq
    · rename_i w hw
      cases hq
      exact ⟨w, hw, rfl⟩
    · cases hq
  · rintro ⟨w, hw, e⟩
    refine ⟨q.1, List.mem_range.mpr (List.getElem?_eq_some_iff.mp hw).1, ?_⟩
    rw [hw]
    simp [← e]
theorem la_at {al : Nat → Nat → Nat} {ls : List (Option AV)} {lsA : Array Slot} {nL i : Nat} {v : AV} (h : lv_has lsA nL (la al ls)) (hl : ls[i]? = some (some v)) : lsA[i]? = some (.val (cv al v)) := h.2.2 (i, cv al v) (la_mem.mpr ⟨v, hl, rfl⟩)
theorem la_set {al : Nat → Nat → Nat} {ls : List (Option AV)} {lsA : Array Slot} {nL i : Nat} {v : AV} (h : lv_has lsA nL ((i, cv al v) :: (la al ls).filter (fun q => !(q.1 == i) && !(q.1 + 1 == i && q.2.category == 2)))) : lv_has lsA nL (la al (ls.set i (some v))) := by
  refine ⟨h.1, h.2.1, fun q hq => ?_⟩
  obtain ⟨w, hw, e⟩ := la_mem.mp hq
  obtain ⟨j, u⟩ := q
  dsimp only at hw e
  subst e
  by_cases hj : i = j
  · subst hj
    rw [List.getElem?_set] at hw
    simp only [if_true] at hw
    split at hw
    · cases hw; exact h.2.2 _ List.mem_cons_self
    · cases hw
  · rw [List.getElem?_set_ne hj] at hw
    refine h.2.2 _ (List.mem_cons_of_mem _ (List.mem_filter.mpr ⟨la_mem.mpr ⟨w, hw, rfl⟩, ?_⟩))
    simp [cv_cat, Ne.symm hj]
theorem la_al {al al' : Nat → Nat → Nat} {h : Hp} {ls : List (Option AV)} {lsA : Array Slot} {nL : Nat} (hal : ∀ k n, n < pC h k → al' k n = al k n) (hs : ∀ (i : Nat) (v : AV), ls[i]? = some (some v) → okV h v) (hl : lv_has lsA nL (la al ls)) : lv_has lsA nL (la al' ls) := by
  refine ⟨hl.1, hl.2.1, fun q hq => ?_⟩
  obtain ⟨w, hw, e⟩ := la_mem.mp hq
  rw [cv_al hal (hs _ _ hw)] at e
  exact hl.2.2 q (la_mem.mpr ⟨w, hw, e⟩)
theorem map_cv {al al' : Nat → Nat → Nat} {h : Hp} {st : List AV} (hal : ∀ k n, n < pC h k → al' k n = al k n) (hs : ∀ v ∈ st, okV h v) : st.map (cv al') = st.map (cv al) := List.map_congr_left (fun v hv => cv_al hal (hs v hv))
theorem pC_grow (h : Hp) (k len k' : Nat) : pC h k' ≤ pC (wN h k len) k' := by
  rw [pC_wN]
  split
  · rename_i e; rw [e]; omega
  · exact Nat.le_refl _
theorem okV_mono {h h' : Hp} (hm : ∀ k, pC h k ≤ pC h' k) {v : AV} (hv : okV h v) : okV h' v := by
  cases v with
  | inl x => trivial
  | inr q => exact fun n e => Nat.lt_of_lt_of_le (hv n e) (hm _)
theorem okV_grow {h : Hp} {k len : Nat} {v : AV} (hv : okV h v) : okV (wN h k len) v := okV_mono (pC_grow h k len) hv
theorem okV_new (h : Hp) (k len : Nat) : okV (wN h k len) (.inr (k, some (pC h k))) := by
  intro n e
  cases e
  show pC h k < pC (wN h k len) k
  rw [pC_wN, if_pos rfl]
  omega
theorem al_inj {D : va_G} {cA : Nat → ClassId} {A : Nat → Prop} {al : Nat → Nat → Nat} {h : Hp} {H : Heap} (g3 : Rep D cA A al h H) {k : Nat} (hk : k < 99) {r1 r2 : Option Nat} (h1 : okV h (.inr (k, r1))) (h2 : okV h (.inr (k, r2))) : (r1.map (al k) = r2.map (al k)) ↔ r1 = r2 := by
  refine ⟨fun e => ?_, fun e => by rw [e]⟩
  cases r1 with
  | none => cases r2 with
    | none => rfl
    | some y => cases e
  | some x => cases r2 with
    | none => cases e
    | some y =>
      obtain ⟨L, l1, l2, l3, l4⟩ := g3.2
      obtain ⟨q0, p1, p2⟩ := wl_get (cA := cA) (al := al) (h := h) ((l2 (k, x)).mpr ⟨h1 x rfl, hk⟩)
      obtain ⟨q1, s1, s2⟩ := wl_get (cA := cA) (al := al) (h := h) ((l2 (k, y)).mpr ⟨h2 y rfl, hk⟩)
      have := l4.1 q0 q1 _ _ p2 s2 (Option.some.inj e)
      subst this
      rw [p1] at s1
      cases s1
      rfl
theorem rep_new {D : va_G} {cA : Nat → ClassId} {A : Nat → Prop} {al : Nat → Nat → Nat} {h : Hp} {H H1 : Heap} {k len q : Nat} {e : va_E} {L : List (Nat × Nat)} (hk : k < 99) (g3 : Rep D cA A al h H) (l1 : L.Nodup) (l2 : ∀ q, q ∈ L ↔ q.2 < pC h q.1 ∧ q.1 < 99)
    (he : cE cA (alN al h k q) (wN h k len) k (pC h k) = e) (r1 : va_P D vwCl (wl cA al h L ++ [(q, e)]) H1) (r2 : va_D A (wl cA al h L ++ [(q, e)])) : Rep D cA A (alN al h k q) (wN h k len) H1 := by
  have hal : ∀ k' n', n' < pC h k' → alN al h k q k' n' = al k' n' := fun k' n' hn => alN_old hn
  have ew : wl cA (alN al h k q) (wN h k len) (L ++ [(k, pC h k)]) = wl cA al h L ++ [(q, e)] := by
    unfold wl
    rw [List.map_append]
    congr 1
    · refine List.map_congr_left (fun x hx => ?_)
      have hx' := ((l2 x).mp hx).1
      rw [hal _ _ hx', cE_wN g3.1 hal hx']
    · simp only [List.map_cons, List.map_nil, alN_new, he]
  refine ⟨g3.1.wN k len, L ++ [(k, pC h k)], ?_, fun x => ?_, by rw [ew]; exact r1, by rw [ew]; exact r2⟩
  · rw [List.nodup_append]
    refine ⟨l1, by simp, fun a ha b hb => ?_⟩
    simp only [List.mem_singleton] at hb
    subst hb
    rintro rfl
    have := ((l2 _).mp ha).1
    dsimp only at this
    omega
  · rw [List.mem_append, List.mem_singleton, l2, pC_wN]
    obtain ⟨x1, x2⟩ := x
    simp only [Prod.mk.injEq]
    split
    · rename_i e1
      subst e1
      constructor
      · rintro (z | z) <;> omega
      · intro z
        rcases Nat.lt_or_eq_of_le (Nat.le_of_lt_succ z.1) with w | w
        · exact Or.inl ⟨w, z.2⟩
        · exact Or.inr ⟨rfl, w⟩
    · rename_i e1
      constructor
      · rintro (z | z)
        · exact z
        · exact absurd z.1 e1
      · exact Or.inl
theorem rf_ok {ty : FieldType} {o : Option Nat} (ht : isRT ty = true) : narrow ty (va_rf o) = va_rf o ∧ fits ty (va_rf o) = true := by
  cases ty <;> first | (cases o <;> exact ⟨rfl, rfl⟩) | (simp [isRT] at ht)
theorem nar_bool {v : Int32} (hv : v = 0 ∨ v = 1) : vp_nar .boolean v = v := by
  rcases hv with rfl | rfl <;> decide
theorem nar_i {v : Int32} : narrow .int (.int v) = .int v ∧ fits .int (.int v) = true := ⟨rfl, rfl⟩
theorem nar_z {v : Int32} (hv : v = 0 ∨ v = 1) : narrow .boolean (.int v) = .int v ∧ fits .boolean (.int v) = true := by
  rcases hv with rfl | rfl <;> decide
theorem dflt_ok {k j : Nat} (hk : k < 9) (hj : j < nf k) : defaultValue (kY k j) = vp_V ((List.range (nf k)).map (fun i => match fty k i with | none => Value.int 0 | some _ => .null)) j := by
  have h1 := kft k hk j hj
  simp only [vp_V, List.getD_eq_getElem?_getD, List.getElem?_map, List.getElem?_range hj, Option.map_some, Option.getD_some]
  cases he : fty k j with
  | none =>
    rw [he] at h1
    rcases h1.2 h1.1 with e | e <;> rw [e] <;> rfl
  | some k2 =>
    rw [he] at h1
    have h2 := h1.1
    revert h2
    cases kY k j <;> simp [isRT, defaultValue]
/-! what the tables say of one instruction -/
def FI (own : String) (ix k i : Nat) : Prop := k < 9 ∧ i < nf k ∧ fty k i = none ∧ Cond.fieldLink own ix (kT k i).1 (kT k i).2.1 (kT k i).2.2.1 ∈ gws
def FR (own : String) (ix k i k2 : Nat) : Prop := k < 9 ∧ i < nf k ∧ fty k i = some k2 ∧ Cond.fieldLink own ix (kT k i).1 (kT k i).2.1 (kT k i).2.2.1 ∈ gws
def AI (k : Nat) : Prop := ¬ k < 9 ∧ ael k = none ∧ atx k = 0 ∧ k < 99
def AZ (k : Nat) : Prop := ¬ k < 9 ∧ ael k = none ∧ atx k = 1 ∧ k < 99
def AR (k k2 : Nat) : Prop := ¬ k < 9 ∧ ael k = some k2 ∧ k2 < 9 ∧ k < 99 ∧ ∀ cA : Nat → ClassId, (tysL cA)[atx k]? = some (cA (atx k), .object (kR k2))
def NO (own : String) (ix k : Nat) : Prop := k < 9 ∧ Cond.classLink own ix (kR k) ∈ gws ∧ Cond.instantiable (kR k) (nf k) ∈ gws ∧ Cond.initialized (kR k) ∈ gws
def yOK (y : MethodName) (np ml : Nat) : Prop := (y.cls ≠ "java/lang/invoke/MethodHandle" ∧ y.cls ≠ "java/lang/invoke/VarHandle") ∧ (parseMethodDescriptor y.desc).map (fun d => d.parameters.length) = some np ∧ ml ≤ 13
def CV (own : String) (ix : Nat) (y : MethodName) (cy : ByteArray) (ml : Nat) (rt : Option FieldType) (np : Nat) : Prop := Cond.methodLink own ix y ∈ gws ∧ Cond.instanceMethod y ∈ gws ∧ Cond.selects y.cls y y ∈ gws ∧ Cond.initialized y.cls ∈ gws ∧ Cond.code y cy ml rt ∈ gws ∧ yOK y np ml
def CS (own : String) (ix : Nat) (y : MethodName) (cy : ByteArray) (ml : Nat) (rt : Option FieldType) (np : Nat) : Prop := Cond.methodLink own ix y ∈ gws ∧ Cond.static y ∈ gws ∧ Cond.initialized y.cls ∈ gws ∧ Cond.code y cy ml rt ∈ gws ∧ yOK y np ml
def CSN (own : String) (ix : Nat) (y : MethodName) (cy : ByteArray) (ml : Nat) (rt : Option FieldType) (np : Nat) (host : String) : Prop := Cond.methodLinkNest own ix y host ∈ nestW ∧ Cond.static y ∈ gws ∧ Cond.initialized y.cls ∈ gws ∧ Cond.code y cy ml rt ∈ gws ∧ yOK y np ml
def CI (own : String) (ix : Nat) (y : MethodName) (cy : ByteArray) (ml : Nat) (np : Nat) : Prop := Cond.methodLink own ix y ∈ gws ∧ Cond.instanceMethod y ∈ gws ∧ Cond.initialized y.cls ∈ gws ∧ Cond.code y cy ml none ∈ gws ∧ (y.cls ≠ "java/lang/invoke/MethodHandle" ∧ y.cls ≠ "java/lang/invoke/VarHandle") ∧ (parseMethodDescriptor y.desc).map (fun d => d.parameters.length) = some np ∧ ml ≤ 13 ∧ y.name = "<init>"
def CIN (own : String) (ix : Nat) (y : MethodName) (cy : ByteArray) (ml : Nat) (np : Nat) (host : String) : Prop := Cond.methodLinkNest own ix y host ∈ nestW ∧ Cond.instanceMethod y ∈ gws ∧ Cond.initialized y.cls ∈ gws ∧ Cond.code y cy ml none ∈ gws ∧ (y.cls ≠ "java/lang/invoke/MethodHandle" ∧ y.cls ≠ "java/lang/invoke/VarHandle") ∧ (parseMethodDescriptor y.desc).map (fun d => d.parameters.length) = some np ∧ ml ≤ 13 ∧ y.name = "<init>"
/-! a method's contract: from h with the arguments as it answers r, and the heap is h' -/
def cP (D : va_G) (cA : Nat → ClassId) (A : Nat → Prop) (al : Nat → Nat → Nat) (as : List AV) (h : Hp) : Array Value → State → Prop := va_Pc (as.map (cv al)) (fun U => (∀ q, U.heap.size ≤ q → A q) ∧ Rep D cA A al h U.heap ∧ EV D cA U)
def cQ (D : va_G) (cA : Nat → ClassId) (A : Nat → Prop) (al : Nat → Nat → Nat) (h : Hp) (r : Option AV) (h2 : Hp) : Array Value → State → Outcome → State → Prop := fun _ st oc t => (∃ al', oc = .returned (r.map (cv al')) ∧ (∀ k n, n < pC h k → al' k n = al k n) ∧ (∀ k, pC h k ≤ pC h2 k) ∧ (∀ v, r = some v → okV h2 v) ∧ Rep D cA A al' h2 t.heap) ∧ va_F A st t
def Ctr (y : MethodName) (cy : ByteArray) (ml : Nat) (rt : Option FieldType) (d mc ms : Nat) (as : List AV) (h : Hp) (r : Option AV) (h2 : Hp) : Prop := ∀ (l : Launch) (D : va_G) (cA : Nat → ClassId) (A : Nat → Prop) (al : Nat → Nat → Nat), (∀ v ∈ as, okV h v) → Met l y (Cond.code y cy ml rt :: gws) { frames := d, cells := mc, slots := ms, locals := 32 * d } (cP D cA A al as h) (cQ D cA A al h r h2) mc ms A
theorem cQ_blind {D : va_G} {cA : Nat → ClassId} {A : Nat → Prop} {al : Nat → Nat → Nat} {as : List AV} {h : Hp} : FrameBlind (cP D cA A al as h) := fun a U g mk q => ⟨q.1, q.2.1, q.2.2.1, EV.same (s := U) rfl q.2.2.2⟩
def Cx (p : Program) (R : Room) (s : State) (m : MethodId) (args : Array Value) (meth : Method) (c : Code) (cc : ByteArray) (own : String) (nL d mc ms : Nat) (ini : Prop) (D : va_G) (cA : Nat → ClassId) (A : Nat → Prop) : Prop :=
  p.tables.exec = Jvm.exec ∧ c.code = cc ∧ c.maxLocals = nL ∧ s.vm.findClass own = some m.cls ∧ (∀ w ∈ gws, w.before args s = true) ∧ EV D cA s ∧ (∀ q, s.heap.size ≤ q → A q) ∧ d ≤ R.frames ∧ mc ≤ R.cells ∧ ms ≤ R.slots ∧ 32 * d ≤ R.locals ∧ (ini → meth.name = "<init>")
def JW (p : Program) (l : Launch) (e : Env) (R : Room) (s : State) (m : MethodId) (args : Array Value) (below : List Frame) (meth : Method) (c : Code) (nL : Nat) (D : va_G) (cA : Nat → ClassId) (A : Nat → Prop) (al0 : Nat → Nat → Nat) (h0 : Hp) (Q : State → Prop) : JT := fun pc ls st h a b =>
  ∀ (al : Nat → Nat → Nat) (H : Heap) (locs : List Loc) (lsA : Array Slot), (∀ k n, n < pC h0 k → al k n = al0 k n) → (∀ k, pC h0 k ≤ pC h k) → Rep D cA A al h H → va_S A s.heap H locs → (∀ (i : Nat) (v : AV), ls[i]? = some (some v) → okV h v) → (∀ v ∈ st, okV h v) → lv_has lsA nL (la al ls) → W p l e R s m args below meth c H locs a b Q (F0 m pc lsA (st.map (cv al)))
theorem gw_oi : Cond.instanceMethod objectInit ∈ gws := gw 57 (by decide +kernel) rfl
theorem gw_oc : Cond.code objectInit ⟨#[0xb1]⟩ 1 none ∈ gws := gw 58 (by decide +kernel) rfl
theorem gw_maxs : Cond.static Lib.Math.max.name ∈ gws := gw 95 (by decide +kernel) rfl
theorem gw_maxc : Cond.code Lib.Math.max.name Lib.Math.max.code 2 (some .int) ∈ gws := gw 96 (by decide +kernel) rfl
theorem gw_mins : Cond.static Lib.Math.min.name ∈ gws := gw 421 (by decide +kernel) rfl
theorem gw_minc : Cond.code Lib.Math.min.name Lib.Math.min.code 2 (some .int) ∈ gws := gw 422 (by decide +kernel) rfl
theorem gw_math : Cond.initialized "java/lang/Math" ∈ gws := gw 44 (by decide +kernel) rfl
theorem gw_int : Cond.arrayClass (newarray.typeOf .int) ∈ gws := gw 110 (by decide +kernel) rfl
theorem gw_boolean : Cond.arrayClass (newarray.typeOf .boolean) ∈ gws := gw 889 (by decide +kernel) rfl
def subL : List (Option AV) → List (Option AV) → Prop
  | [], _ => True
  | none :: l2, l1 => subL l2 l1.tail
  | some v :: l2, l1 => l1.head? = some (some v) ∧ subL l2 l1.tail
theorem subL_get : ∀ (l2 l1 : List (Option AV)), subL l2 l1 → ∀ (i : Nat) (v : AV), l2[i]? = some (some v) → l1[i]? = some (some v)
  | [], _, _, i, v, h => by simp at h
  | none :: l2, l1, hs, i, v, h => by
    cases i with
    | zero => simp at h
    | succ i =>
      rw [List.getElem?_cons_succ] at h
      have := subL_get l2 l1.tail hs i v h
      rwa [List.getElem?_tail] at this
  | some w :: l2, l1, hs, i, v, h => by
    cases i with
    | zero =>
      rw [List.getElem?_cons_zero] at h
      cases h
      rw [← List.head?_eq_getElem?]
      exact hs.1
    | succ i =>
      rw [List.getElem?_cons_succ] at h
      have := subL_get l2 l1.tail hs.2 i v h
      rwa [List.getElem?_tail] at this

abbrev rl_iconst (cc : ByteArray) (own : String) (nL d mc ms : Nat) (ini : Prop) (J : JT) : Prop := ∀ {pc a b : Nat} {ls : List (Option AV)} {st : List AV} {h : Hp} {n : Int} {v : Int32}, decode cc pc = .ok (.iconst n, 1) → Int32.ofInt n = v → J (pc + 1) ls (.inl v :: st) h a b → J pc ls st h a b
abbrev rl_bipush (cc : ByteArray) (own : String) (nL d mc ms : Nat) (ini : Prop) (J : JT) : Prop := ∀ {pc a b : Nat} {ls : List (Option AV)} {st : List AV} {h : Hp} {n : Int} {v : Int32}, decode cc pc = .ok (.bipush n, 2) → (Int8.ofInt n).toInt32 = v → J (pc + 2) ls (.inl v :: st) h a b → J pc ls st h a b
abbrev rl_sipush (cc : ByteArray) (own : String) (nL d mc ms : Nat) (ini : Prop) (J : JT) : Prop := ∀ {pc a b : Nat} {ls : List (Option AV)} {st : List AV} {h : Hp} {n : Int} {v : Int32}, decode cc pc = .ok (.sipush n, 3) → (Int16.ofInt n).toInt32 = v → J (pc + 3) ls (.inl v :: st) h a b → J pc ls st h a b
abbrev rl_ldc (cc : ByteArray) (own : String) (nL d mc ms : Nat) (ini : Prop) (J : JT) : Prop := ∀ {pc a b : Nat} {ls : List (Option AV)} {st : List AV} {h : Hp} {ix : Nat} {v : Int32}, decode cc pc = .ok (.ldc ix, 2) → Cond.constant own ix v ∈ gws → J (pc + 2) ls (.inl v :: st) h a b → J pc ls st h a b
abbrev rl_ldc_w (cc : ByteArray) (own : String) (nL d mc ms : Nat) (ini : Prop) (J : JT) : Prop := ∀ {pc a b : Nat} {ls : List (Option AV)} {st : List AV} {h : Hp} {ix : Nat} {v : Int32}, decode cc pc = .ok (.ldc_w ix, 3) → Cond.constant own ix v ∈ gws → J (pc + 3) ls (.inl v :: st) h a b → J pc ls st h a b
abbrev rl_iload_n (cc : ByteArray) (own : String) (nL d mc ms : Nat) (ini : Prop) (J : JT) : Prop := ∀ {pc a b : Nat} {ls : List (Option AV)} {st : List AV} {h : Hp} {q : Fin 4} {i : Nat} {x : Int32}, decode cc pc = .ok (.iload_n q, 1) → (q : Nat) = i → ls[i]? = some (some (.inl x)) → J (pc + 1) ls (.inl x :: st) h a b → J pc ls st h a b
abbrev rl_iload (cc : ByteArray) (own : String) (nL d mc ms : Nat) (ini : Prop) (J : JT) : Prop := ∀ {pc a b : Nat} {ls : List (Option AV)} {st : List AV} {h : Hp} {i : Nat} {x : Int32}, decode cc pc = .ok (.iload i, 2) → ls[i]? = some (some (.inl x)) → J (pc + 2) ls (.inl x :: st) h a b → J pc ls st h a b
abbrev rl_aload_n (cc : ByteArray) (own : String) (nL d mc ms : Nat) (ini : Prop) (J : JT) : Prop := ∀ {pc a b : Nat} {ls : List (Option AV)} {st : List AV} {h : Hp} {q : Fin 4} {i kk : Nat} {r : Option Nat}, decode cc pc = .ok (.aload_n q, 1) → (q : Nat) = i → ls[i]? = some (some (.inr (kk, r))) → J (pc + 1) ls (.inr (kk, r) :: st) h a b → J pc ls st h a b
abbrev rl_aload (cc : ByteArray) (own : String) (nL d mc ms : Nat) (ini : Prop) (J : JT) : Prop := ∀ {pc a b : Nat} {ls : List (Option AV)} {st : List AV} {h : Hp} {i kk : Nat} {r : Option Nat}, decode cc pc = .ok (.aload i, 2) → ls[i]? = some (some (.inr (kk, r))) → J (pc + 2) ls (.inr (kk, r) :: st) h a b → J pc ls st h a b
abbrev rl_istore_n (cc : ByteArray) (own : String) (nL d mc ms : Nat) (ini : Prop) (J : JT) : Prop := ∀ {pc a b : Nat} {ls : List (Option AV)} {st : List AV} {h : Hp} {q : Fin 4} {i : Nat} {x : Int32} {ls2 : List (Option AV)}, decode cc pc = .ok (.istore_n q, 1) → (q : Nat) = i → i < nL → ls.set i (some (.inl x)) = ls2 → J (pc + 1) ls2 st h a b → J pc ls (.inl x :: st) h a b
abbrev rl_istore (cc : ByteArray) (own : String) (nL d mc ms : Nat) (ini : Prop) (J : JT) : Prop := ∀ {pc a b : Nat} {ls : List (Option AV)} {st : List AV} {h : Hp} {i : Nat} {x : Int32} {ls2 : List (Option AV)}, decode cc pc = .ok (.istore i, 2) → i < nL → ls.set i (some (.inl x)) = ls2 → J (pc + 2) ls2 st h a b → J pc ls (.inl x :: st) h a b
abbrev rl_astore_n (cc : ByteArray) (own : String) (nL d mc ms : Nat) (ini : Prop) (J : JT) : Prop := ∀ {pc a b : Nat} {ls : List (Option AV)} {st : List AV} {h : Hp} {q : Fin 4} {i kk : Nat} {r : Option Nat} {ls2 : List (Option AV)}, decode cc pc = .ok (.astore_n q, 1) → (q : Nat) = i → i < nL → ls.set i (some (.inr (kk, r))) = ls2 → J (pc + 1) ls2 st h a b → J pc ls (.inr (kk, r) :: st) h a b
abbrev rl_astore (cc : ByteArray) (own : String) (nL d mc ms : Nat) (ini : Prop) (J : JT) : Prop := ∀ {pc a b : Nat} {ls : List (Option AV)} {st : List AV} {h : Hp} {i kk : Nat} {r : Option Nat} {ls2 : List (Option AV)}, decode cc pc = .ok (.astore i, 2) → i < nL → ls.set i (some (.inr (kk, r))) = ls2 → J (pc + 2) ls2 st h a b → J pc ls (.inr (kk, r) :: st) h a b
abbrev rl_iinc (cc : ByteArray) (own : String) (nL d mc ms : Nat) (ini : Prop) (J : JT) : Prop := ∀ {pc a b : Nat} {ls : List (Option AV)} {st : List AV} {h : Hp} {i : Nat} {n : Int} {x v : Int32} {ls2 : List (Option AV)}, decode cc pc = .ok (.iinc i n, 3) → ls[i]? = some (some (.inl x)) → x + Int32.ofInt n = v → i < nL → ls.set i (some (.inl v)) = ls2 → J (pc + 3) ls2 st h a b → J pc ls st h a b
abbrev rl_iadd (cc : ByteArray) (own : String) (nL d mc ms : Nat) (ini : Prop) (J : JT) : Prop := ∀ {pc a b : Nat} {ls : List (Option AV)} {st : List AV} {h : Hp} {x y : Int32}, decode cc pc = .ok (.iadd, 1) → J (pc + 1) ls (.inl (x + y) :: st) h a b → J pc ls (.inl y :: .inl x :: st) h a b
abbrev rl_isub (cc : ByteArray) (own : String) (nL d mc ms : Nat) (ini : Prop) (J : JT) : Prop := ∀ {pc a b : Nat} {ls : List (Option AV)} {st : List AV} {h : Hp} {x y : Int32}, decode cc pc = .ok (.isub, 1) → J (pc + 1) ls (.inl (x - y) :: st) h a b → J pc ls (.inl y :: .inl x :: st) h a b
abbrev rl_imul (cc : ByteArray) (own : String) (nL d mc ms : Nat) (ini : Prop) (J : JT) : Prop := ∀ {pc a b : Nat} {ls : List (Option AV)} {st : List AV} {h : Hp} {x y : Int32}, decode cc pc = .ok (.imul, 1) → J (pc + 1) ls (.inl (x * y) :: st) h a b → J pc ls (.inl y :: .inl x :: st) h a b
abbrev rl_iand (cc : ByteArray) (own : String) (nL d mc ms : Nat) (ini : Prop) (J : JT) : Prop := ∀ {pc a b : Nat} {ls : List (Option AV)} {st : List AV} {h : Hp} {x y : Int32}, decode cc pc = .ok (.iand, 1) → J (pc + 1) ls (.inl (x &&& y) :: st) h a b → J pc ls (.inl y :: .inl x :: st) h a b
abbrev rl_ior (cc : ByteArray) (own : String) (nL d mc ms : Nat) (ini : Prop) (J : JT) : Prop := ∀ {pc a b : Nat} {ls : List (Option AV)} {st : List AV} {h : Hp} {x y : Int32}, decode cc pc = .ok (.ior, 1) → J (pc + 1) ls (.inl (x ||| y) :: st) h a b → J pc ls (.inl y :: .inl x :: st) h a b
abbrev rl_ishl (cc : ByteArray) (own : String) (nL d mc ms : Nat) (ini : Prop) (J : JT) : Prop := ∀ {pc a b : Nat} {ls : List (Option AV)} {st : List AV} {h : Hp} {x y : Int32}, decode cc pc = .ok (.ishl, 1) → J (pc + 1) ls (.inl (x <<< (y &&& 31)) :: st) h a b → J pc ls (.inl y :: .inl x :: st) h a b
abbrev rl_ishr (cc : ByteArray) (own : String) (nL d mc ms : Nat) (ini : Prop) (J : JT) : Prop := ∀ {pc a b : Nat} {ls : List (Option AV)} {st : List AV} {h : Hp} {x y : Int32}, decode cc pc = .ok (.ishr, 1) → J (pc + 1) ls (.inl (x >>> (y &&& 31)) :: st) h a b → J pc ls (.inl y :: .inl x :: st) h a b
abbrev rl_idiv (cc : ByteArray) (own : String) (nL d mc ms : Nat) (ini : Prop) (J : JT) : Prop := ∀ {pc a b : Nat} {ls : List (Option AV)} {st : List AV} {h : Hp} {x y : Int32}, decode cc pc = .ok (.idiv, 1) → ¬ y = 0 → J (pc + 1) ls (.inl (x / y) :: st) h a b → J pc ls (.inl y :: .inl x :: st) h a b
abbrev rl_irem (cc : ByteArray) (own : String) (nL d mc ms : Nat) (ini : Prop) (J : JT) : Prop := ∀ {pc a b : Nat} {ls : List (Option AV)} {st : List AV} {h : Hp} {x y : Int32}, decode cc pc = .ok (.irem, 1) → ¬ y = 0 → J (pc + 1) ls (.inl (x - x / y * y) :: st) h a b → J pc ls (.inl y :: .inl x :: st) h a b
abbrev rl_dup (cc : ByteArray) (own : String) (nL d mc ms : Nat) (ini : Prop) (J : JT) : Prop := ∀ {pc a b : Nat} {ls : List (Option AV)} {st : List AV} {h : Hp} {v : AV}, decode cc pc = .ok (.dup, 1) → J (pc + 1) ls (v :: v :: st) h a b → J pc ls (v :: st) h a b
abbrev rl_dup2 (cc : ByteArray) (own : String) (nL d mc ms : Nat) (ini : Prop) (J : JT) : Prop := ∀ {pc a b : Nat} {ls : List (Option AV)} {st : List AV} {h : Hp} {v w : AV}, decode cc pc = .ok (.dup2, 1) → J (pc + 1) ls (v :: w :: v :: w :: st) h a b → J pc ls (v :: w :: st) h a b
abbrev rl_pop (cc : ByteArray) (own : String) (nL d mc ms : Nat) (ini : Prop) (J : JT) : Prop := ∀ {pc a b : Nat} {ls : List (Option AV)} {st : List AV} {h : Hp} {v : AV}, decode cc pc = .ok (.pop, 1) → J (pc + 1) ls st h a b → J pc ls (v :: st) h a b
abbrev rl_if_eq (cc : ByteArray) (own : String) (nL d mc ms : Nat) (ini : Prop) (J : JT) : Prop := ∀ {pc a b : Nat} {ls : List (Option AV)} {st : List AV} {h : Hp} {x : Int32} {off : Int} {tgt : Nat}, decode cc pc = .ok (.ifCond .eq off, 3) → (pc : Int) + off = (tgt : Int) → (x = 0 → J tgt ls st h a b) → (¬ x = 0 → J (pc + 3) ls st h a b) → J pc ls (.inl x :: st) h a b
abbrev rl_icmp_eq (cc : ByteArray) (own : String) (nL d mc ms : Nat) (ini : Prop) (J : JT) : Prop := ∀ {pc a b : Nat} {ls : List (Option AV)} {st : List AV} {h : Hp} {x y : Int32} {off : Int} {tgt : Nat}, decode cc pc = .ok (.if_icmp .eq off, 3) → (pc : Int) + off = (tgt : Int) → (x = y → J tgt ls st h a b) → (¬ x = y → J (pc + 3) ls st h a b) → J pc ls (.inl y :: .inl x :: st) h a b
abbrev rl_if_ne (cc : ByteArray) (own : String) (nL d mc ms : Nat) (ini : Prop) (J : JT) : Prop := ∀ {pc a b : Nat} {ls : List (Option AV)} {st : List AV} {h : Hp} {x : Int32} {off : Int} {tgt : Nat}, decode cc pc = .ok (.ifCond .ne off, 3) → (pc : Int) + off = (tgt : Int) → (¬ x = 0 → J tgt ls st h a b) → (x = 0 → J (pc + 3) ls st h a b) → J pc ls (.inl x :: st) h a b
abbrev rl_icmp_ne (cc : ByteArray) (own : String) (nL d mc ms : Nat) (ini : Prop) (J : JT) : Prop := ∀ {pc a b : Nat} {ls : List (Option AV)} {st : List AV} {h : Hp} {x y : Int32} {off : Int} {tgt : Nat}, decode cc pc = .ok (.if_icmp .ne off, 3) → (pc : Int) + off = (tgt : Int) → (¬ x = y → J tgt ls st h a b) → (x = y → J (pc + 3) ls st h a b) → J pc ls (.inl y :: .inl x :: st) h a b
abbrev rl_if_lt (cc : ByteArray) (own : String) (nL d mc ms : Nat) (ini : Prop) (J : JT) : Prop := ∀ {pc a b : Nat} {ls : List (Option AV)} {st : List AV} {h : Hp} {x : Int32} {off : Int} {tgt : Nat}, decode cc pc = .ok (.ifCond .lt off, 3) → (pc : Int) + off = (tgt : Int) → (x < 0 → J tgt ls st h a b) → (¬ x < 0 → J (pc + 3) ls st h a b) → J pc ls (.inl x :: st) h a b
abbrev rl_icmp_lt (cc : ByteArray) (own : String) (nL d mc ms : Nat) (ini : Prop) (J : JT) : Prop := ∀ {pc a b : Nat} {ls : List (Option AV)} {st : List AV} {h : Hp} {x y : Int32} {off : Int} {tgt : Nat}, decode cc pc = .ok (.if_icmp .lt off, 3) → (pc : Int) + off = (tgt : Int) → (x < y → J tgt ls st h a b) → (¬ x < y → J (pc + 3) ls st h a b) → J pc ls (.inl y :: .inl x :: st) h a b
abbrev rl_if_ge (cc : ByteArray) (own : String) (nL d mc ms : Nat) (ini : Prop) (J : JT) : Prop := ∀ {pc a b : Nat} {ls : List (Option AV)} {st : List AV} {h : Hp} {x : Int32} {off : Int} {tgt : Nat}, decode cc pc = .ok (.ifCond .ge off, 3) → (pc : Int) + off = (tgt : Int) → (0 ≤ x → J tgt ls st h a b) → (¬ 0 ≤ x → J (pc + 3) ls st h a b) → J pc ls (.inl x :: st) h a b
abbrev rl_icmp_ge (cc : ByteArray) (own : String) (nL d mc ms : Nat) (ini : Prop) (J : JT) : Prop := ∀ {pc a b : Nat} {ls : List (Option AV)} {st : List AV} {h : Hp} {x y : Int32} {off : Int} {tgt : Nat}, decode cc pc = .ok (.if_icmp .ge off, 3) → (pc : Int) + off = (tgt : Int) → (y ≤ x → J tgt ls st h a b) → (¬ y ≤ x → J (pc + 3) ls st h a b) → J pc ls (.inl y :: .inl x :: st) h a b
abbrev rl_if_gt (cc : ByteArray) (own : String) (nL d mc ms : Nat) (ini : Prop) (J : JT) : Prop := ∀ {pc a b : Nat} {ls : List (Option AV)} {st : List AV} {h : Hp} {x : Int32} {off : Int} {tgt : Nat}, decode cc pc = .ok (.ifCond .gt off, 3) → (pc : Int) + off = (tgt : Int) → (0 < x → J tgt ls st h a b) → (¬ 0 < x → J (pc + 3) ls st h a b) → J pc ls (.inl x :: st) h a b
abbrev rl_icmp_gt (cc : ByteArray) (own : String) (nL d mc ms : Nat) (ini : Prop) (J : JT) : Prop := ∀ {pc a b : Nat} {ls : List (Option AV)} {st : List AV} {h : Hp} {x y : Int32} {off : Int} {tgt : Nat}, decode cc pc = .ok (.if_icmp .gt off, 3) → (pc : Int) + off = (tgt : Int) → (y < x → J tgt ls st h a b) → (¬ y < x → J (pc + 3) ls st h a b) → J pc ls (.inl y :: .inl x :: st) h a b
abbrev rl_if_le (cc : ByteArray) (own : String) (nL d mc ms : Nat) (ini : Prop) (J : JT) : Prop := ∀ {pc a b : Nat} {ls : List (Option AV)} {st : List AV} {h : Hp} {x : Int32} {off : Int} {tgt : Nat}, decode cc pc = .ok (.ifCond .le off, 3) → (pc : Int) + off = (tgt : Int) → (x ≤ 0 → J tgt ls st h a b) → (¬ x ≤ 0 → J (pc + 3) ls st h a b) → J pc ls (.inl x :: st) h a b
abbrev rl_icmp_le (cc : ByteArray) (own : String) (nL d mc ms : Nat) (ini : Prop) (J : JT) : Prop := ∀ {pc a b : Nat} {ls : List (Option AV)} {st : List AV} {h : Hp} {x y : Int32} {off : Int} {tgt : Nat}, decode cc pc = .ok (.if_icmp .le off, 3) → (pc : Int) + off = (tgt : Int) → (x ≤ y → J tgt ls st h a b) → (¬ x ≤ y → J (pc + 3) ls st h a b) → J pc ls (.inl y :: .inl x :: st) h a b
abbrev rl_goto (cc : ByteArray) (own : String) (nL d mc ms : Nat) (ini : Prop) (J : JT) : Prop := ∀ {pc a b : Nat} {ls : List (Option AV)} {st : List AV} {h : Hp} {off : Int} {tgt : Nat}, decode cc pc = .ok (.goto off, 3) → (pc : Int) + off = (tgt : Int) → J tgt ls st h a b → J pc ls st h a b
abbrev rl_forget (cc : ByteArray) (own : String) (nL d mc ms : Nat) (ini : Prop) (J : JT) : Prop := ∀ {pc a b : Nat} {ls : List (Option AV)} {st : List AV} {h : Hp} {ls2 : List (Option AV)}, subL ls2 ls → J pc ls2 st h a b → J pc ls st h a b
abbrev rl_null (cc : ByteArray) (own : String) (nL d mc ms : Nat) (ini : Prop) (J : JT) : Prop := ∀ {pc a b : Nat} {ls : List (Option AV)} {st : List AV} {h : Hp} {kk : Nat}, decode cc pc = .ok (.aconst_null, 1) → J (pc + 1) ls (.inr (kk, none) :: st) h a b → J pc ls st h a b
abbrev rl_ifnull (cc : ByteArray) (own : String) (nL d mc ms : Nat) (ini : Prop) (J : JT) : Prop := ∀ {pc a b : Nat} {ls : List (Option AV)} {st : List AV} {h : Hp} {kk : Nat} {r : Option Nat} {off : Int} {tgt : Nat}, decode cc pc = .ok (.ifnull off, 3) → (pc : Int) + off = (tgt : Int) → (r = none → J tgt ls st h a b) → (∀ n, r = some n → J (pc + 3) ls st h a b) → J pc ls (.inr (kk, r) :: st) h a b
abbrev rl_ifnonnull (cc : ByteArray) (own : String) (nL d mc ms : Nat) (ini : Prop) (J : JT) : Prop := ∀ {pc a b : Nat} {ls : List (Option AV)} {st : List AV} {h : Hp} {kk : Nat} {r : Option Nat} {off : Int} {tgt : Nat}, decode cc pc = .ok (.ifnonnull off, 3) → (pc : Int) + off = (tgt : Int) → (∀ n, r = some n → J tgt ls st h a b) → (r = none → J (pc + 3) ls st h a b) → J pc ls (.inr (kk, r) :: st) h a b
abbrev rl_acmp_eq (cc : ByteArray) (own : String) (nL d mc ms : Nat) (ini : Prop) (J : JT) : Prop := ∀ {pc a b : Nat} {ls : List (Option AV)} {st : List AV} {h : Hp} {kk : Nat} {r1 r2 : Option Nat} {off : Int} {tgt : Nat}, decode cc pc = .ok (.if_acmp .eq off, 3) → kk < 99 → (pc : Int) + off = (tgt : Int) → (r1 = r2 → J tgt ls st h a b) → (¬ r1 = r2 → J (pc + 3) ls st h a b) → J pc ls (.inr (kk, r2) :: .inr (kk, r1) :: st) h a b
abbrev rl_acmp_ne (cc : ByteArray) (own : String) (nL d mc ms : Nat) (ini : Prop) (J : JT) : Prop := ∀ {pc a b : Nat} {ls : List (Option AV)} {st : List AV} {h : Hp} {kk : Nat} {r1 r2 : Option Nat} {off : Int} {tgt : Nat}, decode cc pc = .ok (.if_acmp .ne off, 3) → kk < 99 → (pc : Int) + off = (tgt : Int) → (¬ r1 = r2 → J tgt ls st h a b) → (r1 = r2 → J (pc + 3) ls st h a b) → J pc ls (.inr (kk, r2) :: .inr (kk, r1) :: st) h a b
abbrev rl_tabIn (cc : ByteArray) (own : String) (nL d mc ms : Nat) (ini : Prop) (J : JT) : Prop := ∀ {pc a b : Nat} {ls : List (Option AV)} {st : List AV} {h : Hp} {dflt lo hi : Int} {offs : Array Int} {len : Nat} {x : Int32} {off : Int} {tgt : Nat}, decode cc pc = .ok (.tableswitch dflt lo hi offs, len) → ¬ x.toInt < lo → ¬ hi < x.toInt → offs[(x.toInt - lo).toNat]? = some off → (pc : Int) + off = (tgt : Int) → J tgt ls st h a b → J pc ls (.inl x :: st) h a b
abbrev rl_tabOut (cc : ByteArray) (own : String) (nL d mc ms : Nat) (ini : Prop) (J : JT) : Prop := ∀ {pc a b : Nat} {ls : List (Option AV)} {st : List AV} {h : Hp} {dflt lo hi : Int} {offs : Array Int} {len : Nat} {x : Int32} {tgt : Nat}, decode cc pc = .ok (.tableswitch dflt lo hi offs, len) → (x.toInt < lo ∨ hi < x.toInt) → (pc : Int) + dflt = (tgt : Int) → J tgt ls st h a b → J pc ls (.inl x :: st) h a b
abbrev rl_getI (cc : ByteArray) (own : String) (nL d mc ms : Nat) (ini : Prop) (J : JT) : Prop := ∀ {pc a b : Nat} {ls : List (Option AV)} {st : List AV} {h : Hp} {ix kk i n : Nat} {r : Option Nat}, decode cc pc = .ok (.getfield ix, 3) → FI own ix kk i → r = some n → J (pc + 3) ls (.inl (pI h kk n i) :: st) h a b → J pc ls (.inr (kk, r) :: st) h a b
abbrev rl_getR (cc : ByteArray) (own : String) (nL d mc ms : Nat) (ini : Prop) (J : JT) : Prop := ∀ {pc a b : Nat} {ls : List (Option AV)} {st : List AV} {h : Hp} {ix kk i n k2 : Nat} {r : Option Nat}, decode cc pc = .ok (.getfield ix, 3) → FR own ix kk i k2 → r = some n → J (pc + 3) ls (.inr (k2, pR h kk n i) :: st) h a b → J pc ls (.inr (kk, r) :: st) h a b
abbrev rl_putI (cc : ByteArray) (own : String) (nL d mc ms : Nat) (ini : Prop) (J : JT) : Prop := ∀ {pc a b : Nat} {ls : List (Option AV)} {st : List AV} {h : Hp} {ix kk i n : Nat} {r : Option Nat} {v : Int32}, decode cc pc = .ok (.putfield ix, 3) → FI own ix kk i → (kT kk i).2.2.2 = false → (narrow (kY kk i) (.int v) = .int v ∧ fits (kY kk i) (.int v) = true) → r = some n → J (pc + 3) ls st (wI h kk n i v) a b → J pc ls (.inl v :: .inr (kk, r) :: st) h a b
abbrev rl_putIF (cc : ByteArray) (own : String) (nL d mc ms : Nat) (ini : Prop) (J : JT) : Prop := ∀ {pc a b : Nat} {ls : List (Option AV)} {st : List AV} {h : Hp} {ix kk i n : Nat} {r : Option Nat} {v : Int32}, decode cc pc = .ok (.putfield ix, 3) → FI own ix kk i → (kT kk i).2.2.2 = true → kR kk = own → ini → (narrow (kY kk i) (.int v) = .int v ∧ fits (kY kk i) (.int v) = true) → r = some n → J (pc + 3) ls st (wI h kk n i v) a b → J pc ls (.inl v :: .inr (kk, r) :: st) h a b
abbrev rl_putR (cc : ByteArray) (own : String) (nL d mc ms : Nat) (ini : Prop) (J : JT) : Prop := ∀ {pc a b : Nat} {ls : List (Option AV)} {st : List AV} {h : Hp} {ix kk i n k2 k3 : Nat} {r o : Option Nat}, decode cc pc = .ok (.putfield ix, 3) → FR own ix kk i k2 → (kT kk i).2.2.2 = false → (o = none ∨ k3 = k2) → r = some n → J (pc + 3) ls st (wR h kk n i o) a b → J pc ls (.inr (k3, o) :: .inr (kk, r) :: st) h a b
abbrev rl_putRF (cc : ByteArray) (own : String) (nL d mc ms : Nat) (ini : Prop) (J : JT) : Prop := ∀ {pc a b : Nat} {ls : List (Option AV)} {st : List AV} {h : Hp} {ix kk i n k2 k3 : Nat} {r o : Option Nat}, decode cc pc = .ok (.putfield ix, 3) → FR own ix kk i k2 → (kT kk i).2.2.2 = true → kR kk = own → ini → (o = none ∨ k3 = k2) → r = some n → J (pc + 3) ls st (wR h kk n i o) a b → J pc ls (.inr (k3, o) :: .inr (kk, r) :: st) h a b
abbrev rl_iald (cc : ByteArray) (own : String) (nL d mc ms : Nat) (ini : Prop) (J : JT) : Prop := ∀ {pc a b : Nat} {ls : List (Option AV)} {st : List AV} {h : Hp} {kk n : Nat} {r : Option Nat} {x : Int32}, decode cc pc = .ok (.iaload, 1) → AI kk → r = some n → inb x (pL h kk n) = true → J (pc + 1) ls (.inl (pI h kk n x.toNatClampNeg) :: st) h a b → J pc ls (.inl x :: .inr (kk, r) :: st) h a b
abbrev rl_zald (cc : ByteArray) (own : String) (nL d mc ms : Nat) (ini : Prop) (J : JT) : Prop := ∀ {pc a b : Nat} {ls : List (Option AV)} {st : List AV} {h : Hp} {kk n : Nat} {r : Option Nat} {x : Int32}, decode cc pc = .ok (.baload, 1) → AZ kk → r = some n → inb x (pL h kk n) = true → J (pc + 1) ls (.inl (pI h kk n x.toNatClampNeg) :: st) h a b → J pc ls (.inl x :: .inr (kk, r) :: st) h a b
abbrev rl_alen (cc : ByteArray) (own : String) (nL d mc ms : Nat) (ini : Prop) (J : JT) : Prop := ∀ {pc a b : Nat} {ls : List (Option AV)} {st : List AV} {h : Hp} {kk n : Nat} {r : Option Nat}, decode cc pc = .ok (.arraylength, 1) → AI kk → r = some n → J (pc + 1) ls (.inl (nI (pL h kk n)) :: st) h a b → J pc ls (.inr (kk, r) :: st) h a b
abbrev rl_aald (cc : ByteArray) (own : String) (nL d mc ms : Nat) (ini : Prop) (J : JT) : Prop := ∀ {pc a b : Nat} {ls : List (Option AV)} {st : List AV} {h : Hp} {kk n k2 : Nat} {r : Option Nat} {x : Int32}, decode cc pc = .ok (.aaload, 1) → AR kk k2 → r = some n → inb x (pL h kk n) = true → J (pc + 1) ls (.inr (k2, pR h kk n x.toNatClampNeg) :: st) h a b → J pc ls (.inl x :: .inr (kk, r) :: st) h a b
abbrev rl_iast (cc : ByteArray) (own : String) (nL d mc ms : Nat) (ini : Prop) (J : JT) : Prop := ∀ {pc a b : Nat} {ls : List (Option AV)} {st : List AV} {h : Hp} {kk n : Nat} {r : Option Nat} {x v : Int32}, decode cc pc = .ok (.iastore, 1) → AI kk → r = some n → inb x (pL h kk n) = true → J (pc + 1) ls st (wI h kk n x.toNatClampNeg v) a b → J pc ls (.inl v :: .inl x :: .inr (kk, r) :: st) h a b
abbrev rl_zast (cc : ByteArray) (own : String) (nL d mc ms : Nat) (ini : Prop) (J : JT) : Prop := ∀ {pc a b : Nat} {ls : List (Option AV)} {st : List AV} {h : Hp} {kk n : Nat} {r : Option Nat} {x v : Int32}, decode cc pc = .ok (.bastore, 1) → AZ kk → r = some n → inb x (pL h kk n) = true → (v = 0 ∨ v = 1) → J (pc + 1) ls st (wI h kk n x.toNatClampNeg v) a b → J pc ls (.inl v :: .inl x :: .inr (kk, r) :: st) h a b
abbrev rl_aast (cc : ByteArray) (own : String) (nL d mc ms : Nat) (ini : Prop) (J : JT) : Prop := ∀ {pc a b : Nat} {ls : List (Option AV)} {st : List AV} {h : Hp} {kk n k2 : Nat} {r o : Option Nat} {x : Int32}, decode cc pc = .ok (.aastore, 1) → AR kk k2 → r = some n → inb x (pL h kk n) = true → J (pc + 1) ls st (wR h kk n x.toNatClampNeg o) a b → J pc ls (.inr (k2, o) :: .inl x :: .inr (kk, r) :: st) h a b
abbrev rl_new (cc : ByteArray) (own : String) (nL d mc ms : Nat) (ini : Prop) (J : JT) : Prop := ∀ {pc a b : Nat} {ls : List (Option AV)} {st : List AV} {h : Hp} {ix kk : Nat}, decode cc pc = .ok (.new ix, 3) → NO own ix kk → a + 1 ≤ mc → b + nf kk ≤ ms → J (pc + 3) ls (.inr (kk, some (pC h kk)) :: st) (wN h kk 0) (a + 1) (b + nf kk) → J pc ls st h a b
abbrev rl_newa_int (cc : ByteArray) (own : String) (nL d mc ms : Nat) (ini : Prop) (J : JT) : Prop := ∀ {pc a b : Nat} {ls : List (Option AV)} {st : List AV} {h : Hp} {kk N : Nat} {n : Int32}, decode cc pc = .ok (.newarray .int, 2) → AI kk → ¬ n < 0 → n.toNatClampNeg ≤ N → N ≤ 1000 → a + 1 ≤ mc → b + N ≤ ms → J (pc + 2) ls (.inr (kk, some (pC h kk)) :: st) (wN h kk n.toNatClampNeg) (a + 1) (b + N) → J pc ls (.inl n :: st) h a b
abbrev rl_newa_boolean (cc : ByteArray) (own : String) (nL d mc ms : Nat) (ini : Prop) (J : JT) : Prop := ∀ {pc a b : Nat} {ls : List (Option AV)} {st : List AV} {h : Hp} {kk N : Nat} {n : Int32}, decode cc pc = .ok (.newarray .boolean, 2) → AZ kk → ¬ n < 0 → n.toNatClampNeg ≤ N → N ≤ 1000 → a + 1 ≤ mc → b + N ≤ ms → J (pc + 2) ls (.inr (kk, some (pC h kk)) :: st) (wN h kk n.toNatClampNeg) (a + 1) (b + N) → J pc ls (.inl n :: st) h a b
abbrev rl_newq (cc : ByteArray) (own : String) (nL d mc ms : Nat) (ini : Prop) (J : JT) : Prop := ∀ {pc a b : Nat} {ls : List (Option AV)} {st : List AV} {h : Hp} {kk k2 ix N : Nat} {n : Int32}, decode cc pc = .ok (.anewarray ix, 3) → AR kk k2 → (Cond.classLink own ix (kR k2) ∈ gws ∧ kR k2 ∈ aoW) → ¬ n < 0 → n.toNatClampNeg ≤ N → N ≤ 1000 → a + 1 ≤ mc → b + N ≤ ms → J (pc + 3) ls (.inr (kk, some (pC h kk)) :: st) (wN h kk n.toNatClampNeg) (a + 1) (b + N) → J pc ls (.inl n :: st) h a b
abbrev rl_objInit (cc : ByteArray) (own : String) (nL d mc ms : Nat) (ini : Prop) (J : JT) : Prop := ∀ {pc a b : Nat} {ls : List (Option AV)} {st : List AV} {h : Hp} {ix kk n : Nat} {r : Option Nat}, decode cc pc = .ok (.invokespecial ix, 3) → Cond.methodLink own ix objectInit ∈ gws → r = some n → 1 ≤ d → st.length ≤ 8 → J (pc + 3) ls st h a b → J pc ls (.inr (kk, r) :: st) h a b
abbrev rl_mmax (cc : ByteArray) (own : String) (nL d mc ms : Nat) (ini : Prop) (J : JT) : Prop := ∀ {pc a b : Nat} {ls : List (Option AV)} {st : List AV} {h : Hp} {ix : Nat} {x y : Int32}, decode cc pc = .ok (.invokestatic ix, 3) → Cond.methodLink own ix Lib.Math.max.name ∈ gws → 1 ≤ d → st.length ≤ 8 → a ≤ mc → b ≤ ms → J (pc + 3) ls (.inl (if x < y then y else x) :: st) h a b → J pc ls (.inl y :: .inl x :: st) h a b
abbrev rl_mmin (cc : ByteArray) (own : String) (nL d mc ms : Nat) (ini : Prop) (J : JT) : Prop := ∀ {pc a b : Nat} {ls : List (Option AV)} {st : List AV} {h : Hp} {ix : Nat} {x y : Int32}, decode cc pc = .ok (.invokestatic ix, 3) → Cond.methodLink own ix Lib.Math.min.name ∈ gws → 1 ≤ d → st.length ≤ 8 → a ≤ mc → b ≤ ms → J (pc + 3) ls (.inl (if y < x then y else x) :: st) h a b → J pc ls (.inl y :: .inl x :: st) h a b
abbrev rl_callV (cc : ByteArray) (own : String) (nL d mc ms : Nat) (ini : Prop) (J : JT) : Prop := ∀ {pc a b : Nat} {ls : List (Option AV)} {st : List AV} {h : Hp} {ix ml np d2 mc2 ms2 : Nat} {y : MethodName} {cy : ByteArray} {rt : Option FieldType} {as : List AV} {h2 : Hp} {stk : List AV} {kk n : Nat} {ro : Option Nat} {v : AV}, decode cc pc = .ok (.invokevirtual ix, 3) → CV own ix y cy ml rt np → (kk < 9 ∧ kR kk = y.cls) → ro = some n → Ctr y cy ml rt d2 mc2 ms2 (.inr (kk, some n) :: as) h (some v) h2 → d2 + 1 ≤ d → a + mc2 ≤ mc → b + ms2 ≤ ms → as.length = np → st.length ≤ 8 → as.reverse ++ .inr (kk, ro) :: st = stk → J (pc + 3) ls (v :: st) h2 (a + mc2) (b + ms2) → J pc ls stk h a b
abbrev rl_callS (cc : ByteArray) (own : String) (nL d mc ms : Nat) (ini : Prop) (J : JT) : Prop := ∀ {pc a b : Nat} {ls : List (Option AV)} {st : List AV} {h : Hp} {ix ml np d2 mc2 ms2 : Nat} {y : MethodName} {cy : ByteArray} {rt : Option FieldType} {as : List AV} {h2 : Hp} {stk : List AV} {v : AV}, decode cc pc = .ok (.invokestatic ix, 3) → CS own ix y cy ml rt np → Ctr y cy ml rt d2 mc2 ms2 as h (some v) h2 → d2 + 1 ≤ d → a + mc2 ≤ mc → b + ms2 ≤ ms → as.length = np → st.length ≤ 8 → as.reverse ++ st = stk → J (pc + 3) ls (v :: st) h2 (a + mc2) (b + ms2) → J pc ls stk h a b
abbrev rl_callSN (cc : ByteArray) (own : String) (nL d mc ms : Nat) (ini : Prop) (J : JT) : Prop := ∀ {pc a b : Nat} {ls : List (Option AV)} {st : List AV} {h : Hp} {ix ml np d2 mc2 ms2 : Nat} {y : MethodName} {cy : ByteArray} {rt : Option FieldType} {as : List AV} {h2 : Hp} {stk : List AV} {host : String} {v : AV}, decode cc pc = .ok (.invokestatic ix, 3) → CSN own ix y cy ml rt np host → Ctr y cy ml rt d2 mc2 ms2 as h (some v) h2 → d2 + 1 ≤ d → a + mc2 ≤ mc → b + ms2 ≤ ms → as.length = np → st.length ≤ 8 → as.reverse ++ st = stk → J (pc + 3) ls (v :: st) h2 (a + mc2) (b + ms2) → J pc ls stk h a b
abbrev rl_callV0 (cc : ByteArray) (own : String) (nL d mc ms : Nat) (ini : Prop) (J : JT) : Prop := ∀ {pc a b : Nat} {ls : List (Option AV)} {st : List AV} {h : Hp} {ix ml np d2 mc2 ms2 : Nat} {y : MethodName} {cy : ByteArray} {rt : Option FieldType} {as : List AV} {h2 : Hp} {stk : List AV} {kk n : Nat} {ro : Option Nat}, decode cc pc = .ok (.invokevirtual ix, 3) → CV own ix y cy ml rt np → (kk < 9 ∧ kR kk = y.cls) → ro = some n → Ctr y cy ml rt d2 mc2 ms2 (.inr (kk, some n) :: as) h none h2 → d2 + 1 ≤ d → a + mc2 ≤ mc → b + ms2 ≤ ms → as.length = np → st.length ≤ 8 → as.reverse ++ .inr (kk, ro) :: st = stk → J (pc + 3) ls st h2 (a + mc2) (b + ms2) → J pc ls stk h a b
abbrev rl_callS0 (cc : ByteArray) (own : String) (nL d mc ms : Nat) (ini : Prop) (J : JT) : Prop := ∀ {pc a b : Nat} {ls : List (Option AV)} {st : List AV} {h : Hp} {ix ml np d2 mc2 ms2 : Nat} {y : MethodName} {cy : ByteArray} {rt : Option FieldType} {as : List AV} {h2 : Hp} {stk : List AV}, decode cc pc = .ok (.invokestatic ix, 3) → CS own ix y cy ml rt np → Ctr y cy ml rt d2 mc2 ms2 as h none h2 → d2 + 1 ≤ d → a + mc2 ≤ mc → b + ms2 ≤ ms → as.length = np → st.length ≤ 8 → as.reverse ++ st = stk → J (pc + 3) ls st h2 (a + mc2) (b + ms2) → J pc ls stk h a b
abbrev rl_callSN0 (cc : ByteArray) (own : String) (nL d mc ms : Nat) (ini : Prop) (J : JT) : Prop := ∀ {pc a b : Nat} {ls : List (Option AV)} {st : List AV} {h : Hp} {ix ml np d2 mc2 ms2 : Nat} {y : MethodName} {cy : ByteArray} {rt : Option FieldType} {as : List AV} {h2 : Hp} {stk : List AV} {host : String}, decode cc pc = .ok (.invokestatic ix, 3) → CSN own ix y cy ml rt np host → Ctr y cy ml rt d2 mc2 ms2 as h none h2 → d2 + 1 ≤ d → a + mc2 ≤ mc → b + ms2 ≤ ms → as.length = np → st.length ≤ 8 → as.reverse ++ st = stk → J (pc + 3) ls st h2 (a + mc2) (b + ms2) → J pc ls stk h a b
abbrev rl_callI (cc : ByteArray) (own : String) (nL d mc ms : Nat) (ini : Prop) (J : JT) : Prop := ∀ {pc a b : Nat} {ls : List (Option AV)} {st : List AV} {h : Hp} {ix ml np d2 mc2 ms2 : Nat} {y : MethodName} {cy : ByteArray} {as : List AV} {h2 : Hp} {stk : List AV} {kk n : Nat} {ro : Option Nat}, decode cc pc = .ok (.invokespecial ix, 3) → CI own ix y cy ml np → ro = some n → Ctr y cy ml none d2 mc2 ms2 (.inr (kk, some n) :: as) h none h2 → d2 + 1 ≤ d → a + mc2 ≤ mc → b + ms2 ≤ ms → as.length = np → st.length ≤ 8 → as.reverse ++ .inr (kk, ro) :: st = stk → J (pc + 3) ls st h2 (a + mc2) (b + ms2) → J pc ls stk h a b
abbrev rl_callIN (cc : ByteArray) (own : String) (nL d mc ms : Nat) (ini : Prop) (J : JT) : Prop := ∀ {pc a b : Nat} {ls : List (Option AV)} {st : List AV} {h : Hp} {ix ml np d2 mc2 ms2 : Nat} {y : MethodName} {cy : ByteArray} {as : List AV} {h2 : Hp} {stk : List AV} {kk n : Nat} {ro : Option Nat} {host : String}, decode cc pc = .ok (.invokespecial ix, 3) → CIN own ix y cy ml np host → ro = some n → Ctr y cy ml none d2 mc2 ms2 (.inr (kk, some n) :: as) h none h2 → d2 + 1 ≤ d → a + mc2 ≤ mc → b + ms2 ≤ ms → as.length = np → st.length ≤ 8 → as.reverse ++ .inr (kk, ro) :: st = stk → J (pc + 3) ls st h2 (a + mc2) (b + ms2) → J pc ls stk h a b
def Rules (cc : ByteArray) (own : String) (nL d mc ms : Nat) (ini : Prop) (J : JT) : Prop := rl_iconst cc own nL d mc ms ini J ∧ rl_bipush cc own nL d mc ms ini J ∧ rl_sipush cc own nL d mc ms ini J ∧ rl_ldc cc own nL d mc ms ini J ∧ rl_ldc_w cc own nL d mc ms ini J ∧ rl_iload_n cc own nL d mc ms ini J ∧ rl_iload cc own nL d mc ms ini J ∧ rl_aload_n cc own nL d mc ms ini J ∧ rl_aload cc own nL d mc ms ini J ∧ rl_istore_n cc own nL d mc ms ini J ∧ rl_istore cc own nL d mc ms ini J ∧ rl_astore_n cc own nL d mc ms ini J ∧ rl_astore cc own nL d mc ms ini J ∧ rl_iinc cc own nL d mc ms ini J ∧ rl_iadd cc own nL d mc ms ini J ∧ rl_isub cc own nL d mc ms ini J ∧ rl_imul cc own nL d mc ms ini J ∧ rl_iand cc own nL d mc ms ini J ∧ rl_ior cc own nL d mc ms ini J ∧ rl_ishl cc own nL d mc ms ini J ∧ rl_ishr cc own nL d mc ms ini J ∧ rl_idiv cc own nL d mc ms ini J ∧ rl_irem cc own nL d mc ms ini J ∧ rl_dup cc own nL d mc ms ini J ∧ rl_dup2 cc own nL d mc ms ini J ∧ rl_pop cc own nL d mc ms ini J ∧ rl_if_eq cc own nL d mc ms ini J ∧ rl_icmp_eq cc own nL d mc ms ini J ∧ rl_if_ne cc own nL d mc ms ini J ∧ rl_icmp_ne cc own nL d mc ms ini J ∧ rl_if_lt cc own nL d mc ms ini J ∧ rl_icmp_lt cc own nL d mc ms ini J ∧ rl_if_ge cc own nL d mc ms ini J ∧ rl_icmp_ge cc own nL d mc ms ini J ∧ rl_if_gt cc own nL d mc ms ini J ∧ rl_icmp_gt cc own nL d mc ms ini J ∧ rl_if_le cc own nL d mc ms ini J ∧ rl_icmp_le cc own nL d mc ms ini J ∧ rl_goto cc own nL d mc ms ini J ∧ rl_forget cc own nL d mc ms ini J ∧ rl_null cc own nL d mc ms ini J ∧ rl_ifnull cc own nL d mc ms ini J ∧ rl_ifnonnull cc own nL d mc ms ini J ∧ rl_acmp_eq cc own nL d mc ms ini J ∧ rl_acmp_ne cc own nL d mc ms ini J ∧ rl_tabIn cc own nL d mc ms ini J ∧ rl_tabOut cc own nL d mc ms ini J ∧ rl_getI cc own nL d mc ms ini J ∧ rl_getR cc own nL d mc ms ini J ∧ rl_putI cc own nL d mc ms ini J ∧ rl_putIF cc own nL d mc ms ini J ∧ rl_putR cc own nL d mc ms ini J ∧ rl_putRF cc own nL d mc ms ini J ∧ rl_iald cc own nL d mc ms ini J ∧ rl_zald cc own nL d mc ms ini J ∧ rl_alen cc own nL d mc ms ini J ∧ rl_aald cc own nL d mc ms ini J ∧ rl_iast cc own nL d mc ms ini J ∧ rl_zast cc own nL d mc ms ini J ∧ rl_aast cc own nL d mc ms ini J ∧ rl_new cc own nL d mc ms ini J ∧ rl_newa_int cc own nL d mc ms ini J ∧ rl_newa_boolean cc own nL d mc ms ini J ∧ rl_newq cc own nL d mc ms ini J ∧ rl_objInit cc own nL d mc ms ini J ∧ rl_mmax cc own nL d mc ms ini J ∧ rl_mmin cc own nL d mc ms ini J ∧ rl_callV cc own nL d mc ms ini J ∧ rl_callS cc own nL d mc ms ini J ∧ rl_callSN cc own nL d mc ms ini J ∧ rl_callV0 cc own nL d mc ms ini J ∧ rl_callS0 cc own nL d mc ms ini J ∧ rl_callSN0 cc own nL d mc ms ini J ∧ rl_callI cc own nL d mc ms ini J ∧ rl_callIN cc own nL d mc ms ini J
section RU
variable {cc : ByteArray} {own : String} {nL d mc ms : Nat} {ini : Prop} {J : JT}
theorem Rules.iconst (hJ : Rules cc own nL d mc ms ini J) : ∀ {pc a b : Nat} {ls : List (Option AV)} {st : List AV} {h : Hp} {n : Int} {v : Int32}, decode cc pc = .ok (.iconst n, 1) → Int32.ofInt n = v → J (pc + 1) ls (.inl v :: st) h a b → J pc ls st h a b := hJ.1
theorem Rules.bipush (hJ : Rules cc own nL d mc ms ini J) : ∀ {pc a b : Nat} {ls : List (Option AV)} {st : List AV} {h : Hp} {n : Int} {v : Int32}, decode cc pc = .ok (.bipush n, 2) → (Int8.ofInt n).toInt32 = v → J (pc + 2) ls (.inl v :: st) h a b → J pc ls st h a b := hJ.2.1
theorem Rules.sipush (hJ : Rules cc own nL d mc ms ini J) : ∀ {pc a b : Nat} {ls : List (Option AV)} {st : List AV} {h : Hp} {n : Int} {v : Int32}, decode cc pc = .ok (.sipush n, 3) → (Int16.ofInt n).toInt32 = v → J (pc + 3) ls (.inl v :: st) h a b → J pc ls st h a b := hJ.2.2.1
theorem Rules.ldc (hJ : Rules cc own nL d mc ms ini J) : ∀ {pc a b : Nat} {ls : List (Option AV)} {st : List AV} {h : Hp} {ix : Nat} {v : Int32}, decode cc pc = .ok (.ldc ix, 2) → Cond.constant own ix v ∈ gws → J (pc + 2) ls (.inl v :: st) h a b → J pc ls st h a b := hJ.2.2.2.1
theorem Rules.ldc_w (hJ : Rules cc own nL d mc ms ini J) : ∀ {pc a b : Nat} {ls : List (Option AV)} {st : List AV} {h : Hp} {ix : Nat} {v : Int32}, decode cc pc = .ok (.ldc_w ix, 3) → Cond.constant own ix v ∈ gws → J (pc + 3) ls (.inl v :: st) h a b → J pc ls st h a b := hJ.2.2.2.2.1
theorem Rules.iload_n (hJ : Rules cc own nL d mc ms ini J) : ∀ {pc a b : Nat} {ls : List (Option AV)} {st : List AV} {h : Hp} {q : Fin 4} {i : Nat} {x : Int32}, decode cc pc = .ok (.iload_n q, 1) → (q : Nat) = i → ls[i]? = some (some (.inl x)) → J (pc + 1) ls (.inl x :: st) h a b → J pc ls st h a b := hJ.2.2.2.2.2.1
theorem Rules.iload (hJ : Rules cc own nL d mc ms ini J) : ∀ {pc a b : Nat} {ls : List (Option AV)} {st : List AV} {h : Hp} {i : Nat} {x : Int32}, decode cc pc = .ok (.iload i, 2) → ls[i]? = some (some (.inl x)) → J (pc + 2) ls (.inl x :: st) h a b → J pc ls st h a b := hJ.2.2.2.2.2.2.1
theorem Rules.aload_n (hJ : Rules cc own nL d mc ms ini J) : ∀ {pc a b : Nat} {ls : List (Option AV)} {st : List AV} {h : Hp} {q : Fin 4} {i kk : Nat} {r : Option Nat}, decode cc pc = .ok (.aload_n q, 1) → (q : Nat) = i → ls[i]? = some (some (.inr (kk, r))) → J (pc + 1) ls (.inr (kk, r) :: st) h a b → J pc ls st h a b := hJ.2.2.2.2.2.2.2.1
theorem Rules.aload (hJ : Rules cc own nL d mc ms ini J) : ∀ {pc a b : Nat} {ls : List (Option AV)} {st : List AV} {h : Hp} {i kk : Nat} {r : Option Nat}, decode cc pc = .ok (.aload i, 2) → ls[i]? = some (some (.inr (kk, r))) → J (pc + 2) ls (.inr (kk, r) :: st) h a b → J pc ls st h a b := hJ.2.2.2.2.2.2.2.2.1
theorem Rules.istore_n (hJ : Rules cc own nL d mc ms ini J) : ∀ {pc a b : Nat} {ls : List (Option AV)} {st : List AV} {h : Hp} {q : Fin 4} {i : Nat} {x : Int32} {ls2 : List (Option AV)}, decode cc pc = .ok (.istore_n q, 1) → (q : Nat) = i → i < nL → ls.set i (some (.inl x)) = ls2 → J (pc + 1) ls2 st h a b → J pc ls (.inl x :: st) h a b := hJ.2.2.2.2.2.2.2.2.2.1
theorem Rules.istore (hJ : Rules cc own nL d mc ms ini J) : ∀ {pc a b : Nat} {ls : List (Option AV)} {st : List AV} {h : Hp} {i : Nat} {x : Int32} {ls2 : List (Option AV)}, decode cc pc = .ok (.istore i, 2) → i < nL → ls.set i (some (.inl x)) = ls2 → J (pc + 2) ls2 st h a b → J pc ls (.inl x :: st) h a b := hJ.2.2.2.2.2.2.2.2.2.2.1
theorem Rules.astore_n (hJ : Rules cc own nL d mc ms ini J) : ∀ {pc a b : Nat} {ls : List (Option AV)} {st : List AV} {h : Hp} {q : Fin 4} {i kk : Nat} {r : Option Nat} {ls2 : List (Option AV)}, decode cc pc = .ok (.astore_n q, 1) → (q : Nat) = i → i < nL → ls.set i (some (.inr (kk, r))) = ls2 → J (pc + 1) ls2 st h a b → J pc ls (.inr (kk, r) :: st) h a b := hJ.2.2.2.2.2.2.2.2.2.2.2.1
theorem Rules.astore (hJ : Rules cc own nL d mc ms ini J) : ∀ {pc a b : Nat} {ls : List (Option AV)} {st : List AV} {h : Hp} {i kk : Nat} {r : Option Nat} {ls2 : List (Option AV)}, decode cc pc = .ok (.astore i, 2) → i < nL → ls.set i (some (.inr (kk, r))) = ls2 → J (pc + 2) ls2 st h a b → J pc ls (.inr (kk, r) :: st) h a b := hJ.2.2.2.2.2.2.2.2.2.2.2.2.1
theorem Rules.iinc (hJ : Rules cc own nL d mc ms ini J) : ∀ {pc a b : Nat} {ls : List (Option AV)} {st : List AV} {h : Hp} {i : Nat} {n : Int} {x v : Int32} {ls2 : List (Option AV)}, decode cc pc = .ok (.iinc i n, 3) → ls[i]? = some (some (.inl x)) → x + Int32.ofInt n = v → i < nL → ls.set i (some (.inl v)) = ls2 → J (pc + 3) ls2 st h a b → J pc ls st h a b := hJ.2.2.2.2.2.2.2.2.2.2.2.2.2.1
theorem Rules.iadd (hJ : Rules cc own nL d mc ms ini J) : ∀ {pc a b : Nat} {ls : List (Option AV)} {st : List AV} {h : Hp} {x y : Int32}, decode cc pc = .ok (.iadd, 1) → J (pc + 1) ls (.inl (x + y) :: st) h a b → J pc ls (.inl y :: .inl x :: st) h a b := hJ.2.2.2.2.2.2.2.2.2.2.2.2.2.2.1
theorem Rules.isub (hJ : Rules cc own nL d mc ms ini J) : ∀ {pc a b : Nat} {ls : List (Option AV)} {st : List AV} {h : Hp} {x y : Int32}, decode cc pc = .ok (.isub, 1) → J (pc + 1) ls (.inl (x - y) :: st) h a b → J pc ls (.inl y :: .inl x :: st) h a b := hJ.2.2.2.2.2.2.2.2.2.2.2.2.2.2.2.1
theorem Rules.imul (hJ : Rules cc own nL d mc ms ini J) : ∀ {pc a b : Nat} {ls : List (Option AV)} {st : List AV} {h : Hp} {x y : Int32}, decode cc pc = .ok (.imul, 1) → J (pc + 1) ls (.inl (x * y) :: st) h a b → J pc ls (.inl y :: .inl x :: st) h a b := hJ.2.2.2.2.2.2.2.2.2.2.2.2.2.2.2.2.1
theorem Rules.iand (hJ : Rules cc own nL d mc ms ini J) : ∀ {pc a b : Nat} {ls : List (Option AV)} {st : List AV} {h : Hp} {x y : Int32}, decode cc pc = .ok (.iand, 1) → J (pc + 1) ls (.inl (x &&& y) :: st) h a b → J pc ls (.inl y :: .inl x :: st) h a b := hJ.2.2.2.2.2.2.2.2.2.2.2.2.2.2.2.2.2.1
theorem Rules.ior (hJ : Rules cc own nL d mc ms ini J) : ∀ {pc a b : Nat} {ls : List (Option AV)} {st : List AV} {h : Hp} {x y : Int32}, decode cc pc = .ok (.ior, 1) → J (pc + 1) ls (.inl (x ||| y) :: st) h a b → J pc ls (.inl y :: .inl x :: st) h a b := hJ.2.2.2.2.2.2.2.2.2.2.2.2.2.2.2.2.2.2.1
theorem Rules.ishl (hJ : Rules cc own nL d mc ms ini J) : ∀ {pc a b : Nat} {ls : List (Option AV)} {st : List AV} {h : Hp} {x y : Int32}, decode cc pc = .ok (.ishl, 1) → J (pc + 1) ls (.inl (x <<< (y &&& 31)) :: st) h a b → J pc ls (.inl y :: .inl x :: st) h a b := hJ.2.2.2.2.2.2.2.2.2.2.2.2.2.2.2.2.2.2.2.1
theorem Rules.ishr (hJ : Rules cc own nL d mc ms ini J) : ∀ {pc a b : Nat} {ls : List (Option AV)} {st : List AV} {h : Hp} {x y : Int32}, decode cc pc = .ok (.ishr, 1) → J (pc + 1) ls (.inl (x >>> (y &&& 31)) :: st) h a b → J pc ls (.inl y :: .inl x :: st) h a b := hJ.2.2.2.2.2.2.2.2.2.2.2.2.2.2.2.2.2.2.2.2.1
theorem Rules.idiv (hJ : Rules cc own nL d mc ms ini J) : ∀ {pc a b : Nat} {ls : List (Option AV)} {st : List AV} {h : Hp} {x y : Int32}, decode cc pc = .ok (.idiv, 1) → ¬ y = 0 → J (pc + 1) ls (.inl (x / y) :: st) h a b → J pc ls (.inl y :: .inl x :: st) h a b := hJ.2.2.2.2.2.2.2.2.2.2.2.2.2.2.2.2.2.2.2.2.2.1
theorem Rules.irem (hJ : Rules cc own nL d mc ms ini J) : ∀ {pc a b : Nat} {ls : List (Option AV)} {st : List AV} {h : Hp} {x y : Int32}, decode cc pc = .ok (.irem, 1) → ¬ y = 0 → J (pc + 1) ls (.inl (x - x / y * y) :: st) h a b → J pc ls (.inl y :: .inl x :: st) h a b := hJ.2.2.2.2.2.2.2.2.2.2.2.2.2.2.2.2.2.2.2.2.2.2.1
theorem Rules.dup (hJ : Rules cc own nL d mc ms ini J) : ∀ {pc a b : Nat} {ls : List (Option AV)} {st : List AV} {h : Hp} {v : AV}, decode cc pc = .ok (.dup, 1) → J (pc + 1) ls (v :: v :: st) h a b → J pc ls (v :: st) h a b := hJ.2.2.2.2.2.2.2.2.2.2.2.2.2.2.2.2.2.2.2.2.2.2.2.1
theorem Rules.dup2 (hJ : Rules cc own nL d mc ms ini J) : ∀ {pc a b : Nat} {ls : List (Option AV)} {st : List AV} {h : Hp} {v w : AV}, decode cc pc = .ok (.dup2, 1) → J (pc + 1) ls (v :: w :: v :: w :: st) h a b → J pc ls (v :: w :: st) h a b := hJ.2.2.2.2.2.2.2.2.2.2.2.2.2.2.2.2.2.2.2.2.2.2.2.2.1
theorem Rules.pop (hJ : Rules cc own nL d mc ms ini J) : ∀ {pc a b : Nat} {ls : List (Option AV)} {st : List AV} {h : Hp} {v : AV}, decode cc pc = .ok (.pop, 1) → J (pc + 1) ls st h a b → J pc ls (v :: st) h a b := hJ.2.2.2.2.2.2.2.2.2.2.2.2.2.2.2.2.2.2.2.2.2.2.2.2.2.1
theorem Rules.if_eq (hJ : Rules cc own nL d mc ms ini J) : ∀ {pc a b : Nat} {ls : List (Option AV)} {st : List AV} {h : Hp} {x : Int32} {off : Int} {tgt : Nat}, decode cc pc = .ok (.ifCond .eq off, 3) → (pc : Int) + off = (tgt : Int) → (x = 0 → J tgt ls st h a b) → (¬ x = 0 → J (pc + 3) ls st h a b) → J pc ls (.inl x :: st) h a b := hJ.2.2.2.2.2.2.2.2.2.2.2.2.2.2.2.2.2.2.2.2.2.2.2.2.2.2.1
theorem Rules.icmp_eq (hJ : Rules cc own nL d mc ms ini J) : ∀ {pc a b : Nat} {ls : List (Option AV)} {st : List AV} {h : Hp} {x y : Int32} {off : Int} {tgt : Nat}, decode cc pc = .ok (.if_icmp .eq off, 3) → (pc : Int) + off = (tgt : Int) → (x = y → J tgt ls st h a b) → (¬ x = y → J (pc + 3) ls st h a b) → J pc ls (.inl y :: .inl x :: st) h a b := hJ.2.2.2.2.2.2.2.2.2.2.2.2.2.2.2.2.2.2.2.2.2.2.2.2.2.2.2.1
theorem Rules.if_ne (hJ : Rules cc own nL d mc ms ini J) : ∀ {pc a b : Nat} {ls : List (Option AV)} {st : List AV} {h : Hp} {x : Int32} {off : Int} {tgt : Nat}, decode cc pc = .ok (.ifCond .ne off, 3) → (pc : Int) + off = (tgt : Int) → (¬ x = 0 → J tgt ls st h a b) → (x = 0 → J (pc + 3) ls st h a b) → J pc ls (.inl x :: st) h a b := hJ.2.2.2.2.2.2.2.2.2.2.2.2.2.2.2.2.2.2.2.2.2.2.2.2.2.2.2.2.1
theorem Rules.icmp_ne (hJ : Rules cc own nL d mc ms ini J) : ∀ {pc a b : Nat} {ls : List (Option AV)} {st : List AV} {h : Hp} {x y : Int32} {off : Int} {tgt : Nat}, decode cc pc = .ok (.if_icmp .ne off, 3) → (pc : Int) + off = (tgt : Int) → (¬ x = y → J tgt ls st h a b) → (x = y → J (pc + 3) ls st h a b) → J pc ls (.inl y :: .inl x :: st) h a b := hJ.2.2.2.2.2.2.2.2.2.2.2.2.2.2.2.2.2.2.2.2.2.2.2.2.2.2.2.2.2.1
theorem Rules.if_lt (hJ : Rules cc own nL d mc ms ini J) : ∀ {pc a b : Nat} {ls : List (Option AV)} {st : List AV} {h : Hp} {x : Int32} {off : Int} {tgt : Nat}, decode cc pc = .ok (.ifCond .lt off, 3) → (pc : Int) + off = (tgt : Int) → (x < 0 → J tgt ls st h a b) → (¬ x < 0 → J (pc + 3) ls st h a b) → J pc ls (.inl x :: st) h a b := hJ.2.2.2.2.2.2.2.2.2.2.2.2.2.2.2.2.2.2.2.2.2.2.2.2.2.2.2.2.2.2.1
theorem Rules.icmp_lt (hJ : Rules cc own nL d mc ms ini J) : ∀ {pc a b : Nat} {ls : List (Option AV)} {st : List AV} {h : Hp} {x y : Int32} {off : Int} {tgt : Nat}, decode cc pc = .ok (.if_icmp .lt off, 3) → (pc : Int) + off = (tgt : Int) → (x < y → J tgt ls st h a b) → (¬ x < y → J (pc + 3) ls st h a b) → J pc ls (.inl y :: .inl x :: st) h a b := hJ.2.2.2.2.2.2.2.2.2.2.2.2.2.2.2.2.2.2.2.2.2.2.2.2.2.2.2.2.2.2.2.1
theorem Rules.if_ge (hJ : Rules cc own nL d mc ms ini J) : ∀ {pc a b : Nat} {ls : List (Option AV)} {st : List AV} {h : Hp} {x : Int32} {off : Int} {tgt : Nat}, decode cc pc = .ok (.ifCond .ge off, 3) → (pc : Int) + off = (tgt : Int) → (0 ≤ x → J tgt ls st h a b) → (¬ 0 ≤ x → J (pc + 3) ls st h a b) → J pc ls (.inl x :: st) h a b := hJ.2.2.2.2.2.2.2.2.2.2.2.2.2.2.2.2.2.2.2.2.2.2.2.2.2.2.2.2.2.2.2.2.1
theorem Rules.icmp_ge (hJ : Rules cc own nL d mc ms ini J) : ∀ {pc a b : Nat} {ls : List (Option AV)} {st : List AV} {h : Hp} {x y : Int32} {off : Int} {tgt : Nat}, decode cc pc = .ok (.if_icmp .ge off, 3) → (pc : Int) + off = (tgt : Int) → (y ≤ x → J tgt ls st h a b) → (¬ y ≤ x → J (pc + 3) ls st h a b) → J pc ls (.inl y :: .inl x :: st) h a b := hJ.2.2.2.2.2.2.2.2.2.2.2.2.2.2.2.2.2.2.2.2.2.2.2.2.2.2.2.2.2.2.2.2.2.1
theorem Rules.if_gt (hJ : Rules cc own nL d mc ms ini J) : ∀ {pc a b : Nat} {ls : List (Option AV)} {st : List AV} {h : Hp} {x : Int32} {off : Int} {tgt : Nat}, decode cc pc = .ok (.ifCond .gt off, 3) → (pc : Int) + off = (tgt : Int) → (0 < x → J tgt ls st h a b) → (¬ 0 < x → J (pc + 3) ls st h a b) → J pc ls (.inl x :: st) h a b := hJ.2.2.2.2.2.2.2.2.2.2.2.2.2.2.2.2.2.2.2.2.2.2.2.2.2.2.2.2.2.2.2.2.2.2.1
theorem Rules.icmp_gt (hJ : Rules cc own nL d mc ms ini J) : ∀ {pc a b : Nat} {ls : List (Option AV)} {st : List AV} {h : Hp} {x y : Int32} {off : Int} {tgt : Nat}, decode cc pc = .ok (.if_icmp .gt off, 3) → (pc : Int) + off = (tgt : Int) → (y < x → J tgt ls st h a b) → (¬ y < x → J (pc + 3) ls st h a b) → J pc ls (.inl y :: .inl x :: st) h a b := hJ.2.2.2.2.2.2.2.2.2.2.2.2.2.2.2.2.2.2.2.2.2.2.2.2.2.2.2.2.2.2.2.2.2.2.2.1
theorem Rules.if_le (hJ : Rules cc own nL d mc ms ini J) : ∀ {pc a b : Nat} {ls : List (Option AV)} {st : List AV} {h : Hp} {x : Int32} {off : Int} {tgt : Nat}, decode cc pc = .ok (.ifCond .le off, 3) → (pc : Int) + off = (tgt : Int) → (x ≤ 0 → J tgt ls st h a b) → (¬ x ≤ 0 → J (pc + 3) ls st h a b) → J pc ls (.inl x :: st) h a b := hJ.2.2.2.2.2.2.2.2.2.2.2.2.2.2.2.2.2.2.2.2.2.2.2.2.2.2.2.2.2.2.2.2.2.2.2.2.1
theorem Rules.icmp_le (hJ : Rules cc own nL d mc ms ini J) : ∀ {pc a b : Nat} {ls : List (Option AV)} {st : List AV} {h : Hp} {x y : Int32} {off : Int} {tgt : Nat}, decode cc pc = .ok (.if_icmp .le off, 3) → (pc : Int) + off = (tgt : Int) → (x ≤ y → J tgt ls st h a b) → (¬ x ≤ y → J (pc + 3) ls st h a b) → J pc ls (.inl y :: .inl x :: st) h a b := hJ.2.2.2.2.2.2.2.2.2.2.2.2.2.2.2.2.2.2.2.2.2.2.2.2.2.2.2.2.2.2.2.2.2.2.2.2.2.1
theorem Rules.goto (hJ : Rules cc own nL d mc ms ini J) : ∀ {pc a b : Nat} {ls : List (Option AV)} {st : List AV} {h : Hp} {off : Int} {tgt : Nat}, decode cc pc = .ok (.goto off, 3) → (pc : Int) + off = (tgt : Int) → J tgt ls st h a b → J pc ls st h a b := hJ.2.2.2.2.2.2.2.2.2.2.2.2.2.2.2.2.2.2.2.2.2.2.2.2.2.2.2.2.2.2.2.2.2.2.2.2.2.2.1
theorem Rules.forget (hJ : Rules cc own nL d mc ms ini J) : ∀ {pc a b : Nat} {ls : List (Option AV)} {st : List AV} {h : Hp} {ls2 : List (Option AV)}, subL ls2 ls → J pc ls2 st h a b → J pc ls st h a b := hJ.2.2.2.2.2.2.2.2.2.2.2.2.2.2.2.2.2.2.2.2.2.2.2.2.2.2.2.2.2.2.2.2.2.2.2.2.2.2.2.1
theorem Rules.null (hJ : Rules cc own nL d mc ms ini J) : ∀ {pc a b : Nat} {ls : List (Option AV)} {st : List AV} {h : Hp} {kk : Nat}, decode cc pc = .ok (.aconst_null, 1) → J (pc + 1) ls (.inr (kk, none) :: st) h a b → J pc ls st h a b := hJ.2.2.2.2.2.2.2.2.2.2.2.2.2.2.2.2.2.2.2.2.2.2.2.2.2.2.2.2.2.2.2.2.2.2.2.2.2.2.2.2.1
theorem Rules.ifnull (hJ : Rules cc own nL d mc ms ini J) : ∀ {pc a b : Nat} {ls : List (Option AV)} {st : List AV} {h : Hp} {kk : Nat} {r : Option Nat} {off : Int} {tgt : Nat}, decode cc pc = .ok (.ifnull off, 3) → (pc : Int) + off = (tgt : Int) → (r = none → J tgt ls st h a b) → (∀ n, r = some n → J (pc + 3) ls st h a b) → J pc ls (.inr (kk, r) :: st) h a b := hJ.2.2.2.2.2.2.2.2.2.2.2.2.2.2.2.2.2.2.2.2.2.2.2.2.2.2.2.2.2.2.2.2.2.2.2.2.2.2.2.2.2.1
theorem Rules.ifnonnull (hJ : Rules cc own nL d mc ms ini J) : ∀ {pc a b : Nat} {ls : List (Option AV)} {st : List AV} {h : Hp} {kk : Nat} {r : Option Nat} {off : Int} {tgt : Nat}, decode cc pc = .ok (.ifnonnull off, 3) → (pc : Int) + off = (tgt : Int) → (∀ n, r = some n → J tgt ls st h a b) → (r = none → J (pc + 3) ls st h a b) → J pc ls (.inr (kk, r) :: st) h a b := hJ.2.2.2.2.2.2.2.2.2.2.2.2.2.2.2.2.2.2.2.2.2.2.2.2.2.2.2.2.2.2.2.2.2.2.2.2.2.2.2.2.2.2.1
theorem Rules.acmp_eq (hJ : Rules cc own nL d mc ms ini J) : ∀ {pc a b : Nat} {ls : List (Option AV)} {st : List AV} {h : Hp} {kk : Nat} {r1 r2 : Option Nat} {off : Int} {tgt : Nat}, decode cc pc = .ok (.if_acmp .eq off, 3) → kk < 99 → (pc : Int) + off = (tgt : Int) → (r1 = r2 → J tgt ls st h a b) → (¬ r1 = r2 → J (pc + 3) ls st h a b) → J pc ls (.inr (kk, r2) :: .inr (kk, r1) :: st) h a b := hJ.2.2.2.2.2.2.2.2.2.2.2.2.2.2.2.2.2.2.2.2.2.2.2.2.2.2.2.2.2.2.2.2.2.2.2.2.2.2.2.2.2.2.2.1
theorem Rules.acmp_ne (hJ : Rules cc own nL d mc ms ini J) : ∀ {pc a b : Nat} {ls : List (Option AV)} {st : List AV} {h : Hp} {kk : Nat} {r1 r2 : Option Nat} {off : Int} {tgt : Nat}, decode cc pc = .ok (.if_acmp .ne off, 3) → kk < 99 → (pc : Int) + off = (tgt : Int) → (¬ r1 = r2 → J tgt ls st h a b) → (r1 = r2 → J (pc + 3) ls st h a b) → J pc ls (.inr (kk, r2) :: .inr (kk, r1) :: st) h a b := hJ.2.2.2.2.2.2.2.2.2.2.2.2.2.2.2.2.2.2.2.2.2.2.2.2.2.2.2.2.2.2.2.2.2.2.2.2.2.2.2.2.2.2.2.2.1
theorem Rules.tabIn (hJ : Rules cc own nL d mc ms ini J) : ∀ {pc a b : Nat} {ls : List (Option AV)} {st : List AV} {h : Hp} {dflt lo hi : Int} {offs : Array Int} {len : Nat} {x : Int32} {off : Int} {tgt : Nat}, decode cc pc = .ok (.tableswitch dflt lo hi offs, len) → ¬ x.toInt < lo → ¬ hi < x.toInt → offs[(x.toInt - lo).toNat]? = some off → (pc : Int) + off = (tgt : Int) → J tgt ls st h a b → J pc ls (.inl x :: st) h a b := hJ.2.2.2.2.2.2.2.2.2.2.2.2.2.2.2.2.2.2.2.2.2.2.2.2.2.2.2.2.2.2.2.2.2.2.2.2.2.2.2.2.2.2.2.2.2.1
theorem Rules.tabOut (hJ : Rules cc own nL d mc ms ini J) : ∀ {pc a b : Nat} {ls : List (Option AV)} {st : List AV} {h : Hp} {dflt lo hi : Int} {offs : Array Int} {len : Nat} {x : Int32} {tgt : Nat}, decode cc pc = .ok (.tableswitch dflt lo hi offs, len) → (x.toInt < lo ∨ hi < x.toInt) → (pc : Int) + dflt = (tgt : Int) → J tgt ls st h a b → J pc ls (.inl x :: st) h a b := hJ.2.2.2.2.2.2.2.2.2.2.2.2.2.2.2.2.2.2.2.2.2.2.2.2.2.2.2.2.2.2.2.2.2.2.2.2.2.2.2.2.2.2.2.2.2.2.1
theorem Rules.getI (hJ : Rules cc own nL d mc ms ini J) : ∀ {pc a b : Nat} {ls : List (Option AV)} {st : List AV} {h : Hp} {ix kk i n : Nat} {r : Option Nat}, decode cc pc = .ok (.getfield ix, 3) → FI own ix kk i → r = some n → J (pc + 3) ls (.inl (pI h kk n i) :: st) h a b → J pc ls (.inr (kk, r) :: st) h a b := hJ.2.2.2.2.2.2.2.2.2.2.2.2.2.2.2.2.2.2.2.2.2.2.2.2.2.2.2.2.2.2.2.2.2.2.2.2.2.2.2.2.2.2.2.2.2.2.2.1
theorem Rules.getR (hJ : Rules cc own nL d mc ms ini J) : ∀ {pc a b : Nat} {ls : List (Option AV)} {st : List AV} {h : Hp} {ix kk i n k2 : Nat} {r : Option Nat}, decode cc pc = .ok (.getfield ix, 3) → FR own ix kk i k2 → r = some n → J (pc + 3) ls (.inr (k2, pR h kk n i) :: st) h a b → J pc ls (.inr (kk, r) :: st) h a b := hJ.2.2.2.2.2.2.2.2.2.2.2.2.2.2.2.2.2.2.2.2.2.2.2.2.2.2.2.2.2.2.2.2.2.2.2.2.2.2.2.2.2.2.2.2.2.2.2.2.1
theorem Rules.putI (hJ : Rules cc own nL d mc ms ini J) : ∀ {pc a b : Nat} {ls : List (Option AV)} {st : List AV} {h : Hp} {ix kk i n : Nat} {r : Option Nat} {v : Int32}, decode cc pc = .ok (.putfield ix, 3) → FI own ix kk i → (kT kk i).2.2.2 = false → (narrow (kY kk i) (.int v) = .int v ∧ fits (kY kk i) (.int v) = true) → r = some n → J (pc + 3) ls st (wI h kk n i v) a b → J pc ls (.inl v :: .inr (kk, r) :: st) h a b := hJ.2.2.2.2.2.2.2.2.2.2.2.2.2.2.2.2.2.2.2.2.2.2.2.2.2.2.2.2.2.2.2.2.2.2.2.2.2.2.2.2.2.2.2.2.2.2.2.2.2.1
theorem Rules.putIF (hJ : Rules cc own nL d mc ms ini J) : ∀ {pc a b : Nat} {ls : List (Option AV)} {st : List AV} {h : Hp} {ix kk i n : Nat} {r : Option Nat} {v : Int32}, decode cc pc = .ok (.putfield ix, 3) → FI own ix kk i → (kT kk i).2.2.2 = true → kR kk = own → ini → (narrow (kY kk i) (.int v) = .int v ∧ fits (kY kk i) (.int v) = true) → r = some n → J (pc + 3) ls st (wI h kk n i v) a b → J pc ls (.inl v :: .inr (kk, r) :: st) h a b := hJ.2.2.2.2.2.2.2.2.2.2.2.2.2.2.2.2.2.2.2.2.2.2.2.2.2.2.2.2.2.2.2.2.2.2.2.2.2.2.2.2.2.2.2.2.2.2.2.2.2.2.1
theorem Rules.putR (hJ : Rules cc own nL d mc ms ini J) : ∀ {pc a b : Nat} {ls : List (Option AV)} {st : List AV} {h : Hp} {ix kk i n k2 k3 : Nat} {r o : Option Nat}, decode cc pc = .ok (.putfield ix, 3) → FR own ix kk i k2 → (kT kk i).2.2.2 = false → (o = none ∨ k3 = k2) → r = some n → J (pc + 3) ls st (wR h kk n i o) a b → J pc ls (.inr (k3, o) :: .inr (kk, r) :: st) h a b := hJ.2.2.2.2.2.2.2.2.2.2.2.2.2.2.2.2.2.2.2.2.2.2.2.2.2.2.2.2.2.2.2.2.2.2.2.2.2.2.2.2.2.2.2.2.2.2.2.2.2.2.2.1
theorem Rules.putRF (hJ : Rules cc own nL d mc ms ini J) : ∀ {pc a b : Nat} {ls : List (Option AV)} {st : List AV} {h : Hp} {ix kk i n k2 k3 : Nat} {r o : Option Nat}, decode cc pc = .ok (.putfield ix, 3) → FR own ix kk i k2 → (kT kk i).2.2.2 = true → kR kk = own → ini → (o = none ∨ k3 = k2) → r = some n → J (pc + 3) ls st (wR h kk n i o) a b → J pc ls (.inr (k3, o) :: .inr (kk, r) :: st) h a b := hJ.2.2.2.2.2.2.2.2.2.2.2.2.2.2.2.2.2.2.2.2.2.2.2.2.2.2.2.2.2.2.2.2.2.2.2.2.2.2.2.2.2.2.2.2.2.2.2.2.2.2.2.2.1
theorem Rules.iald (hJ : Rules cc own nL d mc ms ini J) : ∀ {pc a b : Nat} {ls : List (Option AV)} {st : List AV} {h : Hp} {kk n : Nat} {r : Option Nat} {x : Int32}, decode cc pc = .ok (.iaload, 1) → AI kk → r = some n → inb x (pL h kk n) = true → J (pc + 1) ls (.inl (pI h kk n x.toNatClampNeg) :: st) h a b → J pc ls (.inl x :: .inr (kk, r) :: st) h a b := hJ.2.2.2.2.2.2.2.2.2.2.2.2.2.2.2.2.2.2.2.2.2.2.2.2.2.2.2.2.2.2.2.2.2.2.2.2.2.2.2.2.2.2.2.2.2.2.2.2.2.2.2.2.2.1
theorem Rules.zald (hJ : Rules cc own nL d mc ms ini J) : ∀ {pc a b : Nat} {ls : List (Option AV)} {st : List AV} {h : Hp} {kk n : Nat} {r : Option Nat} {x : Int32}, decode cc pc = .ok (.baload, 1) → AZ kk → r = some n → inb x (pL h kk n) = true → J (pc + 1) ls (.inl (pI h kk n x.toNatClampNeg) :: st) h a b → J pc ls (.inl x :: .inr (kk, r) :: st) h a b := hJ.2.2.2.2.2.2.2.2.2.2.2.2.2.2.2.2.2.2.2.2.2.2.2.2.2.2.2.2.2.2.2.2.2.2.2.2.2.2.2.2.2.2.2.2.2.2.2.2.2.2.2.2.2.2.1
theorem Rules.alen (hJ : Rules cc own nL d mc ms ini J) : ∀ {pc a b : Nat} {ls : List (Option AV)} {st : List AV} {h : Hp} {kk n : Nat} {r : Option Nat}, decode cc pc = .ok (.arraylength, 1) → AI kk → r = some n → J (pc + 1) ls (.inl (nI (pL h kk n)) :: st) h a b → J pc ls (.inr (kk, r) :: st) h a b := hJ.2.2.2.2.2.2.2.2.2.2.2.2.2.2.2.2.2.2.2.2.2.2.2.2.2.2.2.2.2.2.2.2.2.2.2.2.2.2.2.2.2.2.2.2.2.2.2.2.2.2.2.2.2.2.2.1
theorem Rules.aald (hJ : Rules cc own nL d mc ms ini J) : ∀ {pc a b : Nat} {ls : List (Option AV)} {st : List AV} {h : Hp} {kk n k2 : Nat} {r : Option Nat} {x : Int32}, decode cc pc = .ok (.aaload, 1) → AR kk k2 → r = some n → inb x (pL h kk n) = true → J (pc + 1) ls (.inr (k2, pR h kk n x.toNatClampNeg) :: st) h a b → J pc ls (.inl x :: .inr (kk, r) :: st) h a b := hJ.2.2.2.2.2.2.2.2.2.2.2.2.2.2.2.2.2.2.2.2.2.2.2.2.2.2.2.2.2.2.2.2.2.2.2.2.2.2.2.2.2.2.2.2.2.2.2.2.2.2.2.2.2.2.2.2.1
theorem Rules.iast (hJ : Rules cc own nL d mc ms ini J) : ∀ {pc a b : Nat} {ls : List (Option AV)} {st : List AV} {h : Hp} {kk n : Nat} {r : Option Nat} {x v : Int32}, decode cc pc = .ok (.iastore, 1) → AI kk → r = some n → inb x (pL h kk n) = true → J (pc + 1) ls st (wI h kk n x.toNatClampNeg v) a b → J pc ls (.inl v :: .inl x :: .inr (kk, r) :: st) h a b := hJ.2.2.2.2.2.2.2.2.2.2.2.2.2.2.2.2.2.2.2.2.2.2.2.2.2.2.2.2.2.2.2.2.2.2.2.2.2.2.2.2.2.2.2.2.2.2.2.2.2.2.2.2.2.2.2.2.2.1
theorem Rules.zast (hJ : Rules cc own nL d mc ms ini J) : ∀ {pc a b : Nat} {ls : List (Option AV)} {st : List AV} {h : Hp} {kk n : Nat} {r : Option Nat} {x v : Int32}, decode cc pc = .ok (.bastore, 1) → AZ kk → r = some n → inb x (pL h kk n) = true → (v = 0 ∨ v = 1) → J (pc + 1) ls st (wI h kk n x.toNatClampNeg v) a b → J pc ls (.inl v :: .inl x :: .inr (kk, r) :: st) h a b := hJ.2.2.2.2.2.2.2.2.2.2.2.2.2.2.2.2.2.2.2.2.2.2.2.2.2.2.2.2.2.2.2.2.2.2.2.2.2.2.2.2.2.2.2.2.2.2.2.2.2.2.2.2.2.2.2.2.2.2.1
theorem Rules.aast (hJ : Rules cc own nL d mc ms ini J) : ∀ {pc a b : Nat} {ls : List (Option AV)} {st : List AV} {h : Hp} {kk n k2 : Nat} {r o : Option Nat} {x : Int32}, decode cc pc = .ok (.aastore, 1) → AR kk k2 → r = some n → inb x (pL h kk n) = true → J (pc + 1) ls st (wR h kk n x.toNatClampNeg o) a b → J pc ls (.inr (k2, o) :: .inl x :: .inr (kk, r) :: st) h a b := hJ.2.2.2.2.2.2.2.2.2.2.2.2.2.2.2.2.2.2.2.2.2.2.2.2.2.2.2.2.2.2.2.2.2.2.2.2.2.2.2.2.2.2.2.2.2.2.2.2.2.2.2.2.2.2.2.2.2.2.2.1
theorem Rules.new (hJ : Rules cc own nL d mc ms ini J) : ∀ {pc a b : Nat} {ls : List (Option AV)} {st : List AV} {h : Hp} {ix kk : Nat}, decode cc pc = .ok (.new ix, 3) → NO own ix kk → a + 1 ≤ mc → b + nf kk ≤ ms → J (pc + 3) ls (.inr (kk, some (pC h kk)) :: st) (wN h kk 0) (a + 1) (b + nf kk) → J pc ls st h a b := hJ.2.2.2.2.2.2.2.2.2.2.2.2.2.2.2.2.2.2.2.2.2.2.2.2.2.2.2.2.2.2.2.2.2.2.2.2.2.2.2.2.2.2.2.2.2.2.2.2.2.2.2.2.2.2.2.2.2.2.2.2.1
theorem Rules.newa_int (hJ : Rules cc own nL d mc ms ini J) : ∀ {pc a b : Nat} {ls : List (Option AV)} {st : List AV} {h : Hp} {kk N : Nat} {n : Int32}, decode cc pc = .ok (.newarray .int, 2) → AI kk → ¬ n < 0 → n.toNatClampNeg ≤ N → N ≤ 1000 → a + 1 ≤ mc → b + N ≤ ms → J (pc + 2) ls (.inr (kk, some (pC h kk)) :: st) (wN h kk n.toNatClampNeg) (a + 1) (b + N) → J pc ls (.inl n :: st) h a b := hJ.2.2.2.2.2.2.2.2.2.2.2.2.2.2.2.2.2.2.2.2.2.2.2.2.2.2.2.2.2.2.2.2.2.2.2.2.2.2.2.2.2.2.2.2.2.2.2.2.2.2.2.2.2.2.2.2.2.2.2.2.2.1
theorem Rules.newa_boolean (hJ : Rules cc own nL d mc ms ini J) : ∀ {pc a b : Nat} {ls : List (Option AV)} {st : List AV} {h : Hp} {kk N : Nat} {n : Int32}, decode cc pc = .ok (.newarray .boolean, 2) → AZ kk → ¬ n < 0 → n.toNatClampNeg ≤ N → N ≤ 1000 → a + 1 ≤ mc → b + N ≤ ms → J (pc + 2) ls (.inr (kk, some (pC h kk)) :: st) (wN h kk n.toNatClampNeg) (a + 1) (b + N) → J pc ls (.inl n :: st) h a b := hJ.2.2.2.2.2.2.2.2.2.2.2.2.2.2.2.2.2.2.2.2.2.2.2.2.2.2.2.2.2.2.2.2.2.2.2.2.2.2.2.2.2.2.2.2.2.2.2.2.2.2.2.2.2.2.2.2.2.2.2.2.2.2.1
theorem Rules.newq (hJ : Rules cc own nL d mc ms ini J) : ∀ {pc a b : Nat} {ls : List (Option AV)} {st : List AV} {h : Hp} {kk k2 ix N : Nat} {n : Int32}, decode cc pc = .ok (.anewarray ix, 3) → AR kk k2 → (Cond.classLink own ix (kR k2) ∈ gws ∧ kR k2 ∈ aoW) → ¬ n < 0 → n.toNatClampNeg ≤ N → N ≤ 1000 → a + 1 ≤ mc → b + N ≤ ms → J (pc + 3) ls (.inr (kk, some (pC h kk)) :: st) (wN h kk n.toNatClampNeg) (a + 1) (b + N) → J pc ls (.inl n :: st) h a b := hJ.2.2.2.2.2.2.2.2.2.2.2.2.2.2.2.2.2.2.2.2.2.2.2.2.2.2.2.2.2.2.2.2.2.2.2.2.2.2.2.2.2.2.2.2.2.2.2.2.2.2.2.2.2.2.2.2.2.2.2.2.2.2.2.1
theorem Rules.objInit (hJ : Rules cc own nL d mc ms ini J) : ∀ {pc a b : Nat} {ls : List (Option AV)} {st : List AV} {h : Hp} {ix kk n : Nat} {r : Option Nat}, decode cc pc = .ok (.invokespecial ix, 3) → Cond.methodLink own ix objectInit ∈ gws → r = some n → 1 ≤ d → st.length ≤ 8 → J (pc + 3) ls st h a b → J pc ls (.inr (kk, r) :: st) h a b := hJ.2.2.2.2.2.2.2.2.2.2.2.2.2.2.2.2.2.2.2.2.2.2.2.2.2.2.2.2.2.2.2.2.2.2.2.2.2.2.2.2.2.2.2.2.2.2.2.2.2.2.2.2.2.2.2.2.2.2.2.2.2.2.2.2.1
theorem Rules.mmax (hJ : Rules cc own nL d mc ms ini J) : ∀ {pc a b : Nat} {ls : List (Option AV)} {st : List AV} {h : Hp} {ix : Nat} {x y : Int32}, decode cc pc = .ok (.invokestatic ix, 3) → Cond.methodLink own ix Lib.Math.max.name ∈ gws → 1 ≤ d → st.length ≤ 8 → a ≤ mc → b ≤ ms → J (pc + 3) ls (.inl (if x < y then y else x) :: st) h a b → J pc ls (.inl y :: .inl x :: st) h a b := hJ.2.2.2.2.2.2.2.2.2.2.2.2.2.2.2.2.2.2.2.2.2.2.2.2.2.2.2.2.2.2.2.2.2.2.2.2.2.2.2.2.2.2.2.2.2.2.2.2.2.2.2.2.2.2.2.2.2.2.2.2.2.2.2.2.2.1
theorem Rules.mmin (hJ : Rules cc own nL d mc ms ini J) : ∀ {pc a b : Nat} {ls : List (Option AV)} {st : List AV} {h : Hp} {ix : Nat} {x y : Int32}, decode cc pc = .ok (.invokestatic ix, 3) → Cond.methodLink own ix Lib.Math.min.name ∈ gws → 1 ≤ d → st.length ≤ 8 → a ≤ mc → b ≤ ms → J (pc + 3) ls (.inl (if y < x then y else x) :: st) h a b → J pc ls (.inl y :: .inl x :: st) h a b := hJ.2.2.2.2.2.2.2.2.2.2.2.2.2.2.2.2.2.2.2.2.2.2.2.2.2.2.2.2.2.2.2.2.2.2.2.2.2.2.2.2.2.2.2.2.2.2.2.2.2.2.2.2.2.2.2.2.2.2.2.2.2.2.2.2.2.2.1
theorem Rules.callV (hJ : Rules cc own nL d mc ms ini J) : ∀ {pc a b : Nat} {ls : List (Option AV)} {st : List AV} {h : Hp} {ix ml np d2 mc2 ms2 : Nat} {y : MethodName} {cy : ByteArray} {rt : Option FieldType} {as : List AV} {h2 : Hp} {stk : List AV} {kk n : Nat} {ro : Option Nat} {v : AV}, decode cc pc = .ok (.invokevirtual ix, 3) → CV own ix y cy ml rt np → (kk < 9 ∧ kR kk = y.cls) → ro = some n → Ctr y cy ml rt d2 mc2 ms2 (.inr (kk, some n) :: as) h (some v) h2 → d2 + 1 ≤ d → a + mc2 ≤ mc → b + ms2 ≤ ms → as.length = np → st.length ≤ 8 → as.reverse ++ .inr (kk, ro) :: st = stk → J (pc + 3) ls (v :: st) h2 (a + mc2) (b + ms2) → J pc ls stk h a b := hJ.2.2.2.2.2.2.2.2.2.2.2.2.2.2.2.2.2.2.2.2.2.2.2.2.2.2.2.2.2.2.2.2.2.2.2.2.2.2.2.2.2.2.2.2.2.2.2.2.2.2.2.2.2.2.2.2.2.2.2.2.2.2.2.2.2.2.2.1
theorem Rules.callS (hJ : Rules cc own nL d mc ms ini J) : ∀ {pc a b : Nat} {ls : List (Option AV)} {st : List AV} {h : Hp} {ix ml np d2 mc2 ms2 : Nat} {y : MethodName} {cy : ByteArray} {rt : Option FieldType} {as : List AV} {h2 : Hp} {stk : List AV} {v : AV}, decode cc pc = .ok (.invokestatic ix, 3) → CS own ix y cy ml rt np → Ctr y cy ml rt d2 mc2 ms2 as h (some v) h2 → d2 + 1 ≤ d → a + mc2 ≤ mc → b + ms2 ≤ ms → as.length = np → st.length ≤ 8 → as.reverse ++ st = stk → J (pc + 3) ls (v :: st) h2 (a + mc2) (b + ms2) → J pc ls stk h a b := hJ.2.2.2.2.2.2.2.2.2.2.2.2.2.2.2.2.2.2.2.2.2.2.2.2.2.2.2.2.2.2.2.2.2.2.2.2.2.2.2.2.2.2.2.2.2.2.2.2.2.2.2.2.2.2.2.2.2.2.2.2.2.2.2.2.2.2.2.2.1
theorem Rules.callSN (hJ : Rules cc own nL d mc ms ini J) : ∀ {pc a b : Nat} {ls : List (Option AV)} {st : List AV} {h : Hp} {ix ml np d2 mc2 ms2 : Nat} {y : MethodName} {cy : ByteArray} {rt : Option FieldType} {as : List AV} {h2 : Hp} {stk : List AV} {host : String} {v : AV}, decode cc pc = .ok (.invokestatic ix, 3) → CSN own ix y cy ml rt np host → Ctr y cy ml rt d2 mc2 ms2 as h (some v) h2 → d2 + 1 ≤ d → a + mc2 ≤ mc → b + ms2 ≤ ms → as.length = np → st.length ≤ 8 → as.reverse ++ st = stk → J (pc + 3) ls (v :: st) h2 (a + mc2) (b + ms2) → J pc ls stk h a b := hJ.2.2.2.2.2.2.2.2.2.2.2.2.2.2.2.2.2.2.2.2.2.2.2.2.2.2.2.2.2.2.2.2.2.2.2.2.2.2.2.2.2.2.2.2.2.2.2.2.2.2.2.2.2.2.2.2.2.2.2.2.2.2.2.2.2.2.2.2.2.1
theorem Rules.callV0 (hJ : Rules cc own nL d mc ms ini J) : ∀ {pc a b : Nat} {ls : List (Option AV)} {st : List AV} {h : Hp} {ix ml np d2 mc2 ms2 : Nat} {y : MethodName} {cy : ByteArray} {rt : Option FieldType} {as : List AV} {h2 : Hp} {stk : List AV} {kk n : Nat} {ro : Option Nat}, decode cc pc = .ok (.invokevirtual ix, 3) → CV own ix y cy ml rt np → (kk < 9 ∧ kR kk = y.cls) → ro = some n → Ctr y cy ml rt d2 mc2 ms2 (.inr (kk, some n) :: as) h none h2 → d2 + 1 ≤ d → a + mc2 ≤ mc → b + ms2 ≤ ms → as.length = np → st.length ≤ 8 → as.reverse ++ .inr (kk, ro) :: st = stk → J (pc + 3) ls st h2 (a + mc2) (b + ms2) → J pc ls stk h a b := hJ.2.2.2.2.2.2.2.2.2.2.2.2.2.2.2.2.2.2.2.2.2.2.2.2.2.2.2.2.2.2.2.2.2.2.2.2.2.2.2.2.2.2.2.2.2.2.2.2.2.2.2.2.2.2.2.2.2.2.2.2.2.2.2.2.2.2.2.2.2.2.1
theorem Rules.callS0 (hJ : Rules cc own nL d mc ms ini J) : ∀ {pc a b : Nat} {ls : List (Option AV)} {st : List AV} {h : Hp} {ix ml np d2 mc2 ms2 : Nat} {y : MethodName} {cy : ByteArray} {rt : Option FieldType} {as : List AV} {h2 : Hp} {stk : List AV}, decode cc pc = .ok (.invokestatic ix, 3) → CS own ix y cy ml rt np → Ctr y cy ml rt d2 mc2 ms2 as h none h2 → d2 + 1 ≤ d → a + mc2 ≤ mc → b + ms2 ≤ ms → as.length = np → st.length ≤ 8 → as.reverse ++ st = stk → J (pc + 3) ls st h2 (a + mc2) (b + ms2) → J pc ls stk h a b := hJ.2.2.2.2.2.2.2.2.2.2.2.2.2.2.2.2.2.2.2.2.2.2.2.2.2.2.2.2.2.2.2.2.2.2.2.2.2.2.2.2.2.2.2.2.2.2.2.2.2.2.2.2.2.2.2.2.2.2.2.2.2.2.2.2.2.2.2.2.2.2.2.1
theorem Rules.callSN0 (hJ : Rules cc own nL d mc ms ini J) : ∀ {pc a b : Nat} {ls : List (Option AV)} {st : List AV} {h : Hp} {ix ml np d2 mc2 ms2 : Nat} {y : MethodName} {cy : ByteArray} {rt : Option FieldType} {as : List AV} {h2 : Hp} {stk : List AV} {host : String}, decode cc pc = .ok (.invokestatic ix, 3) → CSN own ix y cy ml rt np host → Ctr y cy ml rt d2 mc2 ms2 as h none h2 → d2 + 1 ≤ d → a + mc2 ≤ mc → b + ms2 ≤ ms → as.length = np → st.length ≤ 8 → as.reverse ++ st = stk → J (pc + 3) ls st h2 (a + mc2) (b + ms2) → J pc ls stk h a b := hJ.2.2.2.2.2.2.2.2.2.2.2.2.2.2.2.2.2.2.2.2.2.2.2.2.2.2.2.2.2.2.2.2.2.2.2.2.2.2.2.2.2.2.2.2.2.2.2.2.2.2.2.2.2.2.2.2.2.2.2.2.2.2.2.2.2.2.2.2.2.2.2.2.1
theorem Rules.callI (hJ : Rules cc own nL d mc ms ini J) : ∀ {pc a b : Nat} {ls : List (Option AV)} {st : List AV} {h : Hp} {ix ml np d2 mc2 ms2 : Nat} {y : MethodName} {cy : ByteArray} {as : List AV} {h2 : Hp} {stk : List AV} {kk n : Nat} {ro : Option Nat}, decode cc pc = .ok (.invokespecial ix, 3) → CI own ix y cy ml np → ro = some n → Ctr y cy ml none d2 mc2 ms2 (.inr (kk, some n) :: as) h none h2 → d2 + 1 ≤ d → a + mc2 ≤ mc → b + ms2 ≤ ms → as.length = np → st.length ≤ 8 → as.reverse ++ .inr (kk, ro) :: st = stk → J (pc + 3) ls st h2 (a + mc2) (b + ms2) → J pc ls stk h a b := hJ.2.2.2.2.2.2.2.2.2.2.2.2.2.2.2.2.2.2.2.2.2.2.2.2.2.2.2.2.2.2.2.2.2.2.2.2.2.2.2.2.2.2.2.2.2.2.2.2.2.2.2.2.2.2.2.2.2.2.2.2.2.2.2.2.2.2.2.2.2.2.2.2.2.1
theorem Rules.callIN (hJ : Rules cc own nL d mc ms ini J) : ∀ {pc a b : Nat} {ls : List (Option AV)} {st : List AV} {h : Hp} {ix ml np d2 mc2 ms2 : Nat} {y : MethodName} {cy : ByteArray} {as : List AV} {h2 : Hp} {stk : List AV} {kk n : Nat} {ro : Option Nat} {host : String}, decode cc pc = .ok (.invokespecial ix, 3) → CIN own ix y cy ml np host → ro = some n → Ctr y cy ml none d2 mc2 ms2 (.inr (kk, some n) :: as) h none h2 → d2 + 1 ≤ d → a + mc2 ≤ mc → b + ms2 ≤ ms → as.length = np → st.length ≤ 8 → as.reverse ++ .inr (kk, ro) :: st = stk → J (pc + 3) ls st h2 (a + mc2) (b + ms2) → J pc ls stk h a b := hJ.2.2.2.2.2.2.2.2.2.2.2.2.2.2.2.2.2.2.2.2.2.2.2.2.2.2.2.2.2.2.2.2.2.2.2.2.2.2.2.2.2.2.2.2.2.2.2.2.2.2.2.2.2.2.2.2.2.2.2.2.2.2.2.2.2.2.2.2.2.2.2.2.2.2
end RU
section SOUND
variable {p : Program} {l : Launch} {e : Env} {R : Room} {s : State} {m : MethodId} {args : Array Value} {below : List Frame} {meth : Method} {c : Code} {Q : State → Prop} {cc : ByteArray} {own : String} {nL d mc ms : Nat} {ini : Prop} {D : va_G} {cA : Nat → ClassId} {A : Nat → Prop} {al0 : Nat → Nat → Nat} {h0 : Hp}
theorem Cx.hown (X : Cx p R s m args meth c cc own nL d mc ms ini D cA A) : s.vm.findClass own = some m.cls := X.2.2.2.1
theorem Cx.hts (X : Cx p R s m args meth c cc own nL d mc ms ini D cA A) : ∀ w ∈ gws, w.before args s = true := X.2.2.2.2.1
theorem Cx.ev (X : Cx p R s m args meth c cc own nL d mc ms ini D cA A) : EV D cA s := X.2.2.2.2.2.1
theorem Cx.hA (X : Cx p R s m args meth c cc own nL d mc ms ini D cA A) : ∀ q, s.heap.size ≤ q → A q := X.2.2.2.2.2.2.1
theorem Cx.rf (X : Cx p R s m args meth c cc own nL d mc ms ini D cA A) : d ≤ R.frames := X.2.2.2.2.2.2.2.1
theorem Cx.rc (X : Cx p R s m args meth c cc own nL d mc ms ini D cA A) : mc ≤ R.cells := X.2.2.2.2.2.2.2.2.1
theorem Cx.rs (X : Cx p R s m args meth c cc own nL d mc ms ini D cA A) : ms ≤ R.slots := X.2.2.2.2.2.2.2.2.2.1
theorem Cx.rl (X : Cx p R s m args meth c cc own nL d mc ms ini D cA A) : 32 * d ≤ R.locals := X.2.2.2.2.2.2.2.2.2.2.1
theorem Cx.hini (X : Cx p R s m args meth c cc own nL d mc ms ini D cA A) : ini → meth.name = "<init>" := X.2.2.2.2.2.2.2.2.2.2.2
theorem gws_good : GoodIn gws gws := fun w hw => ⟨hw, good_of_word (List.mem_filter.mp hw).2⟩
theorem Cx.pay (X : Cx p R s m args meth c cc own nL d mc ms ini D cA A) {y : MethodName} {cy : ByteArray} {ml : Nat} {rt : Option FieldType} (w5 : Cond.code y cy ml rt ∈ gws) : ∀ w ∈ Cond.code y cy ml rt :: gws, ∀ (a' : Array Value) (U : State), s.WarmedH U.vm → w.before a' U = true := pay_in X.hts (fun w hw => by
  rcases List.mem_cons.mp hw with rfl | hw
  · exact gws_good _ w5
  · exact gws_good _ hw)
theorem Cx.sig {y : MethodName} {np : Nat} (h : (parseMethodDescriptor y.desc).map (fun d => d.parameters.length) = some np) : ∀ sig, parseMethodDescriptor y.desc = some sig → np = sig.parameters.length := fun sig h1 => by
  rw [h1] at h
  exact (Option.some.inj h).symm
theorem Cx.callB (X : Cx p R s m args meth c cc own nL d mc ms ini D cA A) {ix np d2 mc2 ms2 ml : Nat} {y : MethodName} {cy : ByteArray} {rt : Option FieldType} (hd2 : d2 + 1 ≤ d) (w1 : Cond.methodLink own ix y ∈ gws) (w4 : Cond.initialized y.cls ∈ gws) (w5 : Cond.code y cy ml rt ∈ gws)
    (w6 : y.cls ≠ "java/lang/invoke/MethodHandle" ∧ y.cls ≠ "java/lang/invoke/VarHandle") (w7 : (parseMethodDescriptor y.desc).map (fun d => d.parameters.length) = some np) (w8 : ml ≤ 13) : CallB R s args own ix y cy ml rt (Cond.code y cy ml rt :: gws) { frames := d2, cells := mc2, slots := ms2, locals := 32 * d2 } mc2 ms2 np :=
  ⟨rfl, rfl, Nat.le_trans hd2 X.rf, by show 8 + (ml + 11) + 32 * d2 ≤ R.locals; have := X.rl; omega, X.pay w5, List.mem_cons_self, X.hts _ w5, X.hts _ w4, w6, Cx.sig w7, X.hts _ w1⟩
theorem Cx.callN (X : Cx p R s m args meth c cc own nL d mc ms ini D cA A) {ix np d2 mc2 ms2 ml : Nat} {y : MethodName} {cy : ByteArray} {rt : Option FieldType} {host : String} (hd2 : d2 + 1 ≤ d) (w1 : Cond.methodLinkNest own ix y host ∈ nestW) (w4 : Cond.initialized y.cls ∈ gws) (w5 : Cond.code y cy ml rt ∈ gws)
    (w6 : y.cls ≠ "java/lang/invoke/MethodHandle" ∧ y.cls ≠ "java/lang/invoke/VarHandle") (w7 : (parseMethodDescriptor y.desc).map (fun d => d.parameters.length) = some np) (w8 : ml ≤ 13) : va_CN R s args own ix y host cy ml rt (Cond.code y cy ml rt :: gws) { frames := d2, cells := mc2, slots := ms2, locals := 32 * d2 } mc2 ms2 np :=
  ⟨⟨rfl, rfl, Nat.le_trans hd2 X.rf, by show 8 + (ml + 11) + 32 * d2 ≤ R.locals; have := X.rl; omega, X.pay w5, List.mem_cons_self⟩, X.hts _ w5, X.hts _ w4, w6, Cx.sig w7, va_Nw.use rfl (X.ev.2.1 _ w1)⟩
theorem after_S {A : Nat → Prop} {s : State} {H : Heap} {locs L : List Loc} {st₀ t T' : State} (g4 : va_S A s.heap H locs) (h0 : st₀.heap = H) (e1 : T'.heap = t.heap) (hF : va_F A st₀ t) (hL : ∀ q ∈ L, A q.base) : va_S A s.heap T'.heap (locs ++ L) := by
  obtain ⟨hz, hk⟩ := hF
  rw [h0] at hz hk
  refine ⟨Nat.le_trans g4.1 (by rw [e1]; exact hz), fun q h1 h2 => ?_, fun q hq => ?_⟩
  · rw [e1, hk q (Nat.lt_of_lt_of_le h1 g4.1) h2]
    exact g4.2.1 q h1 h2
  · rcases List.mem_append.mp hq with h | h
    · exact g4.2.2 q h
    · exact hL q h
theorem JW_after {pc a b mc2 ms2 : Nat} {ls : List (Option AV)} {st : List AV} {h h2 : Hp} {v : AV} {al : Nat → Nat → Nat} {H : Heap} {locs : List Loc} {lsA : Array Slot} {stk : List Value} {ar : Array Value}
    (hr : va_Run p l e R s m args below meth c H locs a b mc2 ms2 (F0 m pc lsA stk) (st.map (cv al)) (cQ D cA A al h (some v) h2 ar) A) (g1 : ∀ k n, n < pC h0 k → al k n = al0 k n) (g2 : ∀ k, pC h0 k ≤ pC h k) (g4 : va_S A s.heap H locs) (g5 : ∀ (i : Nat) (v : AV), ls[i]? = some (some v) → okV h v) (g6 : ∀ v ∈ st, okV h v) (g7 : lv_has lsA nL (la al ls))
    (k : JW p l e R s m args below meth c nL D cA A al0 h0 Q (pc + 3) ls (v :: st) h2 (a + mc2) (b + ms2)) : W p l e R s m args below meth c H locs a b Q (F0 m pc lsA stk) := by
  intro T hT X
  obtain ⟨vv, st₀, t, T', L, h0', X', hL, e1, e2, ⟨⟨al', ho, ha, hc, hov, hR⟩, hF⟩, stp⟩ := hr T hT X
  injection ho with ho
  subst ho
  obtain ⟨t2, a1, b1⟩ := k al' T'.heap (locs ++ L) lsA (fun k n hn => (ha k n (Nat.lt_of_lt_of_le hn (g2 k))).trans (g1 k n hn)) (fun k => Nat.le_trans (g2 k) (hc k)) (by rw [e1]; exact hR) (after_S g4 h0' e1 hF hL) (fun i v hv => okV_mono hc (g5 i v hv)) (okS_c (hov v rfl) (fun v hv => okV_mono hc (g6 v hv))) (la_al ha g5 g7) T' rfl X'
  rw [List.map_cons, map_cv ha g6] at a1
  exact ⟨t2, stp t2 a1, b1⟩
theorem JW_after0 {pc a b mc2 ms2 : Nat} {ls : List (Option AV)} {st : List AV} {h h2 : Hp} {al : Nat → Nat → Nat} {H : Heap} {locs : List Loc} {lsA : Array Slot} {stk : List Value} {ar : Array Value}
    (hr : va_Run p l e R s m args below meth c H locs a b mc2 ms2 (F0 m pc lsA stk) (st.map (cv al)) (cQ D cA A al h none h2 ar) A) (g1 : ∀ k n, n < pC h0 k → al k n = al0 k n) (g2 : ∀ k, pC h0 k ≤ pC h k) (g4 : va_S A s.heap H locs) (g5 : ∀ (i : Nat) (v : AV), ls[i]? = some (some v) → okV h v) (g6 : ∀ v ∈ st, okV h v) (g7 : lv_has lsA nL (la al ls))
    (k : JW p l e R s m args below meth c nL D cA A al0 h0 Q (pc + 3) ls st h2 (a + mc2) (b + ms2)) : W p l e R s m args below meth c H locs a b Q (F0 m pc lsA stk) := by
  intro T hT X
  obtain ⟨vv, st₀, t, T', L, h0', X', hL, e1, e2, ⟨⟨al', ho, ha, hc, hov, hR⟩, hF⟩, stp⟩ := hr T hT X
  injection ho with ho
  subst ho
  obtain ⟨t2, a1, b1⟩ := k al' T'.heap (locs ++ L) lsA (fun k n hn => (ha k n (Nat.lt_of_lt_of_le hn (g2 k))).trans (g1 k n hn)) (fun k => Nat.le_trans (g2 k) (hc k)) (by rw [e1]; exact hR) (after_S g4 h0' e1 hF hL) (fun i v hv => okV_mono hc (g5 i v hv)) (fun v hv => okV_mono hc (g6 v hv)) (la_al ha g5 g7) T' rfl X'
  rw [map_cv ha g6] at a1
  exact ⟨t2, stp t2 a1, b1⟩

theorem JW_iconst (X : Cx p R s m args meth c cc own nL d mc ms ini D cA A) : rl_iconst cc own nL d mc ms ini (JW p l e R s m args below meth c nL D cA A al0 h0 Q) := by
  intro pc a b ls st h n v hd hv k al H locs lsA g1 g2 g3 g4 g5 g6 g7
  exact lv_iconst X.1 X.2.1 hd hv (k al H locs lsA g1 g2 g3 g4 g5 (okS_i g6) g7)
theorem JW_bipush (X : Cx p R s m args meth c cc own nL d mc ms ini D cA A) : rl_bipush cc own nL d mc ms ini (JW p l e R s m args below meth c nL D cA A al0 h0 Q) := by
  intro pc a b ls st h n v hd hv k al H locs lsA g1 g2 g3 g4 g5 g6 g7
  exact lv_bipush X.1 X.2.1 hd hv (k al H locs lsA g1 g2 g3 g4 g5 (okS_i g6) g7)
theorem JW_sipush (X : Cx p R s m args meth c cc own nL d mc ms ini D cA A) : rl_sipush cc own nL d mc ms ini (JW p l e R s m args below meth c nL D cA A al0 h0 Q) := by
  intro pc a b ls st h n v hd hv k al H locs lsA g1 g2 g3 g4 g5 g6 g7
  exact lv_sipush X.1 X.2.1 hd hv (k al H locs lsA g1 g2 g3 g4 g5 (okS_i g6) g7)
theorem JW_ldc (X : Cx p R s m args meth c cc own nL d mc ms ini D cA A) : rl_ldc cc own nL d mc ms ini (JW p l e R s m args below meth c nL D cA A al0 h0 Q) := by
  intro pc a b ls st h ix v hd hv k al H locs lsA g1 g2 g3 g4 g5 g6 g7
  exact lv_ldc X.1 X.2.1 X.hown (X.hts _ hv) hd (k al H locs lsA g1 g2 g3 g4 g5 (okS_i g6) g7)
theorem JW_ldc_w (X : Cx p R s m args meth c cc own nL d mc ms ini D cA A) : rl_ldc_w cc own nL d mc ms ini (JW p l e R s m args below meth c nL D cA A al0 h0 Q) := by
  intro pc a b ls st h ix v hd hv k al H locs lsA g1 g2 g3 g4 g5 g6 g7
  exact lv_ldcw X.1 X.2.1 X.hown (X.hts _ hv) hd (k al H locs lsA g1 g2 g3 g4 g5 (okS_i g6) g7)
theorem JW_iload_n (X : Cx p R s m args meth c cc own nL d mc ms ini D cA A) : rl_iload_n cc own nL d mc ms ini (JW p l e R s m args below meth c nL D cA A al0 h0 Q) := by
  intro pc a b ls st h q i x hd hi hl k al H locs lsA g1 g2 g3 g4 g5 g6 g7
  exact lv_iload_n X.1 X.2.1 hd hi (la_at g7 hl) (k al H locs lsA g1 g2 g3 g4 g5 (okS_i g6) g7)
theorem JW_iload (X : Cx p R s m args meth c cc own nL d mc ms ini D cA A) : rl_iload cc own nL d mc ms ini (JW p l e R s m args below meth c nL D cA A al0 h0 Q) := by
  intro pc a b ls st h i x hd hl k al H locs lsA g1 g2 g3 g4 g5 g6 g7
  exact lv_iload X.1 X.2.1 hd (la_at g7 hl) (k al H locs lsA g1 g2 g3 g4 g5 (okS_i g6) g7)
theorem JW_aload_n (X : Cx p R s m args meth c cc own nL d mc ms ini D cA A) : rl_aload_n cc own nL d mc ms ini (JW p l e R s m args below meth c nL D cA A al0 h0 Q) := by
  intro pc a b ls st h q i kk r hd hi hl k al H locs lsA g1 g2 g3 g4 g5 g6 g7
  have h8 := k al H locs lsA g1 g2 g3 g4 g5 (okS_c (g5 _ _ hl) g6) g7
  have h9 := la_at g7 hl
  cases r with
  | none => exact lv_aload_nN X.1 X.2.1 hd hi h9 h8
  | some n => exact lv_aload_n X.1 X.2.1 hd hi h9 h8
theorem JW_aload (X : Cx p R s m args meth c cc own nL d mc ms ini D cA A) : rl_aload cc own nL d mc ms ini (JW p l e R s m args below meth c nL D cA A al0 h0 Q) := by
  intro pc a b ls st h i kk r hd hl k al H locs lsA g1 g2 g3 g4 g5 g6 g7
  have h8 := k al H locs lsA g1 g2 g3 g4 g5 (okS_c (g5 _ _ hl) g6) g7
  have h9 := la_at g7 hl
  cases r with
  | none => exact lv_aloadN X.1 X.2.1 hd h9 h8
  | some n => exact lv_aload X.1 X.2.1 hd h9 h8
theorem JW_istore_n (X : Cx p R s m args meth c cc own nL d mc ms ini D cA A) : rl_istore_n cc own nL d mc ms ini (JW p l e R s m args below meth c nL D cA A al0 h0 Q) := by
  intro pc a b ls st h q i x ls2 hd hi hn hs k al H locs lsA g1 g2 g3 g4 g5 g6 g7
  subst hs
  exact lv_istore_n X.1 X.2.1 hd hi g7 hn rfl (fun ls' h7 => k al H locs ls' g1 g2 g3 g4 (okL_set g5 (okS_h g6)) (okS_t g6) (la_set (v := .inl x) h7))
theorem JW_istore (X : Cx p R s m args meth c cc own nL d mc ms ini D cA A) : rl_istore cc own nL d mc ms ini (JW p l e R s m args below meth c nL D cA A al0 h0 Q) := by
  intro pc a b ls st h i x ls2 hd hn hs k al H locs lsA g1 g2 g3 g4 g5 g6 g7
  subst hs
  exact lv_istore X.1 X.2.1 hd g7 hn rfl (fun ls' h7 => k al H locs ls' g1 g2 g3 g4 (okL_set g5 (okS_h g6)) (okS_t g6) (la_set (v := .inl x) h7))
theorem JW_astore_n (X : Cx p R s m args meth c cc own nL d mc ms ini D cA A) : rl_astore_n cc own nL d mc ms ini (JW p l e R s m args below meth c nL D cA A al0 h0 Q) := by
  intro pc a b ls st h q i kk r ls2 hd hi hn hs k al H locs lsA g1 g2 g3 g4 g5 g6 g7
  subst hs
  cases r with
  | none => exact lv_astore_nN X.1 X.2.1 hd hi g7 hn rfl (fun ls' h7 => k al H locs ls' g1 g2 g3 g4 (okL_set g5 (okS_h g6)) (okS_t g6) (la_set (v := .inr (kk, none)) h7))
  | some n => exact lv_astore_n X.1 X.2.1 hd hi g7 hn rfl (fun ls' h7 => k al H locs ls' g1 g2 g3 g4 (okL_set g5 (okS_h g6)) (okS_t g6) (la_set (v := .inr (kk, some n)) h7))
theorem JW_astore (X : Cx p R s m args meth c cc own nL d mc ms ini D cA A) : rl_astore cc own nL d mc ms ini (JW p l e R s m args below meth c nL D cA A al0 h0 Q) := by
  intro pc a b ls st h i kk r ls2 hd hn hs k al H locs lsA g1 g2 g3 g4 g5 g6 g7
  subst hs
  cases r with
  | none => exact lv_astoreN X.1 X.2.1 hd g7 hn rfl (fun ls' h7 => k al H locs ls' g1 g2 g3 g4 (okL_set g5 (okS_h g6)) (okS_t g6) (la_set (v := .inr (kk, none)) h7))
  | some n => exact lv_astore X.1 X.2.1 hd g7 hn rfl (fun ls' h7 => k al H locs ls' g1 g2 g3 g4 (okL_set g5 (okS_h g6)) (okS_t g6) (la_set (v := .inr (kk, some n)) h7))
theorem JW_iinc (X : Cx p R s m args meth c cc own nL d mc ms ini D cA A) : rl_iinc cc own nL d mc ms ini (JW p l e R s m args below meth c nL D cA A al0 h0 Q) := by
  intro pc a b ls st h i n x v ls2 hd hl hv hn hs k al H locs lsA g1 g2 g3 g4 g5 g6 g7
  subst hs
  obtain ⟨q0, hq0⟩ := List.getElem?_of_mem (la_mem.mpr ⟨_, hl, rfl⟩ : (i, cv al (.inl x)) ∈ la al ls)
  exact lv_iinc X.1 X.2.1 hd g7 hq0 hv hn rfl (fun ls' h7 => k al H locs ls' g1 g2 g3 g4 (okL_set (v := .inl v) g5 trivial) g6 (la_set (v := .inl v) h7))
theorem JW_iadd (X : Cx p R s m args meth c cc own nL d mc ms ini D cA A) : rl_iadd cc own nL d mc ms ini (JW p l e R s m args below meth c nL D cA A al0 h0 Q) := by
  intro pc a b ls st h x y hd k al H locs lsA g1 g2 g3 g4 g5 g6 g7
  exact lv_iadd X.1 X.2.1 hd (k al H locs lsA g1 g2 g3 g4 g5 (okS_i (okS_t (okS_t g6))) g7)
theorem JW_isub (X : Cx p R s m args meth c cc own nL d mc ms ini D cA A) : rl_isub cc own nL d mc ms ini (JW p l e R s m args below meth c nL D cA A al0 h0 Q) := by
  intro pc a b ls st h x y hd k al H locs lsA g1 g2 g3 g4 g5 g6 g7
  exact lv_isub X.1 X.2.1 hd (k al H locs lsA g1 g2 g3 g4 g5 (okS_i (okS_t (okS_t g6))) g7)
theorem JW_imul (X : Cx p R s m args meth c cc own nL d mc ms ini D cA A) : rl_imul cc own nL d mc ms ini (JW p l e R s m args below meth c nL D cA A al0 h0 Q) := by
  intro pc a b ls st h x y hd k al H locs lsA g1 g2 g3 g4 g5 g6 g7
  exact lv_imul X.1 X.2.1 hd (k al H locs lsA g1 g2 g3 g4 g5 (okS_i (okS_t (okS_t g6))) g7)
theorem JW_iand (X : Cx p R s m args meth c cc own nL d mc ms ini D cA A) : rl_iand cc own nL d mc ms ini (JW p l e R s m args below meth c nL D cA A al0 h0 Q) := by
  intro pc a b ls st h x y hd k al H locs lsA g1 g2 g3 g4 g5 g6 g7
  exact lv_iand X.1 X.2.1 hd (k al H locs lsA g1 g2 g3 g4 g5 (okS_i (okS_t (okS_t g6))) g7)
theorem JW_ior (X : Cx p R s m args meth c cc own nL d mc ms ini D cA A) : rl_ior cc own nL d mc ms ini (JW p l e R s m args below meth c nL D cA A al0 h0 Q) := by
  intro pc a b ls st h x y hd k al H locs lsA g1 g2 g3 g4 g5 g6 g7
  exact lv_ior X.1 X.2.1 hd (k al H locs lsA g1 g2 g3 g4 g5 (okS_i (okS_t (okS_t g6))) g7)
theorem JW_ishl (X : Cx p R s m args meth c cc own nL d mc ms ini D cA A) : rl_ishl cc own nL d mc ms ini (JW p l e R s m args below meth c nL D cA A al0 h0 Q) := by
  intro pc a b ls st h x y hd k al H locs lsA g1 g2 g3 g4 g5 g6 g7
  exact lv_ishl X.1 X.2.1 hd (k al H locs lsA g1 g2 g3 g4 g5 (okS_i (okS_t (okS_t g6))) g7)
theorem JW_ishr (X : Cx p R s m args meth c cc own nL d mc ms ini D cA A) : rl_ishr cc own nL d mc ms ini (JW p l e R s m args below meth c nL D cA A al0 h0 Q) := by
  intro pc a b ls st h x y hd k al H locs lsA g1 g2 g3 g4 g5 g6 g7
  exact lv_ishr X.1 X.2.1 hd (k al H locs lsA g1 g2 g3 g4 g5 (okS_i (okS_t (okS_t g6))) g7)
theorem JW_idiv (X : Cx p R s m args meth c cc own nL d mc ms ini D cA A) : rl_idiv cc own nL d mc ms ini (JW p l e R s m args below meth c nL D cA A al0 h0 Q) := by
  intro pc a b ls st h x y hd hy k al H locs lsA g1 g2 g3 g4 g5 g6 g7
  exact lv_idiv X.1 X.2.1 hd hy (k al H locs lsA g1 g2 g3 g4 g5 (okS_i (okS_t (okS_t g6))) g7)
theorem JW_irem (X : Cx p R s m args meth c cc own nL d mc ms ini D cA A) : rl_irem cc own nL d mc ms ini (JW p l e R s m args below meth c nL D cA A al0 h0 Q) := by
  intro pc a b ls st h x y hd hy k al H locs lsA g1 g2 g3 g4 g5 g6 g7
  exact lv_irem X.1 X.2.1 hd hy (k al H locs lsA g1 g2 g3 g4 g5 (okS_i (okS_t (okS_t g6))) g7)
theorem JW_dup (X : Cx p R s m args meth c cc own nL d mc ms ini D cA A) : rl_dup cc own nL d mc ms ini (JW p l e R s m args below meth c nL D cA A al0 h0 Q) := by
  intro pc a b ls st h v hd k al H locs lsA g1 g2 g3 g4 g5 g6 g7
  exact lv_dup X.1 X.2.1 hd (cv_cat al v) (k al H locs lsA g1 g2 g3 g4 g5 (okS_c (okS_h g6) g6) g7)
theorem JW_dup2 (X : Cx p R s m args meth c cc own nL d mc ms ini D cA A) : rl_dup2 cc own nL d mc ms ini (JW p l e R s m args below meth c nL D cA A al0 h0 Q) := by
  intro pc a b ls st h v w hd k al H locs lsA g1 g2 g3 g4 g5 g6 g7
  exact lv_dup2_11 X.1 X.2.1 hd (cv_cat al v) (cv_cat al w) (k al H locs lsA g1 g2 g3 g4 g5 (okS_c (okS_h g6) (okS_c (okS_h (okS_t g6)) g6)) g7)
theorem JW_pop (X : Cx p R s m args meth c cc own nL d mc ms ini D cA A) : rl_pop cc own nL d mc ms ini (JW p l e R s m args below meth c nL D cA A al0 h0 Q) := by
  intro pc a b ls st h v hd k al H locs lsA g1 g2 g3 g4 g5 g6 g7
  exact lv_pop X.1 X.2.1 hd (cv_cat al v) (k al H locs lsA g1 g2 g3 g4 g5 (okS_t g6) g7)
theorem JW_if_eq (X : Cx p R s m args meth c cc own nL d mc ms ini D cA A) : rl_if_eq cc own nL d mc ms ini (JW p l e R s m args below meth c nL D cA A al0 h0 Q) := by
  intro pc a b ls st h x off tgt hd ht kt kf al H locs lsA g1 g2 g3 g4 g5 g6 g7
  exact lv_if_eq X.1 X.2.1 hd ht (fun e => kt e al H locs lsA g1 g2 g3 g4 g5 (okS_t g6) g7) (fun e => kf e al H locs lsA g1 g2 g3 g4 g5 (okS_t g6) g7)
theorem JW_icmp_eq (X : Cx p R s m args meth c cc own nL d mc ms ini D cA A) : rl_icmp_eq cc own nL d mc ms ini (JW p l e R s m args below meth c nL D cA A al0 h0 Q) := by
  intro pc a b ls st h x y off tgt hd ht kt kf al H locs lsA g1 g2 g3 g4 g5 g6 g7
  exact lv_icmp_eq X.1 X.2.1 hd ht (fun e => kt e al H locs lsA g1 g2 g3 g4 g5 (okS_t (okS_t g6)) g7) (fun e => kf e al H locs lsA g1 g2 g3 g4 g5 (okS_t (okS_t g6)) g7)
theorem JW_if_ne (X : Cx p R s m args meth c cc own nL d mc ms ini D cA A) : rl_if_ne cc own nL d mc ms ini (JW p l e R s m args below meth c nL D cA A al0 h0 Q) := by
  intro pc a b ls st h x off tgt hd ht kt kf al H locs lsA g1 g2 g3 g4 g5 g6 g7
  exact lv_if_ne X.1 X.2.1 hd ht (fun e => kt e al H locs lsA g1 g2 g3 g4 g5 (okS_t g6) g7) (fun e => kf e al H locs lsA g1 g2 g3 g4 g5 (okS_t g6) g7)
theorem JW_icmp_ne (X : Cx p R s m args meth c cc own nL d mc ms ini D cA A) : rl_icmp_ne cc own nL d mc ms ini (JW p l e R s m args below meth c nL D cA A al0 h0 Q) := by
  intro pc a b ls st h x y off tgt hd ht kt kf al H locs lsA g1 g2 g3 g4 g5 g6 g7
  exact lv_icmp_ne X.1 X.2.1 hd ht (fun e => kt e al H locs lsA g1 g2 g3 g4 g5 (okS_t (okS_t g6)) g7) (fun e => kf e al H locs lsA g1 g2 g3 g4 g5 (okS_t (okS_t g6)) g7)
theorem JW_if_lt (X : Cx p R s m args meth c cc own nL d mc ms ini D cA A) : rl_if_lt cc own nL d mc ms ini (JW p l e R s m args below meth c nL D cA A al0 h0 Q) := by
  intro pc a b ls st h x off tgt hd ht kt kf al H locs lsA g1 g2 g3 g4 g5 g6 g7
  exact lv_if_lt X.1 X.2.1 hd ht (fun e => kt e al H locs lsA g1 g2 g3 g4 g5 (okS_t g6) g7) (fun e => kf e al H locs lsA g1 g2 g3 g4 g5 (okS_t g6) g7)
theorem JW_icmp_lt (X : Cx p R s m args meth c cc own nL d mc ms ini D cA A) : rl_icmp_lt cc own nL d mc ms ini (JW p l e R s m args below meth c nL D cA A al0 h0 Q) := by
  intro pc a b ls st h x y off tgt hd ht kt kf al H locs lsA g1 g2 g3 g4 g5 g6 g7
  exact lv_icmp_lt X.1 X.2.1 hd ht (fun e => kt e al H locs lsA g1 g2 g3 g4 g5 (okS_t (okS_t g6)) g7) (fun e => kf e al H locs lsA g1 g2 g3 g4 g5 (okS_t (okS_t g6)) g7)
theorem JW_if_ge (X : Cx p R s m args meth c cc own nL d mc ms ini D cA A) : rl_if_ge cc own nL d mc ms ini (JW p l e R s m args below meth c nL D cA A al0 h0 Q) := by
  intro pc a b ls st h x off tgt hd ht kt kf al H locs lsA g1 g2 g3 g4 g5 g6 g7
  exact lv_if_ge X.1 X.2.1 hd ht (fun e => kt e al H locs lsA g1 g2 g3 g4 g5 (okS_t g6) g7) (fun e => kf e al H locs lsA g1 g2 g3 g4 g5 (okS_t g6) g7)
theorem JW_icmp_ge (X : Cx p R s m args meth c cc own nL d mc ms ini D cA A) : rl_icmp_ge cc own nL d mc ms ini (JW p l e R s m args below meth c nL D cA A al0 h0 Q) := by
  intro pc a b ls st h x y off tgt hd ht kt kf al H locs lsA g1 g2 g3 g4 g5 g6 g7
  exact lv_icmp_ge X.1 X.2.1 hd ht (fun e => kt e al H locs lsA g1 g2 g3 g4 g5 (okS_t (okS_t g6)) g7) (fun e => kf e al H locs lsA g1 g2 g3 g4 g5 (okS_t (okS_t g6)) g7)
theorem JW_if_gt (X : Cx p R s m args meth c cc own nL d mc ms ini D cA A) : rl_if_gt cc own nL d mc ms ini (JW p l e R s m args below meth c nL D cA A al0 h0 Q) := by
  intro pc a b ls st h x off tgt hd ht kt kf al H locs lsA g1 g2 g3 g4 g5 g6 g7
  exact lv_if_gt X.1 X.2.1 hd ht (fun e => kt e al H locs lsA g1 g2 g3 g4 g5 (okS_t g6) g7) (fun e => kf e al H locs lsA g1 g2 g3 g4 g5 (okS_t g6) g7)
theorem JW_icmp_gt (X : Cx p R s m args meth c cc own nL d mc ms ini D cA A) : rl_icmp_gt cc own nL d mc ms ini (JW p l e R s m args below meth c nL D cA A al0 h0 Q) := by
  intro pc a b ls st h x y off tgt hd ht kt kf al H locs lsA g1 g2 g3 g4 g5 g6 g7
  exact lv_icmp_gt X.1 X.2.1 hd ht (fun e => kt e al H locs lsA g1 g2 g3 g4 g5 (okS_t (okS_t g6)) g7) (fun e => kf e al H locs lsA g1 g2 g3 g4 g5 (okS_t (okS_t g6)) g7)
theorem JW_if_le (X : Cx p R s m args meth c cc own nL d mc ms ini D cA A) : rl_if_le cc own nL d mc ms ini (JW p l e R s m args below meth c nL D cA A al0 h0 Q) := by
  intro pc a b ls st h x off tgt hd ht kt kf al H locs lsA g1 g2 g3 g4 g5 g6 g7
  exact lv_if_le X.1 X.2.1 hd ht (fun e => kt e al H locs lsA g1 g2 g3 g4 g5 (okS_t g6) g7) (fun e => kf e al H locs lsA g1 g2 g3 g4 g5 (okS_t g6) g7)
theorem JW_icmp_le (X : Cx p R s m args meth c cc own nL d mc ms ini D cA A) : rl_icmp_le cc own nL d mc ms ini (JW p l e R s m args below meth c nL D cA A al0 h0 Q) := by
  intro pc a b ls st h x y off tgt hd ht kt kf al H locs lsA g1 g2 g3 g4 g5 g6 g7
  exact lv_icmp_le X.1 X.2.1 hd ht (fun e => kt e al H locs lsA g1 g2 g3 g4 g5 (okS_t (okS_t g6)) g7) (fun e => kf e al H locs lsA g1 g2 g3 g4 g5 (okS_t (okS_t g6)) g7)
theorem JW_goto (X : Cx p R s m args meth c cc own nL d mc ms ini D cA A) : rl_goto cc own nL d mc ms ini (JW p l e R s m args below meth c nL D cA A al0 h0 Q) := by
  intro pc a b ls st h off tgt hd ht k al H locs lsA g1 g2 g3 g4 g5 g6 g7
  exact lv_goto X.1 X.2.1 hd ht (k al H locs lsA g1 g2 g3 g4 g5 g6 g7)
theorem JW_forget (X : Cx p R s m args meth c cc own nL d mc ms ini D cA A) : rl_forget cc own nL d mc ms ini (JW p l e R s m args below meth c nL D cA A al0 h0 Q) := by
  intro pc a b ls st h ls2 hs k al H locs lsA g1 g2 g3 g4 g5 g6 g7
  have hs := subL_get _ _ hs
  exact k al H locs lsA g1 g2 g3 g4 (fun i v hv => g5 i v (hs i v hv)) g6 ⟨g7.1, g7.2.1, fun q hq => by
    obtain ⟨w, hw, e⟩ := la_mem.mp hq
    exact g7.2.2 q (la_mem.mpr ⟨w, hs _ _ hw, e⟩)⟩
theorem JW_null (X : Cx p R s m args meth c cc own nL d mc ms ini D cA A) : rl_null cc own nL d mc ms ini (JW p l e R s m args below meth c nL D cA A al0 h0 Q) := by
  intro pc a b ls st h kk hd k al H locs lsA g1 g2 g3 g4 g5 g6 g7
  exact lv_null X.1 X.2.1 hd (k al H locs lsA g1 g2 g3 g4 g5 (okS_c (fun n e => by cases e) g6) g7)
theorem JW_ifnull (X : Cx p R s m args meth c cc own nL d mc ms ini D cA A) : rl_ifnull cc own nL d mc ms ini (JW p l e R s m args below meth c nL D cA A al0 h0 Q) := by
  intro pc a b ls st h kk r off tgt hd ht kt kf al H locs lsA g1 g2 g3 g4 g5 g6 g7
  cases r with
  | none => exact lv_ifnullN X.1 X.2.1 hd ht (kt rfl al H locs lsA g1 g2 g3 g4 g5 (okS_t g6) g7)
  | some n => exact lv_ifnull X.1 X.2.1 hd (kf n rfl al H locs lsA g1 g2 g3 g4 g5 (okS_t g6) g7)
theorem JW_ifnonnull (X : Cx p R s m args meth c cc own nL d mc ms ini D cA A) : rl_ifnonnull cc own nL d mc ms ini (JW p l e R s m args below meth c nL D cA A al0 h0 Q) := by
  intro pc a b ls st h kk r off tgt hd ht kt kf al H locs lsA g1 g2 g3 g4 g5 g6 g7
  cases r with
  | none => exact lv_ifnonnullN X.1 X.2.1 hd (kf rfl al H locs lsA g1 g2 g3 g4 g5 (okS_t g6) g7)
  | some n => exact lv_ifnonnull X.1 X.2.1 hd ht (kt n rfl al H locs lsA g1 g2 g3 g4 g5 (okS_t g6) g7)
theorem JW_acmp_eq (X : Cx p R s m args meth c cc own nL d mc ms ini D cA A) : rl_acmp_eq cc own nL d mc ms ini (JW p l e R s m args below meth c nL D cA A al0 h0 Q) := by
  intro pc a b ls st h kk r1 r2 off tgt hd hk ht kt kf al H locs lsA g1 g2 g3 g4 g5 g6 g7
  have hi := al_inj g3 hk (okS_h (okS_t g6)) (okS_h g6)
  exact lv_acmp_eq X.1 X.2.1 hd ht (fun e => kt (by simpa [hi] using e) al H locs lsA g1 g2 g3 g4 g5 (okS_t (okS_t g6)) g7) (fun e => kf (by simpa [hi] using e) al H locs lsA g1 g2 g3 g4 g5 (okS_t (okS_t g6)) g7)
theorem JW_acmp_ne (X : Cx p R s m args meth c cc own nL d mc ms ini D cA A) : rl_acmp_ne cc own nL d mc ms ini (JW p l e R s m args below meth c nL D cA A al0 h0 Q) := by
  intro pc a b ls st h kk r1 r2 off tgt hd hk ht kt kf al H locs lsA g1 g2 g3 g4 g5 g6 g7
  have hi := al_inj g3 hk (okS_h (okS_t g6)) (okS_h g6)
  exact lv_acmp_ne X.1 X.2.1 hd ht (fun e => kt (by simpa [hi] using e) al H locs lsA g1 g2 g3 g4 g5 (okS_t (okS_t g6)) g7) (fun e => kf (by simpa [hi] using e) al H locs lsA g1 g2 g3 g4 g5 (okS_t (okS_t g6)) g7)
theorem JW_tabIn (X : Cx p R s m args meth c cc own nL d mc ms ini D cA A) : rl_tabIn cc own nL d mc ms ini (JW p l e R s m args below meth c nL D cA A al0 h0 Q) := by
  intro pc a b ls st h dflt lo hi offs len x off tgt hd h1 h2 ho ht k al H locs lsA g1 g2 g3 g4 g5 g6 g7
  exact lv_tableIn X.1 X.2.1 hd h1 h2 ho ht (k al H locs lsA g1 g2 g3 g4 g5 (okS_t g6) g7)
theorem JW_tabOut (X : Cx p R s m args meth c cc own nL d mc ms ini D cA A) : rl_tabOut cc own nL d mc ms ini (JW p l e R s m args below meth c nL D cA A al0 h0 Q) := by
  intro pc a b ls st h dflt lo hi offs len x tgt hd ho ht k al H locs lsA g1 g2 g3 g4 g5 g6 g7
  exact lv_tableOut X.1 X.2.1 hd ho ht (k al H locs lsA g1 g2 g3 g4 g5 (okS_t g6) g7)
theorem JW_getI (X : Cx p R s m args meth c cc own nL d mc ms ini D cA A) : rl_getI cc own nL d mc ms ini (JW p l e R s m args below meth c nL D cA A al0 h0 Q) := by
  intro pc a b ls st h ix kk i n r hd hf hr k al H locs lsA g1 g2 g3 g4 g5 g6 g7
  subst hr
  obtain ⟨hk, hi, ht, hm⟩ := hf
  obtain ⟨L, l1, l2, l3, l4⟩ := g3.2
  obtain ⟨q0, p1, p2⟩ := wl_get (cA := cA) (al := al) (h := h) ((l2 (kk, n)).mpr ⟨okS_h g6 n rfl, by omega⟩)
  rw [cE_obj hk] at p2
  refine va_get X.1 X.2.1 X.hts (kig kk hk) X.hown X.ev.1 l3 q0 p2 (kcl kk hk) i hi (X.hts _ hm) (fun _ e => e) (v := .int (pI h kk n i)) (by simp [hi, fV_int ht]) hd ?_
  exact k al H locs lsA g1 g2 g3 g4 g5 (okS_i (okS_t g6)) g7
theorem JW_getR (X : Cx p R s m args meth c cc own nL d mc ms ini D cA A) : rl_getR cc own nL d mc ms ini (JW p l e R s m args below meth c nL D cA A al0 h0 Q) := by
  intro pc a b ls st h ix kk i n k2 r hd hf hr k al H locs lsA g1 g2 g3 g4 g5 g6 g7
  subst hr
  obtain ⟨hk, hi, ht, hm⟩ := hf
  obtain ⟨L, l1, l2, l3, l4⟩ := g3.2
  obtain ⟨q0, p1, p2⟩ := wl_get (cA := cA) (al := al) (h := h) ((l2 (kk, n)).mpr ⟨okS_h g6 n rfl, by omega⟩)
  rw [cE_obj hk] at p2
  refine va_get X.1 X.2.1 X.hts (kig kk hk) X.hown X.ev.1 l3 q0 p2 (kcl kk hk) i hi (X.hts _ hm) (fun _ e => e) (v := va_rf ((pR h kk n i).map (al k2))) (by simp [hi, fV_ref ht]) hd ?_
  exact k al H locs lsA g1 g2 g3 g4 g5 (okS_c (fun j hj => by have := g3.1 kk n i j hj; simpa [rk, hk, ht] using this) (okS_t g6)) g7
theorem JW_putI (X : Cx p R s m args meth c cc own nL d mc ms ini D cA A) : rl_putI cc own nL d mc ms ini (JW p l e R s m args below meth c nL D cA A al0 h0 Q) := by
  intro pc a b ls st h ix kk i n r v hd hf hfin hnar hr k al H locs lsA g1 g2 g3 g4 g5 g6 g7
  subst hr
  obtain ⟨hk, hi, ht, hm⟩ := hf
  obtain ⟨L, l1, l2, l3, l4⟩ := g3.2
  obtain ⟨q0, p1, p2⟩ := wl_get (cA := cA) (al := al) (h := h) ((l2 (kk, n)).mpr ⟨okS_h (okS_t g6) n rfl, by omega⟩)
  rw [cE_obj hk] at p2
  have e1 : cE cA al (wI h kk n i v) kk n = .inr (kk, ((List.range (nf kk)).map (fV al h kk n)).set i (.int v)) := by rw [cE_obj hk, fs_wI ht hi]
  have e2 := wl_set (cA := cA) (al := al) (h := h) (h' := (wI h kk n i v)) l1 p1 (fun k' n' hne => cE_wI hne)
  rw [e1] at e2
  refine va_put (v := .int v) X.1 X.2.1 X.hts (kig kk hk) (kY kk) (kty kk hk) (knm kk hk) X.hown X.ev.1 l3 l4 g4 q0 p2 (kcl kk hk) i hi (X.hts _ hm) (fun _ e => e) hfin (kty kk hk i hi) hnar.1 hnar.2 (by simp [hi]) hd (fun H1 locs1 r1 r2 r3 => ?_)
  rw [e2] at r1 r2
  exact k al H1 locs1 lsA g1 g2 ⟨g3.1.wI _ _ _ _, L, l1, l2, r1, r2⟩ r3 g5 (okS_t (okS_t g6)) g7
theorem JW_putIF (X : Cx p R s m args meth c cc own nL d mc ms ini D cA A) : rl_putIF cc own nL d mc ms ini (JW p l e R s m args below meth c nL D cA A al0 h0 Q) := by
  intro pc a b ls st h ix kk i n r v hd hf hfin hown hini hnar hr k al H locs lsA g1 g2 g3 g4 g5 g6 g7
  subst hr
  obtain ⟨hk, hi, ht, hm⟩ := hf
  obtain ⟨L, l1, l2, l3, l4⟩ := g3.2
  obtain ⟨q0, p1, p2⟩ := wl_get (cA := cA) (al := al) (h := h) ((l2 (kk, n)).mpr ⟨okS_h (okS_t g6) n rfl, by omega⟩)
  rw [cE_obj hk] at p2
  have e1 : cE cA al (wI h kk n i v) kk n = .inr (kk, ((List.range (nf kk)).map (fV al h kk n)).set i (.int v)) := by rw [cE_obj hk, fs_wI ht hi]
  have e2 := wl_set (cA := cA) (al := al) (h := h) (h' := (wI h kk n i v)) l1 p1 (fun k' n' hne => cE_wI hne)
  rw [e1] at e2
  refine va_putF (v := .int v) X.1 X.2.1 X.hts (kig kk hk) (kY kk) (kty kk hk) (knm kk hk) X.hown X.ev.1 l3 l4 g4 q0 p2 (kcl kk hk) i hi (X.hts _ hm) (fun _ e => e) hfin (X.hini hini) ((kdc kk hk i hi).trans hown) (kty kk hk i hi) hnar.1 hnar.2 (by simp [hi]) hd (fun H1 locs1 r1 r2 r3 => ?_)
  rw [e2] at r1 r2
  exact k al H1 locs1 lsA g1 g2 ⟨g3.1.wI _ _ _ _, L, l1, l2, r1, r2⟩ r3 g5 (okS_t (okS_t g6)) g7
theorem JW_putR (X : Cx p R s m args meth c cc own nL d mc ms ini D cA A) : rl_putR cc own nL d mc ms ini (JW p l e R s m args below meth c nL D cA A al0 h0 Q) := by
  intro pc a b ls st h ix kk i n k2 k3 r o hd hf hfin ho hr k al H locs lsA g1 g2 g3 g4 g5 g6 g7
  subst hr
  obtain ⟨hk, hi, ht, hm⟩ := hf
  obtain ⟨L, l1, l2, l3, l4⟩ := g3.2
  obtain ⟨q0, p1, p2⟩ := wl_get (cA := cA) (al := al) (h := h) ((l2 (kk, n)).mpr ⟨okS_h (okS_t g6) n rfl, by omega⟩)
  rw [cE_obj hk] at p2
  have hval : cv al (.inr (k3, o)) = va_rf (o.map (al k2)) := by
    rcases ho with rfl | rfl <;> rfl
  have hnf := rf_ok (o := o.map (al k2)) ((kft kk hk i hi).1.trans (by rw [ht]; rfl))
  have e1 : cE cA al (wR h kk n i o) kk n = .inr (kk, ((List.range (nf kk)).map (fV al h kk n)).set i (va_rf (o.map (al k2)))) := by rw [cE_obj hk, fs_wR ht hi]
  have e2 := wl_set (cA := cA) (al := al) (h := h) (h' := (wR h kk n i o)) l1 p1 (fun k' n' hne => cE_wR hne)
  rw [e1] at e2
  rw [List.map_cons, hval]
  refine va_put (v := va_rf (o.map (al k2))) X.1 X.2.1 X.hts (kig kk hk) (kY kk) (kty kk hk) (knm kk hk) X.hown X.ev.1 l3 l4 g4 q0 p2 (kcl kk hk) i hi (X.hts _ hm) (fun _ e => e) hfin (kty kk hk i hi) hnf.1 hnf.2 (by simp [hi]) hd (fun H1 locs1 r1 r2 r3 => ?_)
  rw [e2] at r1 r2
  exact k al H1 locs1 lsA g1 g2 ⟨g3.1.wR _ _ _ _ (fun j hj => by rcases ho with rfl | rfl; (· cases hj); have := okS_h g6 j hj; simpa [rk, hk, ht] using this), L, l1, l2, r1, r2⟩ r3 g5 (okS_t (okS_t g6)) g7
theorem JW_putRF (X : Cx p R s m args meth c cc own nL d mc ms ini D cA A) : rl_putRF cc own nL d mc ms ini (JW p l e R s m args below meth c nL D cA A al0 h0 Q) := by
  intro pc a b ls st h ix kk i n k2 k3 r o hd hf hfin hown hini ho hr k al H locs lsA g1 g2 g3 g4 g5 g6 g7
  subst hr
  obtain ⟨hk, hi, ht, hm⟩ := hf
  obtain ⟨L, l1, l2, l3, l4⟩ := g3.2
  obtain ⟨q0, p1, p2⟩ := wl_get (cA := cA) (al := al) (h := h) ((l2 (kk, n)).mpr ⟨okS_h (okS_t g6) n rfl, by omega⟩)
  rw [cE_obj hk] at p2
  have hval : cv al (.inr (k3, o)) = va_rf (o.map (al k2)) := by
    rcases ho with rfl | rfl <;> rfl
  have hnf := rf_ok (o := o.map (al k2)) ((kft kk hk i hi).1.trans (by rw [ht]; rfl))
  have e1 : cE cA al (wR h kk n i o) kk n = .inr (kk, ((List.range (nf kk)).map (fV al h kk n)).set i (va_rf (o.map (al k2)))) := by rw [cE_obj hk, fs_wR ht hi]
  have e2 := wl_set (cA := cA) (al := al) (h := h) (h' := (wR h kk n i o)) l1 p1 (fun k' n' hne => cE_wR hne)
  rw [e1] at e2
  rw [List.map_cons, hval]
  refine va_putF (v := va_rf (o.map (al k2))) X.1 X.2.1 X.hts (kig kk hk) (kY kk) (kty kk hk) (knm kk hk) X.hown X.ev.1 l3 l4 g4 q0 p2 (kcl kk hk) i hi (X.hts _ hm) (fun _ e => e) hfin (X.hini hini) ((kdc kk hk i hi).trans hown) (kty kk hk i hi) hnf.1 hnf.2 (by simp [hi]) hd (fun H1 locs1 r1 r2 r3 => ?_)
  rw [e2] at r1 r2
  exact k al H1 locs1 lsA g1 g2 ⟨g3.1.wR _ _ _ _ (fun j hj => by rcases ho with rfl | rfl; (· cases hj); have := okS_h g6 j hj; simpa [rk, hk, ht] using this), L, l1, l2, r1, r2⟩ r3 g5 (okS_t (okS_t g6)) g7
theorem JW_iald (X : Cx p R s m args meth c cc own nL d mc ms ini D cA A) : rl_iald cc own nL d mc ms ini (JW p l e R s m args below meth c nL D cA A al0 h0 Q) := by
  intro pc a b ls st h kk n r x hd hf hr hx k al H locs lsA g1 g2 g3 g4 g5 g6 g7
  subst hr
  obtain ⟨hk, he, ht, h99⟩ := hf
  obtain ⟨L, l1, l2, l3, l4⟩ := g3.2
  obtain ⟨q0, p1, p2⟩ := wl_get (cA := cA) (al := al) (h := h) ((l2 (kk, n)).mpr ⟨okS_h (okS_t g6) n rfl, by omega⟩)
  rw [cE_arrI hk he, ht] at p2
  exact va_iald X.1 X.2.1 X.ev.1 l3 q0 0 p2 rfl (inb_in hx) hd (k al H locs lsA g1 g2 g3 g4 g5 (okS_i (okS_t (okS_t g6))) g7)
theorem JW_zald (X : Cx p R s m args meth c cc own nL d mc ms ini D cA A) : rl_zald cc own nL d mc ms ini (JW p l e R s m args below meth c nL D cA A al0 h0 Q) := by
  intro pc a b ls st h kk n r x hd hf hr hx k al H locs lsA g1 g2 g3 g4 g5 g6 g7
  subst hr
  obtain ⟨hk, he, ht, h99⟩ := hf
  obtain ⟨L, l1, l2, l3, l4⟩ := g3.2
  obtain ⟨q0, p1, p2⟩ := wl_get (cA := cA) (al := al) (h := h) ((l2 (kk, n)).mpr ⟨okS_h (okS_t g6) n rfl, by omega⟩)
  rw [cE_arrI hk he, ht] at p2
  exact va_zald X.1 X.2.1 X.ev.1 l3 q0 1 p2 rfl (inb_in hx) hd (k al H locs lsA g1 g2 g3 g4 g5 (okS_i (okS_t (okS_t g6))) g7)
theorem JW_alen (X : Cx p R s m args meth c cc own nL d mc ms ini D cA A) : rl_alen cc own nL d mc ms ini (JW p l e R s m args below meth c nL D cA A al0 h0 Q) := by
  intro pc a b ls st h kk n r hd hf hr k al H locs lsA g1 g2 g3 g4 g5 g6 g7
  subst hr
  obtain ⟨hk, he, ht, h99⟩ := hf
  obtain ⟨L, l1, l2, l3, l4⟩ := g3.2
  obtain ⟨q0, p1, p2⟩ := wl_get (cA := cA) (al := al) (h := h) ((l2 (kk, n)).mpr ⟨okS_h g6 n rfl, by omega⟩)
  rw [cE_arrI hk he, ht] at p2
  exact va_alen X.1 X.2.1 X.ev.1 l3 q0 0 p2 rfl rfl hd (k al H locs lsA g1 g2 g3 g4 g5 (okS_i (okS_t g6)) g7)
theorem JW_aald (X : Cx p R s m args meth c cc own nL d mc ms ini D cA A) : rl_aald cc own nL d mc ms ini (JW p l e R s m args below meth c nL D cA A al0 h0 Q) := by
  intro pc a b ls st h kk n k2 r x hd hf hr hx k al H locs lsA g1 g2 g3 g4 g5 g6 g7
  subst hr
  obtain ⟨hk, he, hk2, h99, ht⟩ := hf
  obtain ⟨L, l1, l2, l3, l4⟩ := g3.2
  obtain ⟨q0, p1, p2⟩ := wl_get (cA := cA) (al := al) (h := h) ((l2 (kk, n)).mpr ⟨okS_h (okS_t g6) n rfl, by omega⟩)
  rw [cE_arrR hk he] at p2
  exact va_aldq X.1 X.2.1 X.ev.1 l3 q0 (atx kk) p2 (ht cA) (inb_in hx) hd (k al H locs lsA g1 g2 g3 g4 g5 (okS_c (fun j hj => by have := g3.1 kk n x.toNatClampNeg j hj; simpa [rk, hk, he] using this) (okS_t (okS_t g6))) g7)
theorem JW_iast (X : Cx p R s m args meth c cc own nL d mc ms ini D cA A) : rl_iast cc own nL d mc ms ini (JW p l e R s m args below meth c nL D cA A al0 h0 Q) := by
  intro pc a b ls st h kk n r x v hd hf hr hx k al H locs lsA g1 g2 g3 g4 g5 g6 g7
  subst hr
  obtain ⟨hk, he, ht, h99⟩ := hf
  obtain ⟨L, l1, l2, l3, l4⟩ := g3.2
  obtain ⟨q0, p1, p2⟩ := wl_get (cA := cA) (al := al) (h := h) ((l2 (kk, n)).mpr ⟨okS_h (okS_t (okS_t g6)) n rfl, by omega⟩)
  have e1 : cE cA al (wI h kk n x.toNatClampNeg v) kk n = .inl (cA 0, pL h kk n, .inl (upd (fun i => pI h kk n i) x.toNatClampNeg v)) := by
    rw [cE_arrI hk he, ht, pL_wI]
    congr 4
    funext i
    simp only [pI_wI, upd, true_and]
  have e2 := wl_set (cA := cA) (al := al) (h := h) (h' := wI h kk n x.toNatClampNeg v) l1 p1 (fun k' n' hne => cE_wI hne)
  rw [e1] at e2
  rw [cE_arrI hk he, ht] at p2
  refine va_iast X.1 X.2.1 X.ev.1 l3 l4 g4 q0 0 p2 rfl (inb_in hx) hd (fun H1 locs1 r1 r2 r3 => ?_)
  rw [e2] at r1 r2
  exact k al H1 locs1 lsA g1 g2 ⟨g3.1.wI _ _ _ _, L, l1, l2, r1, r2⟩ r3 g5 (okS_t (okS_t (okS_t g6))) g7
theorem JW_zast (X : Cx p R s m args meth c cc own nL d mc ms ini D cA A) : rl_zast cc own nL d mc ms ini (JW p l e R s m args below meth c nL D cA A al0 h0 Q) := by
  intro pc a b ls st h kk n r x v hd hf hr hx hv k al H locs lsA g1 g2 g3 g4 g5 g6 g7
  subst hr
  obtain ⟨hk, he, ht, h99⟩ := hf
  obtain ⟨L, l1, l2, l3, l4⟩ := g3.2
  obtain ⟨q0, p1, p2⟩ := wl_get (cA := cA) (al := al) (h := h) ((l2 (kk, n)).mpr ⟨okS_h (okS_t (okS_t g6)) n rfl, by omega⟩)
  have e1 : cE cA al (wI h kk n x.toNatClampNeg v) kk n = .inl (cA 1, pL h kk n, .inl (upd (fun i => pI h kk n i) x.toNatClampNeg (vp_nar .boolean v))) := by
    rw [cE_arrI hk he, ht, pL_wI]
    congr 4
    funext i
    simp only [pI_wI, upd, true_and]
    rw [nar_bool hv]
  have e2 := wl_set (cA := cA) (al := al) (h := h) (h' := wI h kk n x.toNatClampNeg v) l1 p1 (fun k' n' hne => cE_wI hne)
  rw [e1] at e2
  rw [cE_arrI hk he, ht] at p2
  refine va_zast X.1 X.2.1 X.ev.1 l3 l4 g4 q0 1 p2 rfl (inb_in hx) hd (fun H1 locs1 r1 r2 r3 => ?_)
  rw [e2] at r1 r2
  exact k al H1 locs1 lsA g1 g2 ⟨g3.1.wI _ _ _ _, L, l1, l2, r1, r2⟩ r3 g5 (okS_t (okS_t (okS_t g6))) g7
theorem JW_aast (X : Cx p R s m args meth c cc own nL d mc ms ini D cA A) : rl_aast cc own nL d mc ms ini (JW p l e R s m args below meth c nL D cA A al0 h0 Q) := by
  intro pc a b ls st h kk n k2 r o x hd hf hr hx k al H locs lsA g1 g2 g3 g4 g5 g6 g7
  subst hr
  obtain ⟨hk, he, hk2, h99, ht⟩ := hf
  obtain ⟨L, l1, l2, l3, l4⟩ := g3.2
  obtain ⟨q0, p1, p2⟩ := wl_get (cA := cA) (al := al) (h := h) ((l2 (kk, n)).mpr ⟨okS_h (okS_t (okS_t g6)) n rfl, by omega⟩)
  have e1 : cE cA al (wR h kk n x.toNatClampNeg o) kk n = .inl (cA (atx kk), pL h kk n, .inr (.inr (.inr (.inr (va_up (fun i => (pR h kk n i).map (al k2)) x.toNatClampNeg (o.map (al k2))))))) := by
    rw [cE_arrR hk he, pL_wR]
    congr 7
    funext i
    simp only [pR_wR, va_up, true_and]
    split <;> rfl
  have e2 := wl_set (cA := cA) (al := al) (h := h) (h' := wR h kk n x.toNatClampNeg o) l1 p1 (fun k' n' hne => cE_wR hne)
  rw [e1] at e2
  rw [cE_arrR hk he] at p2
  have hcl : Clo (wR h kk n x.toNatClampNeg o) := g3.1.wR _ _ _ _ (fun j hj => by have := okS_h g6 j hj; simpa [rk, hk, he] using this)
  cases o with
  | none =>
    refine va_astqN X.1 X.2.1 X.ev.1 l3 l4 g4 q0 (atx kk) p2 (ht cA) (inb_in hx) hd (fun H1 locs1 r1 r2 r3 => ?_)
    rw [Option.map_none] at e2
    rw [e2] at r1 r2
    exact k al H1 locs1 lsA g1 g2 ⟨hcl, L, l1, l2, r1, r2⟩ r3 g5 (okS_t (okS_t (okS_t g6))) g7
  | some j =>
    obtain ⟨q1, s1, s2⟩ := wl_get (cA := cA) (al := al) (h := h) ((l2 (k2, j)).mpr ⟨okS_h g6 j rfl, by omega⟩)
    rw [cE_obj hk2] at s2
    refine va_astq X.1 X.2.1 X.ev.1 l3 l4 g4 q0 (atx kk) q1 k2 p2 (ht cA) s2 (kcl k2 hk2) (inb_in hx) hd (fun H1 locs1 r1 r2 r3 => ?_)
    rw [Option.map_some] at e2
    rw [e2] at r1 r2
    exact k al H1 locs1 lsA g1 g2 ⟨hcl, L, l1, l2, r1, r2⟩ r3 g5 (okS_t (okS_t (okS_t g6))) g7
theorem JW_new (X : Cx p R s m args meth c cc own nL d mc ms ini D cA A) : rl_new cc own nL d mc ms ini (JW p l e R s m args below meth c nL D cA A al0 h0 Q) := by
  intro pc a b ls st h ix kk hd hf ha hb k al H locs lsA g1 g2 g3 g4 g5 g6 g7
  obtain ⟨hk, m1, m2, m3⟩ := hf
  obtain ⟨L, l1, l2, l3, l4⟩ := g3.2
  refine va_new (fs := (List.range (nf kk)).map (fun i => match fty kk i with | none => Value.int 0 | some _ => .null)) X.1 X.2.1 X.hts (kig kk hk) (kY kk) (kty kk hk) X.hown (X.hts _ m1) (X.hts _ m2) (X.hts _ m3) X.ev.1 l3 l4 g4 X.hA (kcl kk hk) (fun j hj => ?_) (Nat.le_trans ha X.rc) (Nat.le_trans hb X.rs) hd (fun q H1 r1 r2 r3 => ?_)
  · exact dflt_ok hk hj
  · have hnew := rep_new (k := kk) (len := 0) (by omega) g3 l1 l2 (q := q) (e := .inr (kk, (List.range (nf kk)).map (fun i => match fty kk i with | none => Value.int 0 | some _ => .null))) (by
      rw [cE_obj hk]
      congr 3
      funext i
      cases he : fty kk i with
      | none => rw [fV_int he, pI_wN, if_pos ⟨rfl, rfl⟩]
      | some k2 => rw [fV_ref he, pR_wN, if_pos ⟨rfl, rfl⟩]; rfl) r1 r2
    have hal : ∀ k' n', n' < pC h k' → alN al h kk q k' n' = al k' n' := fun k' n' hn => alN_old hn
    have h8 := k (alN al h kk q) H1 locs lsA (fun k' n' hn => (hal k' n' (Nat.lt_of_lt_of_le hn (g2 k'))).trans (g1 k' n' hn)) (fun k' => Nat.le_trans (g2 k') (pC_grow h kk 0 k')) hnew r3 (fun i v hv => okV_grow (g5 i v hv)) (okS_c (okV_new h kk 0) (fun v hv => okV_grow (g6 v hv))) (la_al hal g5 g7)
    rw [List.map_cons, map_cv hal g6] at h8
    simpa [cv, alN_new, va_rf] using h8
theorem JW_newa_int (X : Cx p R s m args meth c cc own nL d mc ms ini D cA A) : rl_newa_int cc own nL d mc ms ini (JW p l e R s m args below meth c nL D cA A al0 h0 Q) := by
  intro pc a b ls st h kk N n hd hf hn hN hN2 ha hb k al H locs lsA g1 g2 g3 g4 g5 g6 g7
  obtain ⟨hk, he, ht, h99⟩ := hf
  obtain ⟨L, l1, l2, l3, l4⟩ := g3.2
  have hby : n.toNatClampNeg * componentBytes .int ≤ 536870912 := by
    have z : componentBytes .int ≤ 4 := by decide
    have := Nat.mul_le_mul (Nat.le_trans hN hN2) z
    omega
  refine va_newa (ty := .int) (N' := n.toNatClampNeg) (a0 := (n.toNatClampNeg, .inl (fun _ => 0))) X.1 X.2.1 (X.hts _ gw_int) rfl X.ev.1 l3 l4 g4 X.hA (fun cA => by rw [vp_cell_i]; rfl) hn rfl hby (Nat.le_trans ha X.rc) (by have := X.rs; omega) hd (fun q cA' H1 rK r1 r2 r3 => ?_)
  have hcA : cA' = cA 0 := by
    have z1 := (rK.2 7 (cA', .int) rfl).2
    have z2 := (X.ev.1.2 0 (cA 0, .int) rfl).2
    exact Option.some.inj (z1.symm.trans z2)
  subst hcA
  have hnew := rep_new (k := kk) (len := n.toNatClampNeg) h99 g3 l1 l2 (q := q) (e := .inl (cA 0, n.toNatClampNeg, .inl (fun _ => 0))) (by
      rw [cE_arrI hk he, ht, pL_wN, if_pos ⟨rfl, rfl⟩]
      congr 4
      funext i
      rw [pI_wN, if_pos ⟨rfl, rfl⟩]) r1 r2
  have hal : ∀ k' n', n' < pC h k' → alN al h kk q k' n' = al k' n' := fun k' n' hn => alN_old hn
  have h8 := k (alN al h kk q) H1 locs lsA (fun k' n' hn => (hal k' n' (Nat.lt_of_lt_of_le hn (g2 k'))).trans (g1 k' n' hn)) (fun k' => Nat.le_trans (g2 k') (pC_grow h kk _ k')) hnew r3 (fun i v hv => okV_grow (g5 i v hv)) (okS_c (okV_new h kk _) (fun v hv => okV_grow (okS_t g6 v hv))) (la_al hal g5 g7)
  rw [List.map_cons, map_cv hal (okS_t g6)] at h8
  refine W.widen (Nat.le_refl _) (Nat.add_le_add_left hN b) ?_
  simpa [cv, alN_new, va_rf] using h8
theorem JW_newa_boolean (X : Cx p R s m args meth c cc own nL d mc ms ini D cA A) : rl_newa_boolean cc own nL d mc ms ini (JW p l e R s m args below meth c nL D cA A al0 h0 Q) := by
  intro pc a b ls st h kk N n hd hf hn hN hN2 ha hb k al H locs lsA g1 g2 g3 g4 g5 g6 g7
  obtain ⟨hk, he, ht, h99⟩ := hf
  obtain ⟨L, l1, l2, l3, l4⟩ := g3.2
  have hby : n.toNatClampNeg * componentBytes .boolean ≤ 536870912 := by
    have z : componentBytes .boolean ≤ 4 := by decide
    have := Nat.mul_le_mul (Nat.le_trans hN hN2) z
    omega
  refine va_newa (ty := .boolean) (N' := n.toNatClampNeg) (a0 := (n.toNatClampNeg, .inl (fun _ => 0))) X.1 X.2.1 (X.hts _ gw_boolean) rfl X.ev.1 l3 l4 g4 X.hA (fun cA => by rw [vp_cell_i]; rfl) hn rfl hby (Nat.le_trans ha X.rc) (by have := X.rs; omega) hd (fun q cA' H1 rK r1 r2 r3 => ?_)
  have hcA : cA' = cA 1 := by
    have z1 := (rK.2 7 (cA', .boolean) rfl).2
    have z2 := (X.ev.1.2 1 (cA 1, .boolean) rfl).2
    exact Option.some.inj (z1.symm.trans z2)
  subst hcA
  have hnew := rep_new (k := kk) (len := n.toNatClampNeg) h99 g3 l1 l2 (q := q) (e := .inl (cA 1, n.toNatClampNeg, .inl (fun _ => 0))) (by
      rw [cE_arrI hk he, ht, pL_wN, if_pos ⟨rfl, rfl⟩]
      congr 4
      funext i
      rw [pI_wN, if_pos ⟨rfl, rfl⟩]) r1 r2
  have hal : ∀ k' n', n' < pC h k' → alN al h kk q k' n' = al k' n' := fun k' n' hn => alN_old hn
  have h8 := k (alN al h kk q) H1 locs lsA (fun k' n' hn => (hal k' n' (Nat.lt_of_lt_of_le hn (g2 k'))).trans (g1 k' n' hn)) (fun k' => Nat.le_trans (g2 k') (pC_grow h kk _ k')) hnew r3 (fun i v hv => okV_grow (g5 i v hv)) (okS_c (okV_new h kk _) (fun v hv => okV_grow (okS_t g6 v hv))) (la_al hal g5 g7)
  rw [List.map_cons, map_cv hal (okS_t g6)] at h8
  refine W.widen (Nat.le_refl _) (Nat.add_le_add_left hN b) ?_
  simpa [cv, alN_new, va_rf] using h8
theorem JW_newq (X : Cx p R s m args meth c cc own nL d mc ms ini D cA A) : rl_newq cc own nL d mc ms ini (JW p l e R s m args below meth c nL D cA A al0 h0 Q) := by
  intro pc a b ls st h kk k2 ix N n hd hf hm hn hN hN2 ha hb k al H locs lsA g1 g2 g3 g4 g5 g6 g7
  obtain ⟨hk, he, hk2, h99, ht⟩ := hf
  obtain ⟨L, l1, l2, l3, l4⟩ := g3.2
  refine va_newq (N' := n.toNatClampNeg) X.1 X.2.1 X.hown (X.hts _ hm.1) (X.ev.2.2 _ hm.2) X.ev.1 l3 l4 g4 X.hA hn rfl (by omega) (Nat.le_trans ha X.rc) (by have := X.rs; omega) hd (fun q cA' H1 rK r1 r2 r3 => ?_)
  have hcA : cA' = cA (atx kk) := by
    obtain ⟨_, _, _, _, _, z1⟩ := (rK.2 7 (cA', .object (kR k2)) rfl).2
    obtain ⟨_, _, _, _, _, z2⟩ := (X.ev.1.2 (atx kk) _ (ht cA)).2
    exact Option.some.inj (z1.symm.trans z2)
  subst hcA
  have hnew := rep_new (k := kk) (len := n.toNatClampNeg) h99 g3 l1 l2 (q := q) (e := .inl (cA (atx kk), n.toNatClampNeg, .inr (.inr (.inr (.inr (fun _ => none)))))) (by
      rw [cE_arrR hk he, pL_wN, if_pos ⟨rfl, rfl⟩]
      congr 7
      funext i
      rw [pR_wN, if_pos ⟨rfl, rfl⟩]; rfl) r1 r2
  have hal : ∀ k' n', n' < pC h k' → alN al h kk q k' n' = al k' n' := fun k' n' hn => alN_old hn
  have h8 := k (alN al h kk q) H1 locs lsA (fun k' n' hn => (hal k' n' (Nat.lt_of_lt_of_le hn (g2 k'))).trans (g1 k' n' hn)) (fun k' => Nat.le_trans (g2 k') (pC_grow h kk _ k')) hnew r3 (fun i v hv => okV_grow (g5 i v hv)) (okS_c (okV_new h kk _) (fun v hv => okV_grow (okS_t g6 v hv))) (la_al hal g5 g7)
  rw [List.map_cons, map_cv hal (okS_t g6)] at h8
  refine W.widen (Nat.le_refl _) (Nat.add_le_add_left hN b) ?_
  simpa [cv, alN_new, va_rf] using h8
theorem JW_objInit (X : Cx p R s m args meth c cc own nL d mc ms ini D cA A) : rl_objInit cc own nL d mc ms ini (JW p l e R s m args below meth c nL D cA A al0 h0 Q) := by
  intro pc a b ls st h ix kk n r hd hm hr hdd hst k al H locs lsA g1 g2 g3 g4 g5 g6 g7
  subst hr
  refine W.objInit X.1 X.2.1 X.hown (X.hts _ hm) (X.hts _ gw_oi) (X.hts _ gw_oc) rfl (g7.1.trans X.2.2.1.symm) (a := al kk n) (rest := st.map (cv al)) rfl hd (Nat.le_trans hdd X.rf) ?_ (k al H locs lsA g1 g2 g3 g4 g5 (okS_t g6) g7)
  have := lv_room (m := m) (pc := pc) (ls := lsA) (rest := List.map (cv al) (.inr (kk, some n) :: st)) (st := st.map (cv al)) (by rw [cat_sum]; exact hst)
  have := X.rl
  omega
theorem JW_mmax (X : Cx p R s m args meth c cc own nL d mc ms ini D cA A) : rl_mmax cc own nL d mc ms ini (JW p l e R s m args below meth c nL D cA A al0 h0 Q) := by
  intro pc a b ls st h ix x y hd hm hdd hst ha hb k al H locs lsA g1 g2 g3 g4 g5 g6 g7
  exact va_mmax X.1 X.2.1 (X.2.2.1.trans g7.1.symm) X.hown (X.hts _ hm) (X.hts _ gw_maxs) (X.hts _ gw_math) (X.hts _ gw_maxc) (Nat.le_trans hdd X.rf) (by rw [cat_sum]; have := X.rl; omega) (Nat.le_trans ha X.rc) (Nat.le_trans hb X.rs) hd (k al H locs lsA g1 g2 g3 g4 g5 (okS_i (okS_t (okS_t g6))) g7)
theorem JW_mmin (X : Cx p R s m args meth c cc own nL d mc ms ini D cA A) : rl_mmin cc own nL d mc ms ini (JW p l e R s m args below meth c nL D cA A al0 h0 Q) := by
  intro pc a b ls st h ix x y hd hm hdd hst ha hb k al H locs lsA g1 g2 g3 g4 g5 g6 g7
  exact va_mmin X.1 X.2.1 (X.2.2.1.trans g7.1.symm) X.hown (X.hts _ hm) (X.hts _ gw_mins) (X.hts _ gw_math) (X.hts _ gw_minc) (Nat.le_trans hdd X.rf) (by rw [cat_sum]; have := X.rl; omega) (Nat.le_trans ha X.rc) (Nat.le_trans hb X.rs) hd (k al H locs lsA g1 g2 g3 g4 g5 (okS_i (okS_t (okS_t g6))) g7)
theorem JW_callV (X : Cx p R s m args meth c cc own nL d mc ms ini D cA A) : rl_callV cc own nL d mc ms ini (JW p l e R s m args below meth c nL D cA A al0 h0 Q) := by
  intro pc a b ls st h ix ml np d2 mc2 ms2 y cy rt as h2 stk kk n ro v hd hw hkk hro hc hd2 hmc hms hnp hst hstk k al H locs lsA g1 g2 g3 g4 g5 g6 g7
  subst hro hstk
  obtain ⟨w1, w2, w3, w4, w5, w6, w7, w8⟩ := hw
  have hov : okV h (.inr (kk, some n)) := g6 _ (List.mem_append_right _ List.mem_cons_self)
  have hoa : ∀ v ∈ (Sum.inr (kk, some n) :: as : List AV), okV h v := fun v hv => by
    rcases List.mem_cons.mp hv with rfl | hv
    · exact hov
    · exact g6 _ (List.mem_append_left _ (List.mem_reverse.mpr hv))
  have hM := hc l D cA A al hoa
  obtain ⟨L, l1, l2, l3, l4⟩ := id g3.2
  obtain ⟨q0, p1, p2⟩ := wl_get (cA := cA) (al := al) (h := h) ((l2 (kk, n)).mpr ⟨hov n rfl, by omega⟩)
  rw [cE_obj hkk.1] at p2
  have hrv := va_recv X.ev.1 l3 (kcl kk hkk.1) p2
  have hr := va_runV (p := p) (e := e) (below := below) (meth := meth) (H := H) (locs := locs) (cells := a) (slots := b) (C := y.cls) (b := al kk n) (As := as.map (cv al)) (rest := st.map (cv al)) (g := F0 m pc lsA (List.map (cv al) (as.reverse ++ .inr (kk, some n) :: st))) (n := np) ⟨X.1, X.2.1, X.2.2.1, X.hown, X.hts⟩ hM ⟨X.callB hd2 w1 w4 w5 w6 w7 w8, X.hts _ w2, X.hts _ w3⟩
    ⟨cQ_blind, hkk.2 ▸ hrv, fun U hU hW => ⟨rfl, fun q hq => X.hA q (Nat.le_trans g4.1 (by rw [← hU]; exact hq)), by rw [hU]; exact g3, X.ev.warm hW⟩⟩ rfl (by simpa using hnp) g7.1 (by simp [cv, va_rf, List.map_reverse]) (lv_room (by rw [cat_sum]; exact hst)) hd ⟨Nat.le_trans hmc X.rc, Nat.le_trans hms X.rs⟩
  exact JW_after hr g1 g2 g4 g5 (fun v hv => g6 v (List.mem_append_right _ (List.mem_cons_of_mem _ hv))) g7 k
theorem JW_callS (X : Cx p R s m args meth c cc own nL d mc ms ini D cA A) : rl_callS cc own nL d mc ms ini (JW p l e R s m args below meth c nL D cA A al0 h0 Q) := by
  intro pc a b ls st h ix ml np d2 mc2 ms2 y cy rt as h2 stk v hd hw hc hd2 hmc hms hnp hst hstk k al H locs lsA g1 g2 g3 g4 g5 g6 g7
  subst hstk
  obtain ⟨w1, w2, w4, w5, w6, w7, w8⟩ := hw
  have hoa : ∀ v ∈ as, okV h v := fun v hv => g6 _ (List.mem_append_left _ (List.mem_reverse.mpr hv))
  have hM := hc l D cA A al hoa
  have hr := va_runS (p := p) (e := e) (below := below) (meth := meth) (H := H) (locs := locs) (cells := a) (slots := b) (As := as.map (cv al)) (rest := st.map (cv al)) (g := F0 m pc lsA (List.map (cv al) (as.reverse ++ st))) (n := np) ⟨X.1, X.2.1, X.2.2.1, X.hown, X.hts⟩ hM ⟨X.callB hd2 w1 w4 w5 w6 w7 w8, X.hts _ w2⟩
    ⟨cQ_blind, fun U hU hW => ⟨rfl, fun q hq => X.hA q (Nat.le_trans g4.1 (by rw [← hU]; exact hq)), by rw [hU]; exact g3, X.ev.warm hW⟩⟩ rfl (by simpa using hnp) g7.1 (by simp [List.map_reverse]) (lv_room (by rw [cat_sum]; exact hst)) hd ⟨Nat.le_trans hmc X.rc, Nat.le_trans hms X.rs⟩
  exact JW_after hr g1 g2 g4 g5 (fun v hv => g6 v (List.mem_append_right _ hv)) g7 k
theorem JW_callSN (X : Cx p R s m args meth c cc own nL d mc ms ini D cA A) : rl_callSN cc own nL d mc ms ini (JW p l e R s m args below meth c nL D cA A al0 h0 Q) := by
  intro pc a b ls st h ix ml np d2 mc2 ms2 y cy rt as h2 stk host v hd hw hc hd2 hmc hms hnp hst hstk k al H locs lsA g1 g2 g3 g4 g5 g6 g7
  subst hstk
  obtain ⟨w1, w2, w4, w5, w6, w7, w8⟩ := hw
  have hoa : ∀ v ∈ as, okV h v := fun v hv => g6 _ (List.mem_append_left _ (List.mem_reverse.mpr hv))
  have hM := hc l D cA A al hoa
  have hr := va_runSN (p := p) (e := e) (below := below) (meth := meth) (H := H) (locs := locs) (cells := a) (slots := b) (As := as.map (cv al)) (rest := st.map (cv al)) (g := F0 m pc lsA (List.map (cv al) (as.reverse ++ st))) (n := np) ⟨X.1, X.2.1, X.2.2.1, X.hown, X.hts⟩ hM ⟨X.callN hd2 w1 w4 w5 w6 w7 w8, X.hts _ w2, trivial⟩
    ⟨cQ_blind, fun U hU hW => ⟨rfl, fun q hq => X.hA q (Nat.le_trans g4.1 (by rw [← hU]; exact hq)), by rw [hU]; exact g3, X.ev.warm hW⟩⟩ rfl (by simpa using hnp) g7.1 (by simp [List.map_reverse]) (lv_room (by rw [cat_sum]; exact hst)) hd ⟨Nat.le_trans hmc X.rc, Nat.le_trans hms X.rs⟩
  exact JW_after hr g1 g2 g4 g5 (fun v hv => g6 v (List.mem_append_right _ hv)) g7 k
theorem JW_callV0 (X : Cx p R s m args meth c cc own nL d mc ms ini D cA A) : rl_callV0 cc own nL d mc ms ini (JW p l e R s m args below meth c nL D cA A al0 h0 Q) := by
  intro pc a b ls st h ix ml np d2 mc2 ms2 y cy rt as h2 stk kk n ro hd hw hkk hro hc hd2 hmc hms hnp hst hstk k al H locs lsA g1 g2 g3 g4 g5 g6 g7
  subst hro hstk
  obtain ⟨w1, w2, w3, w4, w5, w6, w7, w8⟩ := hw
  have hov : okV h (.inr (kk, some n)) := g6 _ (List.mem_append_right _ List.mem_cons_self)
  have hoa : ∀ v ∈ (Sum.inr (kk, some n) :: as : List AV), okV h v := fun v hv => by
    rcases List.mem_cons.mp hv with rfl | hv
    · exact hov
    · exact g6 _ (List.mem_append_left _ (List.mem_reverse.mpr hv))
  have hM := hc l D cA A al hoa
  obtain ⟨L, l1, l2, l3, l4⟩ := id g3.2
  obtain ⟨q0, p1, p2⟩ := wl_get (cA := cA) (al := al) (h := h) ((l2 (kk, n)).mpr ⟨hov n rfl, by omega⟩)
  rw [cE_obj hkk.1] at p2
  have hrv := va_recv X.ev.1 l3 (kcl kk hkk.1) p2
  have hr := va_runV (p := p) (e := e) (below := below) (meth := meth) (H := H) (locs := locs) (cells := a) (slots := b) (C := y.cls) (b := al kk n) (As := as.map (cv al)) (rest := st.map (cv al)) (g := F0 m pc lsA (List.map (cv al) (as.reverse ++ .inr (kk, some n) :: st))) (n := np) ⟨X.1, X.2.1, X.2.2.1, X.hown, X.hts⟩ hM ⟨X.callB hd2 w1 w4 w5 w6 w7 w8, X.hts _ w2, X.hts _ w3⟩
    ⟨cQ_blind, hkk.2 ▸ hrv, fun U hU hW => ⟨rfl, fun q hq => X.hA q (Nat.le_trans g4.1 (by rw [← hU]; exact hq)), by rw [hU]; exact g3, X.ev.warm hW⟩⟩ rfl (by simpa using hnp) g7.1 (by simp [cv, va_rf, List.map_reverse]) (lv_room (by rw [cat_sum]; exact hst)) hd ⟨Nat.le_trans hmc X.rc, Nat.le_trans hms X.rs⟩
  exact JW_after0 hr g1 g2 g4 g5 (fun v hv => g6 v (List.mem_append_right _ (List.mem_cons_of_mem _ hv))) g7 k
theorem JW_callS0 (X : Cx p R s m args meth c cc own nL d mc ms ini D cA A) : rl_callS0 cc own nL d mc ms ini (JW p l e R s m args below meth c nL D cA A al0 h0 Q) := by
  intro pc a b ls st h ix ml np d2 mc2 ms2 y cy rt as h2 stk hd hw hc hd2 hmc hms hnp hst hstk k al H locs lsA g1 g2 g3 g4 g5 g6 g7
  subst hstk
  obtain ⟨w1, w2, w4, w5, w6, w7, w8⟩ := hw
  have hoa : ∀ v ∈ as, okV h v := fun v hv => g6 _ (List.mem_append_left _ (List.mem_reverse.mpr hv))
  have hM := hc l D cA A al hoa
  have hr := va_runS (p := p) (e := e) (below := below) (meth := meth) (H := H) (locs := locs) (cells := a) (slots := b) (As := as.map (cv al)) (rest := st.map (cv al)) (g := F0 m pc lsA (List.map (cv al) (as.reverse ++ st))) (n := np) ⟨X.1, X.2.1, X.2.2.1, X.hown, X.hts⟩ hM ⟨X.callB hd2 w1 w4 w5 w6 w7 w8, X.hts _ w2⟩
    ⟨cQ_blind, fun U hU hW => ⟨rfl, fun q hq => X.hA q (Nat.le_trans g4.1 (by rw [← hU]; exact hq)), by rw [hU]; exact g3, X.ev.warm hW⟩⟩ rfl (by simpa using hnp) g7.1 (by simp [List.map_reverse]) (lv_room (by rw [cat_sum]; exact hst)) hd ⟨Nat.le_trans hmc X.rc, Nat.le_trans hms X.rs⟩
  exact JW_after0 hr g1 g2 g4 g5 (fun v hv => g6 v (List.mem_append_right _ hv)) g7 k
theorem JW_callSN0 (X : Cx p R s m args meth c cc own nL d mc ms ini D cA A) : rl_callSN0 cc own nL d mc ms ini (JW p l e R s m args below meth c nL D cA A al0 h0 Q) := by
  intro pc a b ls st h ix ml np d2 mc2 ms2 y cy rt as h2 stk host hd hw hc hd2 hmc hms hnp hst hstk k al H locs lsA g1 g2 g3 g4 g5 g6 g7
  subst hstk
  obtain ⟨w1, w2, w4, w5, w6, w7, w8⟩ := hw
  have hoa : ∀ v ∈ as, okV h v := fun v hv => g6 _ (List.mem_append_left _ (List.mem_reverse.mpr hv))
  have hM := hc l D cA A al hoa
  have hr := va_runSN (p := p) (e := e) (below := below) (meth := meth) (H := H) (locs := locs) (cells := a) (slots := b) (As := as.map (cv al)) (rest := st.map (cv al)) (g := F0 m pc lsA (List.map (cv al) (as.reverse ++ st))) (n := np) ⟨X.1, X.2.1, X.2.2.1, X.hown, X.hts⟩ hM ⟨X.callN hd2 w1 w4 w5 w6 w7 w8, X.hts _ w2, trivial⟩
    ⟨cQ_blind, fun U hU hW => ⟨rfl, fun q hq => X.hA q (Nat.le_trans g4.1 (by rw [← hU]; exact hq)), by rw [hU]; exact g3, X.ev.warm hW⟩⟩ rfl (by simpa using hnp) g7.1 (by simp [List.map_reverse]) (lv_room (by rw [cat_sum]; exact hst)) hd ⟨Nat.le_trans hmc X.rc, Nat.le_trans hms X.rs⟩
  exact JW_after0 hr g1 g2 g4 g5 (fun v hv => g6 v (List.mem_append_right _ hv)) g7 k
theorem JW_callI (X : Cx p R s m args meth c cc own nL d mc ms ini D cA A) : rl_callI cc own nL d mc ms ini (JW p l e R s m args below meth c nL D cA A al0 h0 Q) := by
  intro pc a b ls st h ix ml np d2 mc2 ms2 y cy as h2 stk kk n ro hd hw hro hc hd2 hmc hms hnp hst hstk k al H locs lsA g1 g2 g3 g4 g5 g6 g7
  subst hro hstk
  obtain ⟨w1, w2, w4, w5, w6, w7, w8, w9⟩ := hw
  have hov : okV h (.inr (kk, some n)) := g6 _ (List.mem_append_right _ List.mem_cons_self)
  have hoa : ∀ v ∈ (Sum.inr (kk, some n) :: as : List AV), okV h v := fun v hv => by
    rcases List.mem_cons.mp hv with rfl | hv
    · exact hov
    · exact g6 _ (List.mem_append_left _ (List.mem_reverse.mpr hv))
  have hM := hc l D cA A al hoa
  have hr := va_runI (p := p) (e := e) (below := below) (meth := meth) (H := H) (locs := locs) (cells := a) (slots := b) (b := al kk n) (As := as.map (cv al)) (rest := st.map (cv al)) (g := F0 m pc lsA (List.map (cv al) (as.reverse ++ .inr (kk, some n) :: st))) (n := np) ⟨X.1, X.2.1, X.2.2.1, X.hown, X.hts⟩ hM ⟨X.callB hd2 w1 w4 w5 w6 w7 w8, w9, X.hts _ w2⟩
    ⟨cQ_blind, fun U hU hW => ⟨rfl, fun q hq => X.hA q (Nat.le_trans g4.1 (by rw [← hU]; exact hq)), by rw [hU]; exact g3, X.ev.warm hW⟩⟩ rfl (by simpa using hnp) g7.1 (by simp [cv, va_rf, List.map_reverse]) (lv_room (by rw [cat_sum]; exact hst)) hd ⟨Nat.le_trans hmc X.rc, Nat.le_trans hms X.rs⟩
  exact JW_after0 hr g1 g2 g4 g5 (fun v hv => g6 v (List.mem_append_right _ (List.mem_cons_of_mem _ hv))) g7 k
theorem JW_callIN (X : Cx p R s m args meth c cc own nL d mc ms ini D cA A) : rl_callIN cc own nL d mc ms ini (JW p l e R s m args below meth c nL D cA A al0 h0 Q) := by
  intro pc a b ls st h ix ml np d2 mc2 ms2 y cy as h2 stk kk n ro host hd hw hro hc hd2 hmc hms hnp hst hstk k al H locs lsA g1 g2 g3 g4 g5 g6 g7
  subst hro hstk
  obtain ⟨w1, w2, w4, w5, w6, w7, w8, w9⟩ := hw
  have hov : okV h (.inr (kk, some n)) := g6 _ (List.mem_append_right _ List.mem_cons_self)
  have hoa : ∀ v ∈ (Sum.inr (kk, some n) :: as : List AV), okV h v := fun v hv => by
    rcases List.mem_cons.mp hv with rfl | hv
    · exact hov
    · exact g6 _ (List.mem_append_left _ (List.mem_reverse.mpr hv))
  have hM := hc l D cA A al hoa
  have hr := va_runIN (p := p) (e := e) (below := below) (meth := meth) (H := H) (locs := locs) (cells := a) (slots := b) (b := al kk n) (As := as.map (cv al)) (rest := st.map (cv al)) (g := F0 m pc lsA (List.map (cv al) (as.reverse ++ .inr (kk, some n) :: st))) (n := np) ⟨X.1, X.2.1, X.2.2.1, X.hown, X.hts⟩ hM ⟨X.callN hd2 w1 w4 w5 w6 w7 w8, w9, X.hts _ w2⟩
    ⟨cQ_blind, fun U hU hW => ⟨rfl, fun q hq => X.hA q (Nat.le_trans g4.1 (by rw [← hU]; exact hq)), by rw [hU]; exact g3, X.ev.warm hW⟩⟩ rfl (by simpa using hnp) g7.1 (by simp [cv, va_rf, List.map_reverse]) (lv_room (by rw [cat_sum]; exact hst)) hd ⟨Nat.le_trans hmc X.rc, Nat.le_trans hms X.rs⟩
  exact JW_after0 hr g1 g2 g4 g5 (fun v hv => g6 v (List.mem_append_right _ (List.mem_cons_of_mem _ hv))) g7 k
theorem JW_rules (X : Cx p R s m args meth c cc own nL d mc ms ini D cA A) : Rules cc own nL d mc ms ini (JW p l e R s m args below meth c nL D cA A al0 h0 Q) := ⟨JW_iconst X, JW_bipush X, JW_sipush X, JW_ldc X, JW_ldc_w X, JW_iload_n X, JW_iload X, JW_aload_n X, JW_aload X, JW_istore_n X, JW_istore X, JW_astore_n X, JW_astore X, JW_iinc X, JW_iadd X, JW_isub X, JW_imul X, JW_iand X, JW_ior X, JW_ishl X, JW_ishr X, JW_idiv X, JW_irem X, JW_dup X, JW_dup2 X, JW_pop X, JW_if_eq X, JW_icmp_eq X, JW_if_ne X, JW_icmp_ne X, JW_if_lt X, JW_icmp_lt X, JW_if_ge X, JW_icmp_ge X, JW_if_gt X, JW_icmp_gt X, JW_if_le X, JW_icmp_le X, JW_goto X, JW_forget X, JW_null X, JW_ifnull X, JW_ifnonnull X, JW_acmp_eq X, JW_acmp_ne X, JW_tabIn X, JW_tabOut X, JW_getI X, JW_getR X, JW_putI X, JW_putIF X, JW_putR X, JW_putRF X, JW_iald X, JW_zald X, JW_alen X, JW_aald X, JW_iast X, JW_zast X, JW_aast X, JW_new X, JW_newa_int X, JW_newa_boolean X, JW_newq X, JW_objInit X, JW_mmax X, JW_mmin X, JW_callV X, JW_callS X, JW_callSN X, JW_callV0 X, JW_callS0 X, JW_callSN0 X, JW_callI X, JW_callIN X⟩
end SOUND
end
section
theorem lg_len (al : Nat → Nat → Nat) (as : List AV) : (lg_sl (as.map (cv al))).length = as.length := by
  induction as with
  | nil => rfl
  | cons v as ih =>
    simp only [List.map_cons, lg_sl, List.flatMap_cons] at ih ⊢
    rw [if_neg (by rw [cv_cat]; decide)]
    simp only [List.length_append, List.length_cons, List.length_nil, ih]
    omega
theorem lv_args_mem (al : Nat → Nat → Nat) (as : List AV) : ∀ (j i : Nat) (v : AV), as[i]? = some v → (j + i, cv al v) ∈ lv_args j (as.map (cv al)) := by
  induction as with
  | nil => intro j i v h; simp at h
  | cons w as ih =>
    intro j i v h
    simp only [List.map_cons, lv_args]
    rw [if_neg (by rw [cv_cat]; decide)]
    cases i with
    | zero =>
      simp only [List.getElem?_cons_zero, Option.some.injEq] at h
      subst h
      exact List.mem_cons_self
    | succ i =>
      simp only [List.getElem?_cons_succ] at h
      have := ih (j + 1) i v h
      rw [show j + 1 + i = j + (i + 1) by omega] at this
      exact List.mem_cons_of_mem _ this
theorem ls0_get {as : List AV} {n i : Nat} {v : AV} (h : (as.map some ++ List.replicate n none : List (Option AV))[i]? = some (some v)) : as[i]? = some v := by
  by_cases hi : i < as.length
  · rw [List.getElem?_append_left (by simpa using hi)] at h
    simpa using h
  · rw [List.getElem?_append_right (by simpa using Nat.not_lt.mp hi)] at h
    have := List.eq_of_mem_replicate (List.mem_of_getElem? h)
    cases this
section CTR
variable {y : MethodName} {cc : ByteArray} {own : String} {nL d mc ms : Nat} {ini : Prop} {as : List AV} {h hh : Hp} {ls0 : List (Option AV)}
theorem Ctr_of {rt : Option FieldType} {r : Option AV} (hy : plainName y.cls = true) (hown : y.cls = own) (hl : as.length ≤ nL) (hini : ini → y.name = "<init>") (hls : as.map some ++ List.replicate (nL - as.length) none = ls0)
    (body : ∀ (p : Program) (l : Launch) (e : Env) (R : Room) (s : State) (m : MethodId) (args : Array Value) (below : List Frame) (meth : Method) (c : Code) (D : va_G) (cA : Nat → ClassId) (A : Nat → Prop) (al : Nat → Nat → Nat), Cx p R s m args meth c cc own nL d mc ms ini D cA A → meth.sig.returnType = rt → meth.locks = false →
      JW p l e R s m args below meth c nL D cA A al h (MQ below (cQ D cA A al h r hh) args s mc ms A) 0 ls0 [] h 0 0) : Ctr y cc nL rt d mc ms as h r hh := by
  intro l D cA A al hok
  refine Met.ofW (cc := cc) (maxL := nL) (ret := rt) hy rfl ?_
  intro p e s m args below meth c s₁ B hml hv
  obtain ⟨rfl, hA, hR, hE⟩ := hv
  have hts := atoms_spec (ws := Cond.code y cc nL rt :: gws) B.pre
  have X : Cx p { frames := d, cells := mc, slots := ms, locals := 32 * d } s m (as.map (cv al)).toArray meth c cc own nL d mc ms ini D cA A :=
    ⟨B.exec, B.bytes, hml, hown ▸ findClass_of_methodNamed B.named, fun w hw => hts w (List.mem_cons_of_mem _ hw), hE, hA, Nat.le_refl _, Nat.le_refl _, Nat.le_refl _, Nat.le_refl _, fun h => (name_of_methodNamed B.named B.method).1.trans (hini h)⟩
  rw [lg_entry_eq]
  have hlv := lv_entry (as.map (cv al)) (n := nL) (by rw [lg_len]; exact hl)
  subst hls
  exact body p l e _ s m _ below meth c D cA A al X B.returns B.notSynchronized al s.heap [] _ (fun _ _ _ => rfl) (fun _ => Nat.le_refl _) hR va_S.rf (fun i v hv => hok v (List.mem_of_getElem? (ls0_get hv))) (fun v hv => by cases hv) ⟨hlv.1, hlv.2.1, fun q hq => by
    obtain ⟨w, hw, e⟩ := la_mem.mp hq
    obtain ⟨i, u⟩ := q
    dsimp only at hw e
    subst e
    have := lv_args_mem al as 0 i w (ls0_get hw)
    rw [Nat.zero_add] at this
    exact hlv.2.2 _ this⟩
theorem Ctr_i {x : Int32} (hy : plainName y.cls = true) (hown : y.cls = own) (hl : as.length ≤ nL) (hini : ini → y.name = "<init>") (hls : as.map some ++ List.replicate (nL - as.length) none = ls0)
    (body : ∀ J : JT, Rules cc own nL d mc ms ini J → (∀ {pc a b : Nat} {ls : List (Option AV)}, decode cc pc = .ok (.ireturn, 1) → a ≤ mc → b ≤ ms → J pc ls [.inl x] hh a b) → J 0 ls0 [] h 0 0) : Ctr y cc nL (some .int) d mc ms as h (some (.inl x)) hh := by
  refine Ctr_of hy hown hl hini hls ?_
  intro p l e R s m args below meth c D cA A al X hr hlk
  refine body _ (JW_rules X) ?_
  intro pc a b ls hd ha hb al' H locs lsA g1 g2 g3 g4 g5 g6 g7
  refine W.widen ha hb ?_
  exact W.iret X.1 X.2.1 hr (fun t ht hW => ⟨⟨al', rfl, g1, g2, fun v e => by cases e; trivial, by rw [ht]; exact g3⟩, g4.F ht⟩) g4.2.2 hd hlk
theorem Ctr_z {x : Int32} (hy : plainName y.cls = true) (hown : y.cls = own) (hl : as.length ≤ nL) (hini : ini → y.name = "<init>") (hls : as.map some ++ List.replicate (nL - as.length) none = ls0)
    (body : ∀ J : JT, Rules cc own nL d mc ms ini J → (∀ {pc a b : Nat} {ls : List (Option AV)}, decode cc pc = .ok (.ireturn, 1) → (x = 0 ∨ x = 1) → a ≤ mc → b ≤ ms → J pc ls [.inl x] hh a b) → J 0 ls0 [] h 0 0) : Ctr y cc nL (some .boolean) d mc ms as h (some (.inl x)) hh := by
  refine Ctr_of hy hown hl hini hls ?_
  intro p l e R s m args below meth c D cA A al X hr hlk
  refine body _ (JW_rules X) ?_
  intro pc a b ls hd hx ha hb al' H locs lsA g1 g2 g3 g4 g5 g6 g7
  refine W.widen ha hb ?_
  exact W.zret X.1 X.2.1 hr (nar_z hx).1 (fun t ht hW => ⟨⟨al', rfl, g1, g2, fun v e => by cases e; trivial, by rw [ht]; exact g3⟩, g4.F ht⟩) g4.2.2 hd hlk
theorem Ctr_a {k : Nat} {o : Option Nat} {C : String} (hy : plainName y.cls = true) (hown : y.cls = own) (hl : as.length ≤ nL) (hini : ini → y.name = "<init>") (hls : as.map some ++ List.replicate (nL - as.length) none = ls0)
    (body : ∀ J : JT, Rules cc own nL d mc ms ini J → (∀ {pc a b k2 : Nat} {ls : List (Option AV)}, decode cc pc = .ok (.areturn, 1) → (o = none ∨ k2 = k) → a ≤ mc → b ≤ ms → J pc ls [.inr (k2, o)] hh a b) → J 0 ls0 [] h 0 0) : Ctr y cc nL (some (.object C)) d mc ms as h (some (.inr (k, o))) hh := by
  refine Ctr_of hy hown hl hini hls ?_
  intro p l e R s m args below meth c D cA A al X hr hlk
  refine body _ (JW_rules X) ?_
  intro pc a b k2 ls hd hk ha hb al' H locs lsA g1 g2 g3 g4 g5 g6 g7
  refine W.widen ha hb ?_
  have hov : okV hh (.inr (k, o)) := by
    rcases hk with rfl | rfl
    · intro n e; cases e
    · exact okS_h g6
  have hcv : cv al' (.inr (k2, o)) = cv al' (.inr (k, o)) := by
    rcases hk with rfl | rfl <;> rfl
  rw [List.map_cons, hcv]
  exact W.aret X.1 X.2.1 hr (Or.inl ⟨C, rfl⟩) (va_rf_or _) (fun t ht hW => ⟨⟨al', rfl, g1, g2, fun v e => by cases e; exact hov, by rw [ht]; exact g3⟩, g4.F ht⟩) g4.2.2 hd hlk
theorem Ctr_v (hy : plainName y.cls = true) (hown : y.cls = own) (hl : as.length ≤ nL) (hini : ini → y.name = "<init>") (hls : as.map some ++ List.replicate (nL - as.length) none = ls0)
    (body : ∀ J : JT, Rules cc own nL d mc ms ini J → (∀ {pc a b : Nat} {ls : List (Option AV)}, decode cc pc = .ok (.return_, 1) → a ≤ mc → b ≤ ms → J pc ls [] hh a b) → J 0 ls0 [] h 0 0) : Ctr y cc nL none d mc ms as h none hh := by
  refine Ctr_of hy hown hl hini hls ?_
  intro p l e R s m args below meth c D cA A al X hr hlk
  refine body _ (JW_rules X) ?_
  intro pc a b ls hd ha hb al' H locs lsA g1 g2 g3 g4 g5 g6 g7
  refine W.widen ha hb ?_
  exact W.vret X.1 X.2.1 hr (fun t ht hW => ⟨⟨al', rfl, g1, g2, fun v e => (by cases e), by rw [ht]; exact g3⟩, g4.F ht⟩) g4.2.2 hd hlk
end CTR
/-! how a method's function is written -/
def nn {β : Type} (r : Option Nat) (f : Nat → Option β) : Option β := match r with
  | none => none
  | some n => f n
def onn {β : Type} (r : Option Nat) (f : Option β) (g : Nat → Option β) : Option β := match r with
  | none => f
  | some n => g n
def ck {β : Type} (c : Bool) (f : Option β) : Option β := match c with
  | true => f
  | false => none
def lt {γ β : Type} (x : γ) (f : γ → β) : β := f x
def cl {γ β : Type} (c : Option (γ × Hp)) (f : γ → Hp → Option β) : Option β := match c with
  | none => none
  | some q => f q.1 q.2
theorem nn_S {β : Type} {r : Option Nat} {f : Nat → Option β} {o : β} (h : nn r f = some o) : ∃ n, r = some n ∧ f n = some o := by
  cases r with
  | none => cases h
  | some n => exact ⟨n, rfl, h⟩
theorem onn_N {β : Type} {r : Option Nat} {f : Option β} {g : Nat → Option β} {o : Option β} (e : r = none) (h : onn r f g = o) : f = o := by subst e; exact h
theorem onn_J {β : Type} {r : Option Nat} {f : Option β} {g : Nat → Option β} {o : Option β} {n : Nat} (e : r = some n) (h : onn r f g = o) : g n = o := by subst e; exact h
theorem ck_S {β : Type} {c : Bool} {f : Option β} {o : β} (h : ck c f = some o) : c = true ∧ f = some o := by
  cases c with
  | true => exact ⟨rfl, h⟩
  | false => cases h
theorem lt_S {γ β : Type} {x : γ} {f : γ → β} {o : β} (h : lt x f = o) : ∃ y, y = x ∧ f y = o := ⟨x, rfl, h⟩
theorem cl_S {γ β : Type} {c : Option (γ × Hp)} {f : γ → Hp → Option β} {o : β} (h : cl c f = some o) : ∃ r h1, c = some (r, h1) ∧ f r h1 = some o := by
  cases c with
  | none => cases h
  | some q => exact ⟨q.1, q.2, rfl, h⟩
theorem ite_T {β : Type} {c : Prop} {hd : Decidable c} {f g o : β} (hc : c) (h : (@ite _ c hd f g) = o) : f = o := by rw [if_pos hc] at h; exact h
theorem ite_F {β : Type} {c : Prop} {hd : Decidable c} {f g o : β} (hc : ¬ c) (h : (@ite _ c hd f g) = o) : g = o := by rw [if_neg hc] at h; exact h
def isz (x : Int32) : Bool := decide (x = 0 ∨ x = 1)
theorem isz_S {x : Int32} (h : isz x = true) : x = 0 ∨ x = 1 := by simpa [isz] using h
theorem addI {x : Int32} {n : Int} {k : Int32} (h : Int32.ofInt n = k) : x + Int32.ofInt n = x + k := by rw [h]
def nz (y : Int32) : Bool := decide (¬ y = 0)
theorem nz_S {y : Int32} (h : nz y = true) : ¬ y = 0 := by simpa [nz] using h
def lnok (n : Int32) (N : Nat) : Bool := decide (¬ n < 0) && decide (n.toNatClampNeg ≤ N)
theorem lnok_S {n : Int32} {N : Nat} (h : lnok n N = true) : ¬ n < 0 ∧ n.toNatClampNeg ≤ N := by simpa [lnok] using h
theorem ret_S {γ : Type} {x x2 : γ} {h h2 : Hp} (e : some (x, h) = some (x2, h2)) : x = x2 ∧ h = h2 := by
  injection e with e
  injection e with e1 e2
  exact ⟨e1, e2⟩
def FU : Nat := 5000
theorem i32_ne {x k : Int32} (h : ¬ x = k) : x.toInt ≠ k.toInt := fun e => h (Int32.toInt_inj.mp e)
end
section
theorem a_9 : AR 9 2 := ⟨by decide, rfl, by decide, by decide, fun _ => rfl⟩
theorem a_10 : AI 10 := ⟨by decide, rfl, rfl, by decide⟩
theorem a_11 : AI 11 := ⟨by decide, rfl, rfl, by decide⟩
theorem a_12 : AI 12 := ⟨by decide, rfl, rfl, by decide⟩
theorem a_13 : AI 13 := ⟨by decide, rfl, rfl, by decide⟩
theorem a_14 : AR 14 3 := ⟨by decide, rfl, by decide, by decide, fun _ => rfl⟩
theorem a_15 : AR 15 6 := ⟨by decide, rfl, by decide, by decide, fun _ => rfl⟩
theorem a_16 : AI 16 := ⟨by decide, rfl, rfl, by decide⟩
theorem a_17 : AI 17 := ⟨by decide, rfl, rfl, by decide⟩
theorem a_18 : AI 18 := ⟨by decide, rfl, rfl, by decide⟩
theorem a_19 : AR 19 4 := ⟨by decide, rfl, by decide, by decide, fun _ => rfl⟩
theorem a_20 : AR 20 6 := ⟨by decide, rfl, by decide, by decide, fun _ => rfl⟩
theorem a_21 : AR 21 2 := ⟨by decide, rfl, by decide, by decide, fun _ => rfl⟩
theorem a_22 : AR 22 0 := ⟨by decide, rfl, by decide, by decide, fun _ => rfl⟩
theorem a_23 : AI 23 := ⟨by decide, rfl, rfl, by decide⟩
theorem a_24 : AI 24 := ⟨by decide, rfl, rfl, by decide⟩
theorem a_25 : AI 25 := ⟨by decide, rfl, rfl, by decide⟩
theorem a_26 : AI 26 := ⟨by decide, rfl, rfl, by decide⟩
theorem a_27 : AI 27 := ⟨by decide, rfl, rfl, by decide⟩
theorem a_28 : AI 28 := ⟨by decide, rfl, rfl, by decide⟩
theorem a_29 : AI 29 := ⟨by decide, rfl, rfl, by decide⟩
theorem a_30 : AI 30 := ⟨by decide, rfl, rfl, by decide⟩
theorem a_31 : AZ 31 := ⟨by decide, rfl, rfl, by decide⟩
theorem a_32 : AI 32 := ⟨by decide, rfl, rfl, by decide⟩
theorem a_33 : AI 33 := ⟨by decide, rfl, rfl, by decide⟩
theorem a_34 : AI 34 := ⟨by decide, rfl, rfl, by decide⟩
theorem a_35 : AI 35 := ⟨by decide, rfl, rfl, by decide⟩
theorem a_36 : AI 36 := ⟨by decide, rfl, rfl, by decide⟩
theorem a_37 : AI 37 := ⟨by decide, rfl, rfl, by decide⟩
theorem a_38 : AI 38 := ⟨by decide, rfl, rfl, by decide⟩
theorem a_39 : AI 39 := ⟨by decide, rfl, rfl, by decide⟩
theorem a_40 : AI 40 := ⟨by decide, rfl, rfl, by decide⟩
theorem a_41 : AI 41 := ⟨by decide, rfl, rfl, by decide⟩
theorem a_42 : AI 42 := ⟨by decide, rfl, rfl, by decide⟩
theorem a_43 : AI 43 := ⟨by decide, rfl, rfl, by decide⟩
theorem a_44 : AI 44 := ⟨by decide, rfl, rfl, by decide⟩
theorem a_45 : AI 45 := ⟨by decide, rfl, rfl, by decide⟩
theorem a_46 : AI 46 := ⟨by decide, rfl, rfl, by decide⟩
theorem a_47 : AI 47 := ⟨by decide, rfl, rfl, by decide⟩
theorem a_48 : AI 48 := ⟨by decide, rfl, rfl, by decide⟩
theorem a_49 : AI 49 := ⟨by decide, rfl, rfl, by decide⟩
theorem a_50 : AI 50 := ⟨by decide, rfl, rfl, by decide⟩
theorem a_51 : AI 51 := ⟨by decide, rfl, rfl, by decide⟩
theorem a_52 : AI 52 := ⟨by decide, rfl, rfl, by decide⟩
theorem a_53 : AI 53 := ⟨by decide, rfl, rfl, by decide⟩
theorem a_54 : AI 54 := ⟨by decide, rfl, rfl, by decide⟩
theorem a_55 : AI 55 := ⟨by decide, rfl, rfl, by decide⟩
theorem a_56 : AI 56 := ⟨by decide, rfl, rfl, by decide⟩
theorem a_57 : AI 57 := ⟨by decide, rfl, rfl, by decide⟩
theorem a_58 : AI 58 := ⟨by decide, rfl, rfl, by decide⟩
theorem a_59 : AI 59 := ⟨by decide, rfl, rfl, by decide⟩
theorem a_60 : AI 60 := ⟨by decide, rfl, rfl, by decide⟩
theorem a_61 : AI 61 := ⟨by decide, rfl, rfl, by decide⟩
theorem a_62 : AI 62 := ⟨by decide, rfl, rfl, by decide⟩
theorem a_63 : AI 63 := ⟨by decide, rfl, rfl, by decide⟩
theorem a_64 : AI 64 := ⟨by decide, rfl, rfl, by decide⟩
theorem a_65 : AI 65 := ⟨by decide, rfl, rfl, by decide⟩
theorem a_66 : AI 66 := ⟨by decide, rfl, rfl, by decide⟩
theorem a_67 : AI 67 := ⟨by decide, rfl, rfl, by decide⟩
theorem w_RX0_3 : Cond.methodLink RX0 3 objectInit ∈ gws := gw 452 (by decide +kernel) rfl
theorem f_RX0_9 : FR RX0 9 0 3 2 := ⟨by decide, by decide, rfl, gw 460 (by decide +kernel) rfl⟩
theorem f_RX0_15 : FI RX0 15 0 4 := ⟨by decide, by decide, rfl, gw 463 (by decide +kernel) rfl⟩
theorem f_RX0_19 : FI RX0 19 0 5 := ⟨by decide, by decide, rfl, gw 465 (by decide +kernel) rfl⟩
theorem f_RX0_22 : FI RX0 22 0 0 := ⟨by decide, by decide, rfl, gw 453 (by decide +kernel) rfl⟩
theorem f_RX0_25 : FR RX0 25 0 1 4 := ⟨by decide, by decide, rfl, gw 455 (by decide +kernel) rfl⟩
theorem f_RX0_29 : FR RX0 29 0 2 4 := ⟨by decide, by decide, rfl, gw 457 (by decide +kernel) rfl⟩
theorem f_RX0_32 : FR RX0 32 2 4 0 := ⟨by decide, by decide, rfl, gw 372 (by decide +kernel) rfl⟩
theorem f_RX2_17 : FI RX2 17 2 2 := ⟨by decide, by decide, rfl, gw 367 (by decide +kernel) rfl⟩
theorem f_RX2_21 : FR RX2 21 2 4 0 := ⟨by decide, by decide, rfl, gw 371 (by decide +kernel) rfl⟩
theorem f_RX2_25 : FI RX2 25 2 5 := ⟨by decide, by decide, rfl, gw 374 (by decide +kernel) rfl⟩
theorem f_RX2_77 : FR RX2 77 0 3 2 := ⟨by decide, by decide, rfl, gw 461 (by decide +kernel) rfl⟩
theorem f_RX2_31 : FR RX2 31 2 3 4 := ⟨by decide, by decide, rfl, gw 369 (by decide +kernel) rfl⟩
theorem f_RX2_83 : FR RX2 83 0 2 4 := ⟨by decide, by decide, rfl, gw 459 (by decide +kernel) rfl⟩
theorem w_RX0_38 : CV RX0 38 yX2_state cX2_state 1 (some .int) 0 := ⟨gw 524 (by decide +kernel) rfl, gw 411 (by decide +kernel) rfl, gw 412 (by decide +kernel) rfl, gw 49 (by decide +kernel) rfl, gw 413 (by decide +kernel) rfl, ⟨by decide, by decide⟩, by decide +kernel, by decide⟩
theorem f_RX0_42 : FI RX0 42 2 5 := ⟨by decide, by decide, rfl, gw 375 (by decide +kernel) rfl⟩
theorem w_RX0_45 : CV RX0 45 yX2_landCrew cX2_landCrew 2 (some (.object RX0)) 0 := ⟨gw 525 (by decide +kernel) rfl, gw 501 (by decide +kernel) rfl, gw 502 (by decide +kernel) rfl, gw 49 (by decide +kernel) rfl, gw 503 (by decide +kernel) rfl, ⟨by decide, by decide⟩, by decide +kernel, by decide⟩
theorem w_RX1_3 : Cond.methodLink RX1 3 objectInit ∈ gws := gw 116 (by decide +kernel) rfl
theorem f_RX1_13 : FR RX1 13 1 0 9 := ⟨by decide, by decide, rfl, gw 118 (by decide +kernel) rfl⟩
theorem q_RX1_11 : Cond.classLink RX1 11 (kR 2) ∈ gws ∧ kR 2 ∈ aoW := ⟨gw 117 (by decide +kernel) rfl, by decide +kernel⟩
theorem f_RX1_17 : FR RX1 17 1 1 10 := ⟨by decide, by decide, rfl, gw 119 (by decide +kernel) rfl⟩
theorem f_RX1_21 : FR RX1 21 1 2 11 := ⟨by decide, by decide, rfl, gw 120 (by decide +kernel) rfl⟩
theorem f_RX1_24 : FR RX1 24 1 3 12 := ⟨by decide, by decide, rfl, gw 121 (by decide +kernel) rfl⟩
theorem f_RX1_27 : FR RX1 27 1 4 13 := ⟨by decide, by decide, rfl, gw 122 (by decide +kernel) rfl⟩
theorem f_RX1_30 : FI RX1 30 1 5 := ⟨by decide, by decide, rfl, gw 123 (by decide +kernel) rfl⟩
theorem f_RX1_34 : FI RX1 34 1 6 := ⟨by decide, by decide, rfl, gw 124 (by decide +kernel) rfl⟩
theorem f_RX1_37 : FI RX1 37 1 7 := ⟨by decide, by decide, rfl, gw 125 (by decide +kernel) rfl⟩
theorem w_RX1_40 : CSN RX1 40 yX7_within cX7_within 3 (some .boolean) 3 "RaftRivers" := ⟨by decide +kernel, gw 257 (by decide +kernel) rfl, gw 41 (by decide +kernel) rfl, gw 258 (by decide +kernel) rfl, ⟨by decide, by decide⟩, by decide +kernel, by decide⟩
theorem f_RX1_44 : FI RX1 44 2 0 := ⟨by decide, by decide, rfl, gw 363 (by decide +kernel) rfl⟩
theorem f_RX1_59 : FI RX1 59 4 7 := ⟨by decide, by decide, rfl, gw 225 (by decide +kernel) rfl⟩
theorem w_RX1_64 : CV RX1 64 yX2_need cX2_need 1 (some .int) 0 := ⟨gw 664 (by decide +kernel) rfl, gw 548 (by decide +kernel) rfl, gw 549 (by decide +kernel) rfl, gw 49 (by decide +kernel) rfl, gw 550 (by decide +kernel) rfl, ⟨by decide, by decide⟩, by decide +kernel, by decide⟩
theorem f_RX1_68 : FI RX1 68 4 4 := ⟨by decide, by decide, rfl, gw 218 (by decide +kernel) rfl⟩
theorem w_RX1_71 : CS RX1 71 yX1_hoursToFill cX1_hoursToFill 2 (some .int) 2 := ⟨gw 665 (by decide +kernel) rfl, gw 666 (by decide +kernel) rfl, gw 45 (by decide +kernel) rfl, gw 667 (by decide +kernel) rfl, ⟨by decide, by decide⟩, by decide +kernel, by decide⟩
theorem f_RX1_75 : FI RX1 75 4 5 := ⟨by decide, by decide, rfl, gw 220 (by decide +kernel) rfl⟩
theorem w_RX1_78 : Cond.methodLink RX1 78 Lib.Math.min.name ∈ gws := gw 668 (by decide +kernel) rfl
theorem w_RX1_83 : CV RX1 83 yX1_swap cX1_swap 4 none 2 := ⟨gw 677 (by decide +kernel) rfl, gw 679 (by decide +kernel) rfl, gw 17 (by decide +kernel) rfl, gw 45 (by decide +kernel) rfl, gw 680 (by decide +kernel) rfl, ⟨by decide, by decide⟩, by decide +kernel, by decide⟩
theorem w_RX1_47 : CV RX1 47 yX1_sumOfHours cX1_sumOfHours 10 (some .int) 2 := ⟨gw 660 (by decide +kernel) rfl, gw 662 (by decide +kernel) rfl, gw 14 (by decide +kernel) rfl, gw 45 (by decide +kernel) rfl, gw 663 (by decide +kernel) rfl, ⟨by decide, by decide⟩, by decide +kernel, by decide⟩
theorem w_RX1_55 : CV RX1 55 yX1_nextOrder cX1_nextOrder 5 (some .boolean) 0 := ⟨gw 673 (by decide +kernel) rfl, gw 675 (by decide +kernel) rfl, gw 16 (by decide +kernel) rfl, gw 45 (by decide +kernel) rfl, gw 676 (by decide +kernel) rfl, ⟨by decide, by decide⟩, by decide +kernel, by decide⟩
theorem w_RX1_51 : CV RX1 51 yX1_keep cX1_keep 3 none 1 := ⟨gw 669 (by decide +kernel) rfl, gw 671 (by decide +kernel) rfl, gw 15 (by decide +kernel) rfl, gw 45 (by decide +kernel) rfl, gw 672 (by decide +kernel) rfl, ⟨by decide, by decide⟩, by decide +kernel, by decide⟩
theorem w_RX2_3 : Cond.methodLink RX2 3 objectInit ∈ gws := gw 359 (by decide +kernel) rfl
theorem f_RX2_13 : FR RX2 13 2 1 14 := ⟨by decide, by decide, rfl, gw 365 (by decide +kernel) rfl⟩
theorem q_RX2_11 : Cond.classLink RX2 11 (kR 3) ∈ gws ∧ kR 3 ∈ aoW := ⟨gw 360 (by decide +kernel) rfl, by decide +kernel⟩
theorem f_RX2_28 : FI RX2 28 2 0 := ⟨by decide, by decide, rfl, gw 362 (by decide +kernel) rfl⟩
theorem f_RX2_35 : FI RX2 35 3 2 := ⟨by decide, by decide, rfl, gw 80 (by decide +kernel) rfl⟩
theorem w_RX2_38 : Cond.methodLink RX2 38 Lib.Math.max.name ∈ gws := gw 418 (by decide +kernel) rfl
theorem f_RX2_44 : FI RX2 44 3 1 := ⟨by decide, by decide, rfl, gw 77 (by decide +kernel) rfl⟩
theorem f_RX3_15 : FI RX3 15 3 1 := ⟨by decide, by decide, rfl, gw 76 (by decide +kernel) rfl⟩
theorem f_RX3_11 : FR RX3 11 3 0 15 := ⟨by decide, by decide, rfl, gw 74 (by decide +kernel) rfl⟩
theorem w_RX2_45 : CV RX2 45 yX3_first cX3_first 1 (some (.object RX6)) 0 := ⟨gw 563 (by decide +kernel) rfl, gw 335 (by decide +kernel) rfl, gw 336 (by decide +kernel) rfl, gw 42 (by decide +kernel) rfl, gw 337 (by decide +kernel) rfl, ⟨by decide, by decide⟩, by decide +kernel, by decide⟩
theorem w_RX2_49 : CV RX2 49 yX2_state cX2_state 1 (some .int) 0 := ⟨gw 542 (by decide +kernel) rfl, gw 411 (by decide +kernel) rfl, gw 412 (by decide +kernel) rfl, gw 49 (by decide +kernel) rfl, gw 413 (by decide +kernel) rfl, ⟨by decide, by decide⟩, by decide +kernel, by decide⟩
theorem w_RX2_53 : CV RX2 53 yX2_width cX2_width 3 (some .int) 0 := ⟨gw 543 (by decide +kernel) rfl, gw 544 (by decide +kernel) rfl, gw 545 (by decide +kernel) rfl, gw 49 (by decide +kernel) rfl, gw 546 (by decide +kernel) rfl, ⟨by decide, by decide⟩, by decide +kernel, by decide⟩
theorem f_RX2_55 : FI RX2 55 4 3 := ⟨by decide, by decide, rfl, gw 216 (by decide +kernel) rfl⟩
theorem f_RX3_40 : FR RX3 40 6 6 2 := ⟨by decide, by decide, rfl, gw 300 (by decide +kernel) rfl⟩
theorem f_RX3_33 : FR RX3 33 6 5 4 := ⟨by decide, by decide, rfl, gw 297 (by decide +kernel) rfl⟩
theorem w_RX2_60 : CV RX2 60 yX3_belongTo cX3_belongTo 3 none 1 := ⟨gw 394 (by decide +kernel) rfl, gw 395 (by decide +kernel) rfl, gw 396 (by decide +kernel) rfl, gw 42 (by decide +kernel) rfl, gw 397 (by decide +kernel) rfl, ⟨by decide, by decide⟩, by decide +kernel, by decide⟩
theorem w_RX2_64 : CV RX2 64 yX2_append cX2_append 2 none 1 := ⟨gw 419 (by decide +kernel) rfl, gw 391 (by decide +kernel) rfl, gw 392 (by decide +kernel) rfl, gw 49 (by decide +kernel) rfl, gw 393 (by decide +kernel) rfl, ⟨by decide, by decide⟩, by decide +kernel, by decide⟩
theorem w_RX2_68 : Cond.methodLink RX2 68 Lib.Math.min.name ∈ gws := gw 420 (by decide +kernel) rfl
theorem f_RX2_71 : FI RX2 71 4 2 := ⟨by decide, by decide, rfl, gw 214 (by decide +kernel) rfl⟩
theorem f_RX2_74 : FR RX2 74 4 1 4 := ⟨by decide, by decide, rfl, gw 211 (by decide +kernel) rfl⟩
theorem f_RX3_22 : FI RX3 22 6 0 := ⟨by decide, by decide, rfl, gw 285 (by decide +kernel) rfl⟩
theorem w_RX2_84 : CV RX2 84 yX3_loseTrunks cX3_loseTrunks 4 (some .int) 1 := ⟨gw 601 (by decide +kernel) rfl, gw 602 (by decide +kernel) rfl, gw 603 (by decide +kernel) rfl, gw 42 (by decide +kernel) rfl, gw 604 (by decide +kernel) rfl, ⟨by decide, by decide⟩, by decide +kernel, by decide⟩
theorem w_RX2_88 : CV RX2 88 yX3_lieAt cX3_lieAt 3 none 1 := ⟨gw 439 (by decide +kernel) rfl, gw 440 (by decide +kernel) rfl, gw 441 (by decide +kernel) rfl, gw 42 (by decide +kernel) rfl, gw 442 (by decide +kernel) rfl, ⟨by decide, by decide⟩, by decide +kernel, by decide⟩
theorem w_RX2_92 : CV RX2 92 yX2_end cX2_end 1 none 0 := ⟨gw 443 (by decide +kernel) rfl, gw 424 (by decide +kernel) rfl, gw 425 (by decide +kernel) rfl, gw 49 (by decide +kernel) rfl, gw 426 (by decide +kernel) rfl, ⟨by decide, by decide⟩, by decide +kernel, by decide⟩
theorem w_RX3_1 : Cond.methodLink RX3 1 objectInit ∈ gws := gw 72 (by decide +kernel) rfl
theorem q_RX3_9 : Cond.classLink RX3 9 (kR 6) ∈ gws ∧ kR 6 ∈ aoW := ⟨gw 73 (by decide +kernel) rfl, by decide +kernel⟩
theorem f_RX3_19 : FI RX3 19 3 2 := ⟨by decide, by decide, rfl, gw 79 (by decide +kernel) rfl⟩
theorem w_RX3_25 : CV RX3 25 yX3_first cX3_first 1 (some (.object RX6)) 0 := ⟨gw 334 (by decide +kernel) rfl, gw 335 (by decide +kernel) rfl, gw 336 (by decide +kernel) rfl, gw 42 (by decide +kernel) rfl, gw 337 (by decide +kernel) rfl, ⟨by decide, by decide⟩, by decide +kernel, by decide⟩
theorem w_RX3_29 : CV RX3 29 yX3_has cX3_has 3 (some .boolean) 1 := ⟨gw 338 (by decide +kernel) rfl, gw 339 (by decide +kernel) rfl, gw 340 (by decide +kernel) rfl, gw 42 (by decide +kernel) rfl, gw 341 (by decide +kernel) rfl, ⟨by decide, by decide⟩, by decide +kernel, by decide⟩
theorem f_RX3_37 : FI RX3 37 6 4 := ⟨by decide, by decide, rfl, gw 294 (by decide +kernel) rfl⟩
theorem w_RX4_3 : Cond.methodLink RX4 3 objectInit ∈ gws := gw 206 (by decide +kernel) rfl
theorem f_RX4_9 : FI RX4 9 4 8 := ⟨by decide, by decide, rfl, gw 227 (by decide +kernel) rfl⟩
theorem f_RX4_15 : FI RX4 15 4 9 := ⟨by decide, by decide, rfl, gw 229 (by decide +kernel) rfl⟩
theorem f_RX4_18 : FI RX4 18 4 0 := ⟨by decide, by decide, rfl, gw 208 (by decide +kernel) rfl⟩
theorem f_RX4_21 : FR RX4 21 4 1 4 := ⟨by decide, by decide, rfl, gw 210 (by decide +kernel) rfl⟩
theorem k_RX4_25 : Cond.constant RX4 25 (100000 : Int32) ∈ gws := gw 207 (by decide +kernel) rfl
theorem f_RX4_26 : FI RX4 26 4 2 := ⟨by decide, by decide, rfl, gw 213 (by decide +kernel) rfl⟩
theorem f_RX4_29 : FI RX4 29 4 3 := ⟨by decide, by decide, rfl, gw 215 (by decide +kernel) rfl⟩
theorem f_RX4_32 : FI RX4 32 4 4 := ⟨by decide, by decide, rfl, gw 217 (by decide +kernel) rfl⟩
theorem f_RX4_35 : FI RX4 35 4 5 := ⟨by decide, by decide, rfl, gw 219 (by decide +kernel) rfl⟩
theorem f_RX4_38 : FI RX4 38 4 6 := ⟨by decide, by decide, rfl, gw 222 (by decide +kernel) rfl⟩
theorem f_RX4_42 : FI RX4 42 4 7 := ⟨by decide, by decide, rfl, gw 224 (by decide +kernel) rfl⟩
theorem w_RX4_45 : CSN RX4 45 yX7_within cX7_within 3 (some .boolean) 3 "RaftRivers" := ⟨by decide +kernel, gw 257 (by decide +kernel) rfl, gw 41 (by decide +kernel) rfl, gw 258 (by decide +kernel) rfl, ⟨by decide, by decide⟩, by decide +kernel, by decide⟩
theorem w_RX4_49 : Cond.methodLink RX4 49 Lib.Math.min.name ∈ gws := gw 588 (by decide +kernel) rfl
theorem w_RX5_3 : Cond.methodLink RX5 3 objectInit ∈ gws := gw 93 (by decide +kernel) rfl
theorem f_RX5_9 : FI RX5 9 5 3 := ⟨by decide, by decide, rfl, gw 100 (by decide +kernel) rfl⟩
theorem w_RX5_15 : Cond.methodLink RX5 15 Lib.Math.max.name ∈ gws := gw 94 (by decide +kernel) rfl
theorem f_RX5_21 : FR RX5 21 5 0 16 := ⟨by decide, by decide, rfl, gw 97 (by decide +kernel) rfl⟩
theorem f_RX5_25 : FR RX5 25 5 1 17 := ⟨by decide, by decide, rfl, gw 98 (by decide +kernel) rfl⟩
theorem f_RX5_28 : FR RX5 28 5 2 18 := ⟨by decide, by decide, rfl, gw 99 (by decide +kernel) rfl⟩
theorem w_RX6_3 : Cond.methodLink RX6 3 objectInit ∈ gws := gw 283 (by decide +kernel) rfl
theorem f_RX6_9 : FR RX6 9 6 6 2 := ⟨by decide, by decide, rfl, gw 299 (by decide +kernel) rfl⟩
theorem f_RX6_15 : FI RX6 15 6 7 := ⟨by decide, by decide, rfl, gw 302 (by decide +kernel) rfl⟩
theorem f_RX6_19 : FI RX6 19 6 0 := ⟨by decide, by decide, rfl, gw 284 (by decide +kernel) rfl⟩
theorem f_RX6_22 : FI RX6 22 6 1 := ⟨by decide, by decide, rfl, gw 287 (by decide +kernel) rfl⟩
theorem f_RX6_25 : FI RX6 25 6 2 := ⟨by decide, by decide, rfl, gw 289 (by decide +kernel) rfl⟩
theorem f_RX6_28 : FI RX6 28 6 3 := ⟨by decide, by decide, rfl, gw 291 (by decide +kernel) rfl⟩
theorem f_RX6_31 : FI RX6 31 6 4 := ⟨by decide, by decide, rfl, gw 293 (by decide +kernel) rfl⟩
theorem f_RX6_34 : FR RX6 34 6 5 4 := ⟨by decide, by decide, rfl, gw 296 (by decide +kernel) rfl⟩
theorem w_RX7_109 : CS RX7 109 yX7_within cX7_within 3 (some .boolean) 3 := ⟨gw 256 (by decide +kernel) rfl, gw 257 (by decide +kernel) rfl, gw 41 (by decide +kernel) rfl, gw 258 (by decide +kernel) rfl, ⟨by decide, by decide⟩, by decide +kernel, by decide⟩
theorem w_RX6_38 : CSN RX6 38 yX7_isOwner cX7_isOwner 1 (some .boolean) 1 "RaftRivers" := ⟨by decide +kernel, gw 271 (by decide +kernel) rfl, gw 41 (by decide +kernel) rfl, gw 272 (by decide +kernel) rfl, ⟨by decide, by decide⟩, by decide +kernel, by decide⟩
theorem w_RX6_42 : CSN RX6 42 yX7_within cX7_within 3 (some .boolean) 3 "RaftRivers" := ⟨by decide +kernel, gw 257 (by decide +kernel) rfl, gw 41 (by decide +kernel) rfl, gw 258 (by decide +kernel) rfl, ⟨by decide, by decide⟩, by decide +kernel, by decide⟩
theorem w_RX7_1 : Cond.methodLink RX7 1 objectInit ∈ gws := gw 56 (by decide +kernel) rfl
theorem f_RX7_11 : FR RX7 11 7 0 19 := ⟨by decide, by decide, rfl, gw 143 (by decide +kernel) rfl⟩
theorem q_RX7_9 : Cond.classLink RX7 9 (kR 4) ∈ gws ∧ kR 4 ∈ aoW := ⟨gw 59 (by decide +kernel) rfl, by decide +kernel⟩
theorem f_RX7_15 : FI RX7 15 7 1 := ⟨by decide, by decide, rfl, gw 144 (by decide +kernel) rfl⟩
theorem f_RX7_21 : FR RX7 21 7 2 20 := ⟨by decide, by decide, rfl, gw 145 (by decide +kernel) rfl⟩
theorem q_RX7_19 : Cond.classLink RX7 19 (kR 6) ∈ gws ∧ kR 6 ∈ aoW := ⟨gw 61 (by decide +kernel) rfl, by decide +kernel⟩
theorem f_RX7_25 : FI RX7 25 7 3 := ⟨by decide, by decide, rfl, gw 146 (by decide +kernel) rfl⟩
theorem f_RX7_30 : FR RX7 30 7 4 21 := ⟨by decide, by decide, rfl, gw 147 (by decide +kernel) rfl⟩
theorem q_RX7_28 : Cond.classLink RX7 28 (kR 2) ∈ gws ∧ kR 2 ∈ aoW := ⟨gw 63 (by decide +kernel) rfl, by decide +kernel⟩
theorem f_RX7_34 : FI RX7 34 7 5 := ⟨by decide, by decide, rfl, gw 148 (by decide +kernel) rfl⟩
theorem f_RX7_39 : FR RX7 39 7 6 22 := ⟨by decide, by decide, rfl, gw 149 (by decide +kernel) rfl⟩
theorem q_RX7_37 : Cond.classLink RX7 37 (kR 0) ∈ gws ∧ kR 0 ∈ aoW := ⟨gw 65 (by decide +kernel) rfl, by decide +kernel⟩
theorem f_RX7_43 : FI RX7 43 7 7 := ⟨by decide, by decide, rfl, gw 150 (by decide +kernel) rfl⟩
theorem o_RX7_46 : NO RX7 46 3 := ⟨by decide, gw 67 (by decide +kernel) rfl, gw 68 (by decide +kernel) rfl, gw 42 (by decide +kernel) rfl⟩
theorem w_RX7_48 : CIN RX7 48 yX3_init cX3_init 1 0 "RaftRivers" := ⟨by decide +kernel, gw 70 (by decide +kernel) rfl, gw 42 (by decide +kernel) rfl, gw 71 (by decide +kernel) rfl, ⟨by decide, by decide⟩, by decide +kernel, by decide, rfl⟩
theorem f_RX7_49 : FR RX7 49 7 8 3 := ⟨by decide, by decide, rfl, gw 151 (by decide +kernel) rfl⟩
theorem o_RX7_53 : NO RX7 53 5 := ⟨by decide, gw 88 (by decide +kernel) rfl, gw 89 (by decide +kernel) rfl, gw 43 (by decide +kernel) rfl⟩
theorem w_RX7_55 : CI RX7 55 yX5_init cX5_init 3 1 := ⟨gw 90 (by decide +kernel) rfl, gw 91 (by decide +kernel) rfl, gw 43 (by decide +kernel) rfl, gw 92 (by decide +kernel) rfl, ⟨by decide, by decide⟩, by decide +kernel, by decide, rfl⟩
theorem f_RX7_58 : FR RX7 58 7 9 5 := ⟨by decide, by decide, rfl, gw 152 (by decide +kernel) rfl⟩
theorem f_RX7_62 : FR RX7 62 7 10 5 := ⟨by decide, by decide, rfl, gw 153 (by decide +kernel) rfl⟩
theorem f_RX7_65 : FR RX7 65 7 11 23 := ⟨by decide, by decide, rfl, gw 154 (by decide +kernel) rfl⟩
theorem f_RX7_69 : FR RX7 69 7 12 24 := ⟨by decide, by decide, rfl, gw 155 (by decide +kernel) rfl⟩
theorem o_RX7_72 : NO RX7 72 1 := ⟨by decide, gw 111 (by decide +kernel) rfl, gw 112 (by decide +kernel) rfl, gw 45 (by decide +kernel) rfl⟩
theorem w_RX7_74 : CIN RX7 74 yX1_init cX1_init 1 0 "RaftRivers" := ⟨by decide +kernel, gw 114 (by decide +kernel) rfl, gw 45 (by decide +kernel) rfl, gw 115 (by decide +kernel) rfl, ⟨by decide, by decide⟩, by decide +kernel, by decide, rfl⟩
theorem f_RX7_75 : FR RX7 75 7 13 1 := ⟨by decide, by decide, rfl, gw 156 (by decide +kernel) rfl⟩
theorem f_RX7_79 : FI RX7 79 7 14 := ⟨by decide, by decide, rfl, gw 157 (by decide +kernel) rfl⟩
theorem f_RX7_82 : FI RX7 82 7 15 := ⟨by decide, by decide, rfl, gw 158 (by decide +kernel) rfl⟩
theorem f_RX7_85 : FI RX7 85 7 16 := ⟨by decide, by decide, rfl, gw 159 (by decide +kernel) rfl⟩
theorem f_RX7_88 : FI RX7 88 7 17 := ⟨by decide, by decide, rfl, gw 160 (by decide +kernel) rfl⟩
theorem w_RX7_94 : CV RX7 94 yX7_stationAt cX7_stationAt 2 (some (.object RX4)) 1 := ⟨gw 252 (by decide +kernel) rfl, gw 254 (by decide +kernel) rfl, gw 0 (by decide +kernel) rfl, gw 41 (by decide +kernel) rfl, gw 255 (by decide +kernel) rfl, ⟨by decide, by decide⟩, by decide +kernel, by decide⟩
theorem w_RX7_98 : CS RX7 98 yX4_canBe cX4_canBe 2 (some .boolean) 2 := ⟨gw 259 (by decide +kernel) rfl, gw 260 (by decide +kernel) rfl, gw 47 (by decide +kernel) rfl, gw 261 (by decide +kernel) rfl, ⟨by decide, by decide⟩, by decide +kernel, by decide⟩
theorem o_RX7_9 : NO RX7 9 4 := ⟨by decide, gw 59 (by decide +kernel) rfl, gw 202 (by decide +kernel) rfl, gw 47 (by decide +kernel) rfl⟩
theorem w_RX7_91 : CI RX7 91 yX4_init cX4_init 6 5 := ⟨gw 203 (by decide +kernel) rfl, gw 204 (by decide +kernel) rfl, gw 47 (by decide +kernel) rfl, gw 205 (by decide +kernel) rfl, ⟨by decide, by decide⟩, by decide +kernel, by decide, rfl⟩
theorem f_RX7_102 : FI RX7 102 4 0 := ⟨by decide, by decide, rfl, gw 209 (by decide +kernel) rfl⟩
theorem f_RX7_121 : FI RX7 121 6 1 := ⟨by decide, by decide, rfl, gw 288 (by decide +kernel) rfl⟩
theorem w_RX7_105 : CS RX7 105 yX6_canBe cX6_canBe 1 (some .boolean) 1 := ⟨gw 267 (by decide +kernel) rfl, gw 268 (by decide +kernel) rfl, gw 48 (by decide +kernel) rfl, gw 269 (by decide +kernel) rfl, ⟨by decide, by decide⟩, by decide +kernel, by decide⟩
theorem k_RX7_108 : Cond.constant RX7 108 (99999 : Int32) ∈ gws := gw 274 (by decide +kernel) rfl
theorem w_RX7_113 : CV RX7 113 yX7_find cX7_find 3 (some .int) 1 := ⟨gw 275 (by decide +kernel) rfl, gw 276 (by decide +kernel) rfl, gw 277 (by decide +kernel) rfl, gw 41 (by decide +kernel) rfl, gw 278 (by decide +kernel) rfl, ⟨by decide, by decide⟩, by decide +kernel, by decide⟩
theorem o_RX7_19 : NO RX7 19 6 := ⟨by decide, gw 61 (by decide +kernel) rfl, gw 279 (by decide +kernel) rfl, gw 48 (by decide +kernel) rfl⟩
theorem w_RX7_117 : CI RX7 117 yX6_init cX6_init 5 4 := ⟨gw 280 (by decide +kernel) rfl, gw 281 (by decide +kernel) rfl, gw 48 (by decide +kernel) rfl, gw 282 (by decide +kernel) rfl, ⟨by decide, by decide⟩, by decide +kernel, by decide, rfl⟩
theorem f_RX7_120 : FI RX7 120 6 0 := ⟨by decide, by decide, rfl, gw 286 (by decide +kernel) rfl⟩
theorem w_RX7_124 : CV RX7 124 yX7_trunkAt cX7_trunkAt 2 (some (.object RX6)) 1 := ⟨gw 326 (by decide +kernel) rfl, gw 328 (by decide +kernel) rfl, gw 1 (by decide +kernel) rfl, gw 41 (by decide +kernel) rfl, gw 329 (by decide +kernel) rfl, ⟨by decide, by decide⟩, by decide +kernel, by decide⟩
theorem f_RX7_128 : FR RX7 128 6 5 4 := ⟨by decide, by decide, rfl, gw 298 (by decide +kernel) rfl⟩
theorem w_RX7_132 : CV RX7 132 yX3_takes cX3_takes 3 (some .boolean) 1 := ⟨gw 330 (by decide +kernel) rfl, gw 331 (by decide +kernel) rfl, gw 332 (by decide +kernel) rfl, gw 42 (by decide +kernel) rfl, gw 333 (by decide +kernel) rfl, ⟨by decide, by decide⟩, by decide +kernel, by decide⟩
theorem w_RX7_136 : CV RX7 136 yX3_append cX3_append 2 none 1 := ⟨gw 342 (by decide +kernel) rfl, gw 343 (by decide +kernel) rfl, gw 344 (by decide +kernel) rfl, gw 42 (by decide +kernel) rfl, gw 345 (by decide +kernel) rfl, ⟨by decide, by decide⟩, by decide +kernel, by decide⟩
theorem f_RX7_140 : FI RX7 140 3 1 := ⟨by decide, by decide, rfl, gw 78 (by decide +kernel) rfl⟩
theorem o_RX7_28 : NO RX7 28 2 := ⟨by decide, gw 63 (by decide +kernel) rfl, gw 355 (by decide +kernel) rfl, gw 49 (by decide +kernel) rfl⟩
theorem w_RX7_359 : CI RX7 359 yX2_init cX2_init 3 2 := ⟨gw 356 (by decide +kernel) rfl, gw 357 (by decide +kernel) rfl, gw 49 (by decide +kernel) rfl, gw 358 (by decide +kernel) rfl, ⟨by decide, by decide⟩, by decide +kernel, by decide, rfl⟩
theorem w_RX7_143 : CV RX7 143 yX3_first cX3_first 1 (some (.object RX6)) 0 := ⟨gw 350 (by decide +kernel) rfl, gw 335 (by decide +kernel) rfl, gw 336 (by decide +kernel) rfl, gw 42 (by decide +kernel) rfl, gw 337 (by decide +kernel) rfl, ⟨by decide, by decide⟩, by decide +kernel, by decide⟩
theorem w_RX7_147 : CV RX7 147 yX7_newRaft cX7_newRaft 3 (some (.object RX2)) 1 := ⟨gw 351 (by decide +kernel) rfl, gw 353 (by decide +kernel) rfl, gw 2 (by decide +kernel) rfl, gw 41 (by decide +kernel) rfl, gw 354 (by decide +kernel) rfl, ⟨by decide, by decide⟩, by decide +kernel, by decide⟩
theorem w_RX7_151 : CV RX7 151 yX2_append cX2_append 2 none 1 := ⟨gw 390 (by decide +kernel) rfl, gw 391 (by decide +kernel) rfl, gw 392 (by decide +kernel) rfl, gw 49 (by decide +kernel) rfl, gw 393 (by decide +kernel) rfl, ⟨by decide, by decide⟩, by decide +kernel, by decide⟩
theorem f_RX7_154 : FI RX7 154 2 0 := ⟨by decide, by decide, rfl, gw 364 (by decide +kernel) rfl⟩
theorem w_RX7_190 : CV RX7 190 yX7_raftAt cX7_raftAt 2 (some (.object RX2)) 1 := ⟨gw 406 (by decide +kernel) rfl, gw 408 (by decide +kernel) rfl, gw 4 (by decide +kernel) rfl, gw 41 (by decide +kernel) rfl, gw 409 (by decide +kernel) rfl, ⟨by decide, by decide⟩, by decide +kernel, by decide⟩
theorem w_RX7_193 : CV RX7 193 yX2_state cX2_state 1 (some .int) 0 := ⟨gw 410 (by decide +kernel) rfl, gw 411 (by decide +kernel) rfl, gw 412 (by decide +kernel) rfl, gw 49 (by decide +kernel) rfl, gw 413 (by decide +kernel) rfl, ⟨by decide, by decide⟩, by decide +kernel, by decide⟩
theorem w_RX7_155 : CV RX7 155 yX7_tiedAt cX7_tiedAt 3 (some (.object RX2)) 1 := ⟨gw 402 (by decide +kernel) rfl, gw 404 (by decide +kernel) rfl, gw 3 (by decide +kernel) rfl, gw 41 (by decide +kernel) rfl, gw 405 (by decide +kernel) rfl, ⟨by decide, by decide⟩, by decide +kernel, by decide⟩
theorem f_RX7_159 : FR RX7 159 2 3 4 := ⟨by decide, by decide, rfl, gw 370 (by decide +kernel) rfl⟩
theorem f_RX7_160 : FI RX7 160 2 2 := ⟨by decide, by decide, rfl, gw 368 (by decide +kernel) rfl⟩
theorem w_RX7_161 : CV RX7 161 yX2_moveRows cX2_moveRows 4 none 2 := ⟨gw 414 (by decide +kernel) rfl, gw 415 (by decide +kernel) rfl, gw 416 (by decide +kernel) rfl, gw 49 (by decide +kernel) rfl, gw 417 (by decide +kernel) rfl, ⟨by decide, by decide⟩, by decide +kernel, by decide⟩
theorem w_RX7_165 : CV RX7 165 yX2_end cX2_end 1 none 0 := ⟨gw 423 (by decide +kernel) rfl, gw 424 (by decide +kernel) rfl, gw 425 (by decide +kernel) rfl, gw 49 (by decide +kernel) rfl, gw 426 (by decide +kernel) rfl, ⟨by decide, by decide⟩, by decide +kernel, by decide⟩
theorem w_RX7_168 : CV RX7 168 yX2_scatter cX2_scatter 2 none 0 := ⟨gw 435 (by decide +kernel) rfl, gw 436 (by decide +kernel) rfl, gw 437 (by decide +kernel) rfl, gw 49 (by decide +kernel) rfl, gw 438 (by decide +kernel) rfl, ⟨by decide, by decide⟩, by decide +kernel, by decide⟩
theorem o_RX7_37 : NO RX7 37 0 := ⟨by decide, gw 65 (by decide +kernel) rfl, gw 448 (by decide +kernel) rfl, gw 50 (by decide +kernel) rfl⟩
theorem w_RX7_171 : CI RX7 171 yX0_init cX0_init 3 2 := ⟨gw 449 (by decide +kernel) rfl, gw 450 (by decide +kernel) rfl, gw 50 (by decide +kernel) rfl, gw 451 (by decide +kernel) rfl, ⟨by decide, by decide⟩, by decide +kernel, by decide, rfl⟩
theorem f_RX7_174 : FI RX7 174 0 0 := ⟨by decide, by decide, rfl, gw 454 (by decide +kernel) rfl⟩
theorem w_RX7_175 : CV RX7 175 yX7_crewAt cX7_crewAt 2 (some (.object RX0)) 1 := ⟨gw 484 (by decide +kernel) rfl, gw 486 (by decide +kernel) rfl, gw 5 (by decide +kernel) rfl, gw 41 (by decide +kernel) rfl, gw 487 (by decide +kernel) rfl, ⟨by decide, by decide⟩, by decide +kernel, by decide⟩
theorem f_RX7_179 : FR RX7 179 4 1 4 := ⟨by decide, by decide, rfl, gw 212 (by decide +kernel) rfl⟩
theorem f_RX7_182 : FR RX7 182 0 2 4 := ⟨by decide, by decide, rfl, gw 458 (by decide +kernel) rfl⟩
theorem w_RX7_183 : CV RX7 183 yX0_rests cX0_rests 2 (some .boolean) 1 := ⟨gw 488 (by decide +kernel) rfl, gw 489 (by decide +kernel) rfl, gw 490 (by decide +kernel) rfl, gw 50 (by decide +kernel) rfl, gw 491 (by decide +kernel) rfl, ⟨by decide, by decide⟩, by decide +kernel, by decide⟩
theorem w_RX7_186 : CV RX7 186 yX0_board cX0_board 2 none 1 := ⟨gw 492 (by decide +kernel) rfl, gw 493 (by decide +kernel) rfl, gw 494 (by decide +kernel) rfl, gw 50 (by decide +kernel) rfl, gw 495 (by decide +kernel) rfl, ⟨by decide, by decide⟩, by decide +kernel, by decide⟩
theorem w_RX7_197 : CV RX7 197 yX2_landCrew cX2_landCrew 2 (some (.object RX0)) 0 := ⟨gw 500 (by decide +kernel) rfl, gw 501 (by decide +kernel) rfl, gw 502 (by decide +kernel) rfl, gw 49 (by decide +kernel) rfl, gw 503 (by decide +kernel) rfl, ⟨by decide, by decide⟩, by decide +kernel, by decide⟩
theorem f_RX7_201 : FR RX7 201 0 1 4 := ⟨by decide, by decide, rfl, gw 456 (by decide +kernel) rfl⟩
theorem w_RX7_204 : CV RX7 204 yX4_hoursDownTo cX4_hoursDownTo 4 (some .int) 1 := ⟨gw 508 (by decide +kernel) rfl, gw 509 (by decide +kernel) rfl, gw 510 (by decide +kernel) rfl, gw 47 (by decide +kernel) rfl, gw 511 (by decide +kernel) rfl, ⟨by decide, by decide⟩, by decide +kernel, by decide⟩
theorem f_RX7_208 : FI RX7 208 0 4 := ⟨by decide, by decide, rfl, gw 464 (by decide +kernel) rfl⟩
theorem w_RX7_261 : CV RX7 261 yX2_firstTrunk cX2_firstTrunk 1 (some (.object RX6)) 0 := ⟨gw 559 (by decide +kernel) rfl, gw 560 (by decide +kernel) rfl, gw 561 (by decide +kernel) rfl, gw 49 (by decide +kernel) rfl, gw 562 (by decide +kernel) rfl, ⟨by decide, by decide⟩, by decide +kernel, by decide⟩
theorem f_RX7_264 : FI RX7 264 6 2 := ⟨by decide, by decide, rfl, gw 290 (by decide +kernel) rfl⟩
theorem w_RX7_255 : CV RX7 255 yX7_rightOf cX7_rightOf 3 (some .int) 1 := ⟨gw 555 (by decide +kernel) rfl, gw 557 (by decide +kernel) rfl, gw 10 (by decide +kernel) rfl, gw 41 (by decide +kernel) rfl, gw 558 (by decide +kernel) rfl, ⟨by decide, by decide⟩, by decide +kernel, by decide⟩
theorem w_RX7_259 : CV RX7 259 yX2_trunkCount cX2_trunkCount 3 (some .int) 0 := ⟨gw 564 (by decide +kernel) rfl, gw 565 (by decide +kernel) rfl, gw 566 (by decide +kernel) rfl, gw 49 (by decide +kernel) rfl, gw 567 (by decide +kernel) rfl, ⟨by decide, by decide⟩, by decide +kernel, by decide⟩
theorem f_RX7_243 : FR RX7 243 0 3 2 := ⟨by decide, by decide, rfl, gw 462 (by decide +kernel) rfl⟩
theorem w_RX7_247 : CV RX7 247 yX2_fits cX2_fits 2 (some .boolean) 1 := ⟨gw 538 (by decide +kernel) rfl, gw 539 (by decide +kernel) rfl, gw 540 (by decide +kernel) rfl, gw 49 (by decide +kernel) rfl, gw 541 (by decide +kernel) rfl, ⟨by decide, by decide⟩, by decide +kernel, by decide⟩
theorem w_RX7_236 : CV RX7 236 yX2_need cX2_need 1 (some .int) 0 := ⟨gw 547 (by decide +kernel) rfl, gw 548 (by decide +kernel) rfl, gw 549 (by decide +kernel) rfl, gw 49 (by decide +kernel) rfl, gw 550 (by decide +kernel) rfl, ⟨by decide, by decide⟩, by decide +kernel, by decide⟩
theorem f_RX7_233 : FI RX7 233 4 7 := ⟨by decide, by decide, rfl, gw 226 (by decide +kernel) rfl⟩
theorem w_RX7_251 : CV RX7 251 yX7_goesAhead cX7_goesAhead 5 (some .boolean) 2 := ⟨gw 551 (by decide +kernel) rfl, gw 553 (by decide +kernel) rfl, gw 9 (by decide +kernel) rfl, gw 41 (by decide +kernel) rfl, gw 554 (by decide +kernel) rfl, ⟨by decide, by decide⟩, by decide +kernel, by decide⟩
theorem w_RX7_267 : CV RX7 267 yX7_today cX7_today 1 (some .int) 0 := ⟨gw 572 (by decide +kernel) rfl, gw 574 (by decide +kernel) rfl, gw 12 (by decide +kernel) rfl, gw 41 (by decide +kernel) rfl, gw 575 (by decide +kernel) rfl, ⟨by decide, by decide⟩, by decide +kernel, by decide⟩
theorem w_RX7_270 : CV RX7 270 yX5_inForce cX5_inForce 6 (some .int) 2 := ⟨gw 576 (by decide +kernel) rfl, gw 577 (by decide +kernel) rfl, gw 578 (by decide +kernel) rfl, gw 43 (by decide +kernel) rfl, gw 579 (by decide +kernel) rfl, ⟨by decide, by decide⟩, by decide +kernel, by decide⟩
theorem f_RX7_274 : FR RX7 274 2 1 14 := ⟨by decide, by decide, rfl, gw 366 (by decide +kernel) rfl⟩
theorem f_RX7_278 : FR RX7 278 3 0 15 := ⟨by decide, by decide, rfl, gw 75 (by decide +kernel) rfl⟩
theorem w_RX7_224 : CV RX7 224 yX4_storms cX4_storms 2 (some .boolean) 1 := ⟨gw 530 (by decide +kernel) rfl, gw 531 (by decide +kernel) rfl, gw 532 (by decide +kernel) rfl, gw 47 (by decide +kernel) rfl, gw 533 (by decide +kernel) rfl, ⟨by decide, by decide⟩, by decide +kernel, by decide⟩
theorem w_RX7_227 : CV RX7 227 yX7_nextAt cX7_nextAt 5 (some (.object RX2)) 1 := ⟨gw 534 (by decide +kernel) rfl, gw 536 (by decide +kernel) rfl, gw 8 (by decide +kernel) rfl, gw 41 (by decide +kernel) rfl, gw 537 (by decide +kernel) rfl, ⟨by decide, by decide⟩, by decide +kernel, by decide⟩
theorem w_RX7_230 : CV RX7 230 yX7_takeTolls cX7_takeTolls 6 none 1 := ⟨gw 568 (by decide +kernel) rfl, gw 570 (by decide +kernel) rfl, gw 11 (by decide +kernel) rfl, gw 41 (by decide +kernel) rfl, gw 571 (by decide +kernel) rfl, ⟨by decide, by decide⟩, by decide +kernel, by decide⟩
theorem w_RX7_239 : CV RX7 239 yX2_goDown cX2_goDown 3 none 2 := ⟨gw 580 (by decide +kernel) rfl, gw 581 (by decide +kernel) rfl, gw 582 (by decide +kernel) rfl, gw 49 (by decide +kernel) rfl, gw 583 (by decide +kernel) rfl, ⟨by decide, by decide⟩, by decide +kernel, by decide⟩
theorem w_RX7_214 : CV RX7 214 yX0_comeBy cX0_comeBy 2 none 1 := ⟨gw 520 (by decide +kernel) rfl, gw 521 (by decide +kernel) rfl, gw 522 (by decide +kernel) rfl, gw 50 (by decide +kernel) rfl, gw 523 (by decide +kernel) rfl, ⟨by decide, by decide⟩, by decide +kernel, by decide⟩
theorem w_RX7_217 : CV RX7 217 yX7_openWeir cX7_openWeir 3 none 1 := ⟨gw 526 (by decide +kernel) rfl, gw 528 (by decide +kernel) rfl, gw 7 (by decide +kernel) rfl, gw 41 (by decide +kernel) rfl, gw 529 (by decide +kernel) rfl, ⟨by decide, by decide⟩, by decide +kernel, by decide⟩
theorem w_RX7_221 : CV RX7 221 yX4_fillPond cX4_fillPond 1 none 0 := ⟨gw 584 (by decide +kernel) rfl, gw 585 (by decide +kernel) rfl, gw 586 (by decide +kernel) rfl, gw 47 (by decide +kernel) rfl, gw 587 (by decide +kernel) rfl, ⟨by decide, by decide⟩, by decide +kernel, by decide⟩
theorem w_RX7_211 : CV RX7 211 yX7_passHour cX7_passHour 2 none 0 := ⟨gw 516 (by decide +kernel) rfl, gw 518 (by decide +kernel) rfl, gw 6 (by decide +kernel) rfl, gw 41 (by decide +kernel) rfl, gw 519 (by decide +kernel) rfl, ⟨by decide, by decide⟩, by decide +kernel, by decide⟩
theorem f_RX7_279 : FI RX7 279 4 8 := ⟨by decide, by decide, rfl, gw 228 (by decide +kernel) rfl⟩
theorem f_RX7_282 : FI RX7 282 4 9 := ⟨by decide, by decide, rfl, gw 230 (by decide +kernel) rfl⟩
theorem w_RX7_285 : CV RX7 285 yX2_loseTrunks cX2_loseTrunks 4 (some .int) 1 := ⟨gw 597 (by decide +kernel) rfl, gw 598 (by decide +kernel) rfl, gw 599 (by decide +kernel) rfl, gw 49 (by decide +kernel) rfl, gw 600 (by decide +kernel) rfl, ⟨by decide, by decide⟩, by decide +kernel, by decide⟩
theorem f_RX7_288 : FI RX7 288 0 5 := ⟨by decide, by decide, rfl, gw 466 (by decide +kernel) rfl⟩
theorem w_RX7_291 : CS RX7 291 yX7_isOwner cX7_isOwner 1 (some .boolean) 1 := ⟨gw 609 (by decide +kernel) rfl, gw 271 (by decide +kernel) rfl, gw 41 (by decide +kernel) rfl, gw 272 (by decide +kernel) rfl, ⟨by decide, by decide⟩, by decide +kernel, by decide⟩
theorem w_RX7_294 : CV RX7 294 yX5_tell cX5_tell 4 (some .boolean) 3 := ⟨gw 614 (by decide +kernel) rfl, gw 615 (by decide +kernel) rfl, gw 616 (by decide +kernel) rfl, gw 43 (by decide +kernel) rfl, gw 617 (by decide +kernel) rfl, ⟨by decide, by decide⟩, by decide +kernel, by decide⟩
theorem f_RX7_297 : FI RX7 297 4 6 := ⟨by decide, by decide, rfl, gw 223 (by decide +kernel) rfl⟩
theorem w_RX7_301 : CS RX7 301 yX7_marketOf cX7_marketOf 2 (some .int) 2 := ⟨gw 622 (by decide +kernel) rfl, gw 623 (by decide +kernel) rfl, gw 41 (by decide +kernel) rfl, gw 624 (by decide +kernel) rfl, ⟨by decide, by decide⟩, by decide +kernel, by decide⟩
theorem w_RX7_305 : CV RX7 305 yX3_has cX3_has 3 (some .boolean) 1 := ⟨gw 629 (by decide +kernel) rfl, gw 339 (by decide +kernel) rfl, gw 340 (by decide +kernel) rfl, gw 42 (by decide +kernel) rfl, gw 341 (by decide +kernel) rfl, ⟨by decide, by decide⟩, by decide +kernel, by decide⟩
theorem f_RX7_308 : FI RX7 308 6 3 := ⟨by decide, by decide, rfl, gw 292 (by decide +kernel) rfl⟩
theorem f_RX7_311 : FI RX7 311 6 4 := ⟨by decide, by decide, rfl, gw 295 (by decide +kernel) rfl⟩
theorem f_RX7_314 : FI RX7 314 6 7 := ⟨by decide, by decide, rfl, gw 303 (by decide +kernel) rfl⟩
theorem k_RX7_318 : Cond.constant RX7 318 (-2147483648 : Int32) ∈ gws := gw 635 (by decide +kernel) rfl
theorem k_RX7_317 : Cond.constant RX7 317 (100000 : Int32) ∈ gws := gw 634 (by decide +kernel) rfl
theorem w_RX7_328 : CV RX7 328 yX1_clear cX1_clear 1 none 0 := ⟨gw 648 (by decide +kernel) rfl, gw 649 (by decide +kernel) rfl, gw 650 (by decide +kernel) rfl, gw 45 (by decide +kernel) rfl, gw 651 (by decide +kernel) rfl, ⟨by decide, by decide⟩, by decide +kernel, by decide⟩
theorem f_RX7_331 : FI RX7 331 4 5 := ⟨by decide, by decide, rfl, gw 221 (by decide +kernel) rfl⟩
theorem w_RX7_334 : CV RX7 334 yX1_admit cX1_admit 2 none 1 := ⟨gw 652 (by decide +kernel) rfl, gw 653 (by decide +kernel) rfl, gw 654 (by decide +kernel) rfl, gw 45 (by decide +kernel) rfl, gw 655 (by decide +kernel) rfl, ⟨by decide, by decide⟩, by decide +kernel, by decide⟩
theorem w_RX7_337 : CV RX7 337 yX1_work cX1_work 6 none 2 := ⟨gw 656 (by decide +kernel) rfl, gw 657 (by decide +kernel) rfl, gw 658 (by decide +kernel) rfl, gw 45 (by decide +kernel) rfl, gw 659 (by decide +kernel) rfl, ⟨by decide, by decide⟩, by decide +kernel, by decide⟩
theorem w_RX7_319 : CV RX7 319 yX7_makePlan cX7_makePlan 4 none 1 := ⟨gw 644 (by decide +kernel) rfl, gw 646 (by decide +kernel) rfl, gw 13 (by decide +kernel) rfl, gw 41 (by decide +kernel) rfl, gw 647 (by decide +kernel) rfl, ⟨by decide, by decide⟩, by decide +kernel, by decide⟩
theorem w_RX7_322 : CV RX7 322 yX1_raftIn cX1_raftIn 2 (some .int) 1 := ⟨gw 681 (by decide +kernel) rfl, gw 682 (by decide +kernel) rfl, gw 683 (by decide +kernel) rfl, gw 45 (by decide +kernel) rfl, gw 684 (by decide +kernel) rfl, ⟨by decide, by decide⟩, by decide +kernel, by decide⟩
theorem w_RX7_325 : CV RX7 325 yX1_hourOf cX1_hourOf 2 (some .int) 1 := ⟨gw 690 (by decide +kernel) rfl, gw 691 (by decide +kernel) rfl, gw 692 (by decide +kernel) rfl, gw 45 (by decide +kernel) rfl, gw 693 (by decide +kernel) rfl, ⟨by decide, by decide⟩, by decide +kernel, by decide⟩
theorem f_RX7_344 : FR RX7 344 6 6 2 := ⟨by decide, by decide, rfl, gw 301 (by decide +kernel) rfl⟩
theorem w_RX7_341 : CS RX7 341 yX7_numberOf cX7_numberOf 1 (some .int) 1 := ⟨gw 702 (by decide +kernel) rfl, gw 703 (by decide +kernel) rfl, gw 41 (by decide +kernel) rfl, gw 704 (by decide +kernel) rfl, ⟨by decide, by decide⟩, by decide +kernel, by decide⟩
theorem w_RX7_340 : CV RX7 340 yX6_state cX6_state 1 (some .int) 0 := ⟨gw 698 (by decide +kernel) rfl, gw 699 (by decide +kernel) rfl, gw 700 (by decide +kernel) rfl, gw 48 (by decide +kernel) rfl, gw 701 (by decide +kernel) rfl, ⟨by decide, by decide⟩, by decide +kernel, by decide⟩
theorem f_RX7_352 : FI RX7 352 2 5 := ⟨by decide, by decide, rfl, gw 376 (by decide +kernel) rfl⟩
theorem f_RX7_348 : FR RX7 348 2 4 0 := ⟨by decide, by decide, rfl, gw 373 (by decide +kernel) rfl⟩
theorem w_RX7_345 : CV RX7 345 yX2_width cX2_width 3 (some .int) 0 := ⟨gw 709 (by decide +kernel) rfl, gw 544 (by decide +kernel) rfl, gw 545 (by decide +kernel) rfl, gw 49 (by decide +kernel) rfl, gw 546 (by decide +kernel) rfl, ⟨by decide, by decide⟩, by decide +kernel, by decide⟩
theorem w_RX7_355 : CV RX7 355 yX0_state cX0_state 1 (some .int) 0 := ⟨gw 714 (by decide +kernel) rfl, gw 715 (by decide +kernel) rfl, gw 716 (by decide +kernel) rfl, gw 50 (by decide +kernel) rfl, gw 717 (by decide +kernel) rfl, ⟨by decide, by decide⟩, by decide +kernel, by decide⟩
theorem w_RX7_356 : CV RX7 356 yX7_pondOf cX7_pondOf 3 (some .int) 1 := ⟨gw 722 (by decide +kernel) rfl, gw 724 (by decide +kernel) rfl, gw 18 (by decide +kernel) rfl, gw 41 (by decide +kernel) rfl, gw 725 (by decide +kernel) rfl, ⟨by decide, by decide⟩, by decide +kernel, by decide⟩
theorem w_RX8_1 : Cond.methodLink RX8 1 objectInit ∈ gws := gw 731 (by decide +kernel) rfl
theorem f_RX8_9 : FR RX8 9 8 2 25 := ⟨by decide, by decide, rfl, gw 734 (by decide +kernel) rfl⟩
theorem f_RX8_13 : FR RX8 13 8 3 26 := ⟨by decide, by decide, rfl, gw 735 (by decide +kernel) rfl⟩
theorem f_RX8_16 : FR RX8 16 8 4 27 := ⟨by decide, by decide, rfl, gw 736 (by decide +kernel) rfl⟩
theorem f_RX8_19 : FR RX8 19 8 5 28 := ⟨by decide, by decide, rfl, gw 737 (by decide +kernel) rfl⟩
theorem f_RX8_22 : FR RX8 22 8 6 29 := ⟨by decide, by decide, rfl, gw 738 (by decide +kernel) rfl⟩
theorem f_RX8_25 : FR RX8 25 8 7 30 := ⟨by decide, by decide, rfl, gw 739 (by decide +kernel) rfl⟩
theorem f_RX8_28 : FR RX8 28 8 8 31 := ⟨by decide, by decide, rfl, gw 740 (by decide +kernel) rfl⟩
theorem f_RX8_32 : FR RX8 32 8 9 32 := ⟨by decide, by decide, rfl, gw 741 (by decide +kernel) rfl⟩
theorem f_RX8_35 : FR RX8 35 8 10 33 := ⟨by decide, by decide, rfl, gw 742 (by decide +kernel) rfl⟩
theorem f_RX8_38 : FR RX8 38 8 12 34 := ⟨by decide, by decide, rfl, gw 744 (by decide +kernel) rfl⟩
theorem f_RX8_41 : FR RX8 41 8 13 35 := ⟨by decide, by decide, rfl, gw 745 (by decide +kernel) rfl⟩
theorem f_RX8_44 : FR RX8 44 8 14 36 := ⟨by decide, by decide, rfl, gw 746 (by decide +kernel) rfl⟩
theorem f_RX8_47 : FR RX8 47 8 15 37 := ⟨by decide, by decide, rfl, gw 747 (by decide +kernel) rfl⟩
theorem f_RX8_50 : FR RX8 50 8 16 38 := ⟨by decide, by decide, rfl, gw 748 (by decide +kernel) rfl⟩
theorem f_RX8_53 : FR RX8 53 8 17 39 := ⟨by decide, by decide, rfl, gw 749 (by decide +kernel) rfl⟩
theorem f_RX8_56 : FR RX8 56 8 18 40 := ⟨by decide, by decide, rfl, gw 750 (by decide +kernel) rfl⟩
theorem f_RX8_59 : FR RX8 59 8 19 41 := ⟨by decide, by decide, rfl, gw 751 (by decide +kernel) rfl⟩
theorem f_RX8_62 : FR RX8 62 8 20 42 := ⟨by decide, by decide, rfl, gw 752 (by decide +kernel) rfl⟩
theorem f_RX8_65 : FR RX8 65 8 21 43 := ⟨by decide, by decide, rfl, gw 753 (by decide +kernel) rfl⟩
theorem f_RX8_68 : FR RX8 68 8 23 44 := ⟨by decide, by decide, rfl, gw 755 (by decide +kernel) rfl⟩
theorem f_RX8_71 : FR RX8 71 8 25 45 := ⟨by decide, by decide, rfl, gw 757 (by decide +kernel) rfl⟩
theorem f_RX8_74 : FR RX8 74 8 26 46 := ⟨by decide, by decide, rfl, gw 758 (by decide +kernel) rfl⟩
theorem f_RX8_77 : FR RX8 77 8 27 47 := ⟨by decide, by decide, rfl, gw 759 (by decide +kernel) rfl⟩
theorem f_RX8_80 : FR RX8 80 8 28 48 := ⟨by decide, by decide, rfl, gw 760 (by decide +kernel) rfl⟩
theorem f_RX8_83 : FR RX8 83 8 29 49 := ⟨by decide, by decide, rfl, gw 761 (by decide +kernel) rfl⟩
theorem f_RX8_86 : FR RX8 86 8 31 50 := ⟨by decide, by decide, rfl, gw 763 (by decide +kernel) rfl⟩
theorem f_RX8_89 : FR RX8 89 8 32 51 := ⟨by decide, by decide, rfl, gw 764 (by decide +kernel) rfl⟩
theorem f_RX8_92 : FR RX8 92 8 33 52 := ⟨by decide, by decide, rfl, gw 765 (by decide +kernel) rfl⟩
theorem f_RX8_95 : FR RX8 95 8 34 53 := ⟨by decide, by decide, rfl, gw 766 (by decide +kernel) rfl⟩
theorem f_RX8_98 : FR RX8 98 8 35 54 := ⟨by decide, by decide, rfl, gw 767 (by decide +kernel) rfl⟩
theorem f_RX8_101 : FR RX8 101 8 36 55 := ⟨by decide, by decide, rfl, gw 768 (by decide +kernel) rfl⟩
theorem f_RX8_104 : FR RX8 104 8 37 56 := ⟨by decide, by decide, rfl, gw 769 (by decide +kernel) rfl⟩
theorem f_RX8_107 : FR RX8 107 8 39 57 := ⟨by decide, by decide, rfl, gw 771 (by decide +kernel) rfl⟩
theorem f_RX8_110 : FR RX8 110 8 40 58 := ⟨by decide, by decide, rfl, gw 772 (by decide +kernel) rfl⟩
theorem f_RX8_113 : FR RX8 113 8 42 59 := ⟨by decide, by decide, rfl, gw 774 (by decide +kernel) rfl⟩
theorem f_RX8_116 : FR RX8 116 8 43 60 := ⟨by decide, by decide, rfl, gw 775 (by decide +kernel) rfl⟩
theorem f_RX8_119 : FR RX8 119 8 44 61 := ⟨by decide, by decide, rfl, gw 776 (by decide +kernel) rfl⟩
theorem f_RX8_122 : FR RX8 122 8 45 62 := ⟨by decide, by decide, rfl, gw 777 (by decide +kernel) rfl⟩
theorem f_RX8_125 : FR RX8 125 8 47 63 := ⟨by decide, by decide, rfl, gw 779 (by decide +kernel) rfl⟩
theorem f_RX8_128 : FR RX8 128 8 48 64 := ⟨by decide, by decide, rfl, gw 780 (by decide +kernel) rfl⟩
theorem f_RX8_131 : FR RX8 131 8 49 65 := ⟨by decide, by decide, rfl, gw 781 (by decide +kernel) rfl⟩
theorem f_RX8_134 : FR RX8 134 8 50 66 := ⟨by decide, by decide, rfl, gw 782 (by decide +kernel) rfl⟩
theorem f_RX8_137 : FR RX8 137 8 51 67 := ⟨by decide, by decide, rfl, gw 783 (by decide +kernel) rfl⟩
theorem f_RX8_140 : FI RX8 140 8 1 := ⟨by decide, by decide, rfl, gw 733 (by decide +kernel) rfl⟩
theorem w_RX8_144 : CS RX8 144 yX8_in cX8_in 3 (some .boolean) 3 := ⟨gw 898 (by decide +kernel) rfl, gw 899 (by decide +kernel) rfl, gw 46 (by decide +kernel) rfl, gw 900 (by decide +kernel) rfl, ⟨by decide, by decide⟩, by decide +kernel, by decide⟩
theorem f_RX8_148 : FI RX8 148 8 11 := ⟨by decide, by decide, rfl, gw 743 (by decide +kernel) rfl⟩
theorem f_RX8_151 : FI RX8 151 8 24 := ⟨by decide, by decide, rfl, gw 756 (by decide +kernel) rfl⟩
theorem w_RX8_154 : CV RX8 154 yX8_isStation cX8_isStation 2 (some .boolean) 1 := ⟨gw 894 (by decide +kernel) rfl, gw 896 (by decide +kernel) rfl, gw 19 (by decide +kernel) rfl, gw 46 (by decide +kernel) rfl, gw 897 (by decide +kernel) rfl, ⟨by decide, by decide⟩, by decide +kernel, by decide⟩
theorem k_RX8_158 : Cond.constant RX8 158 (100000 : Int32) ∈ gws := gw 901 (by decide +kernel) rfl
theorem k_RX8_159 : Cond.constant RX8 159 (99999 : Int32) ∈ gws := gw 906 (by decide +kernel) rfl
theorem w_RX8_160 : CV RX8 160 yX8_find cX8_find 3 (some .int) 1 := ⟨gw 907 (by decide +kernel) rfl, gw 908 (by decide +kernel) rfl, gw 909 (by decide +kernel) rfl, gw 46 (by decide +kernel) rfl, gw 910 (by decide +kernel) rfl, ⟨by decide, by decide⟩, by decide +kernel, by decide⟩
theorem f_RX8_164 : FI RX8 164 8 22 := ⟨by decide, by decide, rfl, gw 754 (by decide +kernel) rfl⟩
theorem w_RX8_167 : CV RX8 167 yX8_isTrunk cX8_isTrunk 2 (some .boolean) 1 := ⟨gw 916 (by decide +kernel) rfl, gw 918 (by decide +kernel) rfl, gw 20 (by decide +kernel) rfl, gw 46 (by decide +kernel) rfl, gw 919 (by decide +kernel) rfl, ⟨by decide, by decide⟩, by decide +kernel, by decide⟩
theorem w_RX8_170 : CV RX8 170 yX8_isNext cX8_isNext 3 (some .boolean) 1 := ⟨gw 920 (by decide +kernel) rfl, gw 922 (by decide +kernel) rfl, gw 21 (by decide +kernel) rfl, gw 46 (by decide +kernel) rfl, gw 923 (by decide +kernel) rfl, ⟨by decide, by decide⟩, by decide +kernel, by decide⟩
theorem w_RX8_173 : CV RX8 173 yX8_newRaft cX8_newRaft 2 (some .int) 1 := ⟨gw 928 (by decide +kernel) rfl, gw 930 (by decide +kernel) rfl, gw 22 (by decide +kernel) rfl, gw 46 (by decide +kernel) rfl, gw 931 (by decide +kernel) rfl, ⟨by decide, by decide⟩, by decide +kernel, by decide⟩
theorem w_RX8_176 : CV RX8 176 yX8_isRaft cX8_isRaft 3 (some .boolean) 2 := ⟨gw 936 (by decide +kernel) rfl, gw 938 (by decide +kernel) rfl, gw 23 (by decide +kernel) rfl, gw 46 (by decide +kernel) rfl, gw 939 (by decide +kernel) rfl, ⟨by decide, by decide⟩, by decide +kernel, by decide⟩
theorem w_RX8_180 : CV RX8 180 yX8_isOf cX8_isOf 3 (some .boolean) 2 := ⟨gw 940 (by decide +kernel) rfl, gw 942 (by decide +kernel) rfl, gw 24 (by decide +kernel) rfl, gw 46 (by decide +kernel) rfl, gw 943 (by decide +kernel) rfl, ⟨by decide, by decide⟩, by decide +kernel, by decide⟩
theorem w_RX8_183 : CV RX8 183 yX8_ends cX8_ends 2 none 1 := ⟨gw 944 (by decide +kernel) rfl, gw 946 (by decide +kernel) rfl, gw 25 (by decide +kernel) rfl, gw 46 (by decide +kernel) rfl, gw 947 (by decide +kernel) rfl, ⟨by decide, by decide⟩, by decide +kernel, by decide⟩
theorem w_RX8_187 : CV RX8 187 yX8_lays cX8_lays 3 none 2 := ⟨gw 956 (by decide +kernel) rfl, gw 958 (by decide +kernel) rfl, gw 26 (by decide +kernel) rfl, gw 46 (by decide +kernel) rfl, gw 959 (by decide +kernel) rfl, ⟨by decide, by decide⟩, by decide +kernel, by decide⟩
theorem f_RX8_191 : FI RX8 191 8 30 := ⟨by decide, by decide, rfl, gw 762 (by decide +kernel) rfl⟩
theorem f_RX8_194 : FI RX8 194 8 0 := ⟨by decide, by decide, rfl, gw 732 (by decide +kernel) rfl⟩
theorem w_RX8_197 : CV RX8 197 yX8_isResting cX8_isResting 2 (some .boolean) 1 := ⟨gw 968 (by decide +kernel) rfl, gw 970 (by decide +kernel) rfl, gw 27 (by decide +kernel) rfl, gw 46 (by decide +kernel) rfl, gw 971 (by decide +kernel) rfl, ⟨by decide, by decide⟩, by decide +kernel, by decide⟩
theorem w_RX8_200 : CV RX8 200 yX8_lands cX8_lands 4 none 3 := ⟨gw 976 (by decide +kernel) rfl, gw 978 (by decide +kernel) rfl, gw 28 (by decide +kernel) rfl, gw 46 (by decide +kernel) rfl, gw 979 (by decide +kernel) rfl, ⟨by decide, by decide⟩, by decide +kernel, by decide⟩
theorem f_RX8_204 : FI RX8 204 8 38 := ⟨by decide, by decide, rfl, gw 770 (by decide +kernel) rfl⟩
theorem w_RX8_207 : CV RX8 207 yX8_first cX8_first 3 (some .int) 1 := ⟨gw 1004 (by decide +kernel) rfl, gw 1006 (by decide +kernel) rfl, gw 33 (by decide +kernel) rfl, gw 46 (by decide +kernel) rfl, gw 1007 (by decide +kernel) rfl, ⟨by decide, by decide⟩, by decide +kernel, by decide⟩
theorem w_RX8_210 : CV RX8 210 yX8_many cX8_many 4 (some .int) 1 := ⟨gw 1008 (by decide +kernel) rfl, gw 1010 (by decide +kernel) rfl, gw 34 (by decide +kernel) rfl, gw 46 (by decide +kernel) rfl, gw 1011 (by decide +kernel) rfl, ⟨by decide, by decide⟩, by decide +kernel, by decide⟩
theorem w_RX8_213 : CV RX8 213 yX8_width cX8_width 6 (some .int) 1 := ⟨gw 996 (by decide +kernel) rfl, gw 998 (by decide +kernel) rfl, gw 31 (by decide +kernel) rfl, gw 46 (by decide +kernel) rfl, gw 999 (by decide +kernel) rfl, ⟨by decide, by decide⟩, by decide +kernel, by decide⟩
theorem w_RX8_216 : CV RX8 216 yX8_isAhead cX8_isAhead 5 (some .boolean) 2 := ⟨gw 1000 (by decide +kernel) rfl, gw 1002 (by decide +kernel) rfl, gw 32 (by decide +kernel) rfl, gw 46 (by decide +kernel) rfl, gw 1003 (by decide +kernel) rfl, ⟨by decide, by decide⟩, by decide +kernel, by decide⟩
theorem w_RX8_219 : CV RX8 219 yX8_tollOf cX8_tollOf 4 (some .int) 1 := ⟨gw 1012 (by decide +kernel) rfl, gw 1014 (by decide +kernel) rfl, gw 35 (by decide +kernel) rfl, gw 46 (by decide +kernel) rfl, gw 1015 (by decide +kernel) rfl, ⟨by decide, by decide⟩, by decide +kernel, by decide⟩
theorem f_RX8_222 : FI RX8 222 8 46 := ⟨by decide, by decide, rfl, gw 778 (by decide +kernel) rfl⟩
theorem w_RX8_225 : CV RX8 225 yX8_arrivals cX8_arrivals 2 none 0 := ⟨gw 988 (by decide +kernel) rfl, gw 990 (by decide +kernel) rfl, gw 29 (by decide +kernel) rfl, gw 46 (by decide +kernel) rfl, gw 991 (by decide +kernel) rfl, ⟨by decide, by decide⟩, by decide +kernel, by decide⟩
theorem w_RX8_228 : CV RX8 228 yX8_weir cX8_weir 5 none 1 := ⟨gw 992 (by decide +kernel) rfl, gw 994 (by decide +kernel) rfl, gw 30 (by decide +kernel) rfl, gw 46 (by decide +kernel) rfl, gw 995 (by decide +kernel) rfl, ⟨by decide, by decide⟩, by decide +kernel, by decide⟩
theorem f_RX8_231 : FI RX8 231 8 41 := ⟨by decide, by decide, rfl, gw 773 (by decide +kernel) rfl⟩
theorem w_RX8_234 : CV RX8 234 yX8_priceNow cX8_priceNow 5 (some .int) 2 := ⟨gw 1040 (by decide +kernel) rfl, gw 1042 (by decide +kernel) rfl, gw 36 (by decide +kernel) rfl, gw 46 (by decide +kernel) rfl, gw 1043 (by decide +kernel) rfl, ⟨by decide, by decide⟩, by decide +kernel, by decide⟩
theorem k_RX8_238 : Cond.constant RX8 238 (-2147483648 : Int32) ∈ gws := gw 1048 (by decide +kernel) rfl
theorem w_RX8_239 : CV RX8 239 yX8_orders cX8_orders 9 none 2 := ⟨gw 1061 (by decide +kernel) rfl, gw 1063 (by decide +kernel) rfl, gw 38 (by decide +kernel) rfl, gw 46 (by decide +kernel) rfl, gw 1064 (by decide +kernel) rfl, ⟨by decide, by decide⟩, by decide +kernel, by decide⟩
theorem w_RX8_242 : CV RX8 242 yX8_sumOf cX8_sumOf 8 (some .int) 2 := ⟨gw 1065 (by decide +kernel) rfl, gw 1067 (by decide +kernel) rfl, gw 39 (by decide +kernel) rfl, gw 46 (by decide +kernel) rfl, gw 1068 (by decide +kernel) rfl, ⟨by decide, by decide⟩, by decide +kernel, by decide⟩
theorem w_RX8_245 : CV RX8 245 yX8_tries cX8_tries 8 (some .int) 1 := ⟨gw 1057 (by decide +kernel) rfl, gw 1059 (by decide +kernel) rfl, gw 37 (by decide +kernel) rfl, gw 46 (by decide +kernel) rfl, gw 1060 (by decide +kernel) rfl, ⟨by decide, by decide⟩, by decide +kernel, by decide⟩
end
section
def F_X0_init (x0 : Nat) (x1 : Int32) (x2 : Option Nat) (h : Hp) : Option (Unit × Hp) :=
  lt (wR h 0 x0 3 none) fun h1 =>
  lt (wI h1 0 x0 4 (-1 : Int32)) fun h3 =>
  lt (wI h3 0 x0 5 (-8 : Int32)) fun h5 =>
  lt (wI h5 0 x0 0 x1) fun h7 =>
  lt (wR h7 0 x0 1 x2) fun h9 =>
  lt (wR h9 0 x0 2 x2) fun h11 =>
  some ((), h11)

def F_X0_state (x0 : Nat) (h : Hp) : Option (Int32 × Hp) :=
  onn (pR h 0 x0 2) (
  onn (pR h 0 x0 3) (
  some ((2 : Int32), h)) fun n4 =>
  some ((1 : Int32), h)) fun n2 =>
  some ((0 : Int32), h)

def F_X0_rests (x0 : Nat) (x1 : Int32) (h : Hp) : Option (Int32 × Hp) :=
  onn (pR h 0 x0 2) (
  some ((0 : Int32), h)) fun n2 =>
  if (8 : Int32) ≤ (x1 - (pI h 0 x0 5)) then
  some ((0 : Int32), h)
  else
  some ((1 : Int32), h)

def F_X0_board (x0 : Nat) (x1 : Option Nat) (h : Hp) : Option (Unit × Hp) :=
  lt (wR h 0 x0 2 none) fun h1 =>
  lt (wR h1 0 x0 3 x1) fun h3 =>
  nn x1 fun n5 =>
  lt (wR h3 2 n5 4 (some x0)) fun h7 =>
  some ((), h7)

def F_X2_state (x0 : Nat) (h : Hp) : Option (Int32 × Hp) :=
  if (pI h 2 x0 2) = 0 then
  some ((3 : Int32), h)
  else
  onn (pR h 2 x0 4) (
  some ((0 : Int32), h)) fun n3 =>
  if (pI h 2 x0 5) = (-1 : Int32) then
  some ((1 : Int32), h)
  else
  some ((2 : Int32), h)

def F_X2_landCrew (x0 : Nat) (h : Hp) : Option (Option Nat × Hp) :=
  onn (pR h 2 x0 4) (
  lt (wR h 2 x0 4 none) fun h3 =>
  lt (wI h3 2 x0 5 (-1 : Int32)) fun h5 =>
  some (none, h5)) fun n2 =>
  lt (wR h 0 n2 3 none) fun h7 =>
  lt (wR h7 0 n2 2 (pR h7 2 x0 3)) fun h9 =>
  lt (wR h9 2 x0 4 none) fun h11 =>
  lt (wI h11 2 x0 5 (-1 : Int32)) fun h13 =>
  some ((some n2), h13)

def F_X0_comeBy (x0 : Nat) (x1 : Int32) (h : Hp) : Option (Unit × Hp) :=
  if (pI h 0 x0 4) = (-1 : Int32) then
  onn (pR h 0 x0 3) (
  some ((), h)) fun n3 =>
  cl (F_X2_state n3 h) fun r4 h5 =>
  if r4 = (2 : Int32) then
  nn (pR h5 0 x0 3) fun n8 =>
  if x1 < (pI h5 2 n8 5) then
  some ((), h5)
  else
  cl (F_X2_landCrew n8 h5) fun r11 h12 =>
  lt (wI h12 0 x0 5 x1) fun h14 =>
  some ((), h14)
  else
  some ((), h5)
  else
  if x1 < (pI h 0 x0 4) then
  onn (pR h 0 x0 3) (
  some ((), h)) fun n18 =>
  cl (F_X2_state n18 h) fun r19 h20 =>
  if r19 = (2 : Int32) then
  nn (pR h20 0 x0 3) fun n23 =>
  if x1 < (pI h20 2 n23 5) then
  some ((), h20)
  else
  cl (F_X2_landCrew n23 h20) fun r26 h27 =>
  lt (wI h27 0 x0 5 x1) fun h29 =>
  some ((), h29)
  else
  some ((), h20)
  else
  lt (wR h 0 x0 2 (pR h 0 x0 1)) fun h31 =>
  lt (wI h31 0 x0 4 (-1 : Int32)) fun h33 =>
  lt (wI h33 0 x0 5 x1) fun h35 =>
  some ((), h35)

def F_X1_init (x0 : Nat) (h : Hp) : Option (Unit × Hp) :=
  lt (wN h 9 ((5 : Int32)).toNatClampNeg) fun h1 =>
  lt (wR h1 1 x0 0 (some (pC h 9))) fun h3 =>
  lt (wN h3 10 ((5 : Int32)).toNatClampNeg) fun h5 =>
  lt (wR h5 1 x0 1 (some (pC h3 10))) fun h7 =>
  lt (wN h7 11 ((5 : Int32)).toNatClampNeg) fun h9 =>
  lt (wR h9 1 x0 2 (some (pC h7 11))) fun h11 =>
  lt (wN h11 12 ((5 : Int32)).toNatClampNeg) fun h13 =>
  lt (wR h13 1 x0 3 (some (pC h11 12))) fun h15 =>
  lt (wN h15 13 ((5 : Int32)).toNatClampNeg) fun h17 =>
  lt (wR h17 1 x0 4 (some (pC h15 13))) fun h19 =>
  lt (wI h19 1 x0 5 (0 : Int32)) fun h21 =>
  lt (wI h21 1 x0 6 (0 : Int32)) fun h23 =>
  lt (wI h23 1 x0 7 (-1 : Int32)) fun h25 =>
  some ((), h25)

def F_X1_clear (x0 : Nat) (h : Hp) : Option (Unit × Hp) :=
  lt (wI h 1 x0 5 (0 : Int32)) fun h1 =>
  lt (wI h1 1 x0 6 (0 : Int32)) fun h3 =>
  lt (wI h3 1 x0 7 (-1 : Int32)) fun h5 =>
  some ((), h5)

def F_X1_admit (x0 : Nat) (x1 : Option Nat) (h : Hp) : Option (Unit × Hp) :=
  if (5 : Int32) ≤ (pI h 1 x0 5) then
  lt (wI h 1 x0 5 ((pI h 1 x0 5) + (1 : Int32))) fun h2 =>
  some ((), h2)
  else
  nn (pR h 1 x0 0) fun n4 =>
  ck (inb (pI h 1 x0 5) (pL h 9 n4)) <|
  lt (wR h 9 n4 ((pI h 1 x0 5)).toNatClampNeg x1) fun h7 =>
  nn (pR h7 1 x0 1) fun n9 =>
  ck (inb (pI h7 1 x0 5) (pL h7 10 n9)) <|
  lt (wI h7 10 n9 ((pI h7 1 x0 5)).toNatClampNeg (pI h7 1 x0 5)) fun h12 =>
  lt (wI h12 1 x0 5 ((pI h12 1 x0 5) + (1 : Int32))) fun h14 =>
  some ((), h14)

def F_X7_within (x0 : Int32) (x1 : Int32) (x2 : Int32) (h : Hp) : Option (Int32 × Hp) :=
  if x0 < x1 then
  some ((0 : Int32), h)
  else
  if x2 < x0 then
  some ((0 : Int32), h)
  else
  some ((1 : Int32), h)

def F_X1_raftIn (x0 : Nat) (x1 : Int32) (h : Hp) : Option (Int32 × Hp) :=
  cl (F_X7_within x1 (0 : Int32) ((pI h 1 x0 6) - (1 : Int32)) h) fun r1 h2 =>
  if r1 = 0 then
  some ((-1 : Int32), h2)
  else
  nn (pR h2 1 x0 3) fun n5 =>
  ck (inb x1 (pL h2 12 n5)) <|
  nn (pR h2 1 x0 0) fun n8 =>
  ck (inb (pI h2 12 n5 (x1).toNatClampNeg) (pL h2 9 n8)) <|
  nn (pR h2 9 n8 ((pI h2 12 n5 (x1).toNatClampNeg)).toNatClampNeg) fun n11 =>
  some ((pI h2 2 n11 0), h2)

def F_X1_hourOf (x0 : Nat) (x1 : Int32) (h : Hp) : Option (Int32 × Hp) :=
  cl (F_X7_within x1 (0 : Int32) ((pI h 1 x0 6) - (1 : Int32)) h) fun r1 h2 =>
  if r1 = 0 then
  some ((-1 : Int32), h2)
  else
  nn (pR h2 1 x0 4) fun n5 =>
  ck (inb x1 (pL h2 13 n5)) <|
  some ((pI h2 13 n5 (x1).toNatClampNeg), h2)

def F_X2_need (x0 : Nat) (h : Hp) : Option (Int32 × Hp) :=
  some (((5 : Int32) * (pI h 2 x0 2)), h)

def F_X1_hoursToFill (x0 : Int32) (x1 : Int32) (h : Hp) : Option (Int32 × Hp) :=
  if 0 < x0 then
  if 0 < x1 then
  ck (nz x1) <|
  some ((((x0 + x1) - (1 : Int32)) / x1), h)
  else
  some ((-1 : Int32), h)
  else
  some ((0 : Int32), h)

def L_X1_sumOfHours_14 {β : Type} (v0 : Nat) (v1 : Nat) (κ139 : Int32 → Hp → Option β) (κ60 : Hp → Option β) : Nat → Int32 → Int32 → Int32 → Int32 → Hp → Option β
  | 0, _, _, _, _, _ => none
  | f + 1, v3, v4, v5, v6, h =>
    if (pI h 1 v0 5) ≤ v6 then
    κ139 v3 h
    else
    nn (pR h 1 v0 1) fun n4 =>
    ck (inb v6 (pL h 10 n4)) <|
    nn (pR h 1 v0 0) fun n7 =>
    ck (inb (pI h 10 n4 (v6).toNatClampNeg) (pL h 9 n7)) <|
    nn (pR h 9 n7 ((pI h 10 n4 (v6).toNatClampNeg)).toNatClampNeg) fun n10 =>
    cl (F_X2_need n10 h) fun r12 h13 =>
    cl (F_X1_hoursToFill (r12 - v5) (pI h13 4 v1 4) h13) fun r15 h16 =>
    if r15 = (-1 : Int32) then
    κ60 h16
    else
    nn (pR h16 1 v0 2) fun n19 =>
    ck (inb v6 (pL h16 11 n19)) <|
    lt (wI h16 11 n19 (v6).toNatClampNeg (v4 + r15)) fun h22 =>
    nn (pR h22 1 v0 2) fun n24 =>
    ck (inb v6 (pL h22 11 n24)) <|
    ck (inb v6 (pL h22 11 n24)) <|
    L_X1_sumOfHours_14 v0 v1 κ139 κ60 f (v3 + (pI h22 11 n24 (v6).toNatClampNeg)) ((pI h22 11 n24 (v6).toNatClampNeg) + (1 : Int32)) (if (((if (v5 + (r15 * (pI h22 4 v1 4))) < (pI h22 4 v1 5) then (v5 + (r15 * (pI h22 4 v1 4))) else (pI h22 4 v1 5)) - r12) + (pI h22 4 v1 4)) < (pI h22 4 v1 5) then (((if (v5 + (r15 * (pI h22 4 v1 4))) < (pI h22 4 v1 5) then (v5 + (r15 * (pI h22 4 v1 4))) else (pI h22 4 v1 5)) - r12) + (pI h22 4 v1 4)) else (pI h22 4 v1 5)) (v6 + (1 : Int32)) h22

def F_X1_sumOfHours (x0 : Nat) (x1 : Option Nat) (x2 : Int32) (h : Hp) : Option (Int32 × Hp) :=
  nn x1 fun n1 =>
  L_X1_sumOfHours_14 x0 n1 (fun k28 h29 =>
  some (k28, h29)) (fun h30 =>
  some ((-1 : Int32), h30)) FU (0 : Int32) x2 (pI h 4 n1 7) (0 : Int32) h

def L_X1_keep_15 {β : Type} (v0 : Nat) (κ53 : Hp → Option β) : Nat → Int32 → Hp → Option β
  | 0, _, _ => none
  | f + 1, v2, h =>
    if (pI h 1 v0 5) ≤ v2 then
    κ53 h
    else
    nn (pR h 1 v0 1) fun n6 =>
    ck (inb v2 (pL h 10 n6)) <|
    nn (pR h 1 v0 3) fun n9 =>
    ck (inb v2 (pL h 12 n9)) <|
    lt (wI h 12 n9 (v2).toNatClampNeg (pI h 10 n6 (v2).toNatClampNeg)) fun h12 =>
    nn (pR h12 1 v0 2) fun n14 =>
    ck (inb v2 (pL h12 11 n14)) <|
    nn (pR h12 1 v0 4) fun n17 =>
    ck (inb v2 (pL h12 13 n17)) <|
    lt (wI h12 13 n17 (v2).toNatClampNeg (pI h12 11 n14 (v2).toNatClampNeg)) fun h20 =>
    L_X1_keep_15 v0 κ53 f (v2 + (1 : Int32)) h20

def F_X1_keep (x0 : Nat) (x1 : Int32) (h : Hp) : Option (Unit × Hp) :=
  lt (wI h 1 x0 7 x1) fun h1 =>
  lt (wI h1 1 x0 6 (pI h1 1 x0 5)) fun h3 =>
  L_X1_keep_15 x0 (fun h22 =>
  some ((), h22)) FU (0 : Int32) h3

def F_X1_swap (x0 : Nat) (x1 : Int32) (x2 : Int32) (h : Hp) : Option (Unit × Hp) :=
  nn (pR h 1 x0 1) fun n1 =>
  ck (inb x1 (pL h 10 n1)) <|
  ck (inb x2 (pL h 10 n1)) <|
  ck (inb x1 (pL h 10 n1)) <|
  lt (wI h 10 n1 (x1).toNatClampNeg (pI h 10 n1 (x2).toNatClampNeg)) fun h6 =>
  nn (pR h6 1 x0 1) fun n8 =>
  ck (inb x2 (pL h6 10 n8)) <|
  lt (wI h6 10 n8 (x2).toNatClampNeg (pI h 10 n1 (x1).toNatClampNeg)) fun h11 =>
  some ((), h11)

def L_X1_nextOrder_7 {β : Type} (v0 : Nat) (κ34 : Int32 → Hp → Option β) : Nat → Int32 → Hp → Option β
  | 0, _, _ => none
  | f + 1, v1, h =>
    if v1 < 0 then
    κ34 v1 h
    else
    nn (pR h 1 v0 1) fun n2 =>
    ck (inb v1 (pL h 10 n2)) <|
    ck (inb (v1 + (1 : Int32)) (pL h 10 n2)) <|
    if (pI h 10 n2 (v1).toNatClampNeg) ≤ (pI h 10 n2 ((v1 + (1 : Int32))).toNatClampNeg) then
    κ34 v1 h
    else
    L_X1_nextOrder_7 v0 κ34 f (v1 + (-1 : Int32)) h

def L_X1_nextOrder_47 {β : Type} (v0 : Nat) (v1 : Int32) (κ73 : Int32 → Hp → Option β) : Nat → Int32 → Hp → Option β
  | 0, _, _ => none
  | f + 1, v2, h =>
    if v2 ≤ v1 then
    κ73 v2 h
    else
    nn (pR h 1 v0 1) fun n11 =>
    ck (inb v2 (pL h 10 n11)) <|
    ck (inb v1 (pL h 10 n11)) <|
    if (pI h 10 n11 (v1).toNatClampNeg) ≤ (pI h 10 n11 (v2).toNatClampNeg) then
    κ73 v2 h
    else
    L_X1_nextOrder_47 v0 v1 κ73 f (v2 + (-1 : Int32)) h

def L_X1_nextOrder_91 {β : Type} (v0 : Nat) (κ113 : Hp → Option β) : Nat → Int32 → Int32 → Hp → Option β
  | 0, _, _, _ => none
  | f + 1, v3, v4, h =>
    if v4 ≤ v3 then
    κ113 h
    else
    cl (F_X1_swap v0 v3 v4 h) fun _ h23 =>
    L_X1_nextOrder_91 v0 κ113 f (v3 + (1 : Int32)) (v4 + (-1 : Int32)) h23

def F_X1_nextOrder (x0 : Nat) (h : Hp) : Option (Int32 × Hp) :=
  L_X1_nextOrder_7 x0 (fun k7 h8 =>
  if 0 ≤ k7 then
  L_X1_nextOrder_47 x0 k7 (fun k16 h17 =>
  cl (F_X1_swap x0 k7 k16 h17) fun _ h19 =>
  L_X1_nextOrder_91 x0 (fun h25 =>
  some ((1 : Int32), h25)) FU (k7 + (1 : Int32)) ((pI h19 1 x0 5) - (1 : Int32)) h19) FU ((pI h8 1 x0 5) - (1 : Int32)) h8
  else
  some ((0 : Int32), h8)) FU ((pI h 1 x0 5) - (2 : Int32)) h

def L_X1_work_21 {β : Type} (v0 : Nat) (v1 : Option Nat) (v2 : Int32) (κ80 : Hp → Option β) : Nat → Int32 → Int32 → Hp → Option β
  | 0, _, _, _ => none
  | f + 1, v3, v4, h =>
    if (120 : Int32) ≤ v4 then
    κ80 h
    else
    if v3 = 0 then
    κ80 h
    else
    cl (F_X1_sumOfHours v0 v1 v2 h) fun r5 h6 =>
    if r5 = (-1 : Int32) then
    cl (F_X1_nextOrder v0 h6) fun r9 h10 =>
    L_X1_work_21 v0 v1 v2 κ80 f r9 (v4 + (1 : Int32)) h10
    else
    if (pI h6 1 v0 7) = (-1 : Int32) then
    cl (F_X1_keep v0 r5 h6) fun _ h14 =>
    cl (F_X1_nextOrder v0 h14) fun r16 h17 =>
    L_X1_work_21 v0 v1 v2 κ80 f r16 (v4 + (1 : Int32)) h17
    else
    if (pI h6 1 v0 7) ≤ r5 then
    cl (F_X1_nextOrder v0 h6) fun r20 h21 =>
    L_X1_work_21 v0 v1 v2 κ80 f r20 (v4 + (1 : Int32)) h21
    else
    cl (F_X1_keep v0 r5 h6) fun _ h24 =>
    cl (F_X1_nextOrder v0 h24) fun r26 h27 =>
    L_X1_work_21 v0 v1 v2 κ80 f r26 (v4 + (1 : Int32)) h27

def F_X1_work (x0 : Nat) (x1 : Option Nat) (x2 : Int32) (h : Hp) : Option (Unit × Hp) :=
  if (pI h 1 x0 5) = 0 then
  some ((), h)
  else
  if (pI h 1 x0 5) ≤ (5 : Int32) then
  L_X1_work_21 x0 x1 x2 (fun h29 =>
  some ((), h29)) FU (1 : Int32) (0 : Int32) h
  else
  some ((), h)

def F_X2_init (x0 : Nat) (x1 : Int32) (x2 : Option Nat) (h : Hp) : Option (Unit × Hp) :=
  lt (wN h 14 ((8 : Int32)).toNatClampNeg) fun h1 =>
  lt (wR h1 2 x0 1 (some (pC h 14))) fun h3 =>
  lt (wI h3 2 x0 2 (0 : Int32)) fun h5 =>
  lt (wR h5 2 x0 4 none) fun h7 =>
  lt (wI h7 2 x0 5 (-1 : Int32)) fun h9 =>
  lt (wI h9 2 x0 0 x1) fun h11 =>
  lt (wR h11 2 x0 3 x2) fun h13 =>
  some ((), h13)

def L_X2_width_4 {β : Type} (v0 : Nat) (κ32 : Int32 → Hp → Option β) : Nat → Int32 → Int32 → Hp → Option β
  | 0, _, _, _ => none
  | f + 1, v1, v2, h =>
    if (pI h 2 v0 2) ≤ v2 then
    κ32 v1 h
    else
    nn (pR h 2 v0 1) fun n2 =>
    ck (inb v2 (pL h 14 n2)) <|
    nn (pR h 14 n2 (v2).toNatClampNeg) fun n5 =>
    L_X2_width_4 v0 κ32 f (if v1 < (pI h 3 n5 2) then (pI h 3 n5 2) else v1) (v2 + (1 : Int32)) h

def F_X2_width (x0 : Nat) (h : Hp) : Option (Int32 × Hp) :=
  L_X2_width_4 x0 (fun k7 h8 =>
  some (k7, h8)) FU (0 : Int32) (0 : Int32) h

def L_X2_trunkCount_4 {β : Type} (v0 : Nat) (κ30 : Int32 → Hp → Option β) : Nat → Int32 → Int32 → Hp → Option β
  | 0, _, _, _ => none
  | f + 1, v1, v2, h =>
    if (pI h 2 v0 2) ≤ v2 then
    κ30 v1 h
    else
    nn (pR h 2 v0 1) fun n2 =>
    ck (inb v2 (pL h 14 n2)) <|
    nn (pR h 14 n2 (v2).toNatClampNeg) fun n5 =>
    L_X2_trunkCount_4 v0 κ30 f (v1 + (pI h 3 n5 1)) (v2 + (1 : Int32)) h

def F_X2_trunkCount (x0 : Nat) (h : Hp) : Option (Int32 × Hp) :=
  L_X2_trunkCount_4 x0 (fun k7 h8 =>
  some (k7, h8)) FU (0 : Int32) (0 : Int32) h

def F_X3_first (x0 : Nat) (h : Hp) : Option (Option Nat × Hp) :=
  if (pI h 3 x0 1) ≤ 0 then
  some (none, h)
  else
  nn (pR h 3 x0 0) fun n2 =>
  ck (inb (0 : Int32) (pL h 15 n2)) <|
  some ((pR h 15 n2 ((0 : Int32)).toNatClampNeg), h)

def F_X2_firstTrunk (x0 : Nat) (h : Hp) : Option (Option Nat × Hp) :=
  if (pI h 2 x0 2) ≤ 0 then
  some (none, h)
  else
  nn (pR h 2 x0 1) fun n2 =>
  ck (inb (0 : Int32) (pL h 14 n2)) <|
  nn (pR h 14 n2 ((0 : Int32)).toNatClampNeg) fun n5 =>
  cl (F_X3_first n5 h) fun r7 h8 =>
  some (r7, h8)

def F_X2_fits (x0 : Nat) (x1 : Option Nat) (h : Hp) : Option (Int32 × Hp) :=
  if (pR h 2 x0 3) = x1 then
  cl (F_X2_state x0 h) fun r2 h3 =>
  if r2 = (1 : Int32) then
  cl (F_X2_width x0 h3) fun r6 h7 =>
  nn x1 fun n9 =>
  if (pI h7 4 n9 3) < r6 then
  some ((0 : Int32), h7)
  else
  some ((1 : Int32), h7)
  else
  some ((0 : Int32), h3)
  else
  some ((0 : Int32), h)

def L_X3_belongTo_2 {β : Type} (v0 : Nat) (v1 : Option Nat) (κ36 : Hp → Option β) : Nat → Int32 → Hp → Option β
  | 0, _, _ => none
  | f + 1, v2, h =>
    if (pI h 3 v0 1) ≤ v2 then
    κ36 h
    else
    nn (pR h 3 v0 0) fun n2 =>
    ck (inb v2 (pL h 15 n2)) <|
    nn (pR h 15 n2 (v2).toNatClampNeg) fun n5 =>
    lt (wR h 6 n5 6 v1) fun h7 =>
    nn (pR h7 3 v0 0) fun n9 =>
    ck (inb v2 (pL h7 15 n9)) <|
    nn (pR h7 15 n9 (v2).toNatClampNeg) fun n12 =>
    lt (wR h7 6 n12 5 none) fun h14 =>
    L_X3_belongTo_2 v0 v1 κ36 f (v2 + (1 : Int32)) h14

def F_X3_belongTo (x0 : Nat) (x1 : Option Nat) (h : Hp) : Option (Unit × Hp) :=
  L_X3_belongTo_2 x0 x1 (fun h16 =>
  some ((), h16)) FU (0 : Int32) h

def F_X2_append (x0 : Nat) (x1 : Option Nat) (h : Hp) : Option (Unit × Hp) :=
  if (8 : Int32) ≤ (pI h 2 x0 2) then
  some ((), h)
  else
  nn (pR h 2 x0 1) fun n2 =>
  ck (inb (pI h 2 x0 2) (pL h 14 n2)) <|
  lt (wR h 14 n2 ((pI h 2 x0 2)).toNatClampNeg x1) fun h5 =>
  lt (wI h5 2 x0 2 ((pI h5 2 x0 2) + (1 : Int32))) fun h7 =>
  nn x1 fun n9 =>
  cl (F_X3_belongTo n9 (some x0) h7) fun _ h12 =>
  some ((), h12)

def L_X2_moveRows_6 {β : Type} (v0 : Nat) (v1 : Int32) (v2 : Option Nat) (κ30 : Hp → Option β) : Nat → Int32 → Hp → Option β
  | 0, _, _ => none
  | f + 1, v3, h =>
    if (pI h 2 v0 2) ≤ v3 then
    κ30 h
    else
    nn (pR h 2 v0 1) fun n2 =>
    ck (inb v3 (pL h 14 n2)) <|
    nn v2 fun n5 =>
    cl (F_X2_append n5 (pR h 14 n2 (v3).toNatClampNeg) h) fun _ h8 =>
    L_X2_moveRows_6 v0 v1 v2 κ30 f (v3 + (1 : Int32)) h8

def F_X2_moveRows (x0 : Nat) (x1 : Int32) (x2 : Option Nat) (h : Hp) : Option (Unit × Hp) :=
  L_X2_moveRows_6 x0 x1 x2 (fun h10 =>
  lt (wI h10 2 x0 2 (if (if (0 : Int32) < x1 then x1 else (0 : Int32)) < (pI h10 2 x0 2) then (if (0 : Int32) < x1 then x1 else (0 : Int32)) else (pI h10 2 x0 2))) fun h11 =>
  some ((), h11)) FU (if (0 : Int32) < x1 then x1 else (0 : Int32)) h

def F_X2_end (x0 : Nat) (h : Hp) : Option (Unit × Hp) :=
  lt (wI h 2 x0 2 (0 : Int32)) fun h1 =>
  lt (wR h1 2 x0 3 none) fun h3 =>
  some ((), h3)

def F_X2_goDown (x0 : Nat) (x1 : Option Nat) (x2 : Int32) (h : Hp) : Option (Unit × Hp) :=
  nn x1 fun n1 =>
  lt (wI h 2 x0 5 (x2 + (pI h 4 n1 2))) fun h3 =>
  lt (wR h3 2 x0 3 (pR h3 4 n1 1)) fun h5 =>
  some ((), h5)

def L_X3_loseTrunks_4 {β : Type} (v0 : Nat) (v1 : Int32) (κ46 : Int32 → Hp → Option β) : Nat → Int32 → Int32 → Hp → Option β
  | 0, _, _, _ => none
  | f + 1, v2, v3, h =>
    if (pI h 3 v0 1) ≤ v3 then
    κ46 v2 h
    else
    nn (pR h 3 v0 0) fun n2 =>
    ck (inb v3 (pL h 15 n2)) <|
    nn (pR h 15 n2 (v3).toNatClampNeg) fun n5 =>
    if ((pI h 6 n5 0) - (pI h 6 n5 0) / (2 : Int32) * (2 : Int32)) = v1 then
    ck (inb v3 (pL h 15 n2)) <|
    nn (pR h 15 n2 (v3).toNatClampNeg) fun n9 =>
    lt (wR h 6 n9 6 none) fun h11 =>
    L_X3_loseTrunks_4 v0 v1 κ46 f (v2 + (1 : Int32)) (v3 + (1 : Int32)) h11
    else
    L_X3_loseTrunks_4 v0 v1 κ46 f v2 (v3 + (1 : Int32)) h

def F_X3_loseTrunks (x0 : Nat) (x1 : Int32) (h : Hp) : Option (Int32 × Hp) :=
  L_X3_loseTrunks_4 x0 x1 (fun k13 h14 =>
  some (k13, h14)) FU (0 : Int32) (0 : Int32) h

def L_X2_loseTrunks_4 {β : Type} (v0 : Nat) (v1 : Int32) (κ31 : Int32 → Hp → Option β) : Nat → Int32 → Int32 → Hp → Option β
  | 0, _, _, _ => none
  | f + 1, v2, v3, h =>
    if (pI h 2 v0 2) ≤ v3 then
    κ31 v2 h
    else
    nn (pR h 2 v0 1) fun n2 =>
    ck (inb v3 (pL h 14 n2)) <|
    nn (pR h 14 n2 (v3).toNatClampNeg) fun n5 =>
    cl (F_X3_loseTrunks n5 v1 h) fun r7 h8 =>
    L_X2_loseTrunks_4 v0 v1 κ31 f (v2 + r7) (v3 + (1 : Int32)) h8

def F_X2_loseTrunks (x0 : Nat) (x1 : Int32) (h : Hp) : Option (Int32 × Hp) :=
  L_X2_loseTrunks_4 x0 x1 (fun k10 h11 =>
  some (k10, h11)) FU (0 : Int32) (0 : Int32) h

def L_X3_lieAt_2 {β : Type} (v0 : Nat) (v1 : Option Nat) (κ48 : Hp → Option β) : Nat → Int32 → Hp → Option β
  | 0, _, _ => none
  | f + 1, v2, h =>
    if (pI h 3 v0 1) ≤ v2 then
    κ48 h
    else
    nn (pR h 3 v0 0) fun n2 =>
    ck (inb v2 (pL h 15 n2)) <|
    nn (pR h 15 n2 (v2).toNatClampNeg) fun n5 =>
    onn (pR h 6 n5 6) (
    L_X3_lieAt_2 v0 v1 κ48 f (v2 + (1 : Int32)) h) fun n8 =>
    ck (inb v2 (pL h 15 n2)) <|
    nn (pR h 15 n2 (v2).toNatClampNeg) fun n10 =>
    lt (wR h 6 n10 6 none) fun h12 =>
    nn (pR h12 3 v0 0) fun n14 =>
    ck (inb v2 (pL h12 15 n14)) <|
    nn (pR h12 15 n14 (v2).toNatClampNeg) fun n17 =>
    lt (wR h12 6 n17 5 v1) fun h19 =>
    L_X3_lieAt_2 v0 v1 κ48 f (v2 + (1 : Int32)) h19

def F_X3_lieAt (x0 : Nat) (x1 : Option Nat) (h : Hp) : Option (Unit × Hp) :=
  L_X3_lieAt_2 x0 x1 (fun h21 =>
  some ((), h21)) FU (0 : Int32) h

def L_X2_scatter_2 {β : Type} (v0 : Nat) (κ29 : Hp → Option β) : Nat → Int32 → Hp → Option β
  | 0, _, _ => none
  | f + 1, v1, h =>
    if (pI h 2 v0 2) ≤ v1 then
    κ29 h
    else
    nn (pR h 2 v0 1) fun n2 =>
    ck (inb v1 (pL h 14 n2)) <|
    nn (pR h 14 n2 (v1).toNatClampNeg) fun n5 =>
    cl (F_X3_lieAt n5 (pR h 2 v0 3) h) fun _ h8 =>
    L_X2_scatter_2 v0 κ29 f (v1 + (1 : Int32)) h8

def F_X2_scatter (x0 : Nat) (h : Hp) : Option (Unit × Hp) :=
  L_X2_scatter_2 x0 (fun h10 =>
  cl (F_X2_end x0 h10) fun _ h12 =>
  some ((), h12)) FU (0 : Int32) h

def F_X3_init (x0 : Nat) (h : Hp) : Option (Unit × Hp) :=
  lt (wN h 15 ((9 : Int32)).toNatClampNeg) fun h1 =>
  lt (wR h1 3 x0 0 (some (pC h 15))) fun h3 =>
  lt (wI h3 3 x0 1 (0 : Int32)) fun h5 =>
  lt (wI h5 3 x0 2 (0 : Int32)) fun h7 =>
  some ((), h7)

def L_X3_has_2 {β : Type} (v0 : Nat) (v1 : Option Nat) (κ34 : Hp → Option β) (κ26 : Hp → Option β) : Nat → Int32 → Hp → Option β
  | 0, _, _ => none
  | f + 1, v2, h =>
    if (pI h 3 v0 1) ≤ v2 then
    κ34 h
    else
    nn (pR h 3 v0 0) fun n2 =>
    ck (inb v2 (pL h 15 n2)) <|
    nn (pR h 15 n2 (v2).toNatClampNeg) fun n5 =>
    nn v1 fun n7 =>
    if (pI h 6 n5 0) = (pI h 6 n7 0) then
    κ26 h
    else
    L_X3_has_2 v0 v1 κ34 κ26 f (v2 + (1 : Int32)) h

def F_X3_has (x0 : Nat) (x1 : Option Nat) (h : Hp) : Option (Int32 × Hp) :=
  L_X3_has_2 x0 x1 (fun h10 =>
  some ((0 : Int32), h10)) (fun h11 =>
  some ((1 : Int32), h11)) FU (0 : Int32) h

def F_X3_takes (x0 : Nat) (x1 : Option Nat) (h : Hp) : Option (Int32 × Hp) :=
  cl (F_X3_first x0 h) fun r1 h2 =>
  if (9 : Int32) ≤ (pI h2 3 x0 1) then
  some ((0 : Int32), h2)
  else
  cl (F_X3_has x0 x1 h2) fun r5 h6 =>
  if r5 = 0 then
  onn r1 (
  some ((1 : Int32), h6)) fun n10 =>
  nn x1 fun n11 =>
  if (pR h6 6 n10 5) = (pR h6 6 n11 5) then
  some ((1 : Int32), h6)
  else
  some ((0 : Int32), h6)
  else
  some ((0 : Int32), h6)

def F_X3_append (x0 : Nat) (x1 : Option Nat) (h : Hp) : Option (Unit × Hp) :=
  if (9 : Int32) ≤ (pI h 3 x0 1) then
  some ((), h)
  else
  nn (pR h 3 x0 0) fun n2 =>
  ck (inb (pI h 3 x0 1) (pL h 15 n2)) <|
  lt (wR h 15 n2 ((pI h 3 x0 1)).toNatClampNeg x1) fun h5 =>
  lt (wI h5 3 x0 1 ((pI h5 3 x0 1) + (1 : Int32))) fun h7 =>
  nn x1 fun n9 =>
  lt (wI h7 3 x0 2 ((pI h7 3 x0 2) + (pI h7 6 n9 4))) fun h11 =>
  some ((), h11)

def F_X4_init (x0 : Nat) (x1 : Int32) (x2 : Option Nat) (x3 : Int32) (x4 : Int32) (x5 : Int32) (h : Hp) : Option (Unit × Hp) :=
  lt (wI h 4 x0 8 (0 : Int32)) fun h1 =>
  lt (wI h1 4 x0 9 (0 : Int32)) fun h3 =>
  lt (wI h3 4 x0 0 x1) fun h5 =>
  lt (wR h5 4 x0 1 x2) fun h7 =>
  lt (wI h7 4 x0 2 (x3 / (100000 : Int32))) fun h9 =>
  lt (wI h9 4 x0 3 ((x3 - x3 / (100000 : Int32) * (100000 : Int32)) / (1000 : Int32))) fun h11 =>
  lt (wI h11 4 x0 4 (x3 - x3 / (1000 : Int32) * (1000 : Int32))) fun h13 =>
  lt (wI h13 4 x0 5 x4) fun h15 =>
  ck (isz x5) <|
  lt (wI h15 4 x0 6 x5) fun h17 =>
  lt (wI h17 4 x0 7 x4) fun h20 =>
  some ((), h20)

def F_X4_canBe (x0 : Int32) (x1 : Int32) (h : Hp) : Option (Int32 × Hp) :=
  if x0 < 0 then
  some ((0 : Int32), h)
  else
  cl (F_X7_within (x0 / (100000 : Int32)) (1 : Int32) (20 : Int32) h) fun r2 h3 =>
  if r2 = 0 then
  some ((0 : Int32), h3)
  else
  cl (F_X7_within ((x0 - x0 / (100000 : Int32) * (100000 : Int32)) / (1000 : Int32)) (1 : Int32) (60 : Int32) h3) fun r6 h7 =>
  if r6 = 0 then
  some ((0 : Int32), h7)
  else
  cl (F_X7_within (x0 - x0 / (1000 : Int32) * (1000 : Int32)) (0 : Int32) (50 : Int32) h7) fun r10 h11 =>
  if r10 = 0 then
  some ((0 : Int32), h11)
  else
  cl (F_X7_within x1 (0 : Int32) (1000 : Int32) h11) fun r14 h15 =>
  if r14 = 0 then
  some ((0 : Int32), h15)
  else
  some ((1 : Int32), h15)

def F_X4_storms (x0 : Nat) (x1 : Int32) (h : Hp) : Option (Int32 × Hp) :=
  if x1 < (pI h 4 x0 8) then
  some ((0 : Int32), h)
  else
  if (pI h 4 x0 9) ≤ x1 then
  some ((0 : Int32), h)
  else
  some ((1 : Int32), h)

def F_X4_fillPond (x0 : Nat) (h : Hp) : Option (Unit × Hp) :=
  lt (wI h 4 x0 7 (if ((pI h 4 x0 7) + (pI h 4 x0 4)) < (pI h 4 x0 5) then ((pI h 4 x0 7) + (pI h 4 x0 4)) else (pI h 4 x0 5))) fun h1 =>
  some ((), h1)

def L_X4_hoursDownTo_4 {β : Type} (v1 : Option Nat) (κ30 : Hp → Option β) (κ13 : Int32 → Hp → Option β) : Nat → Int32 → Option Nat → Hp → Option β
  | 0, _, _, _ => none
  | f + 1, v2, v3, h =>
    onn v3 (
    κ30 h) fun n2 =>
    if (some n2) = v1 then
    κ13 v2 h
    else
    L_X4_hoursDownTo_4 v1 κ30 κ13 f (v2 + (pI h 4 n2 2)) (pR h 4 n2 1) h

def F_X4_hoursDownTo (x0 : Nat) (x1 : Option Nat) (h : Hp) : Option (Int32 × Hp) :=
  L_X4_hoursDownTo_4 x1 (fun h4 =>
  some ((-1 : Int32), h4)) (fun k5 h6 =>
  some (k5, h6)) FU (0 : Int32) (some x0) h

def F_X5_init (x0 : Nat) (x1 : Int32) (h : Hp) : Option (Unit × Hp) :=
  lt (wI h 5 x0 3 (0 : Int32)) fun h1 =>
  ck (lnok (if (0 : Int32) < x1 then x1 else (0 : Int32)) 100) <|
  lt (wN h1 16 ((if (0 : Int32) < x1 then x1 else (0 : Int32))).toNatClampNeg) fun h3 =>
  lt (wR h3 5 x0 0 (some (pC h1 16))) fun h6 =>
  ck (lnok (if (0 : Int32) < x1 then x1 else (0 : Int32)) 100) <|
  lt (wN h6 17 ((if (0 : Int32) < x1 then x1 else (0 : Int32))).toNatClampNeg) fun h8 =>
  lt (wR h8 5 x0 1 (some (pC h6 17))) fun h11 =>
  ck (lnok (if (0 : Int32) < x1 then x1 else (0 : Int32)) 100) <|
  lt (wN h11 18 ((if (0 : Int32) < x1 then x1 else (0 : Int32))).toNatClampNeg) fun h13 =>
  lt (wR h13 5 x0 2 (some (pC h11 18))) fun h16 =>
  some ((), h16)

def F_X5_tell (x0 : Nat) (x1 : Int32) (x2 : Int32) (x3 : Int32) (h : Hp) : Option (Int32 × Hp) :=
  nn (pR h 5 x0 0) fun n1 =>
  if (pI h 5 x0 3) < (nI (pL h 16 n1)) then
  ck (inb (pI h 5 x0 3) (pL h 16 n1)) <|
  lt (wI h 16 n1 ((pI h 5 x0 3)).toNatClampNeg x1) fun h5 =>
  nn (pR h5 5 x0 1) fun n7 =>
  ck (inb (pI h5 5 x0 3) (pL h5 17 n7)) <|
  lt (wI h5 17 n7 ((pI h5 5 x0 3)).toNatClampNeg x2) fun h10 =>
  nn (pR h10 5 x0 2) fun n12 =>
  ck (inb (pI h10 5 x0 3) (pL h10 18 n12)) <|
  lt (wI h10 18 n12 ((pI h10 5 x0 3)).toNatClampNeg x3) fun h15 =>
  lt (wI h15 5 x0 3 ((pI h15 5 x0 3) + (1 : Int32))) fun h17 =>
  some ((1 : Int32), h17)
  else
  some ((0 : Int32), h)

def L_X5_inForce_8 {β : Type} (v0 : Nat) (v1 : Int32) (v2 : Int32) (κ74 : Int32 → Hp → Option β) : Nat → Int32 → Int32 → Int32 → Hp → Option β
  | 0, _, _, _, _ => none
  | f + 1, v3, v4, v5, h =>
    if (pI h 5 v0 3) ≤ v5 then
    κ74 v3 h
    else
    nn (pR h 5 v0 0) fun n2 =>
    ck (inb v5 (pL h 16 n2)) <|
    if (pI h 16 n2 (v5).toNatClampNeg) = v1 then
    nn (pR h 5 v0 1) fun n6 =>
    ck (inb v5 (pL h 17 n6)) <|
    if v2 < (pI h 17 n6 (v5).toNatClampNeg) then
    L_X5_inForce_8 v0 v1 v2 κ74 f v3 v4 (v5 + (1 : Int32)) h
    else
    ck (inb v5 (pL h 17 n6)) <|
    if (pI h 17 n6 (v5).toNatClampNeg) < v4 then
    L_X5_inForce_8 v0 v1 v2 κ74 f v3 v4 (v5 + (1 : Int32)) h
    else
    ck (inb v5 (pL h 17 n6)) <|
    nn (pR h 5 v0 2) fun n13 =>
    ck (inb v5 (pL h 18 n13)) <|
    L_X5_inForce_8 v0 v1 v2 κ74 f (pI h 18 n13 (v5).toNatClampNeg) (pI h 17 n6 (v5).toNatClampNeg) (v5 + (1 : Int32)) h
    else
    L_X5_inForce_8 v0 v1 v2 κ74 f v3 v4 (v5 + (1 : Int32)) h

def F_X5_inForce (x0 : Nat) (x1 : Int32) (x2 : Int32) (h : Hp) : Option (Int32 × Hp) :=
  L_X5_inForce_8 x0 x1 x2 (fun k16 h17 =>
  some (k16, h17)) FU (0 : Int32) (-1 : Int32) (0 : Int32) h

def F_X6_init (x0 : Nat) (x1 : Int32) (x2 : Int32) (x3 : Int32) (x4 : Option Nat) (h : Hp) : Option (Unit × Hp) :=
  lt (wR h 6 x0 6 none) fun h1 =>
  lt (wI h1 6 x0 7 (-1 : Int32)) fun h3 =>
  lt (wI h3 6 x0 0 x1) fun h5 =>
  lt (wI h5 6 x0 1 x2) fun h7 =>
  lt (wI h7 6 x0 2 (x3 / (100 : Int32))) fun h9 =>
  lt (wI h9 6 x0 3 ((x3 / (10 : Int32)) - (x3 / (10 : Int32)) / (10 : Int32) * (10 : Int32))) fun h11 =>
  lt (wI h11 6 x0 4 (x3 - x3 / (10 : Int32) * (10 : Int32))) fun h13 =>
  lt (wR h13 6 x0 5 x4) fun h15 =>
  some ((), h15)

def F_X7_isOwner (x0 : Int32) (h : Hp) : Option (Int32 × Hp) :=
  cl (F_X7_within x0 (0 : Int32) (7 : Int32) h) fun r1 h2 =>
  ck (isz r1) <|
  some (r1, h2)

def F_X6_canBe (x0 : Int32) (h : Hp) : Option (Int32 × Hp) :=
  if x0 < 0 then
  some ((0 : Int32), h)
  else
  cl (F_X7_isOwner (x0 / (100 : Int32)) h) fun r2 h3 =>
  if r2 = 0 then
  some ((0 : Int32), h3)
  else
  cl (F_X7_within ((x0 / (10 : Int32)) - (x0 / (10 : Int32)) / (10 : Int32) * (10 : Int32)) (0 : Int32) (3 : Int32) h3) fun r6 h7 =>
  if r6 = 0 then
  some ((0 : Int32), h7)
  else
  cl (F_X7_within (x0 - x0 / (10 : Int32) * (10 : Int32)) (1 : Int32) (9 : Int32) h7) fun r10 h11 =>
  if r10 = 0 then
  some ((0 : Int32), h11)
  else
  some ((1 : Int32), h11)

def F_X6_state (x0 : Nat) (h : Hp) : Option (Int32 × Hp) :=
  onn (pR h 6 x0 5) (
  onn (pR h 6 x0 6) (
  if (pI h 6 x0 7) = (-1 : Int32) then
  some ((3 : Int32), h)
  else
  some ((2 : Int32), h)) fun n4 =>
  some ((1 : Int32), h)) fun n2 =>
  some ((0 : Int32), h)

def L_X7_init_146 {β : Type} (v0 : Nat) (κ165 : Hp → Option β) : Nat → Int32 → Hp → Option β
  | 0, _, _ => none
  | f + 1, v1, h =>
    if (8 : Int32) ≤ v1 then
    κ165 h
    else
    nn (pR h 7 v0 11) fun n70 =>
    ck (inb v1 (pL h 23 n70)) <|
    lt (wI h 23 n70 (v1).toNatClampNeg (5 : Int32)) fun h73 =>
    L_X7_init_146 v0 κ165 f (v1 + (1 : Int32)) h73

def F_X7_init (x0 : Nat) (h : Hp) : Option (Unit × Hp) :=
  lt (wN h 19 ((12 : Int32)).toNatClampNeg) fun h1 =>
  lt (wR h1 7 x0 0 (some (pC h 19))) fun h3 =>
  lt (wI h3 7 x0 1 (0 : Int32)) fun h5 =>
  lt (wN h5 20 ((120 : Int32)).toNatClampNeg) fun h7 =>
  lt (wR h7 7 x0 2 (some (pC h5 20))) fun h9 =>
  lt (wI h9 7 x0 3 (0 : Int32)) fun h11 =>
  lt (wN h11 21 ((60 : Int32)).toNatClampNeg) fun h13 =>
  lt (wR h13 7 x0 4 (some (pC h11 21))) fun h15 =>
  lt (wI h15 7 x0 5 (0 : Int32)) fun h17 =>
  lt (wN h17 22 ((10 : Int32)).toNatClampNeg) fun h19 =>
  lt (wR h19 7 x0 6 (some (pC h17 22))) fun h21 =>
  lt (wI h21 7 x0 7 (0 : Int32)) fun h23 =>
  lt (wN h23 3 0) fun h25 =>
  cl (F_X3_init (pC h23 3) h25) fun _ h28 =>
  lt (wR h28 7 x0 8 (some (pC h23 3))) fun h30 =>
  lt (wN h30 5 0) fun h32 =>
  cl (F_X5_init (pC h30 5) (30 : Int32) h32) fun _ h35 =>
  lt (wR h35 7 x0 9 (some (pC h30 5))) fun h37 =>
  lt (wN h37 5 0) fun h39 =>
  cl (F_X5_init (pC h37 5) (100 : Int32) h39) fun _ h42 =>
  lt (wR h42 7 x0 10 (some (pC h37 5))) fun h44 =>
  lt (wN h44 23 ((8 : Int32)).toNatClampNeg) fun h46 =>
  lt (wR h46 7 x0 11 (some (pC h44 23))) fun h48 =>
  lt (wN h48 24 ((8 : Int32)).toNatClampNeg) fun h50 =>
  lt (wR h50 7 x0 12 (some (pC h48 24))) fun h52 =>
  lt (wN h52 1 0) fun h54 =>
  cl (F_X1_init (pC h52 1) h54) fun _ h57 =>
  lt (wR h57 7 x0 13 (some (pC h52 1))) fun h59 =>
  lt (wI h59 7 x0 14 (0 : Int32)) fun h61 =>
  lt (wI h61 7 x0 15 (0 : Int32)) fun h63 =>
  lt (wI h63 7 x0 16 (0 : Int32)) fun h65 =>
  lt (wI h65 7 x0 17 (0 : Int32)) fun h67 =>
  L_X7_init_146 x0 (fun h75 =>
  some ((), h75)) FU (0 : Int32) h67

def F_X7_stationAt (x0 : Nat) (x1 : Int32) (h : Hp) : Option (Option Nat × Hp) :=
  cl (F_X7_within x1 (0 : Int32) ((pI h 7 x0 1) - (1 : Int32)) h) fun r1 h2 =>
  if r1 = 0 then
  some (none, h2)
  else
  nn (pR h2 7 x0 0) fun n5 =>
  ck (inb x1 (pL h2 19 n5)) <|
  some ((pR h2 19 n5 (x1).toNatClampNeg), h2)

def F_X7_station (x0 : Nat) (x1 : Int32) (x2 : Int32) (x3 : Int32) (x4 : Int32) (h : Hp) : Option (Int32 × Hp) :=
  if (pI h 7 x0 1) < (12 : Int32) then
  if (pI h 7 x0 1) = 0 then
  lt (wN h 4 0) fun h24 =>
  cl (F_X4_init (pC h 4) (0 : Int32) none (0 : Int32) (0 : Int32) (1 : Int32) h24) fun _ h27 =>
  nn (pR h27 7 x0 0) fun n29 =>
  ck (inb (pI h27 7 x0 1) (pL h27 19 n29)) <|
  lt (wR h27 19 n29 ((pI h27 7 x0 1)).toNatClampNeg (some (pC h 4))) fun h32 =>
  lt (wI h32 7 x0 1 ((pI h32 7 x0 1) + (1 : Int32))) fun h34 =>
  some ((pI h34 4 (pC h 4) 0), h34)
  else
  cl (F_X7_stationAt x0 x1 h) fun r3 h4 =>
  onn r3 (
  some ((-1 : Int32), h4)) fun n7 =>
  cl (F_X4_canBe x2 x3 h4) fun r8 h9 =>
  if r8 = 0 then
  some ((-1 : Int32), h9)
  else
  lt (wN h9 4 0) fun h12 =>
  cl (F_X4_init (pC h9 4) (pI h12 7 x0 1) (some n7) x2 x3 x4 h12) fun _ h15 =>
  nn (pR h15 7 x0 0) fun n17 =>
  ck (inb (pI h15 7 x0 1) (pL h15 19 n17)) <|
  lt (wR h15 19 n17 ((pI h15 7 x0 1)).toNatClampNeg (some (pC h9 4))) fun h20 =>
  lt (wI h20 7 x0 1 ((pI h20 7 x0 1) + (1 : Int32))) fun h22 =>
  some ((pI h22 4 (pC h9 4) 0), h22)
  else
  some ((-1 : Int32), h)

def L_X7_find_2 {β : Type} (v0 : Nat) (v1 : Int32) (κ31 : Hp → Option β) (κ23 : Int32 → Hp → Option β) : Nat → Int32 → Hp → Option β
  | 0, _, _ => none
  | f + 1, v2, h =>
    if (pI h 7 v0 3) ≤ v2 then
    κ31 h
    else
    nn (pR h 7 v0 2) fun n2 =>
    ck (inb v2 (pL h 20 n2)) <|
    nn (pR h 20 n2 (v2).toNatClampNeg) fun n5 =>
    if (pI h 6 n5 1) = v1 then
    κ23 v2 h
    else
    L_X7_find_2 v0 v1 κ31 κ23 f (v2 + (1 : Int32)) h

def F_X7_find (x0 : Nat) (x1 : Int32) (h : Hp) : Option (Int32 × Hp) :=
  L_X7_find_2 x0 x1 (fun h8 =>
  some ((-1 : Int32), h8)) (fun k9 h10 =>
  some (k9, h10)) FU (0 : Int32) h

def F_X7_trunk (x0 : Nat) (x1 : Int32) (x2 : Int32) (x3 : Int32) (h : Hp) : Option (Int32 × Hp) :=
  cl (F_X7_stationAt x0 x3 h) fun r1 h2 =>
  onn r1 (
  some ((-1 : Int32), h2)) fun n5 =>
  if (120 : Int32) ≤ (pI h2 7 x0 3) then
  some ((-1 : Int32), h2)
  else
  cl (F_X6_canBe x2 h2) fun r7 h8 =>
  if r7 = 0 then
  some ((-1 : Int32), h8)
  else
  cl (F_X7_within x1 (1 : Int32) (99999 : Int32) h8) fun r11 h12 =>
  if r11 = 0 then
  some ((-1 : Int32), h12)
  else
  cl (F_X7_find x0 x1 h12) fun r15 h16 =>
  if r15 = (-1 : Int32) then
  lt (wN h16 6 0) fun h19 =>
  cl (F_X6_init (pC h16 6) (pI h19 7 x0 3) x1 x2 (some n5) h19) fun _ h22 =>
  nn (pR h22 7 x0 2) fun n24 =>
  ck (inb (pI h22 7 x0 3) (pL h22 20 n24)) <|
  lt (wR h22 20 n24 ((pI h22 7 x0 3)).toNatClampNeg (some (pC h16 6))) fun h27 =>
  lt (wI h27 7 x0 3 ((pI h27 7 x0 3) + (1 : Int32))) fun h29 =>
  some ((pI h29 6 (pC h16 6) 0), h29)
  else
  some ((-1 : Int32), h16)

def F_X7_trunkAt (x0 : Nat) (x1 : Int32) (h : Hp) : Option (Option Nat × Hp) :=
  cl (F_X7_within x1 (0 : Int32) ((pI h 7 x0 3) - (1 : Int32)) h) fun r1 h2 =>
  if r1 = 0 then
  some (none, h2)
  else
  nn (pR h2 7 x0 2) fun n5 =>
  ck (inb x1 (pL h2 20 n5)) <|
  some ((pR h2 20 n5 (x1).toNatClampNeg), h2)

def F_X7_put (x0 : Nat) (x1 : Int32) (h : Hp) : Option (Int32 × Hp) :=
  cl (F_X7_trunkAt x0 x1 h) fun r1 h2 =>
  onn r1 (
  some ((-1 : Int32), h2)) fun n5 =>
  onn (pR h2 6 n5 5) (
  some ((-1 : Int32), h2)) fun n7 =>
  nn (pR h2 7 x0 8) fun n8 =>
  cl (F_X3_takes n8 (some n5) h2) fun r10 h11 =>
  if r10 = 0 then
  some ((-1 : Int32), h11)
  else
  nn (pR h11 7 x0 8) fun n14 =>
  cl (F_X3_append n14 (some n5) h11) fun _ h17 =>
  nn (pR h17 7 x0 8) fun n19 =>
  some ((pI h17 3 n19 1), h17)

def F_X7_newRaft (x0 : Nat) (x1 : Option Nat) (h : Hp) : Option (Option Nat × Hp) :=
  lt (wN h 2 0) fun h1 =>
  cl (F_X2_init (pC h 2) (pI h1 7 x0 5) x1 h1) fun _ h4 =>
  nn (pR h4 7 x0 4) fun n6 =>
  ck (inb (pI h4 7 x0 5) (pL h4 21 n6)) <|
  lt (wR h4 21 n6 ((pI h4 7 x0 5)).toNatClampNeg (some (pC h 2))) fun h9 =>
  lt (wI h9 7 x0 5 ((pI h9 7 x0 5) + (1 : Int32))) fun h11 =>
  some ((some (pC h 2)), h11)

def F_X7_bind (x0 : Nat) (h : Hp) : Option (Int32 × Hp) :=
  nn (pR h 7 x0 8) fun n1 =>
  cl (F_X3_first n1 h) fun r3 h4 =>
  onn r3 (
  some ((-1 : Int32), h4)) fun n7 =>
  if (pI h4 7 x0 5) < (60 : Int32) then
  cl (F_X7_newRaft x0 (pR h4 6 n7 5) h4) fun r9 h10 =>
  nn r9 fun n12 =>
  cl (F_X2_append n12 (pR h10 7 x0 8) h10) fun _ h15 =>
  lt (wN h15 3 0) fun h17 =>
  cl (F_X3_init (pC h15 3) h17) fun _ h20 =>
  lt (wR h20 7 x0 8 (some (pC h15 3))) fun h22 =>
  some ((pI h22 2 n12 0), h22)
  else
  some ((-1 : Int32), h4)

def F_X7_raftAt (x0 : Nat) (x1 : Int32) (h : Hp) : Option (Option Nat × Hp) :=
  cl (F_X7_within x1 (0 : Int32) ((pI h 7 x0 5) - (1 : Int32)) h) fun r1 h2 =>
  if r1 = 0 then
  some (none, h2)
  else
  nn (pR h2 7 x0 4) fun n5 =>
  ck (inb x1 (pL h2 21 n5)) <|
  some ((pR h2 21 n5 (x1).toNatClampNeg), h2)

def F_X7_tiedAt (x0 : Nat) (x1 : Int32) (h : Hp) : Option (Option Nat × Hp) :=
  cl (F_X7_raftAt x0 x1 h) fun r1 h2 =>
  onn r1 (
  some (none, h2)) fun n5 =>
  cl (F_X2_state n5 h2) fun r6 h7 =>
  if r6 = 0 then
  some ((some n5), h7)
  else
  some (none, h7)

def F_X7_join (x0 : Nat) (x1 : Int32) (x2 : Int32) (h : Hp) : Option (Int32 × Hp) :=
  cl (F_X7_tiedAt x0 x1 h) fun r1 h2 =>
  cl (F_X7_tiedAt x0 x2 h2) fun r4 h5 =>
  onn r1 (
  some ((0 : Int32), h5)) fun n8 =>
  onn r4 (
  some ((0 : Int32), h5)) fun n10 =>
  if (some n8) = (some n10) then
  some ((0 : Int32), h5)
  else
  if (pR h5 2 n8 3) = (pR h5 2 n10 3) then
  if ((pI h5 2 n8 2) + (pI h5 2 n10 2)) ≤ (8 : Int32) then
  cl (F_X2_moveRows n10 (0 : Int32) (some n8) h5) fun _ h15 =>
  cl (F_X2_end n10 h15) fun _ h18 =>
  some ((1 : Int32), h18)
  else
  some ((0 : Int32), h5)
  else
  some ((0 : Int32), h5)

def F_X7_part (x0 : Nat) (x1 : Int32) (x2 : Int32) (h : Hp) : Option (Int32 × Hp) :=
  cl (F_X7_tiedAt x0 x1 h) fun r1 h2 =>
  onn r1 (
  some ((-1 : Int32), h2)) fun n5 =>
  if x2 < (1 : Int32) then
  some ((-1 : Int32), h2)
  else
  if (pI h2 2 n5 2) ≤ x2 then
  some ((-1 : Int32), h2)
  else
  if (pI h2 7 x0 5) < (60 : Int32) then
  cl (F_X7_newRaft x0 (pR h2 2 n5 3) h2) fun r9 h10 =>
  cl (F_X2_moveRows n5 ((pI h10 2 n5 2) - x2) r9 h10) fun _ h13 =>
  nn r9 fun n15 =>
  some ((pI h13 2 n15 0), h13)
  else
  some ((-1 : Int32), h2)

def F_X7_unbind (x0 : Nat) (x1 : Int32) (h : Hp) : Option (Int32 × Hp) :=
  cl (F_X7_tiedAt x0 x1 h) fun r1 h2 =>
  onn r1 (
  some ((0 : Int32), h2)) fun n5 =>
  cl (F_X2_scatter n5 h2) fun _ h7 =>
  some ((1 : Int32), h7)

def F_X7_crew (x0 : Nat) (x1 : Int32) (h : Hp) : Option (Int32 × Hp) :=
  cl (F_X7_stationAt x0 x1 h) fun r1 h2 =>
  onn r1 (
  some ((-1 : Int32), h2)) fun n5 =>
  if (pI h2 7 x0 7) < (10 : Int32) then
  lt (wN h2 0 0) fun h7 =>
  cl (F_X0_init (pC h2 0) (pI h7 7 x0 7) (some n5) h7) fun _ h10 =>
  nn (pR h10 7 x0 6) fun n12 =>
  ck (inb (pI h10 7 x0 7) (pL h10 22 n12)) <|
  lt (wR h10 22 n12 ((pI h10 7 x0 7)).toNatClampNeg (some (pC h2 0))) fun h15 =>
  lt (wI h15 7 x0 7 ((pI h15 7 x0 7) + (1 : Int32))) fun h17 =>
  some ((pI h17 0 (pC h2 0) 0), h17)
  else
  some ((-1 : Int32), h2)

def F_X7_crewAt (x0 : Nat) (x1 : Int32) (h : Hp) : Option (Option Nat × Hp) :=
  cl (F_X7_within x1 (0 : Int32) ((pI h 7 x0 7) - (1 : Int32)) h) fun r1 h2 =>
  if r1 = 0 then
  some (none, h2)
  else
  nn (pR h2 7 x0 6) fun n5 =>
  ck (inb x1 (pL h2 22 n5)) <|
  some ((pR h2 22 n5 (x1).toNatClampNeg), h2)

def F_X7_ready (x0 : Nat) (x1 : Int32) (x2 : Int32) (h : Hp) : Option (Int32 × Hp) :=
  cl (F_X7_tiedAt x0 x1 h) fun r1 h2 =>
  cl (F_X7_crewAt x0 x2 h2) fun r4 h5 =>
  onn r1 (
  some ((0 : Int32), h5)) fun n8 =>
  onn r4 (
  some ((0 : Int32), h5)) fun n10 =>
  onn (pR h5 2 n8 3) (
  some ((0 : Int32), h5)) fun n12 =>
  onn (pR h5 4 n12 1) (
  some ((0 : Int32), h5)) fun n14 =>
  if (pR h5 0 n10 2) = (some n12) then
  cl (F_X0_rests n10 (pI h5 7 x0 14) h5) fun r16 h17 =>
  if r16 = 0 then
  cl (F_X0_board n10 (some n8) h17) fun _ h21 =>
  some ((1 : Int32), h21)
  else
  some ((0 : Int32), h17)
  else
  some ((0 : Int32), h5)

def F_X7_tie (x0 : Nat) (x1 : Int32) (h : Hp) : Option (Int32 × Hp) :=
  cl (F_X7_raftAt x0 x1 h) fun r1 h2 =>
  onn r1 (
  some ((0 : Int32), h2)) fun n5 =>
  cl (F_X2_state n5 h2) fun r6 h7 =>
  if r6 = (1 : Int32) then
  cl (F_X2_landCrew n5 h7) fun r10 h11 =>
  some ((1 : Int32), h11)
  else
  some ((0 : Int32), h7)

def F_X7_walk (x0 : Nat) (x1 : Int32) (h : Hp) : Option (Int32 × Hp) :=
  cl (F_X7_crewAt x0 x1 h) fun r1 h2 =>
  onn r1 (
  some ((-1 : Int32), h2)) fun n5 =>
  onn (pR h2 0 n5 2) (
  some ((-1 : Int32), h2)) fun n7 =>
  if (some n7) = (pR h2 0 n5 1) then
  some ((-1 : Int32), h2)
  else
  nn (pR h2 0 n5 1) fun n9 =>
  cl (F_X4_hoursDownTo n9 (some n7) h2) fun r11 h12 =>
  if r11 = (-1 : Int32) then
  some ((-1 : Int32), h12)
  else
  lt (wR h12 0 n5 2 none) fun h15 =>
  lt (wI h15 0 n5 4 ((pI h15 7 x0 14) + ((2 : Int32) * r11))) fun h17 =>
  some ((pI h17 0 n5 4), h17)

def F_X7_rightOf (x0 : Nat) (x1 : Option Nat) (h : Hp) : Option (Int32 × Hp) :=
  nn x1 fun n1 =>
  cl (F_X2_firstTrunk n1 h) fun r3 h4 =>
  onn r3 (
  some ((9 : Int32), h4)) fun n7 =>
  nn (pR h4 7 x0 11) fun n8 =>
  ck (inb (pI h4 6 n7 2) (pL h4 23 n8)) <|
  some ((pI h4 23 n8 ((pI h4 6 n7 2)).toNatClampNeg), h4)

def F_X7_goesAhead (x0 : Nat) (x1 : Option Nat) (x2 : Option Nat) (h : Hp) : Option (Int32 × Hp) :=
  cl (F_X7_rightOf x0 x1 h) fun r1 h2 =>
  cl (F_X7_rightOf x0 x2 h2) fun r4 h5 =>
  if (r1 - r4) = 0 then
  nn x1 fun n8 =>
  cl (F_X2_trunkCount n8 h5) fun r10 h11 =>
  nn x2 fun n13 =>
  cl (F_X2_trunkCount n13 h11) fun r15 h16 =>
  if (r10 - r15) = 0 then
  if (pI h16 2 n13 0) ≤ (pI h16 2 n8 0) then
  some ((0 : Int32), h16)
  else
  some ((1 : Int32), h16)
  else
  if (r10 - r15) ≤ 0 then
  some ((0 : Int32), h16)
  else
  some ((1 : Int32), h16)
  else
  if 0 ≤ (r1 - r4) then
  some ((0 : Int32), h5)
  else
  some ((1 : Int32), h5)

def L_X7_nextAt_4 {β : Type} (v0 : Nat) (v1 : Option Nat) (κ72 : Option Nat → Hp → Option β) : Nat → Option Nat → Int32 → Hp → Option β
  | 0, _, _, _ => none
  | f + 1, v2, v3, h =>
    if (pI h 7 v0 7) ≤ v3 then
    κ72 v2 h
    else
    nn (pR h 7 v0 6) fun n2 =>
    ck (inb v3 (pL h 22 n2)) <|
    nn (pR h 22 n2 (v3).toNatClampNeg) fun n5 =>
    onn (pR h 0 n5 3) (
    L_X7_nextAt_4 v0 v1 κ72 f v2 (v3 + (1 : Int32)) h) fun n8 =>
    cl (F_X2_fits n8 v1 h) fun r9 h10 =>
    if r9 = 0 then
    L_X7_nextAt_4 v0 v1 κ72 f v2 (v3 + (1 : Int32)) h10
    else
    cl (F_X2_need n8 h10) fun r13 h14 =>
    nn v1 fun n16 =>
    if (pI h14 4 n16 7) < r13 then
    L_X7_nextAt_4 v0 v1 κ72 f v2 (v3 + (1 : Int32)) h14
    else
    onn v2 (
    L_X7_nextAt_4 v0 v1 κ72 f (some n8) (v3 + (1 : Int32)) h14) fun n20 =>
    cl (F_X7_goesAhead v0 (some n8) (some n20) h14) fun r21 h22 =>
    if r21 = 0 then
    L_X7_nextAt_4 v0 v1 κ72 f (some n20) (v3 + (1 : Int32)) h22
    else
    L_X7_nextAt_4 v0 v1 κ72 f (some n8) (v3 + (1 : Int32)) h22

def F_X7_nextAt (x0 : Nat) (x1 : Option Nat) (h : Hp) : Option (Option Nat × Hp) :=
  L_X7_nextAt_4 x0 x1 (fun k25 h26 =>
  some (k25, h26)) FU none (0 : Int32) h

def F_X7_today (x0 : Nat) (h : Hp) : Option (Int32 × Hp) :=
  some (((pI h 7 x0 14) / (24 : Int32)), h)

def L_X7_takeTolls_34 {β : Type} (v0 : Nat) (v1 : Nat) (v2 : Int32) (v3 : Int32) (v4 : Option Nat) (κ80 : Hp → Option β) : Nat → Int32 → Hp → Option β
  | 0, _, _ => none
  | f + 1, v5, h =>
    nn v4 fun n15 =>
    if (pI h 3 n15 1) ≤ v5 then
    κ80 h
    else
    nn (pR h 3 n15 0) fun n18 =>
    ck (inb v5 (pL h 15 n18)) <|
    nn (pR h 15 n18 (v5).toNatClampNeg) fun n21 =>
    nn (pR h 7 v0 12) fun n23 =>
    ck (inb (pI h 6 n21 2) (pL h 24 n23)) <|
    ck (inb (pI h 6 n21 2) (pL h 24 n23)) <|
    lt (wI h 24 n23 ((pI h 6 n21 2)).toNatClampNeg ((pI h 24 n23 ((pI h 6 n21 2)).toNatClampNeg) - v2)) fun h27 =>
    lt (wI h27 7 v0 15 ((pI h27 7 v0 15) + v2)) fun h29 =>
    L_X7_takeTolls_34 v0 v1 v2 v3 v4 κ80 f (v5 + (1 : Int32)) h29

def L_X7_takeTolls_15 {β : Type} (v0 : Nat) (v1 : Option Nat) (v2 : Int32) (κ86 : Hp → Option β) : Nat → Int32 → Hp → Option β
  | 0, _, _ => none
  | f + 1, v3, h =>
    nn v1 fun n9 =>
    if (pI h 2 n9 2) ≤ v3 then
    κ86 h
    else
    nn (pR h 2 n9 1) fun n12 =>
    ck (inb v3 (pL h 14 n12)) <|
    L_X7_takeTolls_34 v0 n9 v2 v3 (pR h 14 n12 (v3).toNatClampNeg) (fun h31 =>
    L_X7_takeTolls_15 v0 v1 v2 κ86 f (v3 + (1 : Int32)) h31) FU (0 : Int32) h

def F_X7_takeTolls (x0 : Nat) (x1 : Option Nat) (h : Hp) : Option (Unit × Hp) :=
  cl (F_X7_today x0 h) fun r1 h2 =>
  nn (pR h 7 x0 9) fun n4 =>
  cl (F_X5_inForce n4 (0 : Int32) r1 h2) fun r6 h7 =>
  L_X7_takeTolls_15 x0 x1 r6 (fun h32 =>
  some ((), h32)) FU (0 : Int32) h7

def F_X7_openWeir (x0 : Nat) (x1 : Option Nat) (h : Hp) : Option (Unit × Hp) :=
  nn x1 fun n1 =>
  cl (F_X4_storms n1 (pI h 7 x0 14) h) fun r3 h4 =>
  if r3 = 0 then
  cl (F_X7_nextAt x0 (some n1) h4) fun r7 h8 =>
  onn r7 (
  some ((), h8)) fun n11 =>
  cl (F_X7_takeTolls x0 (some n11) h8) fun _ h13 =>
  cl (F_X2_need n11 h13) fun r15 h16 =>
  lt (wI h16 4 n1 7 ((pI h13 4 n1 7) - r15)) fun h18 =>
  cl (F_X2_goDown n11 (some n1) (pI h18 7 x0 14) h18) fun _ h21 =>
  some ((), h21)
  else
  some ((), h4)

def L_X7_passHour_2 {β : Type} (v0 : Nat) (κ29 : Hp → Option β) : Nat → Int32 → Hp → Option β
  | 0, _, _ => none
  | f + 1, v1, h =>
    if (pI h 7 v0 7) ≤ v1 then
    κ29 h
    else
    nn (pR h 7 v0 6) fun n2 =>
    ck (inb v1 (pL h 22 n2)) <|
    nn (pR h 22 n2 (v1).toNatClampNeg) fun n5 =>
    cl (F_X0_comeBy n5 (pI h 7 v0 14) h) fun _ h8 =>
    L_X7_passHour_2 v0 κ29 f (v1 + (1 : Int32)) h8

def L_X7_passHour_31 {β : Type} (v0 : Nat) (κ55 : Hp → Option β) : Nat → Int32 → Hp → Option β
  | 0, _, _ => none
  | f + 1, v1, h =>
    if (pI h 7 v0 1) ≤ v1 then
    κ55 h
    else
    nn (pR h 7 v0 0) fun n12 =>
    ck (inb v1 (pL h 19 n12)) <|
    cl (F_X7_openWeir v0 (pR h 19 n12 (v1).toNatClampNeg) h) fun _ h16 =>
    L_X7_passHour_31 v0 κ55 f (v1 + (1 : Int32)) h16

def L_X7_passHour_57 {β : Type} (v0 : Nat) (κ80 : Hp → Option β) : Nat → Int32 → Hp → Option β
  | 0, _, _ => none
  | f + 1, v1, h =>
    if (pI h 7 v0 1) ≤ v1 then
    κ80 h
    else
    nn (pR h 7 v0 0) fun n20 =>
    ck (inb v1 (pL h 19 n20)) <|
    nn (pR h 19 n20 (v1).toNatClampNeg) fun n23 =>
    cl (F_X4_fillPond n23 h) fun _ h26 =>
    L_X7_passHour_57 v0 κ80 f (v1 + (1 : Int32)) h26

def F_X7_passHour (x0 : Nat) (h : Hp) : Option (Unit × Hp) :=
  L_X7_passHour_2 x0 (fun h10 =>
  L_X7_passHour_31 x0 (fun h18 =>
  L_X7_passHour_57 x0 (fun h28 =>
  lt (wI h28 7 x0 14 ((pI h28 7 x0 14) + (1 : Int32))) fun h29 =>
  some ((), h29)) FU (1 : Int32) h18) FU (1 : Int32) h10) FU (0 : Int32) h

def L_X7_go_15 {β : Type} (v0 : Nat) (v1 : Int32) (κ40 : Hp → Option β) : Nat → Int32 → Hp → Option β
  | 0, _, _ => none
  | f + 1, v2, h =>
    if v1 ≤ v2 then
    κ40 h
    else
    if (20000 : Int32) ≤ (pI h 7 v0 14) then
    κ40 h
    else
    cl (F_X7_passHour v0 h) fun _ h8 =>
    L_X7_go_15 v0 v1 κ40 f (v2 + (1 : Int32)) h8

def F_X7_go (x0 : Nat) (x1 : Int32) (h : Hp) : Option (Int32 × Hp) :=
  cl (F_X7_within x1 (0 : Int32) (500 : Int32) h) fun r1 h2 =>
  if r1 = 0 then
  some ((-1 : Int32), h2)
  else
  L_X7_go_15 x0 x1 (fun h10 =>
  some ((pI h10 7 x0 14), h10)) FU (0 : Int32) h2

def F_X7_storm (x0 : Nat) (x1 : Int32) (x2 : Int32) (x3 : Int32) (h : Hp) : Option (Int32 × Hp) :=
  cl (F_X7_stationAt x0 x1 h) fun r1 h2 =>
  onn r1 (
  some ((0 : Int32), h2)) fun n5 =>
  if x2 < (pI h2 7 x0 14) then
  some ((0 : Int32), h2)
  else
  if x2 < x3 then
  lt (wI h2 4 n5 8 x2) fun h8 =>
  lt (wI h8 4 n5 9 x3) fun h10 =>
  some ((1 : Int32), h10)
  else
  some ((0 : Int32), h2)

def F_X7_breaks (x0 : Nat) (x1 : Int32) (x2 : Int32) (h : Hp) : Option (Int32 × Hp) :=
  cl (F_X7_raftAt x0 x1 h) fun r1 h2 =>
  onn r1 (
  some ((-1 : Int32), h2)) fun n5 =>
  cl (F_X2_state n5 h2) fun r6 h7 =>
  if r6 = (2 : Int32) then
  if x2 = 0 then
  cl (F_X2_loseTrunks n5 (0 : Int32) h7) fun r11 h12 =>
  lt (wI h12 7 x0 17 ((pI h12 7 x0 17) + r11)) fun h14 =>
  cl (F_X2_landCrew n5 h14) fun r16 h17 =>
  onn r16 (
  cl (F_X2_scatter n5 h17) fun _ h22 =>
  some (r11, h22)) fun n20 =>
  lt (wI h17 0 n20 5 (pI h17 7 x0 14)) fun h24 =>
  cl (F_X2_scatter n5 h24) fun _ h27 =>
  some (r11, h27)
  else
  cl (F_X2_loseTrunks n5 (1 : Int32) h7) fun r29 h30 =>
  lt (wI h30 7 x0 17 ((pI h30 7 x0 17) + r29)) fun h32 =>
  cl (F_X2_landCrew n5 h32) fun r34 h35 =>
  onn r34 (
  cl (F_X2_scatter n5 h35) fun _ h40 =>
  some (r29, h40)) fun n38 =>
  lt (wI h35 0 n38 5 (pI h35 7 x0 14)) fun h42 =>
  cl (F_X2_scatter n5 h42) fun _ h45 =>
  some (r29, h45)
  else
  some ((-1 : Int32), h7)

def F_X7_right (x0 : Nat) (x1 : Int32) (x2 : Int32) (h : Hp) : Option (Int32 × Hp) :=
  cl (F_X7_isOwner x1 h) fun r1 h2 =>
  if r1 = 0 then
  some ((0 : Int32), h2)
  else
  cl (F_X7_within x2 (0 : Int32) (9 : Int32) h2) fun r5 h6 =>
  if r5 = 0 then
  some ((0 : Int32), h6)
  else
  nn (pR h6 7 x0 11) fun n9 =>
  ck (inb x1 (pL h6 23 n9)) <|
  lt (wI h6 23 n9 (x1).toNatClampNeg x2) fun h12 =>
  some ((1 : Int32), h12)

def F_X7_toll (x0 : Nat) (x1 : Int32) (x2 : Int32) (h : Hp) : Option (Int32 × Hp) :=
  cl (F_X7_within x1 (0 : Int32) (1000 : Int32) h) fun r1 h2 =>
  if r1 = 0 then
  some ((0 : Int32), h2)
  else
  cl (F_X7_within x2 (0 : Int32) (100 : Int32) h2) fun r5 h6 =>
  if r5 = 0 then
  some ((0 : Int32), h6)
  else
  nn (pR h6 7 x0 9) fun n9 =>
  cl (F_X5_tell n9 (0 : Int32) x1 x2 h6) fun r11 h12 =>
  if r11 = 0 then
  some ((0 : Int32), h12)
  else
  some ((1 : Int32), h12)

def F_X7_marketOf (x0 : Option Nat) (x1 : Int32) (h : Hp) : Option (Int32 × Hp) :=
  nn x0 fun n1 =>
  some ((((pI h 4 n1 0) * (4 : Int32)) + x1), h)

def F_X7_price (x0 : Nat) (x1 : Int32) (x2 : Int32) (x3 : Int32) (x4 : Int32) (h : Hp) : Option (Int32 × Hp) :=
  cl (F_X7_stationAt x0 x1 h) fun r1 h2 =>
  onn r1 (
  some ((0 : Int32), h2)) fun n5 =>
  if (pI h2 4 n5 6) = 0 then
  some ((0 : Int32), h2)
  else
  cl (F_X7_within x2 (0 : Int32) (3 : Int32) h2) fun r7 h8 =>
  if r7 = 0 then
  some ((0 : Int32), h8)
  else
  cl (F_X7_within x3 (0 : Int32) (1000 : Int32) h8) fun r11 h12 =>
  if r11 = 0 then
  some ((0 : Int32), h12)
  else
  cl (F_X7_within x4 (0 : Int32) (1000 : Int32) h12) fun r15 h16 =>
  if r15 = 0 then
  some ((0 : Int32), h16)
  else
  cl (F_X7_marketOf (some n5) x2 h16) fun r19 h20 =>
  nn (pR h16 7 x0 10) fun n22 =>
  cl (F_X5_tell n22 r19 x3 x4 h20) fun r24 h25 =>
  if r24 = 0 then
  some ((0 : Int32), h25)
  else
  some ((1 : Int32), h25)

def F_X7_sell (x0 : Nat) (x1 : Int32) (h : Hp) : Option (Int32 × Hp) :=
  cl (F_X7_trunkAt x0 x1 h) fun r1 h2 =>
  onn r1 (
  some ((-1 : Int32), h2)) fun n5 =>
  onn (pR h2 6 n5 5) (
  some ((-1 : Int32), h2)) fun n7 =>
  if (pI h2 4 n7 6) = 0 then
  some ((-1 : Int32), h2)
  else
  nn (pR h2 7 x0 8) fun n9 =>
  cl (F_X3_has n9 (some n5) h2) fun r11 h12 =>
  if r11 = 0 then
  cl (F_X7_marketOf (pR h12 6 n5 5) (pI h12 6 n5 3) h12) fun r15 h16 =>
  cl (F_X7_today x0 h16) fun r18 h19 =>
  nn (pR h12 7 x0 10) fun n21 =>
  cl (F_X5_inForce n21 r15 r18 h19) fun r23 h24 =>
  lt (wR h24 6 n5 5 none) fun h26 =>
  lt (wI h26 6 n5 7 (r23 * (pI h24 6 n5 4))) fun h28 =>
  nn (pR h28 7 x0 12) fun n30 =>
  ck (inb (pI h28 6 n5 2) (pL h28 24 n30)) <|
  ck (inb (pI h28 6 n5 2) (pL h28 24 n30)) <|
  lt (wI h28 24 n30 ((pI h28 6 n5 2)).toNatClampNeg ((pI h28 24 n30 ((pI h28 6 n5 2)).toNatClampNeg) + (r23 * (pI h24 6 n5 4)))) fun h34 =>
  lt (wI h34 7 x0 16 ((pI h34 7 x0 16) + (1 : Int32))) fun h36 =>
  some ((r23 * (pI h24 6 n5 4)), h36)
  else
  some ((-1 : Int32), h12)

def F_X7_advance (x0 : Nat) (x1 : Int32) (x2 : Int32) (h : Hp) : Option (Int32 × Hp) :=
  cl (F_X7_isOwner x1 h) fun r1 h2 =>
  if r1 = 0 then
  some ((-2147483648 : Int32), h2)
  else
  cl (F_X7_within x2 (1 : Int32) (100000 : Int32) h2) fun r5 h6 =>
  if r5 = 0 then
  some ((-2147483648 : Int32), h6)
  else
  nn (pR h6 7 x0 12) fun n9 =>
  ck (inb x1 (pL h6 24 n9)) <|
  ck (inb x1 (pL h6 24 n9)) <|
  lt (wI h6 24 n9 (x1).toNatClampNeg ((pI h6 24 n9 (x1).toNatClampNeg) - x2)) fun h13 =>
  nn (pR h13 7 x0 12) fun n15 =>
  ck (inb x1 (pL h13 24 n15)) <|
  some ((pI h13 24 n15 (x1).toNatClampNeg), h13)

def F_X7_balance (x0 : Nat) (x1 : Int32) (h : Hp) : Option (Int32 × Hp) :=
  cl (F_X7_isOwner x1 h) fun r1 h2 =>
  if r1 = 0 then
  some ((0 : Int32), h2)
  else
  nn (pR h2 7 x0 12) fun n5 =>
  ck (inb x1 (pL h2 24 n5)) <|
  some ((pI h2 24 n5 (x1).toNatClampNeg), h2)

def L_X7_makePlan_27 {β : Type} (v0 : Nat) (v2 : Nat) (κ83 : Hp → Option β) : Nat → Int32 → Hp → Option β
  | 0, _, _ => none
  | f + 1, v3, h =>
    if (pI h 7 v0 5) ≤ v3 then
    κ83 h
    else
    nn (pR h 7 v0 4) fun n14 =>
    ck (inb v3 (pL h 21 n14)) <|
    nn (pR h 21 n14 (v3).toNatClampNeg) fun n17 =>
    cl (F_X2_fits n17 (some v2) h) fun r19 h20 =>
    if r19 = 0 then
    L_X7_makePlan_27 v0 v2 κ83 f (v3 + (1 : Int32)) h20
    else
    nn (pR h20 7 v0 4) fun n23 =>
    ck (inb v3 (pL h20 21 n23)) <|
    nn (pR h20 21 n23 (v3).toNatClampNeg) fun n26 =>
    cl (F_X2_need n26 h20) fun r28 h29 =>
    if (pI h29 4 v2 5) < r28 then
    L_X7_makePlan_27 v0 v2 κ83 f (v3 + (1 : Int32)) h29
    else
    nn (pR h29 7 v0 4) fun n32 =>
    ck (inb v3 (pL h29 21 n32)) <|
    nn (pR h29 7 v0 13) fun n35 =>
    cl (F_X1_admit n35 (pR h29 21 n32 (v3).toNatClampNeg) h29) fun _ h38 =>
    L_X7_makePlan_27 v0 v2 κ83 f (v3 + (1 : Int32)) h38

def F_X7_makePlan (x0 : Nat) (x1 : Int32) (h : Hp) : Option (Unit × Hp) :=
  nn (pR h 7 x0 13) fun n1 =>
  cl (F_X1_clear n1 h) fun _ h4 =>
  cl (F_X7_stationAt x0 x1 h4) fun r6 h7 =>
  onn r6 (
  some ((), h7)) fun n10 =>
  onn (pR h7 4 n10 1) (
  some ((), h7)) fun n12 =>
  L_X7_makePlan_27 x0 n10 (fun h40 =>
  nn (pR h40 7 x0 13) fun n41 =>
  cl (F_X1_work n41 (some n10) (pI h40 7 x0 14) h40) fun _ h44 =>
  some ((), h44)) FU (0 : Int32) h7

def F_X7_best (x0 : Nat) (x1 : Int32) (x2 : Int32) (h : Hp) : Option (Int32 × Hp) :=
  cl (F_X7_makePlan x0 x1 h) fun _ h2 =>
  nn (pR h2 7 x0 13) fun n4 =>
  cl (F_X1_raftIn n4 x2 h2) fun r6 h7 =>
  some (r6, h7)

def F_X7_passes (x0 : Nat) (x1 : Int32) (x2 : Int32) (h : Hp) : Option (Int32 × Hp) :=
  cl (F_X7_makePlan x0 x1 h) fun _ h2 =>
  nn (pR h2 7 x0 13) fun n4 =>
  cl (F_X1_hourOf n4 x2 h2) fun r6 h7 =>
  some (r6, h7)

def F_X7_numberOf (x0 : Option Nat) (h : Hp) : Option (Int32 × Hp) :=
  onn x0 (
  some ((-1 : Int32), h)) fun n2 =>
  some ((pI h 4 n2 0), h)

def F_X7_told (x0 : Nat) (x1 : Int32) (x2 : Int32) (h : Hp) : Option (Int32 × Hp) :=
  cl (F_X7_trunkAt x0 x1 h) fun r1 h2 =>
  onn r1 (
  some ((-1 : Int32), h2)) fun n5 =>
  if x2 = (0 : Int32) then
  some ((pI h2 6 n5 1), h2)
  else
  if x2 = (1 : Int32) then
  some ((pI h2 6 n5 2), h2)
  else
  if x2 = (2 : Int32) then
  some ((pI h2 6 n5 3), h2)
  else
  if x2 = (3 : Int32) then
  some ((pI h2 6 n5 4), h2)
  else
  if x2 = (4 : Int32) then
  cl (F_X6_state n5 h2) fun r19 h20 =>
  some (r19, h20)
  else
  if x2 = (5 : Int32) then
  cl (F_X7_numberOf (pR h2 6 n5 5) h2) fun r16 h17 =>
  some (r16, h17)
  else
  if x2 = (6 : Int32) then
  onn (pR h2 6 n5 6) (
  some ((-1 : Int32), h2)) fun n15 =>
  some ((pI h2 2 n15 0), h2)
  else
  if x2 = (7 : Int32) then
  some ((pI h2 6 n5 7), h2)
  else
  some ((-1 : Int32), h2)

def F_X7_raft (x0 : Nat) (x1 : Int32) (x2 : Int32) (h : Hp) : Option (Int32 × Hp) :=
  cl (F_X7_raftAt x0 x1 h) fun r1 h2 =>
  onn r1 (
  some ((-1 : Int32), h2)) fun n5 =>
  if x2 = (0 : Int32) then
  cl (F_X2_state n5 h2) fun r24 h25 =>
  some (r24, h25)
  else
  if x2 = (1 : Int32) then
  cl (F_X7_numberOf (pR h2 2 n5 3) h2) fun r21 h22 =>
  some (r21, h22)
  else
  if x2 = (2 : Int32) then
  some ((pI h2 2 n5 2), h2)
  else
  if x2 = (3 : Int32) then
  cl (F_X2_trunkCount n5 h2) fun r18 h19 =>
  some (r18, h19)
  else
  if x2 = (4 : Int32) then
  cl (F_X2_width n5 h2) fun r15 h16 =>
  some (r15, h16)
  else
  if x2 = (5 : Int32) then
  onn (pR h2 2 n5 4) (
  some ((-1 : Int32), h2)) fun n14 =>
  some ((pI h2 0 n14 0), h2)
  else
  if x2 = (6 : Int32) then
  some ((pI h2 2 n5 5), h2)
  else
  some ((-1 : Int32), h2)

def F_X7_crewed (x0 : Nat) (x1 : Int32) (x2 : Int32) (h : Hp) : Option (Int32 × Hp) :=
  cl (F_X7_crewAt x0 x1 h) fun r1 h2 =>
  onn r1 (
  some ((-1 : Int32), h2)) fun n5 =>
  if x2 = (0 : Int32) then
  cl (F_X0_state n5 h2) fun r17 h18 =>
  some (r17, h18)
  else
  if x2 = (1 : Int32) then
  cl (F_X7_numberOf (pR h2 0 n5 2) h2) fun r14 h15 =>
  some (r14, h15)
  else
  if x2 = (2 : Int32) then
  some ((pI h2 0 n5 4), h2)
  else
  if x2 = (3 : Int32) then
  cl (F_X0_rests n5 (pI h2 7 x0 14) h2) fun r10 h11 =>
  if r10 = 0 then
  some ((0 : Int32), h11)
  else
  some ((1 : Int32), h11)
  else
  some ((-1 : Int32), h2)

def F_X7_pondOf (x0 : Nat) (x1 : Int32) (h : Hp) : Option (Int32 × Hp) :=
  cl (F_X7_stationAt x0 x1 h) fun r1 h2 =>
  onn r1 (
  some ((-1 : Int32), h2)) fun n5 =>
  some ((pI h2 4 n5 7), h2)

def F_X7_count (x0 : Nat) (x1 : Int32) (h : Hp) : Option (Int32 × Hp) :=
  if x1 = (0 : Int32) then
  some ((pI h 7 x0 14), h)
  else
  if x1 = (1 : Int32) then
  some ((pI h 7 x0 1), h)
  else
  if x1 = (2 : Int32) then
  some ((pI h 7 x0 3), h)
  else
  if x1 = (3 : Int32) then
  some ((pI h 7 x0 5), h)
  else
  if x1 = (4 : Int32) then
  some ((pI h 7 x0 7), h)
  else
  if x1 = (5 : Int32) then
  some ((pI h 7 x0 15), h)
  else
  if x1 = (6 : Int32) then
  some ((pI h 7 x0 16), h)
  else
  if x1 = (7 : Int32) then
  some ((pI h 7 x0 17), h)
  else
  if (100 : Int32) ≤ x1 then
  cl (F_X7_pondOf x0 (x1 - (100 : Int32)) h) fun r10 h11 =>
  some (r10, h11)
  else
  some ((-1 : Int32), h)
end
section
def L_X8_init_345 {β : Type} (v0 : Nat) (κ364 : Hp → Option β) : Nat → Int32 → Hp → Option β
  | 0, _, _ => none
  | f + 1, v1, h =>
    if (8 : Int32) ≤ v1 then
    κ364 h
    else
    nn (pR h 8 v0 36) fun n174 =>
    ck (inb v1 (pL h 55 n174)) <|
    lt (wI h 55 n174 (v1).toNatClampNeg (5 : Int32)) fun h177 =>
    L_X8_init_345 v0 κ364 f (v1 + (1 : Int32)) h177

def F_X8_init (x0 : Nat) (h : Hp) : Option (Unit × Hp) :=
  lt (wN h 25 ((12 : Int32)).toNatClampNeg) fun h1 =>
  lt (wR h1 8 x0 2 (some (pC h 25))) fun h3 =>
  lt (wN h3 26 ((12 : Int32)).toNatClampNeg) fun h5 =>
  lt (wR h5 8 x0 3 (some (pC h3 26))) fun h7 =>
  lt (wN h7 27 ((12 : Int32)).toNatClampNeg) fun h9 =>
  lt (wR h9 8 x0 4 (some (pC h7 27))) fun h11 =>
  lt (wN h11 28 ((12 : Int32)).toNatClampNeg) fun h13 =>
  lt (wR h13 8 x0 5 (some (pC h11 28))) fun h15 =>
  lt (wN h15 29 ((12 : Int32)).toNatClampNeg) fun h17 =>
  lt (wR h17 8 x0 6 (some (pC h15 29))) fun h19 =>
  lt (wN h19 30 ((12 : Int32)).toNatClampNeg) fun h21 =>
  lt (wR h21 8 x0 7 (some (pC h19 30))) fun h23 =>
  lt (wN h23 31 ((12 : Int32)).toNatClampNeg) fun h25 =>
  lt (wR h25 8 x0 8 (some (pC h23 31))) fun h27 =>
  lt (wN h27 32 ((12 : Int32)).toNatClampNeg) fun h29 =>
  lt (wR h29 8 x0 9 (some (pC h27 32))) fun h31 =>
  lt (wN h31 33 ((12 : Int32)).toNatClampNeg) fun h33 =>
  lt (wR h33 8 x0 10 (some (pC h31 33))) fun h35 =>
  lt (wN h35 34 ((120 : Int32)).toNatClampNeg) fun h37 =>
  lt (wR h37 8 x0 12 (some (pC h35 34))) fun h39 =>
  lt (wN h39 35 ((120 : Int32)).toNatClampNeg) fun h41 =>
  lt (wR h41 8 x0 13 (some (pC h39 35))) fun h43 =>
  lt (wN h43 36 ((120 : Int32)).toNatClampNeg) fun h45 =>
  lt (wR h45 8 x0 14 (some (pC h43 36))) fun h47 =>
  lt (wN h47 37 ((120 : Int32)).toNatClampNeg) fun h49 =>
  lt (wR h49 8 x0 15 (some (pC h47 37))) fun h51 =>
  lt (wN h51 38 ((120 : Int32)).toNatClampNeg) fun h53 =>
  lt (wR h53 8 x0 16 (some (pC h51 38))) fun h55 =>
  lt (wN h55 39 ((120 : Int32)).toNatClampNeg) fun h57 =>
  lt (wR h57 8 x0 17 (some (pC h55 39))) fun h59 =>
  lt (wN h59 40 ((120 : Int32)).toNatClampNeg) fun h61 =>
  lt (wR h61 8 x0 18 (some (pC h59 40))) fun h63 =>
  lt (wN h63 41 ((120 : Int32)).toNatClampNeg) fun h65 =>
  lt (wR h65 8 x0 19 (some (pC h63 41))) fun h67 =>
  lt (wN h67 42 ((120 : Int32)).toNatClampNeg) fun h69 =>
  lt (wR h69 8 x0 20 (some (pC h67 42))) fun h71 =>
  lt (wN h71 43 ((120 : Int32)).toNatClampNeg) fun h73 =>
  lt (wR h73 8 x0 21 (some (pC h71 43))) fun h75 =>
  lt (wN h75 44 ((9 : Int32)).toNatClampNeg) fun h77 =>
  lt (wR h77 8 x0 23 (some (pC h75 44))) fun h79 =>
  lt (wN h79 45 ((60 : Int32)).toNatClampNeg) fun h81 =>
  lt (wR h81 8 x0 25 (some (pC h79 45))) fun h83 =>
  lt (wN h83 46 ((60 : Int32)).toNatClampNeg) fun h85 =>
  lt (wR h85 8 x0 26 (some (pC h83 46))) fun h87 =>
  lt (wN h87 47 ((60 : Int32)).toNatClampNeg) fun h89 =>
  lt (wR h89 8 x0 27 (some (pC h87 47))) fun h91 =>
  lt (wN h91 48 ((60 : Int32)).toNatClampNeg) fun h93 =>
  lt (wR h93 8 x0 28 (some (pC h91 48))) fun h95 =>
  lt (wN h95 49 ((60 : Int32)).toNatClampNeg) fun h97 =>
  lt (wR h97 8 x0 29 (some (pC h95 49))) fun h99 =>
  lt (wN h99 50 ((10 : Int32)).toNatClampNeg) fun h101 =>
  lt (wR h101 8 x0 31 (some (pC h99 50))) fun h103 =>
  lt (wN h103 51 ((10 : Int32)).toNatClampNeg) fun h105 =>
  lt (wR h105 8 x0 32 (some (pC h103 51))) fun h107 =>
  lt (wN h107 52 ((10 : Int32)).toNatClampNeg) fun h109 =>
  lt (wR h109 8 x0 33 (some (pC h107 52))) fun h111 =>
  lt (wN h111 53 ((10 : Int32)).toNatClampNeg) fun h113 =>
  lt (wR h113 8 x0 34 (some (pC h111 53))) fun h115 =>
  lt (wN h115 54 ((10 : Int32)).toNatClampNeg) fun h117 =>
  lt (wR h117 8 x0 35 (some (pC h115 54))) fun h119 =>
  lt (wN h119 55 ((8 : Int32)).toNatClampNeg) fun h121 =>
  lt (wR h121 8 x0 36 (some (pC h119 55))) fun h123 =>
  lt (wN h123 56 ((8 : Int32)).toNatClampNeg) fun h125 =>
  lt (wR h125 8 x0 37 (some (pC h123 56))) fun h127 =>
  lt (wN h127 57 ((30 : Int32)).toNatClampNeg) fun h129 =>
  lt (wR h129 8 x0 39 (some (pC h127 57))) fun h131 =>
  lt (wN h131 58 ((30 : Int32)).toNatClampNeg) fun h133 =>
  lt (wR h133 8 x0 40 (some (pC h131 58))) fun h135 =>
  lt (wN h135 59 ((100 : Int32)).toNatClampNeg) fun h137 =>
  lt (wR h137 8 x0 42 (some (pC h135 59))) fun h139 =>
  lt (wN h139 60 ((100 : Int32)).toNatClampNeg) fun h141 =>
  lt (wR h141 8 x0 43 (some (pC h139 60))) fun h143 =>
  lt (wN h143 61 ((100 : Int32)).toNatClampNeg) fun h145 =>
  lt (wR h145 8 x0 44 (some (pC h143 61))) fun h147 =>
  lt (wN h147 62 ((100 : Int32)).toNatClampNeg) fun h149 =>
  lt (wR h149 8 x0 45 (some (pC h147 62))) fun h151 =>
  lt (wN h151 63 ((5 : Int32)).toNatClampNeg) fun h153 =>
  lt (wR h153 8 x0 47 (some (pC h151 63))) fun h155 =>
  lt (wN h155 64 ((5 : Int32)).toNatClampNeg) fun h157 =>
  lt (wR h157 8 x0 48 (some (pC h155 64))) fun h159 =>
  lt (wN h159 65 ((5 : Int32)).toNatClampNeg) fun h161 =>
  lt (wR h161 8 x0 49 (some (pC h159 65))) fun h163 =>
  lt (wN h163 66 ((5 : Int32)).toNatClampNeg) fun h165 =>
  lt (wR h165 8 x0 50 (some (pC h163 66))) fun h167 =>
  lt (wN h167 67 ((5 : Int32)).toNatClampNeg) fun h169 =>
  lt (wR h169 8 x0 51 (some (pC h167 67))) fun h171 =>
  L_X8_init_345 x0 (fun h179 =>
  some ((), h179)) FU (0 : Int32) h171

def F_X8_in (x0 : Int32) (x1 : Int32) (x2 : Int32) (h : Hp) : Option (Int32 × Hp) :=
  if x0 < x1 then
  some ((0 : Int32), h)
  else
  if x2 < x0 then
  some ((0 : Int32), h)
  else
  some ((1 : Int32), h)

def F_X8_isStation (x0 : Nat) (x1 : Int32) (h : Hp) : Option (Int32 × Hp) :=
  cl (F_X8_in x1 (0 : Int32) ((pI h 8 x0 1) - (1 : Int32)) h) fun r1 h2 =>
  ck (isz r1) <|
  some (r1, h2)

def F_X8_isTrunk (x0 : Nat) (x1 : Int32) (h : Hp) : Option (Int32 × Hp) :=
  cl (F_X8_in x1 (0 : Int32) ((pI h 8 x0 11) - (1 : Int32)) h) fun r1 h2 =>
  ck (isz r1) <|
  some (r1, h2)

def F_X8_isRaft (x0 : Nat) (x1 : Int32) (x2 : Int32) (h : Hp) : Option (Int32 × Hp) :=
  cl (F_X8_in x1 (0 : Int32) ((pI h 8 x0 24) - (1 : Int32)) h) fun r1 h2 =>
  if r1 = 0 then
  some ((0 : Int32), h2)
  else
  nn (pR h2 8 x0 25) fun n5 =>
  ck (inb x1 (pL h2 45 n5)) <|
  if (pI h2 45 n5 (x1).toNatClampNeg) = x2 then
  some ((1 : Int32), h2)
  else
  some ((0 : Int32), h2)

def F_X8_station (x0 : Nat) (x1 : Int32) (x2 : Int32) (x3 : Int32) (x4 : Int32) (h : Hp) : Option (Int32 × Hp) :=
  if (pI h 8 x0 1) = (12 : Int32) then
  some ((-1 : Int32), h)
  else
  if (pI h 8 x0 1) ≤ 0 then
  if x4 = 0 then
  if (pI h 8 x0 1) = 0 then
  nn (pR h 8 x0 8) fun n19 =>
  ck (inb (pI h 8 x0 1) (pL h 31 n19)) <|
  lt (wI h 31 n19 ((pI h 8 x0 1)).toNatClampNeg (1 : Int32)) fun h22 =>
  lt (wI h22 8 x0 1 ((pI h22 8 x0 1) + (1 : Int32))) fun h24 =>
  some (((pI h24 8 x0 1) - (1 : Int32)), h24)
  else
  nn (pR h 8 x0 8) fun n12 =>
  ck (inb (pI h 8 x0 1) (pL h 31 n12)) <|
  lt (wI h 31 n12 ((pI h 8 x0 1)).toNatClampNeg (0 : Int32)) fun h15 =>
  lt (wI h15 8 x0 1 ((pI h15 8 x0 1) + (1 : Int32))) fun h17 =>
  some (((pI h17 8 x0 1) - (1 : Int32)), h17)
  else
  nn (pR h 8 x0 8) fun n4 =>
  ck (inb (pI h 8 x0 1) (pL h 31 n4)) <|
  lt (wI h 31 n4 ((pI h 8 x0 1)).toNatClampNeg (1 : Int32)) fun h7 =>
  lt (wI h7 8 x0 1 ((pI h7 8 x0 1) + (1 : Int32))) fun h9 =>
  some (((pI h9 8 x0 1) - (1 : Int32)), h9)
  else
  cl (F_X8_isStation x0 x1 h) fun r26 h27 =>
  if r26 = 0 then
  some ((-1 : Int32), h27)
  else
  if x2 < 0 then
  some ((-1 : Int32), h27)
  else
  cl (F_X8_in (x2 / (100000 : Int32)) (1 : Int32) (20 : Int32) h27) fun r31 h32 =>
  if r31 = 0 then
  some ((-1 : Int32), h32)
  else
  cl (F_X8_in ((x2 / (1000 : Int32)) - (x2 / (1000 : Int32)) / (100 : Int32) * (100 : Int32)) (1 : Int32) (60 : Int32) h32) fun r35 h36 =>
  if r35 = 0 then
  some ((-1 : Int32), h36)
  else
  if (50 : Int32) < (x2 - x2 / (1000 : Int32) * (1000 : Int32)) then
  some ((-1 : Int32), h36)
  else
  cl (F_X8_in x3 (0 : Int32) (1000 : Int32) h36) fun r40 h41 =>
  if r40 = 0 then
  some ((-1 : Int32), h41)
  else
  nn (pR h41 8 x0 2) fun n44 =>
  ck (inb (pI h41 8 x0 1) (pL h41 25 n44)) <|
  lt (wI h41 25 n44 ((pI h41 8 x0 1)).toNatClampNeg x1) fun h47 =>
  nn (pR h47 8 x0 3) fun n49 =>
  ck (inb (pI h47 8 x0 1) (pL h47 26 n49)) <|
  lt (wI h47 26 n49 ((pI h47 8 x0 1)).toNatClampNeg (x2 / (100000 : Int32))) fun h52 =>
  nn (pR h52 8 x0 4) fun n54 =>
  ck (inb (pI h52 8 x0 1) (pL h52 27 n54)) <|
  lt (wI h52 27 n54 ((pI h52 8 x0 1)).toNatClampNeg ((x2 / (1000 : Int32)) - (x2 / (1000 : Int32)) / (100 : Int32) * (100 : Int32))) fun h57 =>
  nn (pR h57 8 x0 5) fun n59 =>
  ck (inb (pI h57 8 x0 1) (pL h57 28 n59)) <|
  lt (wI h57 28 n59 ((pI h57 8 x0 1)).toNatClampNeg (x2 - x2 / (1000 : Int32) * (1000 : Int32))) fun h62 =>
  nn (pR h62 8 x0 6) fun n64 =>
  ck (inb (pI h62 8 x0 1) (pL h62 29 n64)) <|
  lt (wI h62 29 n64 ((pI h62 8 x0 1)).toNatClampNeg x3) fun h67 =>
  nn (pR h67 8 x0 7) fun n69 =>
  ck (inb (pI h67 8 x0 1) (pL h67 30 n69)) <|
  lt (wI h67 30 n69 ((pI h67 8 x0 1)).toNatClampNeg x3) fun h72 =>
  if x4 = 0 then
  if (pI h72 8 x0 1) = 0 then
  nn (pR h72 8 x0 8) fun n90 =>
  ck (inb (pI h72 8 x0 1) (pL h72 31 n90)) <|
  lt (wI h72 31 n90 ((pI h72 8 x0 1)).toNatClampNeg (1 : Int32)) fun h93 =>
  lt (wI h93 8 x0 1 ((pI h93 8 x0 1) + (1 : Int32))) fun h95 =>
  some (((pI h95 8 x0 1) - (1 : Int32)), h95)
  else
  nn (pR h72 8 x0 8) fun n83 =>
  ck (inb (pI h72 8 x0 1) (pL h72 31 n83)) <|
  lt (wI h72 31 n83 ((pI h72 8 x0 1)).toNatClampNeg (0 : Int32)) fun h86 =>
  lt (wI h86 8 x0 1 ((pI h86 8 x0 1) + (1 : Int32))) fun h88 =>
  some (((pI h88 8 x0 1) - (1 : Int32)), h88)
  else
  nn (pR h72 8 x0 8) fun n75 =>
  ck (inb (pI h72 8 x0 1) (pL h72 31 n75)) <|
  lt (wI h72 31 n75 ((pI h72 8 x0 1)).toNatClampNeg (1 : Int32)) fun h78 =>
  lt (wI h78 8 x0 1 ((pI h78 8 x0 1) + (1 : Int32))) fun h80 =>
  some (((pI h80 8 x0 1) - (1 : Int32)), h80)

def L_X8_find_2 {β : Type} (v0 : Nat) (v1 : Int32) (κ28 : Hp → Option β) (κ20 : Int32 → Hp → Option β) : Nat → Int32 → Hp → Option β
  | 0, _, _ => none
  | f + 1, v2, h =>
    if (pI h 8 v0 11) ≤ v2 then
    κ28 h
    else
    nn (pR h 8 v0 12) fun n2 =>
    ck (inb v2 (pL h 34 n2)) <|
    if (pI h 34 n2 (v2).toNatClampNeg) = v1 then
    κ20 v2 h
    else
    L_X8_find_2 v0 v1 κ28 κ20 f (v2 + (1 : Int32)) h

def F_X8_find (x0 : Nat) (x1 : Int32) (h : Hp) : Option (Int32 × Hp) :=
  L_X8_find_2 x0 x1 (fun h6 =>
  some ((-1 : Int32), h6)) (fun k7 h8 =>
  some (k7, h8)) FU (0 : Int32) h

def F_X8_trunk (x0 : Nat) (x1 : Int32) (x2 : Int32) (x3 : Int32) (h : Hp) : Option (Int32 × Hp) :=
  cl (F_X8_in x1 (1 : Int32) (99999 : Int32) h) fun r1 h2 =>
  if r1 = 0 then
  some ((-1 : Int32), h2)
  else
  if x2 < 0 then
  some ((-1 : Int32), h2)
  else
  if (8 : Int32) ≤ (x2 / (100 : Int32)) then
  some ((-1 : Int32), h2)
  else
  if (3 : Int32) < ((x2 / (10 : Int32)) - (x2 / (10 : Int32)) / (10 : Int32) * (10 : Int32)) then
  some ((-1 : Int32), h2)
  else
  if (x2 - x2 / (10 : Int32) * (10 : Int32)) = 0 then
  some ((-1 : Int32), h2)
  else
  cl (F_X8_find x0 x1 h2) fun r9 h10 =>
  if r9 = (-1 : Int32) then
  cl (F_X8_isStation x0 x3 h10) fun r13 h14 =>
  if r13 = 0 then
  some ((-1 : Int32), h14)
  else
  if (pI h14 8 x0 11) = (120 : Int32) then
  some ((-1 : Int32), h14)
  else
  nn (pR h14 8 x0 12) fun n18 =>
  ck (inb (pI h14 8 x0 11) (pL h14 34 n18)) <|
  lt (wI h14 34 n18 ((pI h14 8 x0 11)).toNatClampNeg x1) fun h21 =>
  nn (pR h21 8 x0 13) fun n23 =>
  ck (inb (pI h21 8 x0 11) (pL h21 35 n23)) <|
  lt (wI h21 35 n23 ((pI h21 8 x0 11)).toNatClampNeg (x2 / (100 : Int32))) fun h26 =>
  nn (pR h26 8 x0 14) fun n28 =>
  ck (inb (pI h26 8 x0 11) (pL h26 36 n28)) <|
  lt (wI h26 36 n28 ((pI h26 8 x0 11)).toNatClampNeg ((x2 / (10 : Int32)) - (x2 / (10 : Int32)) / (10 : Int32) * (10 : Int32))) fun h31 =>
  nn (pR h31 8 x0 15) fun n33 =>
  ck (inb (pI h31 8 x0 11) (pL h31 37 n33)) <|
  lt (wI h31 37 n33 ((pI h31 8 x0 11)).toNatClampNeg (x2 - x2 / (10 : Int32) * (10 : Int32))) fun h36 =>
  nn (pR h36 8 x0 17) fun n38 =>
  ck (inb (pI h36 8 x0 11) (pL h36 39 n38)) <|
  lt (wI h36 39 n38 ((pI h36 8 x0 11)).toNatClampNeg x3) fun h41 =>
  nn (pR h41 8 x0 18) fun n43 =>
  ck (inb (pI h41 8 x0 11) (pL h41 40 n43)) <|
  lt (wI h41 40 n43 ((pI h41 8 x0 11)).toNatClampNeg (-1 : Int32)) fun h46 =>
  nn (pR h46 8 x0 21) fun n48 =>
  ck (inb (pI h46 8 x0 11) (pL h46 43 n48)) <|
  lt (wI h46 43 n48 ((pI h46 8 x0 11)).toNatClampNeg (-1 : Int32)) fun h51 =>
  lt (wI h51 8 x0 11 ((pI h51 8 x0 11) + (1 : Int32))) fun h53 =>
  some (((pI h53 8 x0 11) - (1 : Int32)), h53)
  else
  some ((-1 : Int32), h10)

def L_X8_isNext_2 {β : Type} (v0 : Nat) (v1 : Int32) (κ28 : Hp → Option β) (κ20 : Hp → Option β) : Nat → Int32 → Hp → Option β
  | 0, _, _ => none
  | f + 1, v2, h =>
    if (pI h 8 v0 22) ≤ v2 then
    κ28 h
    else
    nn (pR h 8 v0 23) fun n2 =>
    ck (inb v2 (pL h 44 n2)) <|
    if (pI h 44 n2 (v2).toNatClampNeg) = v1 then
    κ20 h
    else
    L_X8_isNext_2 v0 v1 κ28 κ20 f (v2 + (1 : Int32)) h

def F_X8_isNext (x0 : Nat) (x1 : Int32) (h : Hp) : Option (Int32 × Hp) :=
  L_X8_isNext_2 x0 x1 (fun h6 =>
  some ((0 : Int32), h6)) (fun h7 =>
  some ((1 : Int32), h7)) FU (0 : Int32) h

def F_X8_put (x0 : Nat) (x1 : Int32) (h : Hp) : Option (Int32 × Hp) :=
  cl (F_X8_isTrunk x0 x1 h) fun r1 h2 =>
  if r1 = 0 then
  some ((-1 : Int32), h2)
  else
  nn (pR h2 8 x0 16) fun n5 =>
  ck (inb x1 (pL h2 38 n5)) <|
  if (pI h2 38 n5 (x1).toNatClampNeg) = 0 then
  cl (F_X8_isNext x0 x1 h2) fun r9 h10 =>
  if r9 = 0 then
  if (pI h10 8 x0 22) = (9 : Int32) then
  some ((-1 : Int32), h10)
  else
  if (pI h10 8 x0 22) ≤ 0 then
  nn (pR h10 8 x0 23) fun n15 =>
  ck (inb (pI h10 8 x0 22) (pL h10 44 n15)) <|
  lt (wI h10 44 n15 ((pI h10 8 x0 22)).toNatClampNeg x1) fun h18 =>
  lt (wI h18 8 x0 22 ((pI h18 8 x0 22) + (1 : Int32))) fun h20 =>
  some ((pI h20 8 x0 22), h20)
  else
  nn (pR h10 8 x0 23) fun n22 =>
  ck (inb (0 : Int32) (pL h10 44 n22)) <|
  nn (pR h10 8 x0 17) fun n25 =>
  ck (inb (pI h10 44 n22 ((0 : Int32)).toNatClampNeg) (pL h10 39 n25)) <|
  ck (inb x1 (pL h10 39 n25)) <|
  if (pI h10 39 n25 ((pI h10 44 n22 ((0 : Int32)).toNatClampNeg)).toNatClampNeg) = (pI h10 39 n25 (x1).toNatClampNeg) then
  ck (inb (pI h10 8 x0 22) (pL h10 44 n22)) <|
  lt (wI h10 44 n22 ((pI h10 8 x0 22)).toNatClampNeg x1) fun h31 =>
  lt (wI h31 8 x0 22 ((pI h31 8 x0 22) + (1 : Int32))) fun h33 =>
  some ((pI h33 8 x0 22), h33)
  else
  some ((-1 : Int32), h10)
  else
  some ((-1 : Int32), h10)
  else
  some ((-1 : Int32), h2)

def F_X8_newRaft (x0 : Nat) (x1 : Int32) (h : Hp) : Option (Int32 × Hp) :=
  nn (pR h 8 x0 25) fun n1 =>
  ck (inb (pI h 8 x0 24) (pL h 45 n1)) <|
  lt (wI h 45 n1 ((pI h 8 x0 24)).toNatClampNeg (0 : Int32)) fun h4 =>
  nn (pR h4 8 x0 26) fun n6 =>
  ck (inb (pI h4 8 x0 24) (pL h4 46 n6)) <|
  lt (wI h4 46 n6 ((pI h4 8 x0 24)).toNatClampNeg x1) fun h9 =>
  nn (pR h9 8 x0 28) fun n11 =>
  ck (inb (pI h9 8 x0 24) (pL h9 48 n11)) <|
  lt (wI h9 48 n11 ((pI h9 8 x0 24)).toNatClampNeg (-1 : Int32)) fun h14 =>
  nn (pR h14 8 x0 29) fun n16 =>
  ck (inb (pI h14 8 x0 24) (pL h14 49 n16)) <|
  lt (wI h14 49 n16 ((pI h14 8 x0 24)).toNatClampNeg (-1 : Int32)) fun h19 =>
  lt (wI h19 8 x0 24 ((pI h19 8 x0 24) + (1 : Int32))) fun h21 =>
  some (((pI h21 8 x0 24) - (1 : Int32)), h21)

def L_X8_bind_43 {β : Type} (v0 : Nat) (v1 : Int32) (κ105 : Hp → Option β) : Nat → Int32 → Hp → Option β
  | 0, _, _ => none
  | f + 1, v2, h =>
    if (pI h 8 v0 22) ≤ v2 then
    κ105 h
    else
    nn (pR h 8 v0 23) fun n18 =>
    ck (inb v2 (pL h 44 n18)) <|
    nn (pR h 8 v0 16) fun n21 =>
    ck (inb (pI h 44 n18 (v2).toNatClampNeg) (pL h 38 n21)) <|
    lt (wI h 38 n21 ((pI h 44 n18 (v2).toNatClampNeg)).toNatClampNeg (1 : Int32)) fun h24 =>
    nn (pR h24 8 v0 23) fun n26 =>
    ck (inb v2 (pL h24 44 n26)) <|
    nn (pR h24 8 v0 18) fun n29 =>
    ck (inb (pI h24 44 n26 (v2).toNatClampNeg) (pL h24 40 n29)) <|
    lt (wI h24 40 n29 ((pI h24 44 n26 (v2).toNatClampNeg)).toNatClampNeg v1) fun h32 =>
    nn (pR h32 8 v0 23) fun n34 =>
    ck (inb v2 (pL h32 44 n34)) <|
    nn (pR h32 8 v0 19) fun n37 =>
    ck (inb (pI h32 44 n34 (v2).toNatClampNeg) (pL h32 41 n37)) <|
    lt (wI h32 41 n37 ((pI h32 44 n34 (v2).toNatClampNeg)).toNatClampNeg (0 : Int32)) fun h40 =>
    nn (pR h40 8 v0 23) fun n42 =>
    ck (inb v2 (pL h40 44 n42)) <|
    nn (pR h40 8 v0 20) fun n45 =>
    ck (inb (pI h40 44 n42 (v2).toNatClampNeg) (pL h40 42 n45)) <|
    lt (wI h40 42 n45 ((pI h40 44 n42 (v2).toNatClampNeg)).toNatClampNeg v2) fun h48 =>
    L_X8_bind_43 v0 v1 κ105 f (v2 + (1 : Int32)) h48

def F_X8_bind (x0 : Nat) (h : Hp) : Option (Int32 × Hp) :=
  if (pI h 8 x0 22) = 0 then
  some ((-1 : Int32), h)
  else
  if (pI h 8 x0 24) = (60 : Int32) then
  some ((-1 : Int32), h)
  else
  nn (pR h 8 x0 23) fun n3 =>
  ck (inb (0 : Int32) (pL h 44 n3)) <|
  nn (pR h 8 x0 17) fun n6 =>
  ck (inb (pI h 44 n3 ((0 : Int32)).toNatClampNeg) (pL h 39 n6)) <|
  cl (F_X8_newRaft x0 (pI h 39 n6 ((pI h 44 n3 ((0 : Int32)).toNatClampNeg)).toNatClampNeg) h) fun r9 h10 =>
  nn (pR h10 8 x0 27) fun n12 =>
  ck (inb r9 (pL h10 47 n12)) <|
  lt (wI h10 47 n12 (r9).toNatClampNeg (1 : Int32)) fun h15 =>
  L_X8_bind_43 x0 r9 (fun h50 =>
  lt (wI h50 8 x0 22 (0 : Int32)) fun h51 =>
  some (r9, h51)) FU (0 : Int32) h15

def F_X8_isOf (x0 : Nat) (x1 : Int32) (x2 : Int32) (h : Hp) : Option (Int32 × Hp) :=
  nn (pR h 8 x0 16) fun n1 =>
  ck (inb x1 (pL h 38 n1)) <|
  if (pI h 38 n1 (x1).toNatClampNeg) = (1 : Int32) then
  nn (pR h 8 x0 18) fun n5 =>
  ck (inb x1 (pL h 40 n5)) <|
  if (pI h 40 n5 (x1).toNatClampNeg) = x2 then
  some ((1 : Int32), h)
  else
  some ((0 : Int32), h)
  else
  some ((0 : Int32), h)

def F_X8_ends (x0 : Nat) (x1 : Int32) (h : Hp) : Option (Unit × Hp) :=
  nn (pR h 8 x0 25) fun n1 =>
  ck (inb x1 (pL h 45 n1)) <|
  lt (wI h 45 n1 (x1).toNatClampNeg (3 : Int32)) fun h4 =>
  nn (pR h4 8 x0 27) fun n6 =>
  ck (inb x1 (pL h4 47 n6)) <|
  lt (wI h4 47 n6 (x1).toNatClampNeg (0 : Int32)) fun h9 =>
  nn (pR h9 8 x0 28) fun n11 =>
  ck (inb x1 (pL h9 48 n11)) <|
  lt (wI h9 48 n11 (x1).toNatClampNeg (-1 : Int32)) fun h14 =>
  nn (pR h14 8 x0 29) fun n16 =>
  ck (inb x1 (pL h14 49 n16)) <|
  lt (wI h14 49 n16 (x1).toNatClampNeg (-1 : Int32)) fun h19 =>
  some ((), h19)

def L_X8_join_60 {β : Type} (v0 : Nat) (v1 : Int32) (v2 : Int32) (κ108 : Hp → Option β) : Nat → Int32 → Hp → Option β
  | 0, _, _ => none
  | f + 1, v3, h =>
    if (pI h 8 v0 11) ≤ v3 then
    κ108 h
    else
    cl (F_X8_isOf v0 v3 v2 h) fun r21 h22 =>
    if r21 = 0 then
    L_X8_join_60 v0 v1 v2 κ108 f (v3 + (1 : Int32)) h22
    else
    nn (pR h22 8 v0 18) fun n25 =>
    ck (inb v3 (pL h22 40 n25)) <|
    lt (wI h22 40 n25 (v3).toNatClampNeg v1) fun h28 =>
    nn (pR h28 8 v0 19) fun n30 =>
    ck (inb v3 (pL h28 41 n30)) <|
    nn (pR h28 8 v0 27) fun n33 =>
    ck (inb v1 (pL h28 47 n33)) <|
    ck (inb v3 (pL h28 41 n30)) <|
    lt (wI h28 41 n30 (v3).toNatClampNeg ((pI h28 41 n30 (v3).toNatClampNeg) + (pI h28 47 n33 (v1).toNatClampNeg))) fun h37 =>
    L_X8_join_60 v0 v1 v2 κ108 f (v3 + (1 : Int32)) h37

def F_X8_join (x0 : Nat) (x1 : Int32) (x2 : Int32) (h : Hp) : Option (Int32 × Hp) :=
  cl (F_X8_isRaft x0 x1 (0 : Int32) h) fun r1 h2 =>
  if r1 = 0 then
  some ((0 : Int32), h2)
  else
  cl (F_X8_isRaft x0 x2 (0 : Int32) h2) fun r5 h6 =>
  if r5 = 0 then
  some ((0 : Int32), h6)
  else
  if x1 = x2 then
  some ((0 : Int32), h6)
  else
  nn (pR h6 8 x0 26) fun n10 =>
  ck (inb x1 (pL h6 46 n10)) <|
  ck (inb x2 (pL h6 46 n10)) <|
  if (pI h6 46 n10 (x1).toNatClampNeg) = (pI h6 46 n10 (x2).toNatClampNeg) then
  nn (pR h6 8 x0 27) fun n15 =>
  ck (inb x1 (pL h6 47 n15)) <|
  ck (inb x2 (pL h6 47 n15)) <|
  if ((pI h6 47 n15 (x1).toNatClampNeg) + (pI h6 47 n15 (x2).toNatClampNeg)) ≤ (8 : Int32) then
  L_X8_join_60 x0 x1 x2 (fun h39 =>
  nn (pR h39 8 x0 27) fun n40 =>
  ck (inb x1 (pL h39 47 n40)) <|
  ck (inb x2 (pL h39 47 n40)) <|
  ck (inb x1 (pL h39 47 n40)) <|
  lt (wI h39 47 n40 (x1).toNatClampNeg ((pI h39 47 n40 (x1).toNatClampNeg) + (pI h39 47 n40 (x2).toNatClampNeg))) fun h45 =>
  cl (F_X8_ends x0 x2 h45) fun _ h48 =>
  some ((1 : Int32), h48)) FU (0 : Int32) h6
  else
  some ((0 : Int32), h6)
  else
  some ((0 : Int32), h6)

def L_X8_part_66 {β : Type} (v0 : Nat) (v1 : Int32) (v3 : Int32) (κ134 : Hp → Option β) : Nat → Int32 → Hp → Option β
  | 0, _, _ => none
  | f + 1, v4, h =>
    if (pI h 8 v0 11) ≤ v4 then
    κ134 h
    else
    cl (F_X8_isOf v0 v4 v1 h) fun r29 h30 =>
    if r29 = 0 then
    L_X8_part_66 v0 v1 v3 κ134 f (v4 + (1 : Int32)) h30
    else
    nn (pR h30 8 v0 19) fun n33 =>
    ck (inb v4 (pL h30 41 n33)) <|
    nn (pR h30 8 v0 27) fun n36 =>
    ck (inb v1 (pL h30 47 n36)) <|
    if (pI h30 47 n36 (v1).toNatClampNeg) ≤ (pI h30 41 n33 (v4).toNatClampNeg) then
    nn (pR h30 8 v0 18) fun n40 =>
    ck (inb v4 (pL h30 40 n40)) <|
    lt (wI h30 40 n40 (v4).toNatClampNeg v3) fun h43 =>
    nn (pR h43 8 v0 19) fun n45 =>
    ck (inb v4 (pL h43 41 n45)) <|
    nn (pR h43 8 v0 27) fun n48 =>
    ck (inb v1 (pL h43 47 n48)) <|
    ck (inb v4 (pL h43 41 n45)) <|
    lt (wI h43 41 n45 (v4).toNatClampNeg ((pI h43 41 n45 (v4).toNatClampNeg) - (pI h43 47 n48 (v1).toNatClampNeg))) fun h52 =>
    L_X8_part_66 v0 v1 v3 κ134 f (v4 + (1 : Int32)) h52
    else
    L_X8_part_66 v0 v1 v3 κ134 f (v4 + (1 : Int32)) h30

def F_X8_part (x0 : Nat) (x1 : Int32) (x2 : Int32) (h : Hp) : Option (Int32 × Hp) :=
  cl (F_X8_isRaft x0 x1 (0 : Int32) h) fun r1 h2 =>
  if r1 = 0 then
  some ((-1 : Int32), h2)
  else
  if x2 < (1 : Int32) then
  some ((-1 : Int32), h2)
  else
  nn (pR h2 8 x0 27) fun n6 =>
  ck (inb x1 (pL h2 47 n6)) <|
  if (pI h2 47 n6 (x1).toNatClampNeg) ≤ x2 then
  some ((-1 : Int32), h2)
  else
  if (pI h2 8 x0 24) = (60 : Int32) then
  some ((-1 : Int32), h2)
  else
  nn (pR h2 8 x0 26) fun n11 =>
  ck (inb x1 (pL h2 46 n11)) <|
  cl (F_X8_newRaft x0 (pI h2 46 n11 (x1).toNatClampNeg) h2) fun r14 h15 =>
  nn (pR h15 8 x0 27) fun n17 =>
  ck (inb r14 (pL h15 47 n17)) <|
  lt (wI h15 47 n17 (r14).toNatClampNeg x2) fun h20 =>
  nn (pR h20 8 x0 27) fun n22 =>
  ck (inb x1 (pL h20 47 n22)) <|
  ck (inb x1 (pL h20 47 n22)) <|
  lt (wI h20 47 n22 (x1).toNatClampNeg ((pI h20 47 n22 (x1).toNatClampNeg) - x2)) fun h26 =>
  L_X8_part_66 x0 x1 r14 (fun h54 =>
  some (r14, h54)) FU (0 : Int32) h26

def F_X8_lays (x0 : Nat) (x1 : Int32) (x2 : Int32) (h : Hp) : Option (Unit × Hp) :=
  nn (pR h 8 x0 16) fun n1 =>
  ck (inb x1 (pL h 38 n1)) <|
  lt (wI h 38 n1 (x1).toNatClampNeg (0 : Int32)) fun h4 =>
  nn (pR h4 8 x0 17) fun n6 =>
  ck (inb x1 (pL h4 39 n6)) <|
  lt (wI h4 39 n6 (x1).toNatClampNeg x2) fun h9 =>
  nn (pR h9 8 x0 18) fun n11 =>
  ck (inb x1 (pL h9 40 n11)) <|
  lt (wI h9 40 n11 (x1).toNatClampNeg (-1 : Int32)) fun h14 =>
  some ((), h14)

def L_X8_unbind_13 {β : Type} (v0 : Nat) (v1 : Int32) (κ47 : Hp → Option β) : Nat → Int32 → Hp → Option β
  | 0, _, _ => none
  | f + 1, v2, h =>
    if (pI h 8 v0 11) ≤ v2 then
    κ47 h
    else
    cl (F_X8_isOf v0 v2 v1 h) fun r6 h7 =>
    if r6 = 0 then
    L_X8_unbind_13 v0 v1 κ47 f (v2 + (1 : Int32)) h7
    else
    nn (pR h7 8 v0 26) fun n10 =>
    ck (inb v1 (pL h7 46 n10)) <|
    cl (F_X8_lays v0 v2 (pI h7 46 n10 (v1).toNatClampNeg) h7) fun _ h14 =>
    L_X8_unbind_13 v0 v1 κ47 f (v2 + (1 : Int32)) h14

def F_X8_unbind (x0 : Nat) (x1 : Int32) (h : Hp) : Option (Int32 × Hp) :=
  cl (F_X8_isRaft x0 x1 (0 : Int32) h) fun r1 h2 =>
  if r1 = 0 then
  some ((0 : Int32), h2)
  else
  L_X8_unbind_13 x0 x1 (fun h16 =>
  cl (F_X8_ends x0 x1 h16) fun _ h18 =>
  some ((1 : Int32), h18)) FU (0 : Int32) h2

def L_X8_many_4 {β : Type} (v0 : Nat) (v1 : Int32) (κ35 : Int32 → Hp → Option β) : Nat → Int32 → Int32 → Hp → Option β
  | 0, _, _, _ => none
  | f + 1, v2, v3, h =>
    if (pI h 8 v0 11) ≤ v3 then
    κ35 v2 h
    else
    cl (F_X8_isOf v0 v3 v1 h) fun r2 h3 =>
    if r2 = 0 then
    L_X8_many_4 v0 v1 κ35 f (v2 + (0 : Int32)) (v3 + (1 : Int32)) h3
    else
    L_X8_many_4 v0 v1 κ35 f (v2 + (1 : Int32)) (v3 + (1 : Int32)) h3

def F_X8_many (x0 : Nat) (x1 : Int32) (h : Hp) : Option (Int32 × Hp) :=
  L_X8_many_4 x0 x1 (fun k6 h7 =>
  some (k6, h7)) FU (0 : Int32) (0 : Int32) h

def L_X8_width_20 {β : Type} (v0 : Nat) (v1 : Int32) (v2 : Int32) (v3 : Int32) (κ72 : Int32 → Hp → Option β) : Nat → Int32 → Int32 → Hp → Option β
  | 0, _, _, _ => none
  | f + 1, v4, v5, h =>
    if (pI h 8 v0 11) ≤ v5 then
    κ72 v4 h
    else
    cl (F_X8_isOf v0 v5 v1 h) fun r6 h7 =>
    if r6 = 0 then
    L_X8_width_20 v0 v1 v2 v3 κ72 f (v4 + (0 : Int32)) (v5 + (1 : Int32)) h7
    else
    nn (pR h7 8 v0 19) fun n10 =>
    ck (inb v5 (pL h7 41 n10)) <|
    if (pI h7 41 n10 (v5).toNatClampNeg) = v3 then
    nn (pR h7 8 v0 15) fun n14 =>
    ck (inb v5 (pL h7 37 n14)) <|
    L_X8_width_20 v0 v1 v2 v3 κ72 f (v4 + (pI h7 37 n14 (v5).toNatClampNeg)) (v5 + (1 : Int32)) h7
    else
    L_X8_width_20 v0 v1 v2 v3 κ72 f (v4 + (0 : Int32)) (v5 + (1 : Int32)) h7

def L_X8_width_4 {β : Type} (v0 : Nat) (v1 : Int32) (κ87 : Int32 → Hp → Option β) : Nat → Int32 → Int32 → Hp → Option β
  | 0, _, _, _ => none
  | f + 1, v2, v3, h =>
    nn (pR h 8 v0 27) fun n1 =>
    ck (inb v1 (pL h 47 n1)) <|
    if (pI h 47 n1 (v1).toNatClampNeg) ≤ v3 then
    κ87 v2 h
    else
    L_X8_width_20 v0 v1 v2 v3 (fun k17 h18 =>
    if k17 ≤ v2 then
    L_X8_width_4 v0 v1 κ87 f v2 (v3 + (1 : Int32)) h18
    else
    L_X8_width_4 v0 v1 κ87 f k17 (v3 + (1 : Int32)) h18) FU (0 : Int32) (0 : Int32) h

def F_X8_width (x0 : Nat) (x1 : Int32) (h : Hp) : Option (Int32 × Hp) :=
  L_X8_width_4 x0 x1 (fun k20 h21 =>
  some (k20, h21)) FU (0 : Int32) (0 : Int32) h

def L_X8_first_2 {β : Type} (v0 : Nat) (v1 : Int32) (κ45 : Hp → Option β) (κ37 : Int32 → Hp → Option β) : Nat → Int32 → Hp → Option β
  | 0, _, _ => none
  | f + 1, v2, h =>
    if (pI h 8 v0 11) ≤ v2 then
    κ45 h
    else
    cl (F_X8_isOf v0 v2 v1 h) fun r2 h3 =>
    if r2 = 0 then
    L_X8_first_2 v0 v1 κ45 κ37 f (v2 + (1 : Int32)) h3
    else
    nn (pR h3 8 v0 19) fun n6 =>
    ck (inb v2 (pL h3 41 n6)) <|
    if (pI h3 41 n6 (v2).toNatClampNeg) = 0 then
    nn (pR h3 8 v0 20) fun n10 =>
    ck (inb v2 (pL h3 42 n10)) <|
    if (pI h3 42 n10 (v2).toNatClampNeg) = 0 then
    κ37 v2 h3
    else
    L_X8_first_2 v0 v1 κ45 κ37 f (v2 + (1 : Int32)) h3
    else
    L_X8_first_2 v0 v1 κ45 κ37 f (v2 + (1 : Int32)) h3

def F_X8_first (x0 : Nat) (x1 : Int32) (h : Hp) : Option (Int32 × Hp) :=
  L_X8_first_2 x0 x1 (fun h14 =>
  some ((-1 : Int32), h14)) (fun k15 h16 =>
  some (k15, h16)) FU (0 : Int32) h

def F_X8_crew (x0 : Nat) (x1 : Int32) (h : Hp) : Option (Int32 × Hp) :=
  cl (F_X8_isStation x0 x1 h) fun r1 h2 =>
  if r1 = 0 then
  some ((-1 : Int32), h2)
  else
  if (pI h2 8 x0 30) = (10 : Int32) then
  some ((-1 : Int32), h2)
  else
  nn (pR h2 8 x0 31) fun n6 =>
  ck (inb (pI h2 8 x0 30) (pL h2 50 n6)) <|
  lt (wI h2 50 n6 ((pI h2 8 x0 30)).toNatClampNeg x1) fun h9 =>
  nn (pR h9 8 x0 33) fun n11 =>
  ck (inb (pI h9 8 x0 30) (pL h9 52 n11)) <|
  lt (wI h9 52 n11 ((pI h9 8 x0 30)).toNatClampNeg x1) fun h14 =>
  nn (pR h14 8 x0 34) fun n16 =>
  ck (inb (pI h14 8 x0 30) (pL h14 53 n16)) <|
  lt (wI h14 53 n16 ((pI h14 8 x0 30)).toNatClampNeg ((pI h14 8 x0 0) - (8 : Int32))) fun h19 =>
  nn (pR h19 8 x0 35) fun n21 =>
  ck (inb (pI h19 8 x0 30) (pL h19 54 n21)) <|
  lt (wI h19 54 n21 ((pI h19 8 x0 30)).toNatClampNeg (-1 : Int32)) fun h24 =>
  lt (wI h24 8 x0 30 ((pI h24 8 x0 30) + (1 : Int32))) fun h26 =>
  some (((pI h26 8 x0 30) - (1 : Int32)), h26)

def F_X8_isResting (x0 : Nat) (x1 : Int32) (h : Hp) : Option (Int32 × Hp) :=
  nn (pR h 8 x0 32) fun n1 =>
  ck (inb x1 (pL h 51 n1)) <|
  if (pI h 51 n1 (x1).toNatClampNeg) = 0 then
  nn (pR h 8 x0 34) fun n5 =>
  ck (inb x1 (pL h 53 n5)) <|
  if (8 : Int32) ≤ ((pI h 8 x0 0) - (pI h 53 n5 (x1).toNatClampNeg)) then
  some ((0 : Int32), h)
  else
  some ((1 : Int32), h)
  else
  some ((0 : Int32), h)

def F_X8_ready (x0 : Nat) (x1 : Int32) (x2 : Int32) (h : Hp) : Option (Int32 × Hp) :=
  cl (F_X8_isRaft x0 x1 (0 : Int32) h) fun r1 h2 =>
  if r1 = 0 then
  some ((0 : Int32), h2)
  else
  nn (pR h2 8 x0 26) fun n5 =>
  ck (inb x1 (pL h2 46 n5)) <|
  if (pI h2 46 n5 (x1).toNatClampNeg) = 0 then
  some ((0 : Int32), h2)
  else
  cl (F_X8_in x2 (0 : Int32) ((pI h2 8 x0 30) - (1 : Int32)) h2) fun r9 h10 =>
  if r9 = 0 then
  some ((0 : Int32), h10)
  else
  nn (pR h10 8 x0 32) fun n13 =>
  ck (inb x2 (pL h10 51 n13)) <|
  if (pI h10 51 n13 (x2).toNatClampNeg) = 0 then
  nn (pR h10 8 x0 33) fun n17 =>
  ck (inb x2 (pL h10 52 n17)) <|
  nn (pR h10 8 x0 26) fun n20 =>
  ck (inb x1 (pL h10 46 n20)) <|
  if (pI h10 52 n17 (x2).toNatClampNeg) = (pI h10 46 n20 (x1).toNatClampNeg) then
  cl (F_X8_isResting x0 x2 h10) fun r24 h25 =>
  if r24 = 0 then
  nn (pR h25 8 x0 25) fun n28 =>
  ck (inb x1 (pL h25 45 n28)) <|
  lt (wI h25 45 n28 (x1).toNatClampNeg (1 : Int32)) fun h31 =>
  nn (pR h31 8 x0 28) fun n33 =>
  ck (inb x1 (pL h31 48 n33)) <|
  lt (wI h31 48 n33 (x1).toNatClampNeg x2) fun h36 =>
  nn (pR h36 8 x0 32) fun n38 =>
  ck (inb x2 (pL h36 51 n38)) <|
  lt (wI h36 51 n38 (x2).toNatClampNeg (1 : Int32)) fun h41 =>
  some ((1 : Int32), h41)
  else
  some ((0 : Int32), h25)
  else
  some ((0 : Int32), h10)
  else
  some ((0 : Int32), h10)

def F_X8_lands (x0 : Nat) (x1 : Int32) (x2 : Int32) (x3 : Int32) (h : Hp) : Option (Unit × Hp) :=
  nn (pR h 8 x0 32) fun n1 =>
  ck (inb x1 (pL h 51 n1)) <|
  lt (wI h 51 n1 (x1).toNatClampNeg (0 : Int32)) fun h4 =>
  nn (pR h4 8 x0 33) fun n6 =>
  ck (inb x1 (pL h4 52 n6)) <|
  lt (wI h4 52 n6 (x1).toNatClampNeg x2) fun h9 =>
  nn (pR h9 8 x0 34) fun n11 =>
  ck (inb x1 (pL h9 53 n11)) <|
  lt (wI h9 53 n11 (x1).toNatClampNeg x3) fun h14 =>
  nn (pR h14 8 x0 35) fun n16 =>
  ck (inb x1 (pL h14 54 n16)) <|
  lt (wI h14 54 n16 (x1).toNatClampNeg (-1 : Int32)) fun h19 =>
  some ((), h19)

def F_X8_tie (x0 : Nat) (x1 : Int32) (h : Hp) : Option (Int32 × Hp) :=
  cl (F_X8_isRaft x0 x1 (1 : Int32) h) fun r1 h2 =>
  if r1 = 0 then
  some ((0 : Int32), h2)
  else
  nn (pR h2 8 x0 25) fun n5 =>
  ck (inb x1 (pL h2 45 n5)) <|
  lt (wI h2 45 n5 (x1).toNatClampNeg (0 : Int32)) fun h8 =>
  nn (pR h8 8 x0 28) fun n10 =>
  ck (inb x1 (pL h8 48 n10)) <|
  nn (pR h8 8 x0 26) fun n13 =>
  ck (inb x1 (pL h8 46 n13)) <|
  cl (F_X8_lands x0 (pI h8 48 n10 (x1).toNatClampNeg) (pI h8 46 n13 (x1).toNatClampNeg) ((pI h8 8 x0 0) - (8 : Int32)) h8) fun _ h17 =>
  nn (pR h17 8 x0 28) fun n19 =>
  ck (inb x1 (pL h17 48 n19)) <|
  lt (wI h17 48 n19 (x1).toNatClampNeg (-1 : Int32)) fun h22 =>
  some ((1 : Int32), h22)

def L_X8_walk_49 {β : Type} (v0 : Nat) (v1 : Int32) (κ82 : Int32 → Int32 → Hp → Option β) : Nat → Int32 → Int32 → Hp → Option β
  | 0, _, _, _ => none
  | f + 1, v2, v3, h =>
    if v3 = 0 then
    κ82 v2 v3 h
    else
    nn (pR h 8 v0 33) fun n18 =>
    ck (inb v1 (pL h 52 n18)) <|
    if v3 = (pI h 52 n18 (v1).toNatClampNeg) then
    κ82 v2 v3 h
    else
    nn (pR h 8 v0 3) fun n22 =>
    ck (inb v3 (pL h 26 n22)) <|
    nn (pR h 8 v0 2) fun n25 =>
    ck (inb v3 (pL h 25 n25)) <|
    L_X8_walk_49 v0 v1 κ82 f (v2 + (pI h 26 n22 (v3).toNatClampNeg)) (pI h 25 n25 (v3).toNatClampNeg) h

def F_X8_walk (x0 : Nat) (x1 : Int32) (h : Hp) : Option (Int32 × Hp) :=
  cl (F_X8_in x1 (0 : Int32) ((pI h 8 x0 30) - (1 : Int32)) h) fun r1 h2 =>
  if r1 = 0 then
  some ((-1 : Int32), h2)
  else
  nn (pR h2 8 x0 32) fun n5 =>
  ck (inb x1 (pL h2 51 n5)) <|
  if (pI h2 51 n5 (x1).toNatClampNeg) = 0 then
  nn (pR h2 8 x0 33) fun n9 =>
  ck (inb x1 (pL h2 52 n9)) <|
  nn (pR h2 8 x0 31) fun n12 =>
  ck (inb x1 (pL h2 50 n12)) <|
  if (pI h2 52 n9 (x1).toNatClampNeg) = (pI h2 50 n12 (x1).toNatClampNeg) then
  some ((-1 : Int32), h2)
  else
  ck (inb x1 (pL h2 50 n12)) <|
  L_X8_walk_49 x0 x1 (fun k28 k29 h30 =>
  nn (pR h30 8 x0 33) fun n31 =>
  ck (inb x1 (pL h30 52 n31)) <|
  if k29 = (pI h30 52 n31 (x1).toNatClampNeg) then
  nn (pR h30 8 x0 32) fun n35 =>
  ck (inb x1 (pL h30 51 n35)) <|
  lt (wI h30 51 n35 (x1).toNatClampNeg (2 : Int32)) fun h38 =>
  nn (pR h38 8 x0 35) fun n40 =>
  ck (inb x1 (pL h38 54 n40)) <|
  lt (wI h38 54 n40 (x1).toNatClampNeg ((pI h38 8 x0 0) + ((2 : Int32) * k28))) fun h43 =>
  nn (pR h43 8 x0 35) fun n45 =>
  ck (inb x1 (pL h43 54 n45)) <|
  some ((pI h43 54 n45 (x1).toNatClampNeg), h43)
  else
  some ((-1 : Int32), h30)) FU (0 : Int32) (pI h2 50 n12 (x1).toNatClampNeg) h2
  else
  some ((-1 : Int32), h2)

def L_X8_tollOf_4 {β : Type} (v0 : Nat) (v1 : Int32) (κ50 : Int32 → Hp → Option β) : Nat → Int32 → Int32 → Hp → Option β
  | 0, _, _, _ => none
  | f + 1, v2, v3, h =>
    if (pI h 8 v0 38) ≤ v3 then
    κ50 v2 h
    else
    nn (pR h 8 v0 39) fun n2 =>
    ck (inb v3 (pL h 57 n2)) <|
    if v1 < (pI h 57 n2 (v3).toNatClampNeg) then
    L_X8_tollOf_4 v0 v1 κ50 f v2 (v3 + (1 : Int32)) h
    else
    if v2 = (-1 : Int32) then
    L_X8_tollOf_4 v0 v1 κ50 f v3 (v3 + (1 : Int32)) h
    else
    ck (inb v3 (pL h 57 n2)) <|
    ck (inb v2 (pL h 57 n2)) <|
    if (pI h 57 n2 (v3).toNatClampNeg) < (pI h 57 n2 (v2).toNatClampNeg) then
    L_X8_tollOf_4 v0 v1 κ50 f v2 (v3 + (1 : Int32)) h
    else
    L_X8_tollOf_4 v0 v1 κ50 f v3 (v3 + (1 : Int32)) h

def F_X8_tollOf (x0 : Nat) (x1 : Int32) (h : Hp) : Option (Int32 × Hp) :=
  L_X8_tollOf_4 x0 x1 (fun k10 h11 =>
  if k10 = (-1 : Int32) then
  some ((0 : Int32), h11)
  else
  nn (pR h11 8 x0 40) fun n13 =>
  ck (inb k10 (pL h11 58 n13)) <|
  some ((pI h11 58 n13 (k10).toNatClampNeg), h11)) FU (-1 : Int32) (0 : Int32) h

def L_X8_arrivals_2 {β : Type} (v0 : Nat) (κ83 : Hp → Option β) : Nat → Int32 → Hp → Option β
  | 0, _, _ => none
  | f + 1, v1, h =>
    if (pI h 8 v0 24) ≤ v1 then
    κ83 h
    else
    nn (pR h 8 v0 25) fun n2 =>
    ck (inb v1 (pL h 45 n2)) <|
    if (pI h 45 n2 (v1).toNatClampNeg) = (2 : Int32) then
    nn (pR h 8 v0 29) fun n6 =>
    ck (inb v1 (pL h 49 n6)) <|
    if (pI h 49 n6 (v1).toNatClampNeg) = (pI h 8 v0 0) then
    ck (inb v1 (pL h 45 n2)) <|
    lt (wI h 45 n2 (v1).toNatClampNeg (0 : Int32)) fun h11 =>
    nn (pR h11 8 v0 29) fun n13 =>
    ck (inb v1 (pL h11 49 n13)) <|
    lt (wI h11 49 n13 (v1).toNatClampNeg (-1 : Int32)) fun h16 =>
    nn (pR h16 8 v0 28) fun n18 =>
    ck (inb v1 (pL h16 48 n18)) <|
    nn (pR h16 8 v0 26) fun n21 =>
    ck (inb v1 (pL h16 46 n21)) <|
    cl (F_X8_lands v0 (pI h16 48 n18 (v1).toNatClampNeg) (pI h16 46 n21 (v1).toNatClampNeg) (pI h16 8 v0 0) h16) fun _ h25 =>
    nn (pR h25 8 v0 28) fun n27 =>
    ck (inb v1 (pL h25 48 n27)) <|
    lt (wI h25 48 n27 (v1).toNatClampNeg (-1 : Int32)) fun h30 =>
    L_X8_arrivals_2 v0 κ83 f (v1 + (1 : Int32)) h30
    else
    L_X8_arrivals_2 v0 κ83 f (v1 + (1 : Int32)) h
    else
    L_X8_arrivals_2 v0 κ83 f (v1 + (1 : Int32)) h

def L_X8_arrivals_85 {β : Type} (v0 : Nat) (κ137 : Hp → Option β) : Nat → Int32 → Hp → Option β
  | 0, _, _ => none
  | f + 1, v1, h =>
    if (pI h 8 v0 30) ≤ v1 then
    κ137 h
    else
    nn (pR h 8 v0 32) fun n34 =>
    ck (inb v1 (pL h 51 n34)) <|
    if (pI h 51 n34 (v1).toNatClampNeg) = (2 : Int32) then
    nn (pR h 8 v0 35) fun n38 =>
    ck (inb v1 (pL h 54 n38)) <|
    if (pI h 54 n38 (v1).toNatClampNeg) = (pI h 8 v0 0) then
    nn (pR h 8 v0 31) fun n42 =>
    ck (inb v1 (pL h 50 n42)) <|
    cl (F_X8_lands v0 v1 (pI h 50 n42 (v1).toNatClampNeg) (pI h 8 v0 0) h) fun _ h46 =>
    L_X8_arrivals_85 v0 κ137 f (v1 + (1 : Int32)) h46
    else
    L_X8_arrivals_85 v0 κ137 f (v1 + (1 : Int32)) h
    else
    L_X8_arrivals_85 v0 κ137 f (v1 + (1 : Int32)) h

def F_X8_arrivals (x0 : Nat) (h : Hp) : Option (Unit × Hp) :=
  L_X8_arrivals_2 x0 (fun h32 =>
  L_X8_arrivals_85 x0 (fun h48 =>
  some ((), h48)) FU (0 : Int32) h32) FU (0 : Int32) h

def F_X8_isAhead (x0 : Nat) (x1 : Int32) (x2 : Int32) (h : Hp) : Option (Int32 × Hp) :=
  cl (F_X8_first x0 x1 h) fun r1 h2 =>
  nn (pR h 8 x0 13) fun n4 =>
  ck (inb r1 (pL h2 35 n4)) <|
  nn (pR h 8 x0 36) fun n7 =>
  ck (inb (pI h2 35 n4 (r1).toNatClampNeg) (pL h2 55 n7)) <|
  cl (F_X8_first x0 x2 h2) fun r10 h11 =>
  nn (pR h2 8 x0 13) fun n13 =>
  ck (inb r10 (pL h11 35 n13)) <|
  nn (pR h2 8 x0 36) fun n16 =>
  ck (inb (pI h11 35 n13 (r10).toNatClampNeg) (pL h11 55 n16)) <|
  if (pI h2 55 n7 ((pI h2 35 n4 (r1).toNatClampNeg)).toNatClampNeg) < (pI h11 55 n16 ((pI h11 35 n13 (r10).toNatClampNeg)).toNatClampNeg) then
  some ((1 : Int32), h11)
  else
  if (pI h2 55 n7 ((pI h2 35 n4 (r1).toNatClampNeg)).toNatClampNeg) = (pI h11 55 n16 ((pI h11 35 n13 (r10).toNatClampNeg)).toNatClampNeg) then
  cl (F_X8_many x0 x1 h11) fun r21 h22 =>
  cl (F_X8_many x0 x2 h22) fun r24 h25 =>
  if r21 ≤ r24 then
  some ((0 : Int32), h25)
  else
  some ((1 : Int32), h25)
  else
  some ((0 : Int32), h11)

def L_X8_weir_29 {β : Type} (v0 : Nat) (v1 : Int32) (κ113 : Int32 → Hp → Option β) : Nat → Int32 → Int32 → Hp → Option β
  | 0, _, _, _ => none
  | f + 1, v2, v3, h =>
    if (pI h 8 v0 24) ≤ v3 then
    κ113 v2 h
    else
    nn (pR h 8 v0 25) fun n12 =>
    ck (inb v3 (pL h 45 n12)) <|
    if (pI h 45 n12 (v3).toNatClampNeg) = (1 : Int32) then
    nn (pR h 8 v0 26) fun n16 =>
    ck (inb v3 (pL h 46 n16)) <|
    if (pI h 46 n16 (v3).toNatClampNeg) = v1 then
    cl (F_X8_width v0 v3 h) fun r20 h21 =>
    nn (pR h21 8 v0 4) fun n23 =>
    ck (inb v1 (pL h21 27 n23)) <|
    if (pI h21 27 n23 (v1).toNatClampNeg) < r20 then
    L_X8_weir_29 v0 v1 κ113 f v2 (v3 + (1 : Int32)) h21
    else
    nn (pR h21 8 v0 27) fun n27 =>
    ck (inb v3 (pL h21 47 n27)) <|
    nn (pR h21 8 v0 7) fun n30 =>
    ck (inb v1 (pL h21 30 n30)) <|
    if ((5 : Int32) * (pI h21 47 n27 (v3).toNatClampNeg)) ≤ (pI h21 30 n30 (v1).toNatClampNeg) then
    if v2 = (-1 : Int32) then
    L_X8_weir_29 v0 v1 κ113 f v3 (v3 + (1 : Int32)) h21
    else
    cl (F_X8_isAhead v0 v3 v2 h21) fun r35 h36 =>
    if r35 = 0 then
    L_X8_weir_29 v0 v1 κ113 f v2 (v3 + (1 : Int32)) h36
    else
    L_X8_weir_29 v0 v1 κ113 f v3 (v3 + (1 : Int32)) h36
    else
    L_X8_weir_29 v0 v1 κ113 f v2 (v3 + (1 : Int32)) h21
    else
    L_X8_weir_29 v0 v1 κ113 f v2 (v3 + (1 : Int32)) h
    else
    L_X8_weir_29 v0 v1 κ113 f v2 (v3 + (1 : Int32)) h

def L_X8_weir_187 {β : Type} (v0 : Nat) (v2 : Int32) (v3 : Int32) (κ241 : Hp → Option β) : Nat → Int32 → Hp → Option β
  | 0, _, _ => none
  | f + 1, v4, h =>
    if (pI h 8 v0 11) ≤ v4 then
    κ241 h
    else
    cl (F_X8_isOf v0 v4 v2 h) fun r76 h77 =>
    if r76 = 0 then
    L_X8_weir_187 v0 v2 v3 κ241 f (v4 + (1 : Int32)) h77
    else
    nn (pR h77 8 v0 13) fun n80 =>
    ck (inb v4 (pL h77 35 n80)) <|
    nn (pR h77 8 v0 37) fun n83 =>
    ck (inb (pI h77 35 n80 (v4).toNatClampNeg) (pL h77 56 n83)) <|
    ck (inb (pI h77 35 n80 (v4).toNatClampNeg) (pL h77 56 n83)) <|
    lt (wI h77 56 n83 ((pI h77 35 n80 (v4).toNatClampNeg)).toNatClampNeg ((pI h77 56 n83 ((pI h77 35 n80 (v4).toNatClampNeg)).toNatClampNeg) - v3)) fun h87 =>
    lt (wI h87 8 v0 46 ((pI h87 8 v0 46) + v3)) fun h89 =>
    L_X8_weir_187 v0 v2 v3 κ241 f (v4 + (1 : Int32)) h89

def F_X8_weir (x0 : Nat) (x1 : Int32) (h : Hp) : Option (Unit × Hp) :=
  nn (pR h 8 x0 9) fun n1 =>
  ck (inb x1 (pL h 32 n1)) <|
  nn (pR h 8 x0 10) fun n4 =>
  ck (inb x1 (pL h 33 n4)) <|
  cl (F_X8_in (pI h 8 x0 0) (pI h 32 n1 (x1).toNatClampNeg) ((pI h 33 n4 (x1).toNatClampNeg) - (1 : Int32)) h) fun r7 h8 =>
  if r7 = 0 then
  L_X8_weir_29 x0 x1 (fun k39 h40 =>
  if k39 = (-1 : Int32) then
  some ((), h40)
  else
  nn (pR h40 8 x0 7) fun n42 =>
  ck (inb x1 (pL h40 30 n42)) <|
  nn (pR h40 8 x0 27) fun n45 =>
  ck (inb k39 (pL h40 47 n45)) <|
  ck (inb x1 (pL h40 30 n42)) <|
  lt (wI h40 30 n42 (x1).toNatClampNeg ((pI h40 30 n42 (x1).toNatClampNeg) - ((5 : Int32) * (pI h40 47 n45 (k39).toNatClampNeg)))) fun h49 =>
  nn (pR h49 8 x0 25) fun n51 =>
  ck (inb k39 (pL h49 45 n51)) <|
  lt (wI h49 45 n51 (k39).toNatClampNeg (2 : Int32)) fun h54 =>
  nn (pR h54 8 x0 2) fun n56 =>
  ck (inb x1 (pL h54 25 n56)) <|
  nn (pR h54 8 x0 26) fun n59 =>
  ck (inb k39 (pL h54 46 n59)) <|
  lt (wI h54 46 n59 (k39).toNatClampNeg (pI h54 25 n56 (x1).toNatClampNeg)) fun h62 =>
  nn (pR h62 8 x0 3) fun n64 =>
  ck (inb x1 (pL h62 26 n64)) <|
  nn (pR h62 8 x0 29) fun n67 =>
  ck (inb k39 (pL h62 49 n67)) <|
  lt (wI h62 49 n67 (k39).toNatClampNeg ((pI h62 8 x0 0) + (pI h62 26 n64 (x1).toNatClampNeg))) fun h70 =>
  cl (F_X8_tollOf x0 ((pI h70 8 x0 0) / (24 : Int32)) h70) fun r72 h73 =>
  L_X8_weir_187 x0 k39 r72 (fun h91 =>
  some ((), h91)) FU (0 : Int32) h73) FU (-1 : Int32) (0 : Int32) h8
  else
  some ((), h8)

def L_X8_go_36 {β : Type} (v0 : Nat) (v1 : Int32) (v2 : Int32) (κ55 : Hp → Option β) : Nat → Int32 → Hp → Option β
  | 0, _, _ => none
  | f + 1, v3, h =>
    if (pI h 8 v0 1) ≤ v3 then
    κ55 h
    else
    cl (F_X8_weir v0 v3 h) fun _ h12 =>
    L_X8_go_36 v0 v1 v2 κ55 f (v3 + (1 : Int32)) h12

def L_X8_go_57 {β : Type} (v0 : Nat) (v1 : Int32) (v2 : Int32) (κ121 : Hp → Option β) : Nat → Int32 → Hp → Option β
  | 0, _, _ => none
  | f + 1, v3, h =>
    if (pI h 8 v0 1) ≤ v3 then
    κ121 h
    else
    nn (pR h 8 v0 7) fun n16 =>
    ck (inb v3 (pL h 30 n16)) <|
    nn (pR h 8 v0 5) fun n19 =>
    ck (inb v3 (pL h 28 n19)) <|
    nn (pR h 8 v0 6) fun n22 =>
    ck (inb v3 (pL h 29 n22)) <|
    if ((pI h 30 n16 (v3).toNatClampNeg) + (pI h 28 n19 (v3).toNatClampNeg)) ≤ (pI h 29 n22 (v3).toNatClampNeg) then
    ck (inb v3 (pL h 30 n16)) <|
    ck (inb v3 (pL h 28 n19)) <|
    ck (inb v3 (pL h 30 n16)) <|
    lt (wI h 30 n16 (v3).toNatClampNeg ((pI h 30 n16 (v3).toNatClampNeg) + (pI h 28 n19 (v3).toNatClampNeg))) fun h29 =>
    L_X8_go_57 v0 v1 v2 κ121 f (v3 + (1 : Int32)) h29
    else
    ck (inb v3 (pL h 29 n22)) <|
    ck (inb v3 (pL h 30 n16)) <|
    lt (wI h 30 n16 (v3).toNatClampNeg (pI h 29 n22 (v3).toNatClampNeg)) fun h33 =>
    L_X8_go_57 v0 v1 v2 κ121 f (v3 + (1 : Int32)) h33

def L_X8_go_15 {β : Type} (v0 : Nat) (v1 : Int32) (κ137 : Hp → Option β) : Nat → Int32 → Hp → Option β
  | 0, _, _ => none
  | f + 1, v2, h =>
    if v1 ≤ v2 then
    κ137 h
    else
    if (20000 : Int32) ≤ (pI h 8 v0 0) then
    κ137 h
    else
    cl (F_X8_arrivals v0 h) fun _ h8 =>
    L_X8_go_36 v0 v1 v2 (fun h14 =>
    L_X8_go_57 v0 v1 v2 (fun h35 =>
    lt (wI h35 8 v0 0 ((pI h35 8 v0 0) + (1 : Int32))) fun h36 =>
    L_X8_go_15 v0 v1 κ137 f (v2 + (1 : Int32)) h36) FU (1 : Int32) h14) FU (1 : Int32) h8

def F_X8_go (x0 : Nat) (x1 : Int32) (h : Hp) : Option (Int32 × Hp) :=
  cl (F_X8_in x1 (0 : Int32) (500 : Int32) h) fun r1 h2 =>
  if r1 = 0 then
  some ((-1 : Int32), h2)
  else
  L_X8_go_15 x0 x1 (fun h38 =>
  some ((pI h38 8 x0 0), h38)) FU (0 : Int32) h2

def F_X8_storm (x0 : Nat) (x1 : Int32) (x2 : Int32) (x3 : Int32) (h : Hp) : Option (Int32 × Hp) :=
  cl (F_X8_isStation x0 x1 h) fun r1 h2 =>
  if r1 = 0 then
  some ((0 : Int32), h2)
  else
  if x2 < (pI h2 8 x0 0) then
  some ((0 : Int32), h2)
  else
  if x2 < x3 then
  nn (pR h2 8 x0 9) fun n7 =>
  ck (inb x1 (pL h2 32 n7)) <|
  lt (wI h2 32 n7 (x1).toNatClampNeg x2) fun h10 =>
  nn (pR h10 8 x0 10) fun n12 =>
  ck (inb x1 (pL h10 33 n12)) <|
  lt (wI h10 33 n12 (x1).toNatClampNeg x3) fun h15 =>
  some ((1 : Int32), h15)
  else
  some ((0 : Int32), h2)

def L_X8_breaks_16 {β : Type} (v0 : Nat) (v1 : Int32) (v2 : Int32) (κ86 : Int32 → Hp → Option β) : Nat → Int32 → Int32 → Hp → Option β
  | 0, _, _, _ => none
  | f + 1, v3, v4, h =>
    if (pI h 8 v0 11) ≤ v4 then
    κ86 v3 h
    else
    cl (F_X8_isOf v0 v4 v1 h) fun r6 h7 =>
    if r6 = 0 then
    L_X8_breaks_16 v0 v1 v2 κ86 f v3 (v4 + (1 : Int32)) h7
    else
    nn (pR h7 8 v0 26) fun n10 =>
    ck (inb v1 (pL h7 46 n10)) <|
    cl (F_X8_lays v0 v4 (pI h7 46 n10 (v1).toNatClampNeg) h7) fun _ h14 =>
    if v2 = 0 then
    if (v4 - v4 / (2 : Int32) * (2 : Int32)) = (0 : Int32) then
    nn (pR h14 8 v0 16) fun n18 =>
    ck (inb v4 (pL h14 38 n18)) <|
    lt (wI h14 38 n18 (v4).toNatClampNeg (3 : Int32)) fun h21 =>
    L_X8_breaks_16 v0 v1 v2 κ86 f (v3 + (1 : Int32)) (v4 + (1 : Int32)) h21
    else
    L_X8_breaks_16 v0 v1 v2 κ86 f v3 (v4 + (1 : Int32)) h14
    else
    if (v4 - v4 / (2 : Int32) * (2 : Int32)) = (1 : Int32) then
    nn (pR h14 8 v0 16) fun n24 =>
    ck (inb v4 (pL h14 38 n24)) <|
    lt (wI h14 38 n24 (v4).toNatClampNeg (3 : Int32)) fun h27 =>
    L_X8_breaks_16 v0 v1 v2 κ86 f (v3 + (1 : Int32)) (v4 + (1 : Int32)) h27
    else
    L_X8_breaks_16 v0 v1 v2 κ86 f v3 (v4 + (1 : Int32)) h14

def F_X8_breaks (x0 : Nat) (x1 : Int32) (x2 : Int32) (h : Hp) : Option (Int32 × Hp) :=
  cl (F_X8_isRaft x0 x1 (2 : Int32) h) fun r1 h2 =>
  if r1 = 0 then
  some ((-1 : Int32), h2)
  else
  L_X8_breaks_16 x0 x1 x2 (fun k29 h30 =>
  nn (pR h30 8 x0 28) fun n31 =>
  ck (inb x1 (pL h30 48 n31)) <|
  nn (pR h30 8 x0 26) fun n34 =>
  ck (inb x1 (pL h30 46 n34)) <|
  cl (F_X8_lands x0 (pI h30 48 n31 (x1).toNatClampNeg) (pI h30 46 n34 (x1).toNatClampNeg) (pI h30 8 x0 0) h30) fun _ h38 =>
  cl (F_X8_ends x0 x1 h38) fun _ h41 =>
  some (k29, h41)) FU (0 : Int32) (0 : Int32) h2

def F_X8_right (x0 : Nat) (x1 : Int32) (x2 : Int32) (h : Hp) : Option (Int32 × Hp) :=
  cl (F_X8_in x1 (0 : Int32) (7 : Int32) h) fun r1 h2 =>
  if r1 = 0 then
  some ((0 : Int32), h2)
  else
  cl (F_X8_in x2 (0 : Int32) (9 : Int32) h2) fun r5 h6 =>
  if r5 = 0 then
  some ((0 : Int32), h6)
  else
  nn (pR h6 8 x0 36) fun n9 =>
  ck (inb x1 (pL h6 55 n9)) <|
  lt (wI h6 55 n9 (x1).toNatClampNeg x2) fun h12 =>
  some ((1 : Int32), h12)

def F_X8_toll (x0 : Nat) (x1 : Int32) (x2 : Int32) (h : Hp) : Option (Int32 × Hp) :=
  cl (F_X8_in x1 (0 : Int32) (1000 : Int32) h) fun r1 h2 =>
  if r1 = 0 then
  some ((0 : Int32), h2)
  else
  cl (F_X8_in x2 (0 : Int32) (100 : Int32) h2) fun r5 h6 =>
  if r5 = 0 then
  some ((0 : Int32), h6)
  else
  if (pI h6 8 x0 38) = (30 : Int32) then
  some ((0 : Int32), h6)
  else
  nn (pR h6 8 x0 39) fun n10 =>
  ck (inb (pI h6 8 x0 38) (pL h6 57 n10)) <|
  lt (wI h6 57 n10 ((pI h6 8 x0 38)).toNatClampNeg x1) fun h13 =>
  nn (pR h13 8 x0 40) fun n15 =>
  ck (inb (pI h13 8 x0 38) (pL h13 58 n15)) <|
  lt (wI h13 58 n15 ((pI h13 8 x0 38)).toNatClampNeg x2) fun h18 =>
  lt (wI h18 8 x0 38 ((pI h18 8 x0 38) + (1 : Int32))) fun h20 =>
  some ((1 : Int32), h20)

def F_X8_price (x0 : Nat) (x1 : Int32) (x2 : Int32) (x3 : Int32) (x4 : Int32) (h : Hp) : Option (Int32 × Hp) :=
  cl (F_X8_isStation x0 x1 h) fun r1 h2 =>
  if r1 = 0 then
  some ((0 : Int32), h2)
  else
  nn (pR h2 8 x0 8) fun n5 =>
  ck (inb x1 (pL h2 31 n5)) <|
  if (pI h2 31 n5 (x1).toNatClampNeg) = 0 then
  some ((0 : Int32), h2)
  else
  cl (F_X8_in x2 (0 : Int32) (3 : Int32) h2) fun r9 h10 =>
  if r9 = 0 then
  some ((0 : Int32), h10)
  else
  cl (F_X8_in x3 (0 : Int32) (1000 : Int32) h10) fun r13 h14 =>
  if r13 = 0 then
  some ((0 : Int32), h14)
  else
  cl (F_X8_in x4 (0 : Int32) (1000 : Int32) h14) fun r17 h18 =>
  if r17 = 0 then
  some ((0 : Int32), h18)
  else
  if (pI h18 8 x0 41) = (100 : Int32) then
  some ((0 : Int32), h18)
  else
  nn (pR h18 8 x0 42) fun n22 =>
  ck (inb (pI h18 8 x0 41) (pL h18 59 n22)) <|
  lt (wI h18 59 n22 ((pI h18 8 x0 41)).toNatClampNeg x1) fun h25 =>
  nn (pR h25 8 x0 43) fun n27 =>
  ck (inb (pI h25 8 x0 41) (pL h25 60 n27)) <|
  lt (wI h25 60 n27 ((pI h25 8 x0 41)).toNatClampNeg x2) fun h30 =>
  nn (pR h30 8 x0 44) fun n32 =>
  ck (inb (pI h30 8 x0 41) (pL h30 61 n32)) <|
  lt (wI h30 61 n32 ((pI h30 8 x0 41)).toNatClampNeg x3) fun h35 =>
  nn (pR h35 8 x0 45) fun n37 =>
  ck (inb (pI h35 8 x0 41) (pL h35 62 n37)) <|
  lt (wI h35 62 n37 ((pI h35 8 x0 41)).toNatClampNeg x4) fun h40 =>
  lt (wI h40 8 x0 41 ((pI h40 8 x0 41) + (1 : Int32))) fun h42 =>
  some ((1 : Int32), h42)

def L_X8_priceNow_5 {β : Type} (v0 : Nat) (v1 : Int32) (v2 : Int32) (κ83 : Int32 → Hp → Option β) : Nat → Int32 → Int32 → Hp → Option β
  | 0, _, _, _ => none
  | f + 1, v3, v4, h =>
    if (pI h 8 v0 41) ≤ v4 then
    κ83 v3 h
    else
    nn (pR h 8 v0 42) fun n2 =>
    ck (inb v4 (pL h 59 n2)) <|
    if (pI h 59 n2 (v4).toNatClampNeg) = v1 then
    nn (pR h 8 v0 43) fun n6 =>
    ck (inb v4 (pL h 60 n6)) <|
    if (pI h 60 n6 (v4).toNatClampNeg) = v2 then
    nn (pR h 8 v0 44) fun n10 =>
    ck (inb v4 (pL h 61 n10)) <|
    if ((pI h 8 v0 0) / (24 : Int32)) < (pI h 61 n10 (v4).toNatClampNeg) then
    L_X8_priceNow_5 v0 v1 v2 κ83 f v3 (v4 + (1 : Int32)) h
    else
    if v3 = (-1 : Int32) then
    L_X8_priceNow_5 v0 v1 v2 κ83 f v4 (v4 + (1 : Int32)) h
    else
    ck (inb v4 (pL h 61 n10)) <|
    ck (inb v3 (pL h 61 n10)) <|
    if (pI h 61 n10 (v4).toNatClampNeg) < (pI h 61 n10 (v3).toNatClampNeg) then
    L_X8_priceNow_5 v0 v1 v2 κ83 f v3 (v4 + (1 : Int32)) h
    else
    L_X8_priceNow_5 v0 v1 v2 κ83 f v4 (v4 + (1 : Int32)) h
    else
    L_X8_priceNow_5 v0 v1 v2 κ83 f v3 (v4 + (1 : Int32)) h
    else
    L_X8_priceNow_5 v0 v1 v2 κ83 f v3 (v4 + (1 : Int32)) h

def F_X8_priceNow (x0 : Nat) (x1 : Int32) (x2 : Int32) (h : Hp) : Option (Int32 × Hp) :=
  L_X8_priceNow_5 x0 x1 x2 (fun k18 h19 =>
  if k18 = (-1 : Int32) then
  some ((0 : Int32), h19)
  else
  nn (pR h19 8 x0 45) fun n21 =>
  ck (inb k18 (pL h19 62 n21)) <|
  some ((pI h19 62 n21 (k18).toNatClampNeg), h19)) FU (-1 : Int32) (0 : Int32) h

def F_X8_sell (x0 : Nat) (x1 : Int32) (h : Hp) : Option (Int32 × Hp) :=
  cl (F_X8_isTrunk x0 x1 h) fun r1 h2 =>
  if r1 = 0 then
  some ((-1 : Int32), h2)
  else
  nn (pR h2 8 x0 16) fun n5 =>
  ck (inb x1 (pL h2 38 n5)) <|
  if (pI h2 38 n5 (x1).toNatClampNeg) = 0 then
  nn (pR h2 8 x0 17) fun n9 =>
  ck (inb x1 (pL h2 39 n9)) <|
  nn (pR h2 8 x0 8) fun n12 =>
  ck (inb (pI h2 39 n9 (x1).toNatClampNeg) (pL h2 31 n12)) <|
  if (pI h2 31 n12 ((pI h2 39 n9 (x1).toNatClampNeg)).toNatClampNeg) = 0 then
  some ((-1 : Int32), h2)
  else
  cl (F_X8_isNext x0 x1 h2) fun r16 h17 =>
  if r16 = 0 then
  nn (pR h17 8 x0 17) fun n20 =>
  ck (inb x1 (pL h17 39 n20)) <|
  nn (pR h17 8 x0 14) fun n23 =>
  ck (inb x1 (pL h17 36 n23)) <|
  cl (F_X8_priceNow x0 (pI h17 39 n20 (x1).toNatClampNeg) (pI h17 36 n23 (x1).toNatClampNeg) h17) fun r26 h27 =>
  nn (pR h27 8 x0 15) fun n29 =>
  ck (inb x1 (pL h27 37 n29)) <|
  nn (pR h27 8 x0 16) fun n32 =>
  ck (inb x1 (pL h27 38 n32)) <|
  lt (wI h27 38 n32 (x1).toNatClampNeg (2 : Int32)) fun h35 =>
  nn (pR h35 8 x0 21) fun n37 =>
  ck (inb x1 (pL h35 43 n37)) <|
  lt (wI h35 43 n37 (x1).toNatClampNeg (r26 * (pI h27 37 n29 (x1).toNatClampNeg))) fun h40 =>
  nn (pR h40 8 x0 13) fun n42 =>
  ck (inb x1 (pL h40 35 n42)) <|
  nn (pR h40 8 x0 37) fun n45 =>
  ck (inb (pI h40 35 n42 (x1).toNatClampNeg) (pL h40 56 n45)) <|
  ck (inb (pI h40 35 n42 (x1).toNatClampNeg) (pL h40 56 n45)) <|
  lt (wI h40 56 n45 ((pI h40 35 n42 (x1).toNatClampNeg)).toNatClampNeg ((pI h40 56 n45 ((pI h40 35 n42 (x1).toNatClampNeg)).toNatClampNeg) + (r26 * (pI h27 37 n29 (x1).toNatClampNeg)))) fun h49 =>
  some ((r26 * (pI h27 37 n29 (x1).toNatClampNeg)), h49)
  else
  some ((-1 : Int32), h17)
  else
  some ((-1 : Int32), h2)

def F_X8_advance (x0 : Nat) (x1 : Int32) (x2 : Int32) (h : Hp) : Option (Int32 × Hp) :=
  cl (F_X8_in x1 (0 : Int32) (7 : Int32) h) fun r1 h2 =>
  if r1 = 0 then
  some ((-2147483648 : Int32), h2)
  else
  cl (F_X8_in x2 (1 : Int32) (100000 : Int32) h2) fun r5 h6 =>
  if r5 = 0 then
  some ((-2147483648 : Int32), h6)
  else
  nn (pR h6 8 x0 37) fun n9 =>
  ck (inb x1 (pL h6 56 n9)) <|
  ck (inb x1 (pL h6 56 n9)) <|
  lt (wI h6 56 n9 (x1).toNatClampNeg ((pI h6 56 n9 (x1).toNatClampNeg) - x2)) fun h13 =>
  nn (pR h13 8 x0 37) fun n15 =>
  ck (inb x1 (pL h13 56 n15)) <|
  some ((pI h13 56 n15 (x1).toNatClampNeg), h13)

def F_X8_balance (x0 : Nat) (x1 : Int32) (h : Hp) : Option (Int32 × Hp) :=
  cl (F_X8_in x1 (0 : Int32) (7 : Int32) h) fun r1 h2 =>
  if r1 = 0 then
  some ((0 : Int32), h2)
  else
  nn (pR h2 8 x0 37) fun n5 =>
  ck (inb x1 (pL h2 56 n5)) <|
  some ((pI h2 56 n5 (x1).toNatClampNeg), h2)

def L_X8_orders_20 {β : Type} (v0 : Nat) (v2 : Int32) (v3 : Int32) (v4 : Int32) (v5 : Int32) (κ42 : Int32 → Hp → Option β) : Nat → Int32 → Int32 → Hp → Option β
  | 0, _, _, _ => none
  | f + 1, v6, v7, h =>
    if (v2 - v5) ≤ v7 then
    κ42 v6 h
    else
    L_X8_orders_20 v0 v2 v3 v4 v5 κ42 f (v6 * v7) (v7 + (1 : Int32)) h

def L_X8_orders_56 {β : Type} (v0 : Nat) (v2 : Int32) (v3 : Int32) (v4 : Int32) (v5 : Int32) (v7 : Int32) (κ73 : Int32 → Hp → Option β) : Nat → Int32 → Hp → Option β
  | 0, _, _ => none
  | f + 1, v8, h =>
    if ((v4 >>> (v8 &&& 31)) &&& (1 : Int32)) = (1 : Int32) then
    L_X8_orders_56 v0 v2 v3 v4 v5 v7 κ73 f (v8 + (1 : Int32)) h
    else
    κ73 v8 h

def L_X8_orders_81 {β : Type} (v0 : Nat) (v2 : Int32) (v3 : Int32) (v4 : Int32) (v5 : Int32) (v7 : Int32) (κ98 : Int32 → Hp → Option β) : Nat → Int32 → Hp → Option β
  | 0, _, _ => none
  | f + 1, v8, h =>
    if ((v4 >>> (v8 &&& 31)) &&& (1 : Int32)) = (1 : Int32) then
    L_X8_orders_81 v0 v2 v3 v4 v5 v7 κ98 f (v8 + (1 : Int32)) h
    else
    κ98 v8 h

def L_X8_orders_73 {β : Type} (v0 : Nat) (v2 : Int32) (v3 : Int32) (v4 : Int32) (v5 : Int32) (κ104 : Int32 → Hp → Option β) : Nat → Int32 → Int32 → Hp → Option β
  | 0, _, _, _ => none
  | f + 1, v7, v8, h =>
    if v7 ≤ 0 then
    κ104 v8 h
    else
    L_X8_orders_81 v0 v2 v3 v4 v5 v7 (fun k12 h13 =>
    L_X8_orders_73 v0 v2 v3 v4 v5 κ104 f (v7 + (-1 : Int32)) k12 h13) FU (v8 + (1 : Int32)) h

def L_X8_orders_8 {β : Type} (v0 : Nat) (v2 : Int32) (κ128 : Hp → Option β) : Nat → Int32 → Int32 → Int32 → Hp → Option β
  | 0, _, _, _, _ => none
  | f + 1, v3, v4, v5, h =>
    if v2 ≤ v5 then
    κ128 h
    else
    L_X8_orders_20 v0 v2 v3 v4 v5 (fun k3 h4 =>
    ck (nz k3) <|
    ck (nz k3) <|
    L_X8_orders_56 v0 v2 (v3 - v3 / k3 * k3) v4 v5 (v3 / k3) (fun k8 h9 =>
    L_X8_orders_73 v0 v2 (v3 - v3 / k3 * k3) v4 v5 (fun k14 h15 =>
    nn (pR h15 8 v0 48) fun n16 =>
    ck (inb v5 (pL h15 64 n16)) <|
    lt (wI h15 64 n16 (v5).toNatClampNeg k14) fun h19 =>
    L_X8_orders_8 v0 v2 κ128 f (v3 - v3 / k3 * k3) (v4 ||| ((1 : Int32) <<< (k14 &&& 31))) (v5 + (1 : Int32)) h19) FU (v3 / k3) k8 h9) FU (0 : Int32) h4) FU (1 : Int32) (2 : Int32) h

def F_X8_orders (x0 : Nat) (x1 : Int32) (x2 : Int32) (h : Hp) : Option (Unit × Hp) :=
  L_X8_orders_8 x0 x2 (fun h21 =>
  some ((), h21)) FU x1 (0 : Int32) (0 : Int32) h

def L_X8_sumOf_46 {β : Type} (v0 : Nat) (v1 : Int32) (v2 : Int32) (v5 : Int32) (v6 : Int32) (v7 : Int32) (κ104 : Int32 → Int32 → Hp → Option β) (κ61 : Hp → Option β) : Nat → Int32 → Int32 → Hp → Option β
  | 0, _, _, _ => none
  | f + 1, v3, v4, h =>
    if v7 ≤ v3 then
    κ104 v3 v4 h
    else
    nn (pR h 8 v0 5) fun n15 =>
    ck (inb v1 (pL h 28 n15)) <|
    if (pI h 28 n15 (v1).toNatClampNeg) = 0 then
    κ61 h
    else
    ck (inb v1 (pL h 28 n15)) <|
    nn (pR h 8 v0 6) fun n20 =>
    ck (inb v1 (pL h 29 n20)) <|
    if (v3 + (pI h 28 n15 (v1).toNatClampNeg)) ≤ (pI h 29 n20 (v1).toNatClampNeg) then
    ck (inb v1 (pL h 28 n15)) <|
    L_X8_sumOf_46 v0 v1 v2 v5 v6 v7 κ104 κ61 f (v3 + (pI h 28 n15 (v1).toNatClampNeg)) (v4 + (1 : Int32)) h
    else
    ck (inb v1 (pL h 29 n20)) <|
    L_X8_sumOf_46 v0 v1 v2 v5 v6 v7 κ104 κ61 f (pI h 29 n20 (v1).toNatClampNeg) (v4 + (1 : Int32)) h

def L_X8_sumOf_19 {β : Type} (v0 : Nat) (v1 : Int32) (v2 : Int32) (κ169 : Int32 → Hp → Option β) (κ61 : Hp → Option β) : Nat → Int32 → Int32 → Int32 → Int32 → Hp → Option β
  | 0, _, _, _, _, _ => none
  | f + 1, v3, v4, v5, v6, h =>
    if v2 ≤ v6 then
    κ169 v5 h
    else
    nn (pR h 8 v0 48) fun n5 =>
    ck (inb v6 (pL h 64 n5)) <|
    nn (pR h 8 v0 47) fun n8 =>
    ck (inb (pI h 64 n5 (v6).toNatClampNeg) (pL h 63 n8)) <|
    nn (pR h 8 v0 27) fun n11 =>
    ck (inb (pI h 63 n8 ((pI h 64 n5 (v6).toNatClampNeg)).toNatClampNeg) (pL h 47 n11)) <|
    L_X8_sumOf_46 v0 v1 v2 v5 v6 ((5 : Int32) * (pI h 47 n11 ((pI h 63 n8 ((pI h 64 n5 (v6).toNatClampNeg)).toNatClampNeg)).toNatClampNeg)) (fun k26 k27 h28 =>
    nn (pR h28 8 v0 49) fun n29 =>
    ck (inb v6 (pL h28 65 n29)) <|
    lt (wI h28 65 n29 (v6).toNatClampNeg k27) fun h32 =>
    nn (pR h32 8 v0 5) fun n34 =>
    ck (inb v1 (pL h32 28 n34)) <|
    nn (pR h32 8 v0 6) fun n37 =>
    ck (inb v1 (pL h32 29 n37)) <|
    if ((k26 - ((5 : Int32) * (pI h 47 n11 ((pI h 63 n8 ((pI h 64 n5 (v6).toNatClampNeg)).toNatClampNeg)).toNatClampNeg))) + (pI h32 28 n34 (v1).toNatClampNeg)) ≤ (pI h32 29 n37 (v1).toNatClampNeg) then
    ck (inb v1 (pL h32 28 n34)) <|
    L_X8_sumOf_19 v0 v1 v2 κ169 κ61 f ((k26 - ((5 : Int32) * (pI h 47 n11 ((pI h 63 n8 ((pI h 64 n5 (v6).toNatClampNeg)).toNatClampNeg)).toNatClampNeg))) + (pI h32 28 n34 (v1).toNatClampNeg)) (k27 + (1 : Int32)) (v5 + k27) (v6 + (1 : Int32)) h32
    else
    ck (inb v1 (pL h32 29 n37)) <|
    L_X8_sumOf_19 v0 v1 v2 κ169 κ61 f (pI h32 29 n37 (v1).toNatClampNeg) (k27 + (1 : Int32)) (v5 + k27) (v6 + (1 : Int32)) h32) (fun h43 =>
    κ61 h43) FU v3 v4 h

def F_X8_sumOf (x0 : Nat) (x1 : Int32) (x2 : Int32) (h : Hp) : Option (Int32 × Hp) :=
  nn (pR h 8 x0 7) fun n1 =>
  ck (inb x1 (pL h 30 n1)) <|
  L_X8_sumOf_19 x0 x1 x2 (fun k44 h45 =>
  some (k44, h45)) (fun h46 =>
  some ((-1 : Int32), h46)) FU (pI h 30 n1 (x1).toNatClampNeg) (pI h 8 x0 0) (0 : Int32) (0 : Int32) h

def L_X8_tries_20 {β : Type} (v0 : Nat) (v1 : Int32) (κ105 : Int32 → Hp → Option β) (κ87 : Hp → Option β) : Nat → Int32 → Int32 → Hp → Option β
  | 0, _, _, _ => none
  | f + 1, v2, v3, h =>
    if (pI h 8 v0 24) ≤ v3 then
    κ105 v2 h
    else
    nn (pR h 8 v0 25) fun n6 =>
    ck (inb v3 (pL h 45 n6)) <|
    if (pI h 45 n6 (v3).toNatClampNeg) = (1 : Int32) then
    nn (pR h 8 v0 26) fun n10 =>
    ck (inb v3 (pL h 46 n10)) <|
    if (pI h 46 n10 (v3).toNatClampNeg) = v1 then
    cl (F_X8_width v0 v3 h) fun r14 h15 =>
    nn (pR h15 8 v0 4) fun n17 =>
    ck (inb v1 (pL h15 27 n17)) <|
    if (pI h15 27 n17 (v1).toNatClampNeg) < r14 then
    L_X8_tries_20 v0 v1 κ105 κ87 f v2 (v3 + (1 : Int32)) h15
    else
    nn (pR h15 8 v0 27) fun n21 =>
    ck (inb v3 (pL h15 47 n21)) <|
    nn (pR h15 8 v0 6) fun n24 =>
    ck (inb v1 (pL h15 29 n24)) <|
    if ((5 : Int32) * (pI h15 47 n21 (v3).toNatClampNeg)) ≤ (pI h15 29 n24 (v1).toNatClampNeg) then
    if v2 = (5 : Int32) then
    κ87 h15
    else
    nn (pR h15 8 v0 47) fun n29 =>
    ck (inb v2 (pL h15 63 n29)) <|
    lt (wI h15 63 n29 (v2).toNatClampNeg v3) fun h32 =>
    L_X8_tries_20 v0 v1 κ105 κ87 f (v2 + (1 : Int32)) (v3 + (1 : Int32)) h32
    else
    L_X8_tries_20 v0 v1 κ105 κ87 f v2 (v3 + (1 : Int32)) h15
    else
    L_X8_tries_20 v0 v1 κ105 κ87 f v2 (v3 + (1 : Int32)) h
    else
    L_X8_tries_20 v0 v1 κ105 κ87 f v2 (v3 + (1 : Int32)) h

def L_X8_tries_118 {β : Type} (v0 : Nat) (v1 : Int32) (v2 : Int32) (κ135 : Int32 → Hp → Option β) : Nat → Int32 → Int32 → Hp → Option β
  | 0, _, _, _ => none
  | f + 1, v3, v4, h =>
    if v2 < v4 then
    κ135 v3 h
    else
    L_X8_tries_118 v0 v1 v2 κ135 f (v3 * v4) (v4 + (1 : Int32)) h

def L_X8_tries_191 {β : Type} (v0 : Nat) (v1 : Int32) (v2 : Int32) (v3 : Int32) (v4 : Int32) (v5 : Int32) (κ236 : Hp → Option β) : Nat → Int32 → Hp → Option β
  | 0, _, _ => none
  | f + 1, v7, h =>
    if v2 ≤ v7 then
    κ236 h
    else
    nn (pR h 8 v0 48) fun n50 =>
    ck (inb v7 (pL h 64 n50)) <|
    nn (pR h 8 v0 47) fun n53 =>
    ck (inb (pI h 64 n50 (v7).toNatClampNeg) (pL h 63 n53)) <|
    nn (pR h 8 v0 50) fun n56 =>
    ck (inb v7 (pL h 66 n56)) <|
    lt (wI h 66 n56 (v7).toNatClampNeg (pI h 63 n53 ((pI h 64 n50 (v7).toNatClampNeg)).toNatClampNeg)) fun h59 =>
    nn (pR h59 8 v0 49) fun n61 =>
    ck (inb v7 (pL h59 65 n61)) <|
    nn (pR h59 8 v0 51) fun n64 =>
    ck (inb v7 (pL h59 67 n64)) <|
    lt (wI h59 67 n64 (v7).toNatClampNeg (pI h59 65 n61 (v7).toNatClampNeg)) fun h67 =>
    L_X8_tries_191 v0 v1 v2 v3 v4 v5 κ236 f (v7 + (1 : Int32)) h67

def L_X8_tries_141 {β : Type} (v0 : Nat) (v1 : Int32) (v2 : Int32) (v3 : Int32) (κ242 : Int32 → Hp → Option β) : Nat → Int32 → Int32 → Hp → Option β
  | 0, _, _, _ => none
  | f + 1, v4, v5, h =>
    if v3 ≤ v5 then
    κ242 v4 h
    else
    cl (F_X8_orders v0 v5 v2 h) fun _ h42 =>
    cl (F_X8_sumOf v0 v1 v2 h42) fun r44 h45 =>
    if r44 = (-1 : Int32) then
    L_X8_tries_141 v0 v1 v2 v3 κ242 f v4 (v5 + (1 : Int32)) h45
    else
    if v4 = (-1 : Int32) then
    L_X8_tries_191 v0 v1 v2 v3 r44 v5 (fun h69 =>
    L_X8_tries_141 v0 v1 v2 v3 κ242 f r44 (v5 + (1 : Int32)) h69) FU (0 : Int32) h45
    else
    if r44 < v4 then
    L_X8_tries_191 v0 v1 v2 v3 r44 v5 (fun h71 =>
    L_X8_tries_141 v0 v1 v2 v3 κ242 f r44 (v5 + (1 : Int32)) h71) FU (0 : Int32) h45
    else
    L_X8_tries_141 v0 v1 v2 v3 κ242 f v4 (v5 + (1 : Int32)) h45

def F_X8_tries (x0 : Nat) (x1 : Int32) (h : Hp) : Option (Int32 × Hp) :=
  cl (F_X8_in x1 (1 : Int32) ((pI h 8 x0 1) - (1 : Int32)) h) fun r1 h2 =>
  if r1 = 0 then
  some ((-1 : Int32), h2)
  else
  L_X8_tries_20 x0 x1 (fun k34 h35 =>
  if k34 = 0 then
  L_X8_tries_118 x0 x1 k34 (fun k75 h76 =>
  L_X8_tries_141 x0 x1 k34 k75 (fun k77 h78 =>
  if k77 = (-1 : Int32) then
  some ((-1 : Int32), h78)
  else
  some (k34, h78)) FU (-1 : Int32) (0 : Int32) h76) FU (0 : Int32) (2 : Int32) h35
  else
  L_X8_tries_118 x0 x1 k34 (fun k38 h39 =>
  L_X8_tries_141 x0 x1 k34 k38 (fun k72 h73 =>
  if k72 = (-1 : Int32) then
  some ((-1 : Int32), h73)
  else
  some (k34, h73)) FU (-1 : Int32) (0 : Int32) h39) FU (1 : Int32) (2 : Int32) h35) (fun h80 =>
  some ((-1 : Int32), h80)) FU (0 : Int32) (0 : Int32) h2

def F_X8_best (x0 : Nat) (x1 : Int32) (x2 : Int32) (h : Hp) : Option (Int32 × Hp) :=
  cl (F_X8_tries x0 x1 h) fun r1 h2 =>
  cl (F_X8_in x2 (0 : Int32) (r1 - (1 : Int32)) h2) fun r4 h5 =>
  if r4 = 0 then
  some ((-1 : Int32), h5)
  else
  nn (pR h5 8 x0 50) fun n8 =>
  ck (inb x2 (pL h5 66 n8)) <|
  some ((pI h5 66 n8 (x2).toNatClampNeg), h5)

def F_X8_passes (x0 : Nat) (x1 : Int32) (x2 : Int32) (h : Hp) : Option (Int32 × Hp) :=
  cl (F_X8_tries x0 x1 h) fun r1 h2 =>
  cl (F_X8_in x2 (0 : Int32) (r1 - (1 : Int32)) h2) fun r4 h5 =>
  if r4 = 0 then
  some ((-1 : Int32), h5)
  else
  nn (pR h5 8 x0 51) fun n8 =>
  ck (inb x2 (pL h5 67 n8)) <|
  some ((pI h5 67 n8 (x2).toNatClampNeg), h5)

def F_X8_told (x0 : Nat) (x1 : Int32) (x2 : Int32) (h : Hp) : Option (Int32 × Hp) :=
  cl (F_X8_isTrunk x0 x1 h) fun r1 h2 =>
  if r1 = 0 then
  some ((-1 : Int32), h2)
  else
  if x2 = (0 : Int32) then
  nn (pR h2 8 x0 12) fun n42 =>
  ck (inb x1 (pL h2 34 n42)) <|
  some ((pI h2 34 n42 (x1).toNatClampNeg), h2)
  else
  if x2 = (1 : Int32) then
  nn (pR h2 8 x0 13) fun n39 =>
  ck (inb x1 (pL h2 35 n39)) <|
  some ((pI h2 35 n39 (x1).toNatClampNeg), h2)
  else
  if x2 = (2 : Int32) then
  nn (pR h2 8 x0 14) fun n36 =>
  ck (inb x1 (pL h2 36 n36)) <|
  some ((pI h2 36 n36 (x1).toNatClampNeg), h2)
  else
  if x2 = (3 : Int32) then
  nn (pR h2 8 x0 15) fun n33 =>
  ck (inb x1 (pL h2 37 n33)) <|
  some ((pI h2 37 n33 (x1).toNatClampNeg), h2)
  else
  if x2 = (4 : Int32) then
  nn (pR h2 8 x0 16) fun n30 =>
  ck (inb x1 (pL h2 38 n30)) <|
  some ((pI h2 38 n30 (x1).toNatClampNeg), h2)
  else
  if x2 = (5 : Int32) then
  nn (pR h2 8 x0 16) fun n23 =>
  ck (inb x1 (pL h2 38 n23)) <|
  if (pI h2 38 n23 (x1).toNatClampNeg) = 0 then
  nn (pR h2 8 x0 17) fun n27 =>
  ck (inb x1 (pL h2 39 n27)) <|
  some ((pI h2 39 n27 (x1).toNatClampNeg), h2)
  else
  some ((-1 : Int32), h2)
  else
  if x2 = (6 : Int32) then
  nn (pR h2 8 x0 16) fun n16 =>
  ck (inb x1 (pL h2 38 n16)) <|
  if (pI h2 38 n16 (x1).toNatClampNeg) = (1 : Int32) then
  nn (pR h2 8 x0 18) fun n20 =>
  ck (inb x1 (pL h2 40 n20)) <|
  some ((pI h2 40 n20 (x1).toNatClampNeg), h2)
  else
  some ((-1 : Int32), h2)
  else
  if x2 = (7 : Int32) then
  nn (pR h2 8 x0 21) fun n13 =>
  ck (inb x1 (pL h2 43 n13)) <|
  some ((pI h2 43 n13 (x1).toNatClampNeg), h2)
  else
  some ((-1 : Int32), h2)

def F_X8_raft (x0 : Nat) (x1 : Int32) (x2 : Int32) (h : Hp) : Option (Int32 × Hp) :=
  cl (F_X8_in x1 (0 : Int32) ((pI h 8 x0 24) - (1 : Int32)) h) fun r1 h2 =>
  if r1 = 0 then
  some ((-1 : Int32), h2)
  else
  if x2 = (0 : Int32) then
  nn (pR h2 8 x0 25) fun n34 =>
  ck (inb x1 (pL h2 45 n34)) <|
  some ((pI h2 45 n34 (x1).toNatClampNeg), h2)
  else
  if x2 = (1 : Int32) then
  nn (pR h2 8 x0 25) fun n27 =>
  ck (inb x1 (pL h2 45 n27)) <|
  if (pI h2 45 n27 (x1).toNatClampNeg) = (3 : Int32) then
  some ((-1 : Int32), h2)
  else
  nn (pR h2 8 x0 26) fun n31 =>
  ck (inb x1 (pL h2 46 n31)) <|
  some ((pI h2 46 n31 (x1).toNatClampNeg), h2)
  else
  if x2 = (2 : Int32) then
  nn (pR h2 8 x0 27) fun n24 =>
  ck (inb x1 (pL h2 47 n24)) <|
  some ((pI h2 47 n24 (x1).toNatClampNeg), h2)
  else
  if x2 = (3 : Int32) then
  cl (F_X8_many x0 x1 h2) fun r21 h22 =>
  some (r21, h22)
  else
  if x2 = (4 : Int32) then
  cl (F_X8_width x0 x1 h2) fun r18 h19 =>
  some (r18, h19)
  else
  if x2 = (5 : Int32) then
  nn (pR h2 8 x0 28) fun n15 =>
  ck (inb x1 (pL h2 48 n15)) <|
  some ((pI h2 48 n15 (x1).toNatClampNeg), h2)
  else
  if x2 = (6 : Int32) then
  nn (pR h2 8 x0 29) fun n12 =>
  ck (inb x1 (pL h2 49 n12)) <|
  some ((pI h2 49 n12 (x1).toNatClampNeg), h2)
  else
  some ((-1 : Int32), h2)

def F_X8_crewed (x0 : Nat) (x1 : Int32) (x2 : Int32) (h : Hp) : Option (Int32 × Hp) :=
  cl (F_X8_in x1 (0 : Int32) ((pI h 8 x0 30) - (1 : Int32)) h) fun r1 h2 =>
  if r1 = 0 then
  some ((-1 : Int32), h2)
  else
  if x2 = (0 : Int32) then
  nn (pR h2 8 x0 32) fun n27 =>
  ck (inb x1 (pL h2 51 n27)) <|
  some ((pI h2 51 n27 (x1).toNatClampNeg), h2)
  else
  if x2 = (1 : Int32) then
  nn (pR h2 8 x0 32) fun n20 =>
  ck (inb x1 (pL h2 51 n20)) <|
  if (pI h2 51 n20 (x1).toNatClampNeg) = 0 then
  nn (pR h2 8 x0 33) fun n24 =>
  ck (inb x1 (pL h2 52 n24)) <|
  some ((pI h2 52 n24 (x1).toNatClampNeg), h2)
  else
  some ((-1 : Int32), h2)
  else
  if x2 = (2 : Int32) then
  nn (pR h2 8 x0 32) fun n13 =>
  ck (inb x1 (pL h2 51 n13)) <|
  if (pI h2 51 n13 (x1).toNatClampNeg) = (2 : Int32) then
  nn (pR h2 8 x0 35) fun n17 =>
  ck (inb x1 (pL h2 54 n17)) <|
  some ((pI h2 54 n17 (x1).toNatClampNeg), h2)
  else
  some ((-1 : Int32), h2)
  else
  if x2 = (3 : Int32) then
  cl (F_X8_isResting x0 x1 h2) fun r9 h10 =>
  if r9 = 0 then
  some ((0 : Int32), h10)
  else
  some ((1 : Int32), h10)
  else
  some ((-1 : Int32), h2)

def L_X8_count_116 {β : Type} (v0 : Nat) (κ148 : Int32 → Hp → Option β) : Nat → Int32 → Int32 → Hp → Option β
  | 0, _, _, _ => none
  | f + 1, v2, v3, h =>
    if (pI h 8 v0 11) ≤ v3 then
    κ148 v2 h
    else
    nn (pR h 8 v0 16) fun n17 =>
    ck (inb v3 (pL h 38 n17)) <|
    if (pI h 38 n17 (v3).toNatClampNeg) = (3 : Int32) then
    L_X8_count_116 v0 κ148 f (v2 + (1 : Int32)) (v3 + (1 : Int32)) h
    else
    L_X8_count_116 v0 κ148 f (v2 + (0 : Int32)) (v3 + (1 : Int32)) h

def L_X8_count_80 {β : Type} (v0 : Nat) (κ112 : Int32 → Hp → Option β) : Nat → Int32 → Int32 → Hp → Option β
  | 0, _, _, _ => none
  | f + 1, v2, v3, h =>
    if (pI h 8 v0 11) ≤ v3 then
    κ112 v2 h
    else
    nn (pR h 8 v0 16) fun n24 =>
    ck (inb v3 (pL h 38 n24)) <|
    if (pI h 38 n24 (v3).toNatClampNeg) = (2 : Int32) then
    L_X8_count_80 v0 κ112 f (v2 + (1 : Int32)) (v3 + (1 : Int32)) h
    else
    L_X8_count_80 v0 κ112 f (v2 + (0 : Int32)) (v3 + (1 : Int32)) h

def F_X8_count (x0 : Nat) (x1 : Int32) (h : Hp) : Option (Int32 × Hp) :=
  if x1 = (0 : Int32) then
  some ((pI h 8 x0 0), h)
  else
  if x1 = (1 : Int32) then
  some ((pI h 8 x0 1), h)
  else
  if x1 = (2 : Int32) then
  some ((pI h 8 x0 11), h)
  else
  if x1 = (3 : Int32) then
  some ((pI h 8 x0 24), h)
  else
  if x1 = (4 : Int32) then
  some ((pI h 8 x0 30), h)
  else
  if x1 = (5 : Int32) then
  some ((pI h 8 x0 46), h)
  else
  if x1 = (6 : Int32) then
  L_X8_count_80 x0 (fun k28 h29 =>
  some (k28, h29)) FU (0 : Int32) (0 : Int32) h
  else
  if x1 = (7 : Int32) then
  L_X8_count_116 x0 (fun k21 h22 =>
  some (k21, h22)) FU (0 : Int32) (0 : Int32) h
  else
  cl (F_X8_in x1 (100 : Int32) ((99 : Int32) + (pI h 8 x0 1)) h) fun r9 h10 =>
  if r9 = 0 then
  some ((-1 : Int32), h10)
  else
  nn (pR h10 8 x0 7) fun n13 =>
  ck (inb (x1 - (100 : Int32)) (pL h10 30 n13)) <|
  some ((pI h10 30 n13 ((x1 - (100 : Int32))).toNatClampNeg), h10)
end
section
set_option maxHeartbeats 4000000 in
set_option maxRecDepth 100000 in
theorem c_X0_init {x0 : Nat} {x1 : Int32} {x2 : Option Nat} {h hh : Hp} {xr : Unit} (hF : F_X0_init x0 x1 x2 h = some (xr, hh)) : Ctr yX0_init cX0_init 3 none 1 0 0 [.inr (0, (some x0)), .inl x1, .inr (4, x2)] h none hh := by
  refine Ctr_v (own := RX0) (ini := True) (ls0 := [some (.inr (0, (some x0))), some (.inl x1), some (.inr (4, x2))]) (by decide) rfl (Nat.le_of_ble_eq_true rfl) (fun _ => rfl) rfl ?_
  intro J hJ hR
  unfold F_X0_init at hF
  refine hJ.aload_n (i := 0) dX0_init_0 rfl rfl ?_
  refine hJ.objInit dX0_init_1 w_RX0_3 rfl (by decide) (Nat.le_of_ble_eq_true rfl) ?_
  refine hJ.aload_n (i := 0) dX0_init_4 rfl rfl ?_
  refine hJ.null (kk := 2) dX0_init_5 ?_
  replace hF := lt_S hF
  obtain ⟨h1, eh2, hF⟩ := hF
  refine hJ.putR dX0_init_6 f_RX0_9 rfl (Or.inr rfl) rfl ?_
  rw [← eh2]
  refine hJ.aload_n (i := 0) dX0_init_9 rfl rfl ?_
  refine hJ.iconst (v := -1) dX0_init_10 (by decide) ?_
  replace hF := lt_S hF
  obtain ⟨h3, eh4, hF⟩ := hF
  refine hJ.putI dX0_init_11 f_RX0_15 rfl nar_i rfl ?_
  rw [← eh4]
  refine hJ.aload_n (i := 0) dX0_init_14 rfl rfl ?_
  refine hJ.bipush (v := -8) dX0_init_15 (by decide) ?_
  replace hF := lt_S hF
  obtain ⟨h5, eh6, hF⟩ := hF
  refine hJ.putI dX0_init_17 f_RX0_19 rfl nar_i rfl ?_
  rw [← eh6]
  refine hJ.aload_n (i := 0) dX0_init_20 rfl rfl ?_
  refine hJ.iload_n (i := 1) dX0_init_21 rfl rfl ?_
  replace hF := lt_S hF
  obtain ⟨h7, eh8, hF⟩ := hF
  refine hJ.putIF dX0_init_22 f_RX0_22 rfl rfl trivial nar_i rfl ?_
  rw [← eh8]
  refine hJ.aload_n (i := 0) dX0_init_25 rfl rfl ?_
  refine hJ.aload_n (i := 2) dX0_init_26 rfl rfl ?_
  replace hF := lt_S hF
  obtain ⟨h9, eh10, hF⟩ := hF
  refine hJ.putRF dX0_init_27 f_RX0_25 rfl rfl trivial (Or.inr rfl) rfl ?_
  rw [← eh10]
  refine hJ.aload_n (i := 0) dX0_init_30 rfl rfl ?_
  refine hJ.aload_n (i := 2) dX0_init_31 rfl rfl ?_
  replace hF := lt_S hF
  obtain ⟨h11, eh12, hF⟩ := hF
  refine hJ.putR dX0_init_32 f_RX0_29 rfl (Or.inr rfl) rfl ?_
  rw [← eh12]
  obtain ⟨-, rfl⟩ := ret_S hF
  exact hR dX0_init_35 (by decide) (by decide)

set_option maxHeartbeats 4000000 in
set_option maxRecDepth 100000 in
theorem c_X0_state {x0 : Nat} {h hh : Hp} {xr : Int32} (hF : F_X0_state x0 h = some (xr, hh)) : Ctr yX0_state cX0_state 1 (some .int) 0 0 0 [.inr (0, (some x0))] h (some (.inl xr)) hh := by
  refine Ctr_i (own := RX0) (ini := False) (ls0 := [some (.inr (0, (some x0)))]) (by decide) rfl (Nat.le_of_ble_eq_true rfl) (fun e => e.elim) rfl ?_
  intro J hJ hR
  unfold F_X0_state at hF
  refine hJ.aload_n (i := 0) dX0_state_0 rfl rfl ?_
  refine hJ.getR dX0_state_1 f_RX0_29 rfl ?_
  refine hJ.ifnull (tgt := 9) dX0_state_4 (by decide) (fun e1 => ?_) (fun n2 e1 => ?_)
  · replace hF := onn_N e1 hF
    refine hJ.aload_n (i := 0) dX0_state_9 rfl rfl ?_
    refine hJ.getR dX0_state_10 f_RX0_9 rfl ?_
    refine hJ.ifnull (tgt := 20) dX0_state_13 (by decide) (fun e3 => ?_) (fun n4 e3 => ?_)
    · replace hF := onn_N e3 hF
      refine hJ.iconst (v := 2) dX0_state_20 (by decide) ?_
      obtain ⟨rfl, rfl⟩ := ret_S hF
      exact hR dX0_state_21 (by decide) (by decide)
    · replace hF := onn_J e3 hF
      refine hJ.iconst (v := 1) dX0_state_16 (by decide) ?_
      refine hJ.goto (tgt := 21) dX0_state_17 (by decide) ?_
      obtain ⟨rfl, rfl⟩ := ret_S hF
      exact hR dX0_state_21 (by decide) (by decide)
  · replace hF := onn_J e1 hF
    refine hJ.iconst (v := 0) dX0_state_7 (by decide) ?_
    obtain ⟨rfl, rfl⟩ := ret_S hF
    exact hR dX0_state_8 (by decide) (by decide)

set_option maxHeartbeats 4000000 in
set_option maxRecDepth 100000 in
theorem c_X0_rests {x0 : Nat} {x1 : Int32} {h hh : Hp} {xr : Int32} (hF : F_X0_rests x0 x1 h = some (xr, hh)) : Ctr yX0_rests cX0_rests 2 (some .boolean) 0 0 0 [.inr (0, (some x0)), .inl x1] h (some (.inl xr)) hh := by
  refine Ctr_z (own := RX0) (ini := False) (ls0 := [some (.inr (0, (some x0))), some (.inl x1)]) (by decide) rfl (Nat.le_of_ble_eq_true rfl) (fun e => e.elim) rfl ?_
  intro J hJ hR
  unfold F_X0_rests at hF
  refine hJ.aload_n (i := 0) dX0_rests_0 rfl rfl ?_
  refine hJ.getR dX0_rests_1 f_RX0_29 rfl ?_
  refine hJ.ifnull (tgt := 22) dX0_rests_4 (by decide) (fun e1 => ?_) (fun n2 e1 => ?_)
  · replace hF := onn_N e1 hF
    refine hJ.iconst (v := 0) dX0_rests_22 (by decide) ?_
    obtain ⟨rfl, rfl⟩ := ret_S hF
    exact hR dX0_rests_23 (by decide) (by decide) (by decide)
  · replace hF := onn_J e1 hF
    refine hJ.iload_n (i := 1) dX0_rests_7 rfl rfl ?_
    refine hJ.aload_n (i := 0) dX0_rests_8 rfl rfl ?_
    refine hJ.getI dX0_rests_9 f_RX0_19 rfl ?_
    refine hJ.isub dX0_rests_12 ?_
    refine hJ.bipush (v := 8) dX0_rests_13 (by decide) ?_
    refine hJ.icmp_ge (tgt := 22) dX0_rests_15 (by decide) (fun e3 => ?_) (fun e3 => ?_)
    · replace hF := ite_T e3 hF
      refine hJ.iconst (v := 0) dX0_rests_22 (by decide) ?_
      obtain ⟨rfl, rfl⟩ := ret_S hF
      exact hR dX0_rests_23 (by decide) (by decide) (by decide)
    · replace hF := ite_F e3 hF
      refine hJ.iconst (v := 1) dX0_rests_18 (by decide) ?_
      refine hJ.goto (tgt := 23) dX0_rests_19 (by decide) ?_
      obtain ⟨rfl, rfl⟩ := ret_S hF
      exact hR dX0_rests_23 (by decide) (by decide) (by decide)

set_option maxHeartbeats 4000000 in
set_option maxRecDepth 100000 in
theorem c_X0_board {x0 : Nat} {x1 : Option Nat} {h hh : Hp} {xr : Unit} (hF : F_X0_board x0 x1 h = some (xr, hh)) : Ctr yX0_board cX0_board 2 none 0 0 0 [.inr (0, (some x0)), .inr (2, x1)] h none hh := by
  refine Ctr_v (own := RX0) (ini := False) (ls0 := [some (.inr (0, (some x0))), some (.inr (2, x1))]) (by decide) rfl (Nat.le_of_ble_eq_true rfl) (fun e => e.elim) rfl ?_
  intro J hJ hR
  unfold F_X0_board at hF
  refine hJ.aload_n (i := 0) dX0_board_0 rfl rfl ?_
  refine hJ.null (kk := 4) dX0_board_1 ?_
  replace hF := lt_S hF
  obtain ⟨h1, eh2, hF⟩ := hF
  refine hJ.putR dX0_board_2 f_RX0_29 rfl (Or.inr rfl) rfl ?_
  rw [← eh2]
  refine hJ.aload_n (i := 0) dX0_board_5 rfl rfl ?_
  refine hJ.aload_n (i := 1) dX0_board_6 rfl rfl ?_
  replace hF := lt_S hF
  obtain ⟨h3, eh4, hF⟩ := hF
  refine hJ.putR dX0_board_7 f_RX0_9 rfl (Or.inr rfl) rfl ?_
  rw [← eh4]
  refine hJ.aload_n (i := 1) dX0_board_10 rfl rfl ?_
  refine hJ.aload_n (i := 0) dX0_board_11 rfl rfl ?_
  replace hF := nn_S hF
  obtain ⟨n5, e6, hF⟩ := hF
  subst e6
  replace hF := lt_S hF
  obtain ⟨h7, eh8, hF⟩ := hF
  refine hJ.putR dX0_board_12 f_RX0_32 rfl (Or.inr rfl) rfl ?_
  rw [← eh8]
  obtain ⟨-, rfl⟩ := ret_S hF
  exact hR dX0_board_15 (by decide) (by decide)

set_option maxHeartbeats 4000000 in
set_option maxRecDepth 100000 in
theorem c_X2_state {x0 : Nat} {h hh : Hp} {xr : Int32} (hF : F_X2_state x0 h = some (xr, hh)) : Ctr yX2_state cX2_state 1 (some .int) 0 0 0 [.inr (2, (some x0))] h (some (.inl xr)) hh := by
  refine Ctr_i (own := RX2) (ini := False) (ls0 := [some (.inr (2, (some x0)))]) (by decide) rfl (Nat.le_of_ble_eq_true rfl) (fun e => e.elim) rfl ?_
  intro J hJ hR
  unfold F_X2_state at hF
  refine hJ.aload_n (i := 0) dX2_state_0 rfl rfl ?_
  refine hJ.getI dX2_state_1 f_RX2_17 rfl ?_
  refine hJ.if_ne (tgt := 9) dX2_state_4 (by decide) (fun e1 => ?_) (fun e1 => ?_)
  · replace hF := ite_F e1 hF
    refine hJ.aload_n (i := 0) dX2_state_9 rfl rfl ?_
    refine hJ.getR dX2_state_10 f_RX2_21 rfl ?_
    refine hJ.ifnonnull (tgt := 18) dX2_state_13 (by decide) (fun n3 e2 => ?_) (fun e2 => ?_)
    · replace hF := onn_J e2 hF
      refine hJ.aload_n (i := 0) dX2_state_18 rfl rfl ?_
      refine hJ.getI dX2_state_19 f_RX2_25 rfl ?_
      refine hJ.iconst (v := -1) dX2_state_22 (by decide) ?_
      refine hJ.icmp_ne (tgt := 30) dX2_state_23 (by decide) (fun e4 => ?_) (fun e4 => ?_)
      · replace hF := ite_F e4 hF
        refine hJ.iconst (v := 2) dX2_state_30 (by decide) ?_
        obtain ⟨rfl, rfl⟩ := ret_S hF
        exact hR dX2_state_31 (by decide) (by decide)
      · replace hF := ite_T e4 hF
        refine hJ.iconst (v := 1) dX2_state_26 (by decide) ?_
        refine hJ.goto (tgt := 31) dX2_state_27 (by decide) ?_
        obtain ⟨rfl, rfl⟩ := ret_S hF
        exact hR dX2_state_31 (by decide) (by decide)
    · replace hF := onn_N e2 hF
      refine hJ.iconst (v := 0) dX2_state_16 (by decide) ?_
      obtain ⟨rfl, rfl⟩ := ret_S hF
      exact hR dX2_state_17 (by decide) (by decide)
  · replace hF := ite_T e1 hF
    refine hJ.iconst (v := 3) dX2_state_7 (by decide) ?_
    obtain ⟨rfl, rfl⟩ := ret_S hF
    exact hR dX2_state_8 (by decide) (by decide)

set_option maxHeartbeats 4000000 in
set_option maxRecDepth 100000 in
theorem c_X2_landCrew {x0 : Nat} {h hh : Hp} {xr : Option Nat} (hF : F_X2_landCrew x0 h = some (xr, hh)) : Ctr yX2_landCrew cX2_landCrew 2 (some (.object RX0)) 0 0 0 [.inr (2, (some x0))] h (some (.inr (0, xr))) hh := by
  refine Ctr_a (own := RX2) (ini := False) (ls0 := [some (.inr (2, (some x0))), none]) (by decide) rfl (Nat.le_of_ble_eq_true rfl) (fun e => e.elim) rfl ?_
  intro J hJ hR
  unfold F_X2_landCrew at hF
  refine hJ.aload_n (i := 0) dX2_landCrew_0 rfl rfl ?_
  refine hJ.getR dX2_landCrew_1 f_RX2_21 rfl ?_
  refine hJ.astore_n (i := 1) (ls2 := [some (.inr (2, (some x0))), some (.inr (0, (pR h 2 x0 4)))]) dX2_landCrew_4 rfl (by decide) rfl ?_
  refine hJ.aload_n (i := 1) dX2_landCrew_5 rfl rfl ?_
  refine hJ.ifnull (tgt := 22) dX2_landCrew_6 (by decide) (fun e1 => ?_) (fun n2 e1 => ?_)
  · replace hF := onn_N e1 hF
    rw [e1]
    refine hJ.aload_n (i := 0) dX2_landCrew_22 rfl rfl ?_
    refine hJ.null (kk := 0) dX2_landCrew_23 ?_
    replace hF := lt_S hF
    obtain ⟨h3, eh4, hF⟩ := hF
    refine hJ.putR dX2_landCrew_24 f_RX2_21 rfl (Or.inr rfl) rfl ?_
    rw [← eh4]
    refine hJ.aload_n (i := 0) dX2_landCrew_27 rfl rfl ?_
    refine hJ.iconst (v := -1) dX2_landCrew_28 (by decide) ?_
    replace hF := lt_S hF
    obtain ⟨h5, eh6, hF⟩ := hF
    refine hJ.putI dX2_landCrew_29 f_RX2_25 rfl nar_i rfl ?_
    rw [← eh6]
    refine hJ.aload_n (i := 1) dX2_landCrew_32 rfl rfl ?_
    obtain ⟨rfl, rfl⟩ := ret_S hF
    exact hR dX2_landCrew_33 (Or.inr rfl) (by decide) (by decide)
  · replace hF := onn_J e1 hF
    rw [e1]
    refine hJ.aload_n (i := 1) dX2_landCrew_9 rfl rfl ?_
    refine hJ.null (kk := 2) dX2_landCrew_10 ?_
    replace hF := lt_S hF
    obtain ⟨h7, eh8, hF⟩ := hF
    refine hJ.putR dX2_landCrew_11 f_RX2_77 rfl (Or.inr rfl) rfl ?_
    rw [← eh8]
    refine hJ.aload_n (i := 1) dX2_landCrew_14 rfl rfl ?_
    refine hJ.aload_n (i := 0) dX2_landCrew_15 rfl rfl ?_
    refine hJ.getR dX2_landCrew_16 f_RX2_31 rfl ?_
    replace hF := lt_S hF
    obtain ⟨h9, eh10, hF⟩ := hF
    refine hJ.putR dX2_landCrew_19 f_RX2_83 rfl (Or.inr rfl) rfl ?_
    rw [← eh10]
    refine hJ.aload_n (i := 0) dX2_landCrew_22 rfl rfl ?_
    refine hJ.null (kk := 0) dX2_landCrew_23 ?_
    replace hF := lt_S hF
    obtain ⟨h11, eh12, hF⟩ := hF
    refine hJ.putR dX2_landCrew_24 f_RX2_21 rfl (Or.inr rfl) rfl ?_
    rw [← eh12]
    refine hJ.aload_n (i := 0) dX2_landCrew_27 rfl rfl ?_
    refine hJ.iconst (v := -1) dX2_landCrew_28 (by decide) ?_
    replace hF := lt_S hF
    obtain ⟨h13, eh14, hF⟩ := hF
    refine hJ.putI dX2_landCrew_29 f_RX2_25 rfl nar_i rfl ?_
    rw [← eh14]
    refine hJ.aload_n (i := 1) dX2_landCrew_32 rfl rfl ?_
    obtain ⟨rfl, rfl⟩ := ret_S hF
    exact hR dX2_landCrew_33 (Or.inr rfl) (by decide) (by decide)

set_option maxHeartbeats 4000000 in
set_option maxRecDepth 100000 in
theorem c_X0_comeBy {x0 : Nat} {x1 : Int32} {h hh : Hp} {xr : Unit} (hF : F_X0_comeBy x0 x1 h = some (xr, hh)) : Ctr yX0_comeBy cX0_comeBy 2 none 1 0 0 [.inr (0, (some x0)), .inl x1] h none hh := by
  refine Ctr_v (own := RX0) (ini := False) (ls0 := [some (.inr (0, (some x0))), some (.inl x1)]) (by decide) rfl (Nat.le_of_ble_eq_true rfl) (fun e => e.elim) rfl ?_
  intro J hJ hR
  unfold F_X0_comeBy at hF
  refine hJ.aload_n (i := 0) dX0_comeBy_0 rfl rfl ?_
  refine hJ.getI dX0_comeBy_1 f_RX0_15 rfl ?_
  refine hJ.iconst (v := -1) dX0_comeBy_4 (by decide) ?_
  refine hJ.icmp_eq (tgt := 37) dX0_comeBy_5 (by decide) (fun e1 => ?_) (fun e1 => ?_)
  · replace hF := ite_T e1 hF
    refine hJ.aload_n (i := 0) dX0_comeBy_37 rfl rfl ?_
    refine hJ.getR dX0_comeBy_38 f_RX0_9 rfl ?_
    refine hJ.ifnull (tgt := 79) dX0_comeBy_41 (by decide) (fun e2 => ?_) (fun n3 e2 => ?_)
    · replace hF := onn_N e2 hF
      obtain ⟨-, rfl⟩ := ret_S hF
      exact hR dX0_comeBy_79 (by decide) (by decide)
    · replace hF := onn_J e2 hF
      refine hJ.aload_n (i := 0) dX0_comeBy_44 rfl rfl ?_
      refine hJ.getR dX0_comeBy_45 f_RX0_9 rfl ?_
      rw [e2]
      replace hF := cl_S hF
      obtain ⟨r4, h5, ec6, hF⟩ := hF
      refine hJ.callV (as := []) (st := []) dX0_comeBy_48 w_RX0_38 ⟨by decide, rfl⟩ rfl (c_X2_state ec6) (by decide) (by decide) (by decide) rfl (Nat.le_of_ble_eq_true rfl) rfl ?_
      refine hJ.iconst (v := 2) dX0_comeBy_51 (by decide) ?_
      refine hJ.icmp_ne (tgt := 79) dX0_comeBy_52 (by decide) (fun e7 => ?_) (fun e7 => ?_)
      · replace hF := ite_F e7 hF
        obtain ⟨-, rfl⟩ := ret_S hF
        exact hR dX0_comeBy_79 (by decide) (by decide)
      · replace hF := ite_T e7 hF
        refine hJ.aload_n (i := 0) dX0_comeBy_55 rfl rfl ?_
        refine hJ.getR dX0_comeBy_56 f_RX0_9 rfl ?_
        replace hF := nn_S hF
        obtain ⟨n8, e9, hF⟩ := hF
        rw [e9]
        refine hJ.getI dX0_comeBy_59 f_RX0_42 rfl ?_
        refine hJ.iload_n (i := 1) dX0_comeBy_62 rfl rfl ?_
        refine hJ.icmp_gt (tgt := 79) dX0_comeBy_63 (by decide) (fun e10 => ?_) (fun e10 => ?_)
        · replace hF := ite_T e10 hF
          obtain ⟨-, rfl⟩ := ret_S hF
          exact hR dX0_comeBy_79 (by decide) (by decide)
        · replace hF := ite_F e10 hF
          refine hJ.aload_n (i := 0) dX0_comeBy_66 rfl rfl ?_
          refine hJ.getR dX0_comeBy_67 f_RX0_9 rfl ?_
          rw [e9]
          replace hF := cl_S hF
          obtain ⟨r11, h12, ec13, hF⟩ := hF
          refine hJ.callV (as := []) (st := []) dX0_comeBy_70 w_RX0_45 ⟨by decide, rfl⟩ rfl (c_X2_landCrew ec13) (by decide) (by decide) (by decide) rfl (Nat.le_of_ble_eq_true rfl) rfl ?_
          refine hJ.pop dX0_comeBy_73 ?_
          refine hJ.aload_n (i := 0) dX0_comeBy_74 rfl rfl ?_
          refine hJ.iload_n (i := 1) dX0_comeBy_75 rfl rfl ?_
          replace hF := lt_S hF
          obtain ⟨h14, eh15, hF⟩ := hF
          refine hJ.putI dX0_comeBy_76 f_RX0_19 rfl nar_i rfl ?_
          rw [← eh15]
          obtain ⟨-, rfl⟩ := ret_S hF
          exact hR dX0_comeBy_79 (by decide) (by decide)
  · replace hF := ite_F e1 hF
    refine hJ.aload_n (i := 0) dX0_comeBy_8 rfl rfl ?_
    refine hJ.getI dX0_comeBy_9 f_RX0_15 rfl ?_
    refine hJ.iload_n (i := 1) dX0_comeBy_12 rfl rfl ?_
    refine hJ.icmp_gt (tgt := 37) dX0_comeBy_13 (by decide) (fun e16 => ?_) (fun e16 => ?_)
    · replace hF := ite_T e16 hF
      refine hJ.aload_n (i := 0) dX0_comeBy_37 rfl rfl ?_
      refine hJ.getR dX0_comeBy_38 f_RX0_9 rfl ?_
      refine hJ.ifnull (tgt := 79) dX0_comeBy_41 (by decide) (fun e17 => ?_) (fun n18 e17 => ?_)
      · replace hF := onn_N e17 hF
        obtain ⟨-, rfl⟩ := ret_S hF
        exact hR dX0_comeBy_79 (by decide) (by decide)
      · replace hF := onn_J e17 hF
        refine hJ.aload_n (i := 0) dX0_comeBy_44 rfl rfl ?_
        refine hJ.getR dX0_comeBy_45 f_RX0_9 rfl ?_
        rw [e17]
        replace hF := cl_S hF
        obtain ⟨r19, h20, ec21, hF⟩ := hF
        refine hJ.callV (as := []) (st := []) dX0_comeBy_48 w_RX0_38 ⟨by decide, rfl⟩ rfl (c_X2_state ec21) (by decide) (by decide) (by decide) rfl (Nat.le_of_ble_eq_true rfl) rfl ?_
        refine hJ.iconst (v := 2) dX0_comeBy_51 (by decide) ?_
        refine hJ.icmp_ne (tgt := 79) dX0_comeBy_52 (by decide) (fun e22 => ?_) (fun e22 => ?_)
        · replace hF := ite_F e22 hF
          obtain ⟨-, rfl⟩ := ret_S hF
          exact hR dX0_comeBy_79 (by decide) (by decide)
        · replace hF := ite_T e22 hF
          refine hJ.aload_n (i := 0) dX0_comeBy_55 rfl rfl ?_
          refine hJ.getR dX0_comeBy_56 f_RX0_9 rfl ?_
          replace hF := nn_S hF
          obtain ⟨n23, e24, hF⟩ := hF
          rw [e24]
          refine hJ.getI dX0_comeBy_59 f_RX0_42 rfl ?_
          refine hJ.iload_n (i := 1) dX0_comeBy_62 rfl rfl ?_
          refine hJ.icmp_gt (tgt := 79) dX0_comeBy_63 (by decide) (fun e25 => ?_) (fun e25 => ?_)
          · replace hF := ite_T e25 hF
            obtain ⟨-, rfl⟩ := ret_S hF
            exact hR dX0_comeBy_79 (by decide) (by decide)
          · replace hF := ite_F e25 hF
            refine hJ.aload_n (i := 0) dX0_comeBy_66 rfl rfl ?_
            refine hJ.getR dX0_comeBy_67 f_RX0_9 rfl ?_
            rw [e24]
            replace hF := cl_S hF
            obtain ⟨r26, h27, ec28, hF⟩ := hF
            refine hJ.callV (as := []) (st := []) dX0_comeBy_70 w_RX0_45 ⟨by decide, rfl⟩ rfl (c_X2_landCrew ec28) (by decide) (by decide) (by decide) rfl (Nat.le_of_ble_eq_true rfl) rfl ?_
            refine hJ.pop dX0_comeBy_73 ?_
            refine hJ.aload_n (i := 0) dX0_comeBy_74 rfl rfl ?_
            refine hJ.iload_n (i := 1) dX0_comeBy_75 rfl rfl ?_
            replace hF := lt_S hF
            obtain ⟨h29, eh30, hF⟩ := hF
            refine hJ.putI dX0_comeBy_76 f_RX0_19 rfl nar_i rfl ?_
            rw [← eh30]
            obtain ⟨-, rfl⟩ := ret_S hF
            exact hR dX0_comeBy_79 (by decide) (by decide)
    · replace hF := ite_F e16 hF
      refine hJ.aload_n (i := 0) dX0_comeBy_16 rfl rfl ?_
      refine hJ.aload_n (i := 0) dX0_comeBy_17 rfl rfl ?_
      refine hJ.getR dX0_comeBy_18 f_RX0_25 rfl ?_
      replace hF := lt_S hF
      obtain ⟨h31, eh32, hF⟩ := hF
      refine hJ.putR dX0_comeBy_21 f_RX0_29 rfl (Or.inr rfl) rfl ?_
      rw [← eh32]
      refine hJ.aload_n (i := 0) dX0_comeBy_24 rfl rfl ?_
      refine hJ.iconst (v := -1) dX0_comeBy_25 (by decide) ?_
      replace hF := lt_S hF
      obtain ⟨h33, eh34, hF⟩ := hF
      refine hJ.putI dX0_comeBy_26 f_RX0_15 rfl nar_i rfl ?_
      rw [← eh34]
      refine hJ.aload_n (i := 0) dX0_comeBy_29 rfl rfl ?_
      refine hJ.iload_n (i := 1) dX0_comeBy_30 rfl rfl ?_
      replace hF := lt_S hF
      obtain ⟨h35, eh36, hF⟩ := hF
      refine hJ.putI dX0_comeBy_31 f_RX0_19 rfl nar_i rfl ?_
      rw [← eh36]
      refine hJ.goto (tgt := 79) dX0_comeBy_34 (by decide) ?_
      obtain ⟨-, rfl⟩ := ret_S hF
      exact hR dX0_comeBy_79 (by decide) (by decide)

set_option maxHeartbeats 4000000 in
set_option maxRecDepth 100000 in
theorem c_X1_init {x0 : Nat} {h hh : Hp} {xr : Unit} (hF : F_X1_init x0 h = some (xr, hh)) : Ctr yX1_init cX1_init 1 none 1 5 25 [.inr (1, (some x0))] h none hh := by
  refine Ctr_v (own := RX1) (ini := True) (ls0 := [some (.inr (1, (some x0)))]) (by decide) rfl (Nat.le_of_ble_eq_true rfl) (fun _ => rfl) rfl ?_
  intro J hJ hR
  unfold F_X1_init at hF
  refine hJ.aload_n (i := 0) dX1_init_0 rfl rfl ?_
  refine hJ.objInit dX1_init_1 w_RX1_3 rfl (by decide) (Nat.le_of_ble_eq_true rfl) ?_
  refine hJ.aload_n (i := 0) dX1_init_4 rfl rfl ?_
  refine hJ.iconst (v := 5) dX1_init_5 (by decide) ?_
  replace hF := lt_S hF
  obtain ⟨h1, eh2, hF⟩ := hF
  refine hJ.newq (N := 5) dX1_init_6 a_9 q_RX1_11 (by decide) (by decide) (by decide) (by decide) (by decide) ?_
  rw [← eh2]
  replace hF := lt_S hF
  obtain ⟨h3, eh4, hF⟩ := hF
  refine hJ.putRF dX1_init_9 f_RX1_13 rfl rfl trivial (Or.inr rfl) rfl ?_
  rw [← eh4]
  refine hJ.aload_n (i := 0) dX1_init_12 rfl rfl ?_
  refine hJ.iconst (v := 5) dX1_init_13 (by decide) ?_
  replace hF := lt_S hF
  obtain ⟨h5, eh6, hF⟩ := hF
  refine hJ.newa_int (N := 5) dX1_init_14 a_10 (by decide) (by decide) (by decide) (by decide) (by decide) ?_
  rw [← eh6]
  replace hF := lt_S hF
  obtain ⟨h7, eh8, hF⟩ := hF
  refine hJ.putRF dX1_init_16 f_RX1_17 rfl rfl trivial (Or.inr rfl) rfl ?_
  rw [← eh8]
  refine hJ.aload_n (i := 0) dX1_init_19 rfl rfl ?_
  refine hJ.iconst (v := 5) dX1_init_20 (by decide) ?_
  replace hF := lt_S hF
  obtain ⟨h9, eh10, hF⟩ := hF
  refine hJ.newa_int (N := 5) dX1_init_21 a_11 (by decide) (by decide) (by decide) (by decide) (by decide) ?_
  rw [← eh10]
  replace hF := lt_S hF
  obtain ⟨h11, eh12, hF⟩ := hF
  refine hJ.putRF dX1_init_23 f_RX1_21 rfl rfl trivial (Or.inr rfl) rfl ?_
  rw [← eh12]
  refine hJ.aload_n (i := 0) dX1_init_26 rfl rfl ?_
  refine hJ.iconst (v := 5) dX1_init_27 (by decide) ?_
  replace hF := lt_S hF
  obtain ⟨h13, eh14, hF⟩ := hF
  refine hJ.newa_int (N := 5) dX1_init_28 a_12 (by decide) (by decide) (by decide) (by decide) (by decide) ?_
  rw [← eh14]
  replace hF := lt_S hF
  obtain ⟨h15, eh16, hF⟩ := hF
  refine hJ.putRF dX1_init_30 f_RX1_24 rfl rfl trivial (Or.inr rfl) rfl ?_
  rw [← eh16]
  refine hJ.aload_n (i := 0) dX1_init_33 rfl rfl ?_
  refine hJ.iconst (v := 5) dX1_init_34 (by decide) ?_
  replace hF := lt_S hF
  obtain ⟨h17, eh18, hF⟩ := hF
  refine hJ.newa_int (N := 5) dX1_init_35 a_13 (by decide) (by decide) (by decide) (by decide) (by decide) ?_
  rw [← eh18]
  replace hF := lt_S hF
  obtain ⟨h19, eh20, hF⟩ := hF
  refine hJ.putRF dX1_init_37 f_RX1_27 rfl rfl trivial (Or.inr rfl) rfl ?_
  rw [← eh20]
  refine hJ.aload_n (i := 0) dX1_init_40 rfl rfl ?_
  refine hJ.iconst (v := 0) dX1_init_41 (by decide) ?_
  replace hF := lt_S hF
  obtain ⟨h21, eh22, hF⟩ := hF
  refine hJ.putI dX1_init_42 f_RX1_30 rfl nar_i rfl ?_
  rw [← eh22]
  refine hJ.aload_n (i := 0) dX1_init_45 rfl rfl ?_
  refine hJ.iconst (v := 0) dX1_init_46 (by decide) ?_
  replace hF := lt_S hF
  obtain ⟨h23, eh24, hF⟩ := hF
  refine hJ.putI dX1_init_47 f_RX1_34 rfl nar_i rfl ?_
  rw [← eh24]
  refine hJ.aload_n (i := 0) dX1_init_50 rfl rfl ?_
  refine hJ.iconst (v := -1) dX1_init_51 (by decide) ?_
  replace hF := lt_S hF
  obtain ⟨h25, eh26, hF⟩ := hF
  refine hJ.putI dX1_init_52 f_RX1_37 rfl nar_i rfl ?_
  rw [← eh26]
  obtain ⟨-, rfl⟩ := ret_S hF
  exact hR dX1_init_55 (by decide) (by decide)

set_option maxHeartbeats 4000000 in
set_option maxRecDepth 100000 in
theorem c_X1_clear {x0 : Nat} {h hh : Hp} {xr : Unit} (hF : F_X1_clear x0 h = some (xr, hh)) : Ctr yX1_clear cX1_clear 1 none 0 0 0 [.inr (1, (some x0))] h none hh := by
  refine Ctr_v (own := RX1) (ini := False) (ls0 := [some (.inr (1, (some x0)))]) (by decide) rfl (Nat.le_of_ble_eq_true rfl) (fun e => e.elim) rfl ?_
  intro J hJ hR
  unfold F_X1_clear at hF
  refine hJ.aload_n (i := 0) dX1_clear_0 rfl rfl ?_
  refine hJ.iconst (v := 0) dX1_clear_1 (by decide) ?_
  replace hF := lt_S hF
  obtain ⟨h1, eh2, hF⟩ := hF
  refine hJ.putI dX1_clear_2 f_RX1_30 rfl nar_i rfl ?_
  rw [← eh2]
  refine hJ.aload_n (i := 0) dX1_clear_5 rfl rfl ?_
  refine hJ.iconst (v := 0) dX1_clear_6 (by decide) ?_
  replace hF := lt_S hF
  obtain ⟨h3, eh4, hF⟩ := hF
  refine hJ.putI dX1_clear_7 f_RX1_34 rfl nar_i rfl ?_
  rw [← eh4]
  refine hJ.aload_n (i := 0) dX1_clear_10 rfl rfl ?_
  refine hJ.iconst (v := -1) dX1_clear_11 (by decide) ?_
  replace hF := lt_S hF
  obtain ⟨h5, eh6, hF⟩ := hF
  refine hJ.putI dX1_clear_12 f_RX1_37 rfl nar_i rfl ?_
  rw [← eh6]
  obtain ⟨-, rfl⟩ := ret_S hF
  exact hR dX1_clear_15 (by decide) (by decide)

set_option maxHeartbeats 4000000 in
set_option maxRecDepth 100000 in
theorem c_X1_admit {x0 : Nat} {x1 : Option Nat} {h hh : Hp} {xr : Unit} (hF : F_X1_admit x0 x1 h = some (xr, hh)) : Ctr yX1_admit cX1_admit 2 none 0 0 0 [.inr (1, (some x0)), .inr (2, x1)] h none hh := by
  refine Ctr_v (own := RX1) (ini := False) (ls0 := [some (.inr (1, (some x0))), some (.inr (2, x1))]) (by decide) rfl (Nat.le_of_ble_eq_true rfl) (fun e => e.elim) rfl ?_
  intro J hJ hR
  unfold F_X1_admit at hF
  refine hJ.aload_n (i := 0) dX1_admit_0 rfl rfl ?_
  refine hJ.getI dX1_admit_1 f_RX1_30 rfl ?_
  refine hJ.iconst (v := 5) dX1_admit_4 (by decide) ?_
  refine hJ.icmp_ge (tgt := 31) dX1_admit_5 (by decide) (fun e1 => ?_) (fun e1 => ?_)
  · replace hF := ite_T e1 hF
    refine hJ.aload_n (i := 0) dX1_admit_31 rfl rfl ?_
    refine hJ.dup dX1_admit_32 ?_
    refine hJ.getI dX1_admit_33 f_RX1_30 rfl ?_
    refine hJ.iconst (v := 1) dX1_admit_36 (by decide) ?_
    refine hJ.iadd dX1_admit_37 ?_
    replace hF := lt_S hF
    obtain ⟨h2, eh3, hF⟩ := hF
    refine hJ.putI dX1_admit_38 f_RX1_30 rfl nar_i rfl ?_
    rw [← eh3]
    obtain ⟨-, rfl⟩ := ret_S hF
    exact hR dX1_admit_41 (by decide) (by decide)
  · replace hF := ite_F e1 hF
    refine hJ.aload_n (i := 0) dX1_admit_8 rfl rfl ?_
    refine hJ.getR dX1_admit_9 f_RX1_13 rfl ?_
    refine hJ.aload_n (i := 0) dX1_admit_12 rfl rfl ?_
    refine hJ.getI dX1_admit_13 f_RX1_30 rfl ?_
    refine hJ.aload_n (i := 1) dX1_admit_16 rfl rfl ?_
    replace hF := nn_S hF
    obtain ⟨n4, e5, hF⟩ := hF
    rw [e5]
    replace hF := ck_S hF
    obtain ⟨c6, hF⟩ := hF
    replace hF := lt_S hF
    obtain ⟨h7, eh8, hF⟩ := hF
    refine hJ.aast dX1_admit_17 a_9 rfl c6 ?_
    rw [← eh8]
    refine hJ.aload_n (i := 0) dX1_admit_18 rfl rfl ?_
    refine hJ.getR dX1_admit_19 f_RX1_17 rfl ?_
    refine hJ.aload_n (i := 0) dX1_admit_22 rfl rfl ?_
    refine hJ.getI dX1_admit_23 f_RX1_30 rfl ?_
    refine hJ.aload_n (i := 0) dX1_admit_26 rfl rfl ?_
    refine hJ.getI dX1_admit_27 f_RX1_30 rfl ?_
    replace hF := nn_S hF
    obtain ⟨n9, e10, hF⟩ := hF
    rw [e10]
    replace hF := ck_S hF
    obtain ⟨c11, hF⟩ := hF
    replace hF := lt_S hF
    obtain ⟨h12, eh13, hF⟩ := hF
    refine hJ.iast dX1_admit_30 a_10 rfl c11 ?_
    rw [← eh13]
    refine hJ.aload_n (i := 0) dX1_admit_31 rfl rfl ?_
    refine hJ.dup dX1_admit_32 ?_
    refine hJ.getI dX1_admit_33 f_RX1_30 rfl ?_
    refine hJ.iconst (v := 1) dX1_admit_36 (by decide) ?_
    refine hJ.iadd dX1_admit_37 ?_
    replace hF := lt_S hF
    obtain ⟨h14, eh15, hF⟩ := hF
    refine hJ.putI dX1_admit_38 f_RX1_30 rfl nar_i rfl ?_
    rw [← eh15]
    obtain ⟨-, rfl⟩ := ret_S hF
    exact hR dX1_admit_41 (by decide) (by decide)

set_option maxHeartbeats 4000000 in
set_option maxRecDepth 100000 in
theorem c_X7_within {x0 : Int32} {x1 : Int32} {x2 : Int32} {h hh : Hp} {xr : Int32} (hF : F_X7_within x0 x1 x2 h = some (xr, hh)) : Ctr yX7_within cX7_within 3 (some .boolean) 0 0 0 [.inl x0, .inl x1, .inl x2] h (some (.inl xr)) hh := by
  refine Ctr_z (own := RX7) (ini := False) (ls0 := [some (.inl x0), some (.inl x1), some (.inl x2)]) (by decide) rfl (Nat.le_of_ble_eq_true rfl) (fun e => e.elim) rfl ?_
  intro J hJ hR
  unfold F_X7_within at hF
  refine hJ.iload_n (i := 0) dX7_within_0 rfl rfl ?_
  refine hJ.iload_n (i := 1) dX7_within_1 rfl rfl ?_
  refine hJ.icmp_lt (tgt := 14) dX7_within_2 (by decide) (fun e1 => ?_) (fun e1 => ?_)
  · replace hF := ite_T e1 hF
    refine hJ.iconst (v := 0) dX7_within_14 (by decide) ?_
    obtain ⟨rfl, rfl⟩ := ret_S hF
    exact hR dX7_within_15 (by decide) (by decide) (by decide)
  · replace hF := ite_F e1 hF
    refine hJ.iload_n (i := 0) dX7_within_5 rfl rfl ?_
    refine hJ.iload_n (i := 2) dX7_within_6 rfl rfl ?_
    refine hJ.icmp_gt (tgt := 14) dX7_within_7 (by decide) (fun e2 => ?_) (fun e2 => ?_)
    · replace hF := ite_T e2 hF
      refine hJ.iconst (v := 0) dX7_within_14 (by decide) ?_
      obtain ⟨rfl, rfl⟩ := ret_S hF
      exact hR dX7_within_15 (by decide) (by decide) (by decide)
    · replace hF := ite_F e2 hF
      refine hJ.iconst (v := 1) dX7_within_10 (by decide) ?_
      refine hJ.goto (tgt := 15) dX7_within_11 (by decide) ?_
      obtain ⟨rfl, rfl⟩ := ret_S hF
      exact hR dX7_within_15 (by decide) (by decide) (by decide)

set_option maxHeartbeats 4000000 in
set_option maxRecDepth 100000 in
theorem c_X1_raftIn {x0 : Nat} {x1 : Int32} {h hh : Hp} {xr : Int32} (hF : F_X1_raftIn x0 x1 h = some (xr, hh)) : Ctr yX1_raftIn cX1_raftIn 2 (some .int) 1 0 0 [.inr (1, (some x0)), .inl x1] h (some (.inl xr)) hh := by
  refine Ctr_i (own := RX1) (ini := False) (ls0 := [some (.inr (1, (some x0))), some (.inl x1)]) (by decide) rfl (Nat.le_of_ble_eq_true rfl) (fun e => e.elim) rfl ?_
  intro J hJ hR
  unfold F_X1_raftIn at hF
  refine hJ.iload_n (i := 1) dX1_raftIn_0 rfl rfl ?_
  refine hJ.iconst (v := 0) dX1_raftIn_1 (by decide) ?_
  refine hJ.aload_n (i := 0) dX1_raftIn_2 rfl rfl ?_
  refine hJ.getI dX1_raftIn_3 f_RX1_34 rfl ?_
  refine hJ.iconst (v := 1) dX1_raftIn_6 (by decide) ?_
  refine hJ.isub dX1_raftIn_7 ?_
  replace hF := cl_S hF
  obtain ⟨r1, h2, ec3, hF⟩ := hF
  refine hJ.callSN (as := [.inl x1, .inl (0 : Int32), .inl ((pI h 1 x0 6) - (1 : Int32))]) (st := []) dX1_raftIn_8 w_RX1_40 (c_X7_within ec3) (by decide) (by decide) (by decide) rfl (Nat.le_of_ble_eq_true rfl) rfl ?_
  refine hJ.if_eq (tgt := 31) dX1_raftIn_11 (by decide) (fun e4 => ?_) (fun e4 => ?_)
  · replace hF := ite_T e4 hF
    refine hJ.iconst (v := -1) dX1_raftIn_31 (by decide) ?_
    obtain ⟨rfl, rfl⟩ := ret_S hF
    exact hR dX1_raftIn_32 (by decide) (by decide)
  · replace hF := ite_F e4 hF
    refine hJ.aload_n (i := 0) dX1_raftIn_14 rfl rfl ?_
    refine hJ.getR dX1_raftIn_15 f_RX1_13 rfl ?_
    refine hJ.aload_n (i := 0) dX1_raftIn_18 rfl rfl ?_
    refine hJ.getR dX1_raftIn_19 f_RX1_24 rfl ?_
    refine hJ.iload_n (i := 1) dX1_raftIn_22 rfl rfl ?_
    replace hF := nn_S hF
    obtain ⟨n5, e6, hF⟩ := hF
    rw [e6]
    replace hF := ck_S hF
    obtain ⟨c7, hF⟩ := hF
    refine hJ.iald dX1_raftIn_23 a_12 rfl c7 ?_
    replace hF := nn_S hF
    obtain ⟨n8, e9, hF⟩ := hF
    rw [e9]
    replace hF := ck_S hF
    obtain ⟨c10, hF⟩ := hF
    refine hJ.aald dX1_raftIn_24 a_9 rfl c10 ?_
    replace hF := nn_S hF
    obtain ⟨n11, e12, hF⟩ := hF
    rw [e12]
    refine hJ.getI dX1_raftIn_25 f_RX1_44 rfl ?_
    refine hJ.goto (tgt := 32) dX1_raftIn_28 (by decide) ?_
    obtain ⟨rfl, rfl⟩ := ret_S hF
    exact hR dX1_raftIn_32 (by decide) (by decide)

set_option maxHeartbeats 4000000 in
set_option maxRecDepth 100000 in
theorem c_X1_hourOf {x0 : Nat} {x1 : Int32} {h hh : Hp} {xr : Int32} (hF : F_X1_hourOf x0 x1 h = some (xr, hh)) : Ctr yX1_hourOf cX1_hourOf 2 (some .int) 1 0 0 [.inr (1, (some x0)), .inl x1] h (some (.inl xr)) hh := by
  refine Ctr_i (own := RX1) (ini := False) (ls0 := [some (.inr (1, (some x0))), some (.inl x1)]) (by decide) rfl (Nat.le_of_ble_eq_true rfl) (fun e => e.elim) rfl ?_
  intro J hJ hR
  unfold F_X1_hourOf at hF
  refine hJ.iload_n (i := 1) dX1_hourOf_0 rfl rfl ?_
  refine hJ.iconst (v := 0) dX1_hourOf_1 (by decide) ?_
  refine hJ.aload_n (i := 0) dX1_hourOf_2 rfl rfl ?_
  refine hJ.getI dX1_hourOf_3 f_RX1_34 rfl ?_
  refine hJ.iconst (v := 1) dX1_hourOf_6 (by decide) ?_
  refine hJ.isub dX1_hourOf_7 ?_
  replace hF := cl_S hF
  obtain ⟨r1, h2, ec3, hF⟩ := hF
  refine hJ.callSN (as := [.inl x1, .inl (0 : Int32), .inl ((pI h 1 x0 6) - (1 : Int32))]) (st := []) dX1_hourOf_8 w_RX1_40 (c_X7_within ec3) (by decide) (by decide) (by decide) rfl (Nat.le_of_ble_eq_true rfl) rfl ?_
  refine hJ.if_eq (tgt := 23) dX1_hourOf_11 (by decide) (fun e4 => ?_) (fun e4 => ?_)
  · replace hF := ite_T e4 hF
    refine hJ.iconst (v := -1) dX1_hourOf_23 (by decide) ?_
    obtain ⟨rfl, rfl⟩ := ret_S hF
    exact hR dX1_hourOf_24 (by decide) (by decide)
  · replace hF := ite_F e4 hF
    refine hJ.aload_n (i := 0) dX1_hourOf_14 rfl rfl ?_
    refine hJ.getR dX1_hourOf_15 f_RX1_27 rfl ?_
    refine hJ.iload_n (i := 1) dX1_hourOf_18 rfl rfl ?_
    replace hF := nn_S hF
    obtain ⟨n5, e6, hF⟩ := hF
    rw [e6]
    replace hF := ck_S hF
    obtain ⟨c7, hF⟩ := hF
    refine hJ.iald dX1_hourOf_19 a_13 rfl c7 ?_
    refine hJ.goto (tgt := 24) dX1_hourOf_20 (by decide) ?_
    obtain ⟨rfl, rfl⟩ := ret_S hF
    exact hR dX1_hourOf_24 (by decide) (by decide)

set_option maxHeartbeats 4000000 in
set_option maxRecDepth 100000 in
theorem c_X2_need {x0 : Nat} {h hh : Hp} {xr : Int32} (hF : F_X2_need x0 h = some (xr, hh)) : Ctr yX2_need cX2_need 1 (some .int) 0 0 0 [.inr (2, (some x0))] h (some (.inl xr)) hh := by
  refine Ctr_i (own := RX2) (ini := False) (ls0 := [some (.inr (2, (some x0)))]) (by decide) rfl (Nat.le_of_ble_eq_true rfl) (fun e => e.elim) rfl ?_
  intro J hJ hR
  unfold F_X2_need at hF
  refine hJ.iconst (v := 5) dX2_need_0 (by decide) ?_
  refine hJ.aload_n (i := 0) dX2_need_1 rfl rfl ?_
  refine hJ.getI dX2_need_2 f_RX2_17 rfl ?_
  refine hJ.imul dX2_need_5 ?_
  obtain ⟨rfl, rfl⟩ := ret_S hF
  exact hR dX2_need_6 (by decide) (by decide)

set_option maxHeartbeats 4000000 in
set_option maxRecDepth 100000 in
theorem c_X1_hoursToFill {x0 : Int32} {x1 : Int32} {h hh : Hp} {xr : Int32} (hF : F_X1_hoursToFill x0 x1 h = some (xr, hh)) : Ctr yX1_hoursToFill cX1_hoursToFill 2 (some .int) 0 0 0 [.inl x0, .inl x1] h (some (.inl xr)) hh := by
  refine Ctr_i (own := RX1) (ini := False) (ls0 := [some (.inl x0), some (.inl x1)]) (by decide) rfl (Nat.le_of_ble_eq_true rfl) (fun e => e.elim) rfl ?_
  intro J hJ hR
  unfold F_X1_hoursToFill at hF
  refine hJ.iload_n (i := 0) dX1_hoursToFill_0 rfl rfl ?_
  refine hJ.if_gt (tgt := 6) dX1_hoursToFill_1 (by decide) (fun e1 => ?_) (fun e1 => ?_)
  · replace hF := ite_T e1 hF
    refine hJ.iload_n (i := 1) dX1_hoursToFill_6 rfl rfl ?_
    refine hJ.if_gt (tgt := 14) dX1_hoursToFill_7 (by decide) (fun e2 => ?_) (fun e2 => ?_)
    · replace hF := ite_T e2 hF
      refine hJ.iload_n (i := 0) dX1_hoursToFill_14 rfl rfl ?_
      refine hJ.iload_n (i := 1) dX1_hoursToFill_15 rfl rfl ?_
      refine hJ.iadd dX1_hoursToFill_16 ?_
      refine hJ.iconst (v := 1) dX1_hoursToFill_17 (by decide) ?_
      refine hJ.isub dX1_hoursToFill_18 ?_
      refine hJ.iload_n (i := 1) dX1_hoursToFill_19 rfl rfl ?_
      replace hF := ck_S hF
      obtain ⟨c3, hF⟩ := hF
      refine hJ.idiv dX1_hoursToFill_20 (nz_S c3) ?_
      obtain ⟨rfl, rfl⟩ := ret_S hF
      exact hR dX1_hoursToFill_21 (by decide) (by decide)
    · replace hF := ite_F e2 hF
      refine hJ.iconst (v := -1) dX1_hoursToFill_10 (by decide) ?_
      refine hJ.goto (tgt := 21) dX1_hoursToFill_11 (by decide) ?_
      obtain ⟨rfl, rfl⟩ := ret_S hF
      exact hR dX1_hoursToFill_21 (by decide) (by decide)
  · replace hF := ite_F e1 hF
    refine hJ.iconst (v := 0) dX1_hoursToFill_4 (by decide) ?_
    obtain ⟨rfl, rfl⟩ := ret_S hF
    exact hR dX1_hoursToFill_5 (by decide) (by decide)

set_option maxHeartbeats 4000000 in
set_option maxRecDepth 100000 in
theorem t_X1_sumOfHours_14 {β : Type} {J : JT} (hJ : Rules cX1_sumOfHours RX1 10 1 0 0 False J) {a b : Nat} (ha : a ≤ 0) (hb : b ≤ 0) {v0 : Nat} {v1 : Nat} {κ139 : Int32 → Hp → Option β} {κ60 : Hp → Option β} {out : β}
    (hk139 : ∀ (k3 : Int32) (h : Hp), κ139 k3 h = some out → J 139 [none, none, none, some (.inl k3), none, none, none, none, none, none] [] h a b)
    (hk60 : ∀ (h : Hp), κ60 h = some out → J 60 [none, none, none, none, none, none, none, none, none, none] [] h a b)
    : ∀ (f : Nat) (v3 : Int32) (v4 : Int32) (v5 : Int32) (v6 : Int32) (h : Hp), L_X1_sumOfHours_14 v0 v1 κ139 κ60 f v3 v4 v5 v6 h = some out → J 14 [some (.inr (1, (some v0))), some (.inr (4, (some v1))), none, some (.inl v3), some (.inl v4), some (.inl v5), some (.inl v6), none, none, none] [] h a b := by
  intro f
  induction f with
  | zero => intro v3 v4 v5 v6 h hF; simp [L_X1_sumOfHours_14] at hF
  | succ f ih =>
    intro v3 v4 v5 v6 h hF
    rw [L_X1_sumOfHours_14] at hF
    refine hJ.iload (i := 6) dX1_sumOfHours_14 rfl ?_
    refine hJ.aload_n (i := 0) dX1_sumOfHours_16 rfl rfl ?_
    refine hJ.getI dX1_sumOfHours_17 f_RX1_30 rfl ?_
    refine hJ.icmp_ge (tgt := 139) dX1_sumOfHours_20 (by decide) (fun e3 => ?_) (fun e3 => ?_)
    · replace hF := ite_T e3 hF
      refine hJ.forget (ls2 := [none, none, none, some (.inl v3), none, none, none, none, none, none]) ⟨rfl, trivial⟩ ?_
      exact hk139 v3 h hF
    · replace hF := ite_F e3 hF
      refine hJ.aload_n (i := 0) dX1_sumOfHours_23 rfl rfl ?_
      refine hJ.getR dX1_sumOfHours_24 f_RX1_13 rfl ?_
      refine hJ.aload_n (i := 0) dX1_sumOfHours_27 rfl rfl ?_
      refine hJ.getR dX1_sumOfHours_28 f_RX1_17 rfl ?_
      refine hJ.iload (i := 6) dX1_sumOfHours_31 rfl ?_
      replace hF := nn_S hF
      obtain ⟨n4, e5, hF⟩ := hF
      rw [e5]
      replace hF := ck_S hF
      obtain ⟨c6, hF⟩ := hF
      refine hJ.iald dX1_sumOfHours_33 a_10 rfl c6 ?_
      replace hF := nn_S hF
      obtain ⟨n7, e8, hF⟩ := hF
      rw [e8]
      replace hF := ck_S hF
      obtain ⟨c9, hF⟩ := hF
      refine hJ.aald dX1_sumOfHours_34 a_9 rfl c9 ?_
      replace hF := nn_S hF
      obtain ⟨n10, e11, hF⟩ := hF
      rw [e11]
      replace hF := cl_S hF
      obtain ⟨r12, h13, ec14, hF⟩ := hF
      refine hJ.callV (as := []) (st := []) dX1_sumOfHours_35 w_RX1_64 ⟨by decide, rfl⟩ rfl (c_X2_need ec14) (by decide) ha hb rfl (Nat.le_of_ble_eq_true rfl) rfl ?_
      refine hJ.istore (i := 7) (ls2 := [some (.inr (1, (some v0))), some (.inr (4, (some v1))), none, some (.inl v3), some (.inl v4), some (.inl v5), some (.inl v6), some (.inl r12), none, none]) dX1_sumOfHours_38 (by decide) rfl ?_
      refine hJ.iload (i := 7) dX1_sumOfHours_40 rfl ?_
      refine hJ.iload (i := 5) dX1_sumOfHours_42 rfl ?_
      refine hJ.isub dX1_sumOfHours_44 ?_
      refine hJ.aload_n (i := 1) dX1_sumOfHours_45 rfl rfl ?_
      refine hJ.getI dX1_sumOfHours_46 f_RX1_68 rfl ?_
      replace hF := cl_S hF
      obtain ⟨r15, h16, ec17, hF⟩ := hF
      refine hJ.callS (as := [.inl (r12 - v5), .inl (pI h13 4 v1 4)]) (st := []) dX1_sumOfHours_49 w_RX1_71 (c_X1_hoursToFill ec17) (by decide) ha hb rfl (Nat.le_of_ble_eq_true rfl) rfl ?_
      refine hJ.istore (i := 8) (ls2 := [some (.inr (1, (some v0))), some (.inr (4, (some v1))), none, some (.inl v3), some (.inl v4), some (.inl v5), some (.inl v6), some (.inl r12), some (.inl r15), none]) dX1_sumOfHours_52 (by decide) rfl ?_
      refine hJ.iload (i := 8) dX1_sumOfHours_54 rfl ?_
      refine hJ.iconst (v := -1) dX1_sumOfHours_56 (by decide) ?_
      refine hJ.icmp_ne (tgt := 62) dX1_sumOfHours_57 (by decide) (fun e18 => ?_) (fun e18 => ?_)
      · replace hF := ite_F e18 hF
        refine hJ.aload_n (i := 0) dX1_sumOfHours_62 rfl rfl ?_
        refine hJ.getR dX1_sumOfHours_63 f_RX1_21 rfl ?_
        refine hJ.iload (i := 6) dX1_sumOfHours_66 rfl ?_
        refine hJ.iload (i := 4) dX1_sumOfHours_68 rfl ?_
        refine hJ.iload (i := 8) dX1_sumOfHours_70 rfl ?_
        refine hJ.iadd dX1_sumOfHours_72 ?_
        replace hF := nn_S hF
        obtain ⟨n19, e20, hF⟩ := hF
        rw [e20]
        replace hF := ck_S hF
        obtain ⟨c21, hF⟩ := hF
        replace hF := lt_S hF
        obtain ⟨h22, eh23, hF⟩ := hF
        refine hJ.iast dX1_sumOfHours_73 a_11 rfl c21 ?_
        rw [← eh23]
        refine hJ.iload_n (i := 3) dX1_sumOfHours_74 rfl rfl ?_
        refine hJ.aload_n (i := 0) dX1_sumOfHours_75 rfl rfl ?_
        refine hJ.getR dX1_sumOfHours_76 f_RX1_21 rfl ?_
        refine hJ.iload (i := 6) dX1_sumOfHours_79 rfl ?_
        replace hF := nn_S hF
        obtain ⟨n24, e25, hF⟩ := hF
        rw [e25]
        replace hF := ck_S hF
        obtain ⟨c26, hF⟩ := hF
        refine hJ.iald dX1_sumOfHours_81 a_11 rfl c26 ?_
        refine hJ.iadd dX1_sumOfHours_82 ?_
        refine hJ.istore_n (i := 3) (ls2 := [some (.inr (1, (some v0))), some (.inr (4, (some v1))), none, some (.inl (v3 + (pI h22 11 n24 (v6).toNatClampNeg))), some (.inl v4), some (.inl v5), some (.inl v6), some (.inl r12), some (.inl r15), none]) dX1_sumOfHours_83 rfl (by decide) rfl ?_
        refine hJ.aload_n (i := 0) dX1_sumOfHours_84 rfl rfl ?_
        refine hJ.getR dX1_sumOfHours_85 f_RX1_21 rfl ?_
        rw [e25]
        refine hJ.iload (i := 6) dX1_sumOfHours_88 rfl ?_
        replace hF := ck_S hF
        obtain ⟨c27, hF⟩ := hF
        refine hJ.iald dX1_sumOfHours_90 a_11 rfl c27 ?_
        refine hJ.iconst (v := 1) dX1_sumOfHours_91 (by decide) ?_
        refine hJ.iadd dX1_sumOfHours_92 ?_
        refine hJ.istore (i := 4) (ls2 := [some (.inr (1, (some v0))), some (.inr (4, (some v1))), none, some (.inl (v3 + (pI h22 11 n24 (v6).toNatClampNeg))), some (.inl ((pI h22 11 n24 (v6).toNatClampNeg) + (1 : Int32))), some (.inl v5), some (.inl v6), some (.inl r12), some (.inl r15), none]) dX1_sumOfHours_93 (by decide) rfl ?_
        refine hJ.aload_n (i := 1) dX1_sumOfHours_95 rfl rfl ?_
        refine hJ.getI dX1_sumOfHours_96 f_RX1_75 rfl ?_
        refine hJ.iload (i := 5) dX1_sumOfHours_99 rfl ?_
        refine hJ.iload (i := 8) dX1_sumOfHours_101 rfl ?_
        refine hJ.aload_n (i := 1) dX1_sumOfHours_103 rfl rfl ?_
        refine hJ.getI dX1_sumOfHours_104 f_RX1_68 rfl ?_
        refine hJ.imul dX1_sumOfHours_107 ?_
        refine hJ.iadd dX1_sumOfHours_108 ?_
        refine hJ.mmin dX1_sumOfHours_109 w_RX1_78 (by decide) (Nat.le_of_ble_eq_true rfl) ha hb ?_
        refine hJ.iload (i := 7) dX1_sumOfHours_112 rfl ?_
        refine hJ.isub dX1_sumOfHours_114 ?_
        refine hJ.istore (i := 9) (ls2 := [some (.inr (1, (some v0))), some (.inr (4, (some v1))), none, some (.inl (v3 + (pI h22 11 n24 (v6).toNatClampNeg))), some (.inl ((pI h22 11 n24 (v6).toNatClampNeg) + (1 : Int32))), some (.inl v5), some (.inl v6), some (.inl r12), some (.inl r15), some (.inl ((if (v5 + (r15 * (pI h22 4 v1 4))) < (pI h22 4 v1 5) then (v5 + (r15 * (pI h22 4 v1 4))) else (pI h22 4 v1 5)) - r12))]) dX1_sumOfHours_115 (by decide) rfl ?_
        refine hJ.aload_n (i := 1) dX1_sumOfHours_117 rfl rfl ?_
        refine hJ.getI dX1_sumOfHours_118 f_RX1_75 rfl ?_
        refine hJ.iload (i := 9) dX1_sumOfHours_121 rfl ?_
        refine hJ.aload_n (i := 1) dX1_sumOfHours_123 rfl rfl ?_
        refine hJ.getI dX1_sumOfHours_124 f_RX1_68 rfl ?_
        refine hJ.iadd dX1_sumOfHours_127 ?_
        refine hJ.mmin dX1_sumOfHours_128 w_RX1_78 (by decide) (Nat.le_of_ble_eq_true rfl) ha hb ?_
        refine hJ.istore (i := 5) (ls2 := [some (.inr (1, (some v0))), some (.inr (4, (some v1))), none, some (.inl (v3 + (pI h22 11 n24 (v6).toNatClampNeg))), some (.inl ((pI h22 11 n24 (v6).toNatClampNeg) + (1 : Int32))), some (.inl (if (((if (v5 + (r15 * (pI h22 4 v1 4))) < (pI h22 4 v1 5) then (v5 + (r15 * (pI h22 4 v1 4))) else (pI h22 4 v1 5)) - r12) + (pI h22 4 v1 4)) < (pI h22 4 v1 5) then (((if (v5 + (r15 * (pI h22 4 v1 4))) < (pI h22 4 v1 5) then (v5 + (r15 * (pI h22 4 v1 4))) else (pI h22 4 v1 5)) - r12) + (pI h22 4 v1 4)) else (pI h22 4 v1 5))), some (.inl v6), some (.inl r12), some (.inl r15), some (.inl ((if (v5 + (r15 * (pI h22 4 v1 4))) < (pI h22 4 v1 5) then (v5 + (r15 * (pI h22 4 v1 4))) else (pI h22 4 v1 5)) - r12))]) dX1_sumOfHours_131 (by decide) rfl ?_
        refine hJ.iinc (i := 6) (v := (v6 + (1 : Int32))) (ls2 := [some (.inr (1, (some v0))), some (.inr (4, (some v1))), none, some (.inl (v3 + (pI h22 11 n24 (v6).toNatClampNeg))), some (.inl ((pI h22 11 n24 (v6).toNatClampNeg) + (1 : Int32))), some (.inl (if (((if (v5 + (r15 * (pI h22 4 v1 4))) < (pI h22 4 v1 5) then (v5 + (r15 * (pI h22 4 v1 4))) else (pI h22 4 v1 5)) - r12) + (pI h22 4 v1 4)) < (pI h22 4 v1 5) then (((if (v5 + (r15 * (pI h22 4 v1 4))) < (pI h22 4 v1 5) then (v5 + (r15 * (pI h22 4 v1 4))) else (pI h22 4 v1 5)) - r12) + (pI h22 4 v1 4)) else (pI h22 4 v1 5))), some (.inl (v6 + (1 : Int32))), some (.inl r12), some (.inl r15), some (.inl ((if (v5 + (r15 * (pI h22 4 v1 4))) < (pI h22 4 v1 5) then (v5 + (r15 * (pI h22 4 v1 4))) else (pI h22 4 v1 5)) - r12))]) dX1_sumOfHours_133 rfl (addI (by decide)) (by decide) rfl ?_
        refine hJ.goto (tgt := 14) dX1_sumOfHours_136 (by decide) ?_
        refine hJ.forget (ls2 := [some (.inr (1, (some v0))), some (.inr (4, (some v1))), none, some (.inl (v3 + (pI h22 11 n24 (v6).toNatClampNeg))), some (.inl ((pI h22 11 n24 (v6).toNatClampNeg) + (1 : Int32))), some (.inl (if (((if (v5 + (r15 * (pI h22 4 v1 4))) < (pI h22 4 v1 5) then (v5 + (r15 * (pI h22 4 v1 4))) else (pI h22 4 v1 5)) - r12) + (pI h22 4 v1 4)) < (pI h22 4 v1 5) then (((if (v5 + (r15 * (pI h22 4 v1 4))) < (pI h22 4 v1 5) then (v5 + (r15 * (pI h22 4 v1 4))) else (pI h22 4 v1 5)) - r12) + (pI h22 4 v1 4)) else (pI h22 4 v1 5))), some (.inl (v6 + (1 : Int32))), none, none, none]) ⟨rfl, rfl, rfl, rfl, rfl, rfl, trivial⟩ ?_
        exact ih (v3 + (pI h22 11 n24 (v6).toNatClampNeg)) ((pI h22 11 n24 (v6).toNatClampNeg) + (1 : Int32)) (if (((if (v5 + (r15 * (pI h22 4 v1 4))) < (pI h22 4 v1 5) then (v5 + (r15 * (pI h22 4 v1 4))) else (pI h22 4 v1 5)) - r12) + (pI h22 4 v1 4)) < (pI h22 4 v1 5) then (((if (v5 + (r15 * (pI h22 4 v1 4))) < (pI h22 4 v1 5) then (v5 + (r15 * (pI h22 4 v1 4))) else (pI h22 4 v1 5)) - r12) + (pI h22 4 v1 4)) else (pI h22 4 v1 5)) (v6 + (1 : Int32)) h22 hF
      · replace hF := ite_T e18 hF
        refine hJ.forget (ls2 := [none, none, none, none, none, none, none, none, none, none]) trivial ?_
        exact hk60 h16 hF

set_option maxHeartbeats 4000000 in
set_option maxRecDepth 100000 in
theorem c_X1_sumOfHours {x0 : Nat} {x1 : Option Nat} {x2 : Int32} {h hh : Hp} {xr : Int32} (hF : F_X1_sumOfHours x0 x1 x2 h = some (xr, hh)) : Ctr yX1_sumOfHours cX1_sumOfHours 10 (some .int) 1 0 0 [.inr (1, (some x0)), .inr (4, x1), .inl x2] h (some (.inl xr)) hh := by
  refine Ctr_i (own := RX1) (ini := False) (ls0 := [some (.inr (1, (some x0))), some (.inr (4, x1)), some (.inl x2), none, none, none, none, none, none, none]) (by decide) rfl (Nat.le_of_ble_eq_true rfl) (fun e => e.elim) rfl ?_
  intro J hJ hR
  unfold F_X1_sumOfHours at hF
  refine hJ.iconst (v := 0) dX1_sumOfHours_0 (by decide) ?_
  refine hJ.istore_n (i := 3) (ls2 := [some (.inr (1, (some x0))), some (.inr (4, x1)), some (.inl x2), some (.inl (0 : Int32)), none, none, none, none, none, none]) dX1_sumOfHours_1 rfl (by decide) rfl ?_
  refine hJ.iload_n (i := 2) dX1_sumOfHours_2 rfl rfl ?_
  refine hJ.istore (i := 4) (ls2 := [some (.inr (1, (some x0))), some (.inr (4, x1)), some (.inl x2), some (.inl (0 : Int32)), some (.inl x2), none, none, none, none, none]) dX1_sumOfHours_3 (by decide) rfl ?_
  refine hJ.aload_n (i := 1) dX1_sumOfHours_5 rfl rfl ?_
  replace hF := nn_S hF
  obtain ⟨n1, e2, hF⟩ := hF
  subst e2
  refine hJ.getI dX1_sumOfHours_6 f_RX1_59 rfl ?_
  refine hJ.istore (i := 5) (ls2 := [some (.inr (1, (some x0))), some (.inr (4, (some n1))), some (.inl x2), some (.inl (0 : Int32)), some (.inl x2), some (.inl (pI h 4 n1 7)), none, none, none, none]) dX1_sumOfHours_9 (by decide) rfl ?_
  refine hJ.iconst (v := 0) dX1_sumOfHours_11 (by decide) ?_
  refine hJ.istore (i := 6) (ls2 := [some (.inr (1, (some x0))), some (.inr (4, (some n1))), some (.inl x2), some (.inl (0 : Int32)), some (.inl x2), some (.inl (pI h 4 n1 7)), some (.inl (0 : Int32)), none, none, none]) dX1_sumOfHours_12 (by decide) rfl ?_
  refine hJ.forget (ls2 := [some (.inr (1, (some x0))), some (.inr (4, (some n1))), none, some (.inl (0 : Int32)), some (.inl x2), some (.inl (pI h 4 n1 7)), some (.inl (0 : Int32)), none, none, none]) ⟨rfl, rfl, rfl, rfl, rfl, rfl, trivial⟩ ?_
  refine t_X1_sumOfHours_14 hJ (by decide) (by decide) (fun k28 h29 hF => ?_) (fun h30 hF => ?_) FU _ _ _ _ _ hF
  · refine hJ.iload_n (i := 3) dX1_sumOfHours_139 rfl rfl ?_
    obtain ⟨rfl, rfl⟩ := ret_S hF
    exact hR dX1_sumOfHours_140 (by decide) (by decide)
  · refine hJ.iconst (v := -1) dX1_sumOfHours_60 (by decide) ?_
    obtain ⟨rfl, rfl⟩ := ret_S hF
    exact hR dX1_sumOfHours_61 (by decide) (by decide)

set_option maxHeartbeats 4000000 in
set_option maxRecDepth 100000 in
theorem t_X1_keep_15 {β : Type} {J : JT} (hJ : Rules cX1_keep RX1 3 0 0 0 False J) {a b : Nat} (ha : a ≤ 0) (hb : b ≤ 0) {v0 : Nat} {κ53 : Hp → Option β} {out : β}
    (hk53 : ∀ (h : Hp), κ53 h = some out → J 53 [none, none, none] [] h a b)
    : ∀ (f : Nat) (v2 : Int32) (h : Hp), L_X1_keep_15 v0 κ53 f v2 h = some out → J 15 [some (.inr (1, (some v0))), none, some (.inl v2)] [] h a b := by
  intro f
  induction f with
  | zero => intro v2 h hF; simp [L_X1_keep_15] at hF
  | succ f ih =>
    intro v2 h hF
    rw [L_X1_keep_15] at hF
    refine hJ.iload_n (i := 2) dX1_keep_15 rfl rfl ?_
    refine hJ.aload_n (i := 0) dX1_keep_16 rfl rfl ?_
    refine hJ.getI dX1_keep_17 f_RX1_30 rfl ?_
    refine hJ.icmp_ge (tgt := 53) dX1_keep_20 (by decide) (fun e5 => ?_) (fun e5 => ?_)
    · replace hF := ite_T e5 hF
      refine hJ.forget (ls2 := [none, none, none]) trivial ?_
      exact hk53 h hF
    · replace hF := ite_F e5 hF
      refine hJ.aload_n (i := 0) dX1_keep_23 rfl rfl ?_
      refine hJ.getR dX1_keep_24 f_RX1_24 rfl ?_
      refine hJ.iload_n (i := 2) dX1_keep_27 rfl rfl ?_
      refine hJ.aload_n (i := 0) dX1_keep_28 rfl rfl ?_
      refine hJ.getR dX1_keep_29 f_RX1_17 rfl ?_
      refine hJ.iload_n (i := 2) dX1_keep_32 rfl rfl ?_
      replace hF := nn_S hF
      obtain ⟨n6, e7, hF⟩ := hF
      rw [e7]
      replace hF := ck_S hF
      obtain ⟨c8, hF⟩ := hF
      refine hJ.iald dX1_keep_33 a_10 rfl c8 ?_
      replace hF := nn_S hF
      obtain ⟨n9, e10, hF⟩ := hF
      rw [e10]
      replace hF := ck_S hF
      obtain ⟨c11, hF⟩ := hF
      replace hF := lt_S hF
      obtain ⟨h12, eh13, hF⟩ := hF
      refine hJ.iast dX1_keep_34 a_12 rfl c11 ?_
      rw [← eh13]
      refine hJ.aload_n (i := 0) dX1_keep_35 rfl rfl ?_
      refine hJ.getR dX1_keep_36 f_RX1_27 rfl ?_
      refine hJ.iload_n (i := 2) dX1_keep_39 rfl rfl ?_
      refine hJ.aload_n (i := 0) dX1_keep_40 rfl rfl ?_
      refine hJ.getR dX1_keep_41 f_RX1_21 rfl ?_
      refine hJ.iload_n (i := 2) dX1_keep_44 rfl rfl ?_
      replace hF := nn_S hF
      obtain ⟨n14, e15, hF⟩ := hF
      rw [e15]
      replace hF := ck_S hF
      obtain ⟨c16, hF⟩ := hF
      refine hJ.iald dX1_keep_45 a_11 rfl c16 ?_
      replace hF := nn_S hF
      obtain ⟨n17, e18, hF⟩ := hF
      rw [e18]
      replace hF := ck_S hF
      obtain ⟨c19, hF⟩ := hF
      replace hF := lt_S hF
      obtain ⟨h20, eh21, hF⟩ := hF
      refine hJ.iast dX1_keep_46 a_13 rfl c19 ?_
      rw [← eh21]
      refine hJ.iinc (i := 2) (v := (v2 + (1 : Int32))) (ls2 := [some (.inr (1, (some v0))), none, some (.inl (v2 + (1 : Int32)))]) dX1_keep_47 rfl (addI (by decide)) (by decide) rfl ?_
      refine hJ.goto (tgt := 15) dX1_keep_50 (by decide) ?_
      refine hJ.forget (ls2 := [some (.inr (1, (some v0))), none, some (.inl (v2 + (1 : Int32)))]) ⟨rfl, rfl, trivial⟩ ?_
      exact ih (v2 + (1 : Int32)) h20 hF

set_option maxHeartbeats 4000000 in
set_option maxRecDepth 100000 in
theorem c_X1_keep {x0 : Nat} {x1 : Int32} {h hh : Hp} {xr : Unit} (hF : F_X1_keep x0 x1 h = some (xr, hh)) : Ctr yX1_keep cX1_keep 3 none 0 0 0 [.inr (1, (some x0)), .inl x1] h none hh := by
  refine Ctr_v (own := RX1) (ini := False) (ls0 := [some (.inr (1, (some x0))), some (.inl x1), none]) (by decide) rfl (Nat.le_of_ble_eq_true rfl) (fun e => e.elim) rfl ?_
  intro J hJ hR
  unfold F_X1_keep at hF
  refine hJ.aload_n (i := 0) dX1_keep_0 rfl rfl ?_
  refine hJ.iload_n (i := 1) dX1_keep_1 rfl rfl ?_
  replace hF := lt_S hF
  obtain ⟨h1, eh2, hF⟩ := hF
  refine hJ.putI dX1_keep_2 f_RX1_37 rfl nar_i rfl ?_
  rw [← eh2]
  refine hJ.aload_n (i := 0) dX1_keep_5 rfl rfl ?_
  refine hJ.aload_n (i := 0) dX1_keep_6 rfl rfl ?_
  refine hJ.getI dX1_keep_7 f_RX1_30 rfl ?_
  replace hF := lt_S hF
  obtain ⟨h3, eh4, hF⟩ := hF
  refine hJ.putI dX1_keep_10 f_RX1_34 rfl nar_i rfl ?_
  rw [← eh4]
  refine hJ.iconst (v := 0) dX1_keep_13 (by decide) ?_
  refine hJ.istore_n (i := 2) (ls2 := [some (.inr (1, (some x0))), some (.inl x1), some (.inl (0 : Int32))]) dX1_keep_14 rfl (by decide) rfl ?_
  refine hJ.forget (ls2 := [some (.inr (1, (some x0))), none, some (.inl (0 : Int32))]) ⟨rfl, rfl, trivial⟩ ?_
  refine t_X1_keep_15 hJ (by decide) (by decide) (fun h22 hF => ?_) FU _ _ hF
  obtain ⟨-, rfl⟩ := ret_S hF
  exact hR dX1_keep_53 (by decide) (by decide)

set_option maxHeartbeats 4000000 in
set_option maxRecDepth 100000 in
theorem c_X1_swap {x0 : Nat} {x1 : Int32} {x2 : Int32} {h hh : Hp} {xr : Unit} (hF : F_X1_swap x0 x1 x2 h = some (xr, hh)) : Ctr yX1_swap cX1_swap 4 none 0 0 0 [.inr (1, (some x0)), .inl x1, .inl x2] h none hh := by
  refine Ctr_v (own := RX1) (ini := False) (ls0 := [some (.inr (1, (some x0))), some (.inl x1), some (.inl x2), none]) (by decide) rfl (Nat.le_of_ble_eq_true rfl) (fun e => e.elim) rfl ?_
  intro J hJ hR
  unfold F_X1_swap at hF
  refine hJ.aload_n (i := 0) dX1_swap_0 rfl rfl ?_
  refine hJ.getR dX1_swap_1 f_RX1_17 rfl ?_
  refine hJ.iload_n (i := 1) dX1_swap_4 rfl rfl ?_
  replace hF := nn_S hF
  obtain ⟨n1, e2, hF⟩ := hF
  rw [e2]
  replace hF := ck_S hF
  obtain ⟨c3, hF⟩ := hF
  refine hJ.iald dX1_swap_5 a_10 rfl c3 ?_
  refine hJ.istore_n (i := 3) (ls2 := [some (.inr (1, (some x0))), some (.inl x1), some (.inl x2), some (.inl (pI h 10 n1 (x1).toNatClampNeg))]) dX1_swap_6 rfl (by decide) rfl ?_
  refine hJ.aload_n (i := 0) dX1_swap_7 rfl rfl ?_
  refine hJ.getR dX1_swap_8 f_RX1_17 rfl ?_
  rw [e2]
  refine hJ.iload_n (i := 1) dX1_swap_11 rfl rfl ?_
  refine hJ.aload_n (i := 0) dX1_swap_12 rfl rfl ?_
  refine hJ.getR dX1_swap_13 f_RX1_17 rfl ?_
  rw [e2]
  refine hJ.iload_n (i := 2) dX1_swap_16 rfl rfl ?_
  replace hF := ck_S hF
  obtain ⟨c4, hF⟩ := hF
  refine hJ.iald dX1_swap_17 a_10 rfl c4 ?_
  replace hF := ck_S hF
  obtain ⟨c5, hF⟩ := hF
  replace hF := lt_S hF
  obtain ⟨h6, eh7, hF⟩ := hF
  refine hJ.iast dX1_swap_18 a_10 rfl c5 ?_
  rw [← eh7]
  refine hJ.aload_n (i := 0) dX1_swap_19 rfl rfl ?_
  refine hJ.getR dX1_swap_20 f_RX1_17 rfl ?_
  refine hJ.iload_n (i := 2) dX1_swap_23 rfl rfl ?_
  refine hJ.iload_n (i := 3) dX1_swap_24 rfl rfl ?_
  replace hF := nn_S hF
  obtain ⟨n8, e9, hF⟩ := hF
  rw [e9]
  replace hF := ck_S hF
  obtain ⟨c10, hF⟩ := hF
  replace hF := lt_S hF
  obtain ⟨h11, eh12, hF⟩ := hF
  refine hJ.iast dX1_swap_25 a_10 rfl c10 ?_
  rw [← eh12]
  obtain ⟨-, rfl⟩ := ret_S hF
  exact hR dX1_swap_26 (by decide) (by decide)
end
