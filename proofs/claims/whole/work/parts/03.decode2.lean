theorem dX8_newRaft_21 : decode cX8_newRaft 21 = .ok (.getfield 80, 3) := by decide +kernel
theorem dX8_newRaft_24 : decode cX8_newRaft 24 = .ok (.aload_n 0, 1) := by decide +kernel
theorem dX8_newRaft_25 : decode cX8_newRaft 25 = .ok (.getfield 151, 3) := by decide +kernel
theorem dX8_newRaft_28 : decode cX8_newRaft 28 = .ok (.iconst (-1), 1) := by decide +kernel
theorem dX8_newRaft_29 : decode cX8_newRaft 29 = .ok (.iastore, 1) := by decide +kernel
theorem dX8_newRaft_30 : decode cX8_newRaft 30 = .ok (.aload_n 0, 1) := by decide +kernel
theorem dX8_newRaft_31 : decode cX8_newRaft 31 = .ok (.getfield 83, 3) := by decide +kernel
theorem dX8_newRaft_34 : decode cX8_newRaft 34 = .ok (.aload_n 0, 1) := by decide +kernel
theorem dX8_newRaft_35 : decode cX8_newRaft 35 = .ok (.getfield 151, 3) := by decide +kernel
theorem dX8_newRaft_38 : decode cX8_newRaft 38 = .ok (.iconst (-1), 1) := by decide +kernel
theorem dX8_newRaft_39 : decode cX8_newRaft 39 = .ok (.iastore, 1) := by decide +kernel
theorem dX8_newRaft_40 : decode cX8_newRaft 40 = .ok (.aload_n 0, 1) := by decide +kernel
theorem dX8_newRaft_41 : decode cX8_newRaft 41 = .ok (.dup, 1) := by decide +kernel
theorem dX8_newRaft_42 : decode cX8_newRaft 42 = .ok (.getfield 151, 3) := by decide +kernel
theorem dX8_newRaft_45 : decode cX8_newRaft 45 = .ok (.iconst 1, 1) := by decide +kernel
theorem dX8_newRaft_46 : decode cX8_newRaft 46 = .ok (.iadd, 1) := by decide +kernel
theorem dX8_newRaft_47 : decode cX8_newRaft 47 = .ok (.putfield 151, 3) := by decide +kernel
theorem dX8_newRaft_50 : decode cX8_newRaft 50 = .ok (.aload_n 0, 1) := by decide +kernel
theorem dX8_newRaft_51 : decode cX8_newRaft 51 = .ok (.getfield 151, 3) := by decide +kernel
theorem dX8_newRaft_54 : decode cX8_newRaft 54 = .ok (.iconst 1, 1) := by decide +kernel
theorem dX8_newRaft_55 : decode cX8_newRaft 55 = .ok (.isub, 1) := by decide +kernel
theorem dX8_newRaft_56 : decode cX8_newRaft 56 = .ok (.ireturn, 1) := by decide +kernel
theorem dX8_bind_0 : decode cX8_bind 0 = .ok (.aload_n 0, 1) := by decide +kernel
theorem dX8_bind_1 : decode cX8_bind 1 = .ok (.getfield 164, 3) := by decide +kernel
theorem dX8_bind_4 : decode cX8_bind 4 = .ok (.ifCond .eq 12, 3) := by decide +kernel
theorem dX8_bind_7 : decode cX8_bind 7 = .ok (.aload_n 0, 1) := by decide +kernel
theorem dX8_bind_8 : decode cX8_bind 8 = .ok (.getfield 151, 3) := by decide +kernel
theorem dX8_bind_11 : decode cX8_bind 11 = .ok (.bipush 60, 2) := by decide +kernel
theorem dX8_bind_13 : decode cX8_bind 13 = .ok (.if_icmp .ne 5, 3) := by decide +kernel
theorem dX8_bind_16 : decode cX8_bind 16 = .ok (.iconst (-1), 1) := by decide +kernel
theorem dX8_bind_17 : decode cX8_bind 17 = .ok (.ireturn, 1) := by decide +kernel
theorem dX8_bind_18 : decode cX8_bind 18 = .ok (.aload_n 0, 1) := by decide +kernel
theorem dX8_bind_19 : decode cX8_bind 19 = .ok (.aload_n 0, 1) := by decide +kernel
theorem dX8_bind_20 : decode cX8_bind 20 = .ok (.getfield 53, 3) := by decide +kernel
theorem dX8_bind_23 : decode cX8_bind 23 = .ok (.aload_n 0, 1) := by decide +kernel
theorem dX8_bind_24 : decode cX8_bind 24 = .ok (.getfield 68, 3) := by decide +kernel
theorem dX8_bind_27 : decode cX8_bind 27 = .ok (.iconst 0, 1) := by decide +kernel
theorem dX8_bind_28 : decode cX8_bind 28 = .ok (.iaload, 1) := by decide +kernel
theorem dX8_bind_29 : decode cX8_bind 29 = .ok (.iaload, 1) := by decide +kernel
theorem dX8_bind_30 : decode cX8_bind 30 = .ok (.invokevirtual 173, 3) := by decide +kernel
theorem dX8_bind_33 : decode cX8_bind 33 = .ok (.istore_n 1, 1) := by decide +kernel
theorem dX8_bind_34 : decode cX8_bind 34 = .ok (.aload_n 0, 1) := by decide +kernel
theorem dX8_bind_35 : decode cX8_bind 35 = .ok (.getfield 77, 3) := by decide +kernel
theorem dX8_bind_38 : decode cX8_bind 38 = .ok (.iload_n 1, 1) := by decide +kernel
theorem dX8_bind_39 : decode cX8_bind 39 = .ok (.iconst 1, 1) := by decide +kernel
theorem dX8_bind_40 : decode cX8_bind 40 = .ok (.iastore, 1) := by decide +kernel
theorem dX8_bind_41 : decode cX8_bind 41 = .ok (.iconst 0, 1) := by decide +kernel
theorem dX8_bind_42 : decode cX8_bind 42 = .ok (.istore_n 2, 1) := by decide +kernel
theorem dX8_bind_43 : decode cX8_bind 43 = .ok (.iload_n 2, 1) := by decide +kernel
theorem dX8_bind_44 : decode cX8_bind 44 = .ok (.aload_n 0, 1) := by decide +kernel
theorem dX8_bind_45 : decode cX8_bind 45 = .ok (.getfield 164, 3) := by decide +kernel
theorem dX8_bind_48 : decode cX8_bind 48 = .ok (.if_icmp .ge 57, 3) := by decide +kernel
theorem dX8_bind_51 : decode cX8_bind 51 = .ok (.aload_n 0, 1) := by decide +kernel
theorem dX8_bind_52 : decode cX8_bind 52 = .ok (.getfield 50, 3) := by decide +kernel
theorem dX8_bind_55 : decode cX8_bind 55 = .ok (.aload_n 0, 1) := by decide +kernel
theorem dX8_bind_56 : decode cX8_bind 56 = .ok (.getfield 68, 3) := by decide +kernel
theorem dX8_bind_59 : decode cX8_bind 59 = .ok (.iload_n 2, 1) := by decide +kernel
theorem dX8_bind_60 : decode cX8_bind 60 = .ok (.iaload, 1) := by decide +kernel
theorem dX8_bind_61 : decode cX8_bind 61 = .ok (.iconst 1, 1) := by decide +kernel
theorem dX8_bind_62 : decode cX8_bind 62 = .ok (.iastore, 1) := by decide +kernel
theorem dX8_bind_63 : decode cX8_bind 63 = .ok (.aload_n 0, 1) := by decide +kernel
theorem dX8_bind_64 : decode cX8_bind 64 = .ok (.getfield 56, 3) := by decide +kernel
theorem dX8_bind_67 : decode cX8_bind 67 = .ok (.aload_n 0, 1) := by decide +kernel
theorem dX8_bind_68 : decode cX8_bind 68 = .ok (.getfield 68, 3) := by decide +kernel
theorem dX8_bind_71 : decode cX8_bind 71 = .ok (.iload_n 2, 1) := by decide +kernel
theorem dX8_bind_72 : decode cX8_bind 72 = .ok (.iaload, 1) := by decide +kernel
theorem dX8_bind_73 : decode cX8_bind 73 = .ok (.iload_n 1, 1) := by decide +kernel
theorem dX8_bind_74 : decode cX8_bind 74 = .ok (.iastore, 1) := by decide +kernel
theorem dX8_bind_75 : decode cX8_bind 75 = .ok (.aload_n 0, 1) := by decide +kernel
theorem dX8_bind_76 : decode cX8_bind 76 = .ok (.getfield 59, 3) := by decide +kernel
theorem dX8_bind_79 : decode cX8_bind 79 = .ok (.aload_n 0, 1) := by decide +kernel
theorem dX8_bind_80 : decode cX8_bind 80 = .ok (.getfield 68, 3) := by decide +kernel
theorem dX8_bind_83 : decode cX8_bind 83 = .ok (.iload_n 2, 1) := by decide +kernel
theorem dX8_bind_84 : decode cX8_bind 84 = .ok (.iaload, 1) := by decide +kernel
theorem dX8_bind_85 : decode cX8_bind 85 = .ok (.iconst 0, 1) := by decide +kernel
theorem dX8_bind_86 : decode cX8_bind 86 = .ok (.iastore, 1) := by decide +kernel
theorem dX8_bind_87 : decode cX8_bind 87 = .ok (.aload_n 0, 1) := by decide +kernel
theorem dX8_bind_88 : decode cX8_bind 88 = .ok (.getfield 62, 3) := by decide +kernel
theorem dX8_bind_91 : decode cX8_bind 91 = .ok (.aload_n 0, 1) := by decide +kernel
theorem dX8_bind_92 : decode cX8_bind 92 = .ok (.getfield 68, 3) := by decide +kernel
theorem dX8_bind_95 : decode cX8_bind 95 = .ok (.iload_n 2, 1) := by decide +kernel
theorem dX8_bind_96 : decode cX8_bind 96 = .ok (.iaload, 1) := by decide +kernel
theorem dX8_bind_97 : decode cX8_bind 97 = .ok (.iload_n 2, 1) := by decide +kernel
theorem dX8_bind_98 : decode cX8_bind 98 = .ok (.iastore, 1) := by decide +kernel
theorem dX8_bind_99 : decode cX8_bind 99 = .ok (.iinc 2 1, 3) := by decide +kernel
theorem dX8_bind_102 : decode cX8_bind 102 = .ok (.goto (-59), 3) := by decide +kernel
theorem dX8_bind_105 : decode cX8_bind 105 = .ok (.aload_n 0, 1) := by decide +kernel
theorem dX8_bind_106 : decode cX8_bind 106 = .ok (.iconst 0, 1) := by decide +kernel
theorem dX8_bind_107 : decode cX8_bind 107 = .ok (.putfield 164, 3) := by decide +kernel
theorem dX8_bind_110 : decode cX8_bind 110 = .ok (.iload_n 1, 1) := by decide +kernel
theorem dX8_bind_111 : decode cX8_bind 111 = .ok (.ireturn, 1) := by decide +kernel
theorem dX8_isOf_0 : decode cX8_isOf 0 = .ok (.aload_n 0, 1) := by decide +kernel
theorem dX8_isOf_1 : decode cX8_isOf 1 = .ok (.getfield 50, 3) := by decide +kernel
theorem dX8_isOf_4 : decode cX8_isOf 4 = .ok (.iload_n 1, 1) := by decide +kernel
theorem dX8_isOf_5 : decode cX8_isOf 5 = .ok (.iaload, 1) := by decide +kernel
theorem dX8_isOf_6 : decode cX8_isOf 6 = .ok (.iconst 1, 1) := by decide +kernel
theorem dX8_isOf_7 : decode cX8_isOf 7 = .ok (.if_icmp .ne 17, 3) := by decide +kernel
theorem dX8_isOf_10 : decode cX8_isOf 10 = .ok (.aload_n 0, 1) := by decide +kernel
theorem dX8_isOf_11 : decode cX8_isOf 11 = .ok (.getfield 56, 3) := by decide +kernel
theorem dX8_isOf_14 : decode cX8_isOf 14 = .ok (.iload_n 1, 1) := by decide +kernel
theorem dX8_isOf_15 : decode cX8_isOf 15 = .ok (.iaload, 1) := by decide +kernel
theorem dX8_isOf_16 : decode cX8_isOf 16 = .ok (.iload_n 2, 1) := by decide +kernel
theorem dX8_isOf_17 : decode cX8_isOf 17 = .ok (.if_icmp .ne 7, 3) := by decide +kernel
theorem dX8_isOf_20 : decode cX8_isOf 20 = .ok (.iconst 1, 1) := by decide +kernel
theorem dX8_isOf_21 : decode cX8_isOf 21 = .ok (.goto 4, 3) := by decide +kernel
theorem dX8_isOf_24 : decode cX8_isOf 24 = .ok (.iconst 0, 1) := by decide +kernel
theorem dX8_isOf_25 : decode cX8_isOf 25 = .ok (.ireturn, 1) := by decide +kernel
theorem dX8_join_0 : decode cX8_join 0 = .ok (.aload_n 0, 1) := by decide +kernel
theorem dX8_join_1 : decode cX8_join 1 = .ok (.iload_n 1, 1) := by decide +kernel
theorem dX8_join_2 : decode cX8_join 2 = .ok (.iconst 0, 1) := by decide +kernel
theorem dX8_join_3 : decode cX8_join 3 = .ok (.invokevirtual 176, 3) := by decide +kernel
theorem dX8_join_6 : decode cX8_join 6 = .ok (.ifCond .eq 50, 3) := by decide +kernel
theorem dX8_join_9 : decode cX8_join 9 = .ok (.aload_n 0, 1) := by decide +kernel
theorem dX8_join_10 : decode cX8_join 10 = .ok (.iload_n 2, 1) := by decide +kernel
theorem dX8_join_11 : decode cX8_join 11 = .ok (.iconst 0, 1) := by decide +kernel
theorem dX8_join_12 : decode cX8_join 12 = .ok (.invokevirtual 176, 3) := by decide +kernel
theorem dX8_join_15 : decode cX8_join 15 = .ok (.ifCond .eq 41, 3) := by decide +kernel
theorem dX8_join_18 : decode cX8_join 18 = .ok (.iload_n 1, 1) := by decide +kernel
theorem dX8_join_19 : decode cX8_join 19 = .ok (.iload_n 2, 1) := by decide +kernel
theorem dX8_join_20 : decode cX8_join 20 = .ok (.if_icmp .eq 36, 3) := by decide +kernel
theorem dX8_join_23 : decode cX8_join 23 = .ok (.aload_n 0, 1) := by decide +kernel
theorem dX8_join_24 : decode cX8_join 24 = .ok (.getfield 74, 3) := by decide +kernel
theorem dX8_join_27 : decode cX8_join 27 = .ok (.iload_n 1, 1) := by decide +kernel
theorem dX8_join_28 : decode cX8_join 28 = .ok (.iaload, 1) := by decide +kernel
theorem dX8_join_29 : decode cX8_join 29 = .ok (.aload_n 0, 1) := by decide +kernel
theorem dX8_join_30 : decode cX8_join 30 = .ok (.getfield 74, 3) := by decide +kernel
theorem dX8_join_33 : decode cX8_join 33 = .ok (.iload_n 2, 1) := by decide +kernel
theorem dX8_join_34 : decode cX8_join 34 = .ok (.iaload, 1) := by decide +kernel
theorem dX8_join_35 : decode cX8_join 35 = .ok (.if_icmp .ne 21, 3) := by decide +kernel
theorem dX8_join_38 : decode cX8_join 38 = .ok (.aload_n 0, 1) := by decide +kernel
theorem dX8_join_39 : decode cX8_join 39 = .ok (.getfield 77, 3) := by decide +kernel
theorem dX8_join_42 : decode cX8_join 42 = .ok (.iload_n 1, 1) := by decide +kernel
theorem dX8_join_43 : decode cX8_join 43 = .ok (.iaload, 1) := by decide +kernel
theorem dX8_join_44 : decode cX8_join 44 = .ok (.aload_n 0, 1) := by decide +kernel
theorem dX8_join_45 : decode cX8_join 45 = .ok (.getfield 77, 3) := by decide +kernel
theorem dX8_join_48 : decode cX8_join 48 = .ok (.iload_n 2, 1) := by decide +kernel
theorem dX8_join_49 : decode cX8_join 49 = .ok (.iaload, 1) := by decide +kernel
theorem dX8_join_50 : decode cX8_join 50 = .ok (.iadd, 1) := by decide +kernel
theorem dX8_join_51 : decode cX8_join 51 = .ok (.bipush 8, 2) := by decide +kernel
theorem dX8_join_53 : decode cX8_join 53 = .ok (.if_icmp .le 5, 3) := by decide +kernel
theorem dX8_join_56 : decode cX8_join 56 = .ok (.iconst 0, 1) := by decide +kernel
theorem dX8_join_57 : decode cX8_join 57 = .ok (.ireturn, 1) := by decide +kernel
theorem dX8_join_58 : decode cX8_join 58 = .ok (.iconst 0, 1) := by decide +kernel
theorem dX8_join_59 : decode cX8_join 59 = .ok (.istore_n 3, 1) := by decide +kernel
theorem dX8_join_60 : decode cX8_join 60 = .ok (.iload_n 3, 1) := by decide +kernel
theorem dX8_join_61 : decode cX8_join 61 = .ok (.aload_n 0, 1) := by decide +kernel
theorem dX8_join_62 : decode cX8_join 62 = .ok (.getfield 148, 3) := by decide +kernel
theorem dX8_join_65 : decode cX8_join 65 = .ok (.if_icmp .ge 43, 3) := by decide +kernel
theorem dX8_join_68 : decode cX8_join 68 = .ok (.aload_n 0, 1) := by decide +kernel
theorem dX8_join_69 : decode cX8_join 69 = .ok (.iload_n 3, 1) := by decide +kernel
theorem dX8_join_70 : decode cX8_join 70 = .ok (.iload_n 2, 1) := by decide +kernel
theorem dX8_join_71 : decode cX8_join 71 = .ok (.invokevirtual 180, 3) := by decide +kernel
theorem dX8_join_74 : decode cX8_join 74 = .ok (.ifCond .ne 6, 3) := by decide +kernel
theorem dX8_join_77 : decode cX8_join 77 = .ok (.goto 25, 3) := by decide +kernel
theorem dX8_join_80 : decode cX8_join 80 = .ok (.aload_n 0, 1) := by decide +kernel
theorem dX8_join_81 : decode cX8_join 81 = .ok (.getfield 56, 3) := by decide +kernel
theorem dX8_join_84 : decode cX8_join 84 = .ok (.iload_n 3, 1) := by decide +kernel
theorem dX8_join_85 : decode cX8_join 85 = .ok (.iload_n 1, 1) := by decide +kernel
theorem dX8_join_86 : decode cX8_join 86 = .ok (.iastore, 1) := by decide +kernel
theorem dX8_join_87 : decode cX8_join 87 = .ok (.aload_n 0, 1) := by decide +kernel
theorem dX8_join_88 : decode cX8_join 88 = .ok (.getfield 59, 3) := by decide +kernel
theorem dX8_join_91 : decode cX8_join 91 = .ok (.iload_n 3, 1) := by decide +kernel
theorem dX8_join_92 : decode cX8_join 92 = .ok (.dup2, 1) := by decide +kernel
theorem dX8_join_93 : decode cX8_join 93 = .ok (.iaload, 1) := by decide +kernel
theorem dX8_join_94 : decode cX8_join 94 = .ok (.aload_n 0, 1) := by decide +kernel
theorem dX8_join_95 : decode cX8_join 95 = .ok (.getfield 77, 3) := by decide +kernel
theorem dX8_join_98 : decode cX8_join 98 = .ok (.iload_n 1, 1) := by decide +kernel
theorem dX8_join_99 : decode cX8_join 99 = .ok (.iaload, 1) := by decide +kernel
theorem dX8_join_100 : decode cX8_join 100 = .ok (.iadd, 1) := by decide +kernel
theorem dX8_join_101 : decode cX8_join 101 = .ok (.iastore, 1) := by decide +kernel
theorem dX8_join_102 : decode cX8_join 102 = .ok (.iinc 3 1, 3) := by decide +kernel
theorem dX8_join_105 : decode cX8_join 105 = .ok (.goto (-45), 3) := by decide +kernel
theorem dX8_join_108 : decode cX8_join 108 = .ok (.aload_n 0, 1) := by decide +kernel
theorem dX8_join_109 : decode cX8_join 109 = .ok (.getfield 77, 3) := by decide +kernel
theorem dX8_join_112 : decode cX8_join 112 = .ok (.iload_n 1, 1) := by decide +kernel
theorem dX8_join_113 : decode cX8_join 113 = .ok (.dup2, 1) := by decide +kernel
theorem dX8_join_114 : decode cX8_join 114 = .ok (.iaload, 1) := by decide +kernel
theorem dX8_join_115 : decode cX8_join 115 = .ok (.aload_n 0, 1) := by decide +kernel
theorem dX8_join_116 : decode cX8_join 116 = .ok (.getfield 77, 3) := by decide +kernel
theorem dX8_join_119 : decode cX8_join 119 = .ok (.iload_n 2, 1) := by decide +kernel
theorem dX8_join_120 : decode cX8_join 120 = .ok (.iaload, 1) := by decide +kernel
theorem dX8_join_121 : decode cX8_join 121 = .ok (.iadd, 1) := by decide +kernel
theorem dX8_join_122 : decode cX8_join 122 = .ok (.iastore, 1) := by decide +kernel
theorem dX8_join_123 : decode cX8_join 123 = .ok (.aload_n 0, 1) := by decide +kernel
theorem dX8_join_124 : decode cX8_join 124 = .ok (.iload_n 2, 1) := by decide +kernel
theorem dX8_join_125 : decode cX8_join 125 = .ok (.invokevirtual 183, 3) := by decide +kernel
theorem dX8_join_128 : decode cX8_join 128 = .ok (.iconst 1, 1) := by decide +kernel
theorem dX8_join_129 : decode cX8_join 129 = .ok (.ireturn, 1) := by decide +kernel
theorem dX8_ends_0 : decode cX8_ends 0 = .ok (.aload_n 0, 1) := by decide +kernel
theorem dX8_ends_1 : decode cX8_ends 1 = .ok (.getfield 71, 3) := by decide +kernel
theorem dX8_ends_4 : decode cX8_ends 4 = .ok (.iload_n 1, 1) := by decide +kernel
theorem dX8_ends_5 : decode cX8_ends 5 = .ok (.iconst 3, 1) := by decide +kernel
theorem dX8_ends_6 : decode cX8_ends 6 = .ok (.iastore, 1) := by decide +kernel
theorem dX8_ends_7 : decode cX8_ends 7 = .ok (.aload_n 0, 1) := by decide +kernel
theorem dX8_ends_8 : decode cX8_ends 8 = .ok (.getfield 77, 3) := by decide +kernel
theorem dX8_ends_11 : decode cX8_ends 11 = .ok (.iload_n 1, 1) := by decide +kernel
theorem dX8_ends_12 : decode cX8_ends 12 = .ok (.iconst 0, 1) := by decide +kernel
theorem dX8_ends_13 : decode cX8_ends 13 = .ok (.iastore, 1) := by decide +kernel
theorem dX8_ends_14 : decode cX8_ends 14 = .ok (.aload_n 0, 1) := by decide +kernel
theorem dX8_ends_15 : decode cX8_ends 15 = .ok (.getfield 80, 3) := by decide +kernel
theorem dX8_ends_18 : decode cX8_ends 18 = .ok (.iload_n 1, 1) := by decide +kernel
theorem dX8_ends_19 : decode cX8_ends 19 = .ok (.iconst (-1), 1) := by decide +kernel
theorem dX8_ends_20 : decode cX8_ends 20 = .ok (.iastore, 1) := by decide +kernel
theorem dX8_ends_21 : decode cX8_ends 21 = .ok (.aload_n 0, 1) := by decide +kernel
theorem dX8_ends_22 : decode cX8_ends 22 = .ok (.getfield 83, 3) := by decide +kernel
theorem dX8_ends_25 : decode cX8_ends 25 = .ok (.iload_n 1, 1) := by decide +kernel
theorem dX8_ends_26 : decode cX8_ends 26 = .ok (.iconst (-1), 1) := by decide +kernel
theorem dX8_ends_27 : decode cX8_ends 27 = .ok (.iastore, 1) := by decide +kernel
theorem dX8_ends_28 : decode cX8_ends 28 = .ok (.return_, 1) := by decide +kernel
theorem dX8_part_0 : decode cX8_part 0 = .ok (.aload_n 0, 1) := by decide +kernel
theorem dX8_part_1 : decode cX8_part 1 = .ok (.iload_n 1, 1) := by decide +kernel
theorem dX8_part_2 : decode cX8_part 2 = .ok (.iconst 0, 1) := by decide +kernel
theorem dX8_part_3 : decode cX8_part 3 = .ok (.invokevirtual 176, 3) := by decide +kernel
theorem dX8_part_6 : decode cX8_part 6 = .ok (.ifCond .eq 27, 3) := by decide +kernel
theorem dX8_part_9 : decode cX8_part 9 = .ok (.iload_n 2, 1) := by decide +kernel
theorem dX8_part_10 : decode cX8_part 10 = .ok (.iconst 1, 1) := by decide +kernel
theorem dX8_part_11 : decode cX8_part 11 = .ok (.if_icmp .lt 22, 3) := by decide +kernel
theorem dX8_part_14 : decode cX8_part 14 = .ok (.aload_n 0, 1) := by decide +kernel
theorem dX8_part_15 : decode cX8_part 15 = .ok (.getfield 77, 3) := by decide +kernel
theorem dX8_part_18 : decode cX8_part 18 = .ok (.iload_n 1, 1) := by decide +kernel
theorem dX8_part_19 : decode cX8_part 19 = .ok (.iaload, 1) := by decide +kernel
theorem dX8_part_20 : decode cX8_part 20 = .ok (.iload_n 2, 1) := by decide +kernel
theorem dX8_part_21 : decode cX8_part 21 = .ok (.if_icmp .le 12, 3) := by decide +kernel
theorem dX8_part_24 : decode cX8_part 24 = .ok (.aload_n 0, 1) := by decide +kernel
theorem dX8_part_25 : decode cX8_part 25 = .ok (.getfield 151, 3) := by decide +kernel
theorem dX8_part_28 : decode cX8_part 28 = .ok (.bipush 60, 2) := by decide +kernel
theorem dX8_part_30 : decode cX8_part 30 = .ok (.if_icmp .ne 5, 3) := by decide +kernel
theorem dX8_part_33 : decode cX8_part 33 = .ok (.iconst (-1), 1) := by decide +kernel
theorem dX8_part_34 : decode cX8_part 34 = .ok (.ireturn, 1) := by decide +kernel
theorem dX8_part_35 : decode cX8_part 35 = .ok (.aload_n 0, 1) := by decide +kernel
theorem dX8_part_36 : decode cX8_part 36 = .ok (.aload_n 0, 1) := by decide +kernel
theorem dX8_part_37 : decode cX8_part 37 = .ok (.getfield 74, 3) := by decide +kernel
theorem dX8_part_40 : decode cX8_part 40 = .ok (.iload_n 1, 1) := by decide +kernel
theorem dX8_part_41 : decode cX8_part 41 = .ok (.iaload, 1) := by decide +kernel
theorem dX8_part_42 : decode cX8_part 42 = .ok (.invokevirtual 173, 3) := by decide +kernel
theorem dX8_part_45 : decode cX8_part 45 = .ok (.istore_n 3, 1) := by decide +kernel
theorem dX8_part_46 : decode cX8_part 46 = .ok (.aload_n 0, 1) := by decide +kernel
theorem dX8_part_47 : decode cX8_part 47 = .ok (.getfield 77, 3) := by decide +kernel
theorem dX8_part_50 : decode cX8_part 50 = .ok (.iload_n 3, 1) := by decide +kernel
theorem dX8_part_51 : decode cX8_part 51 = .ok (.iload_n 2, 1) := by decide +kernel
theorem dX8_part_52 : decode cX8_part 52 = .ok (.iastore, 1) := by decide +kernel
theorem dX8_part_53 : decode cX8_part 53 = .ok (.aload_n 0, 1) := by decide +kernel
theorem dX8_part_54 : decode cX8_part 54 = .ok (.getfield 77, 3) := by decide +kernel
theorem dX8_part_57 : decode cX8_part 57 = .ok (.iload_n 1, 1) := by decide +kernel
theorem dX8_part_58 : decode cX8_part 58 = .ok (.dup2, 1) := by decide +kernel
theorem dX8_part_59 : decode cX8_part 59 = .ok (.iaload, 1) := by decide +kernel
theorem dX8_part_60 : decode cX8_part 60 = .ok (.iload_n 2, 1) := by decide +kernel
theorem dX8_part_61 : decode cX8_part 61 = .ok (.isub, 1) := by decide +kernel
theorem dX8_part_62 : decode cX8_part 62 = .ok (.iastore, 1) := by decide +kernel
theorem dX8_part_63 : decode cX8_part 63 = .ok (.iconst 0, 1) := by decide +kernel
theorem dX8_part_64 : decode cX8_part 64 = .ok (.istore 4, 2) := by decide +kernel
theorem dX8_part_66 : decode cX8_part 66 = .ok (.iload 4, 2) := by decide +kernel
theorem dX8_part_68 : decode cX8_part 68 = .ok (.aload_n 0, 1) := by decide +kernel
theorem dX8_part_69 : decode cX8_part 69 = .ok (.getfield 148, 3) := by decide +kernel
theorem dX8_part_72 : decode cX8_part 72 = .ok (.if_icmp .ge 62, 3) := by decide +kernel
theorem dX8_part_75 : decode cX8_part 75 = .ok (.aload_n 0, 1) := by decide +kernel
theorem dX8_part_76 : decode cX8_part 76 = .ok (.iload 4, 2) := by decide +kernel
theorem dX8_part_78 : decode cX8_part 78 = .ok (.iload_n 1, 1) := by decide +kernel
theorem dX8_part_79 : decode cX8_part 79 = .ok (.invokevirtual 180, 3) := by decide +kernel
theorem dX8_part_82 : decode cX8_part 82 = .ok (.ifCond .eq 46, 3) := by decide +kernel
theorem dX8_part_85 : decode cX8_part 85 = .ok (.aload_n 0, 1) := by decide +kernel
theorem dX8_part_86 : decode cX8_part 86 = .ok (.getfield 59, 3) := by decide +kernel
theorem dX8_part_89 : decode cX8_part 89 = .ok (.iload 4, 2) := by decide +kernel
theorem dX8_part_91 : decode cX8_part 91 = .ok (.iaload, 1) := by decide +kernel
theorem dX8_part_92 : decode cX8_part 92 = .ok (.aload_n 0, 1) := by decide +kernel
theorem dX8_part_93 : decode cX8_part 93 = .ok (.getfield 77, 3) := by decide +kernel
theorem dX8_part_96 : decode cX8_part 96 = .ok (.iload_n 1, 1) := by decide +kernel
theorem dX8_part_97 : decode cX8_part 97 = .ok (.iaload, 1) := by decide +kernel
theorem dX8_part_98 : decode cX8_part 98 = .ok (.if_icmp .ge 6, 3) := by decide +kernel
theorem dX8_part_101 : decode cX8_part 101 = .ok (.goto 27, 3) := by decide +kernel
theorem dX8_part_104 : decode cX8_part 104 = .ok (.aload_n 0, 1) := by decide +kernel
theorem dX8_part_105 : decode cX8_part 105 = .ok (.getfield 56, 3) := by decide +kernel
theorem dX8_part_108 : decode cX8_part 108 = .ok (.iload 4, 2) := by decide +kernel
theorem dX8_part_110 : decode cX8_part 110 = .ok (.iload_n 3, 1) := by decide +kernel
theorem dX8_part_111 : decode cX8_part 111 = .ok (.iastore, 1) := by decide +kernel
theorem dX8_part_112 : decode cX8_part 112 = .ok (.aload_n 0, 1) := by decide +kernel
theorem dX8_part_113 : decode cX8_part 113 = .ok (.getfield 59, 3) := by decide +kernel
theorem dX8_part_116 : decode cX8_part 116 = .ok (.iload 4, 2) := by decide +kernel
theorem dX8_part_118 : decode cX8_part 118 = .ok (.dup2, 1) := by decide +kernel
theorem dX8_part_119 : decode cX8_part 119 = .ok (.iaload, 1) := by decide +kernel
theorem dX8_part_120 : decode cX8_part 120 = .ok (.aload_n 0, 1) := by decide +kernel
theorem dX8_part_121 : decode cX8_part 121 = .ok (.getfield 77, 3) := by decide +kernel
theorem dX8_part_124 : decode cX8_part 124 = .ok (.iload_n 1, 1) := by decide +kernel
theorem dX8_part_125 : decode cX8_part 125 = .ok (.iaload, 1) := by decide +kernel
theorem dX8_part_126 : decode cX8_part 126 = .ok (.isub, 1) := by decide +kernel
theorem dX8_part_127 : decode cX8_part 127 = .ok (.iastore, 1) := by decide +kernel
theorem dX8_part_128 : decode cX8_part 128 = .ok (.iinc 4 1, 3) := by decide +kernel
theorem dX8_part_131 : decode cX8_part 131 = .ok (.goto (-65), 3) := by decide +kernel
theorem dX8_part_134 : decode cX8_part 134 = .ok (.iload_n 3, 1) := by decide +kernel
theorem dX8_part_135 : decode cX8_part 135 = .ok (.ireturn, 1) := by decide +kernel
theorem dX8_lays_0 : decode cX8_lays 0 = .ok (.aload_n 0, 1) := by decide +kernel
theorem dX8_lays_1 : decode cX8_lays 1 = .ok (.getfield 50, 3) := by decide +kernel
theorem dX8_lays_4 : decode cX8_lays 4 = .ok (.iload_n 1, 1) := by decide +kernel
theorem dX8_lays_5 : decode cX8_lays 5 = .ok (.iconst 0, 1) := by decide +kernel
theorem dX8_lays_6 : decode cX8_lays 6 = .ok (.iastore, 1) := by decide +kernel
theorem dX8_lays_7 : decode cX8_lays 7 = .ok (.aload_n 0, 1) := by decide +kernel
theorem dX8_lays_8 : decode cX8_lays 8 = .ok (.getfield 53, 3) := by decide +kernel
theorem dX8_lays_11 : decode cX8_lays 11 = .ok (.iload_n 1, 1) := by decide +kernel
theorem dX8_lays_12 : decode cX8_lays 12 = .ok (.iload_n 2, 1) := by decide +kernel
theorem dX8_lays_13 : decode cX8_lays 13 = .ok (.iastore, 1) := by decide +kernel
theorem dX8_lays_14 : decode cX8_lays 14 = .ok (.aload_n 0, 1) := by decide +kernel
theorem dX8_lays_15 : decode cX8_lays 15 = .ok (.getfield 56, 3) := by decide +kernel
theorem dX8_lays_18 : decode cX8_lays 18 = .ok (.iload_n 1, 1) := by decide +kernel
theorem dX8_lays_19 : decode cX8_lays 19 = .ok (.iconst (-1), 1) := by decide +kernel
theorem dX8_lays_20 : decode cX8_lays 20 = .ok (.iastore, 1) := by decide +kernel
theorem dX8_lays_21 : decode cX8_lays 21 = .ok (.return_, 1) := by decide +kernel
theorem dX8_unbind_0 : decode cX8_unbind 0 = .ok (.aload_n 0, 1) := by decide +kernel
theorem dX8_unbind_1 : decode cX8_unbind 1 = .ok (.iload_n 1, 1) := by decide +kernel
theorem dX8_unbind_2 : decode cX8_unbind 2 = .ok (.iconst 0, 1) := by decide +kernel
theorem dX8_unbind_3 : decode cX8_unbind 3 = .ok (.invokevirtual 176, 3) := by decide +kernel
theorem dX8_unbind_6 : decode cX8_unbind 6 = .ok (.ifCond .ne 5, 3) := by decide +kernel
theorem dX8_unbind_9 : decode cX8_unbind 9 = .ok (.iconst 0, 1) := by decide +kernel
theorem dX8_unbind_10 : decode cX8_unbind 10 = .ok (.ireturn, 1) := by decide +kernel
theorem dX8_unbind_11 : decode cX8_unbind 11 = .ok (.iconst 0, 1) := by decide +kernel
theorem dX8_unbind_12 : decode cX8_unbind 12 = .ok (.istore_n 2, 1) := by decide +kernel
theorem dX8_unbind_13 : decode cX8_unbind 13 = .ok (.iload_n 2, 1) := by decide +kernel
theorem dX8_unbind_14 : decode cX8_unbind 14 = .ok (.aload_n 0, 1) := by decide +kernel
theorem dX8_unbind_15 : decode cX8_unbind 15 = .ok (.getfield 148, 3) := by decide +kernel
theorem dX8_unbind_18 : decode cX8_unbind 18 = .ok (.if_icmp .ge 29, 3) := by decide +kernel
theorem dX8_unbind_21 : decode cX8_unbind 21 = .ok (.aload_n 0, 1) := by decide +kernel
theorem dX8_unbind_22 : decode cX8_unbind 22 = .ok (.iload_n 2, 1) := by decide +kernel
theorem dX8_unbind_23 : decode cX8_unbind 23 = .ok (.iload_n 1, 1) := by decide +kernel
theorem dX8_unbind_24 : decode cX8_unbind 24 = .ok (.invokevirtual 180, 3) := by decide +kernel
theorem dX8_unbind_27 : decode cX8_unbind 27 = .ok (.ifCond .eq 14, 3) := by decide +kernel
theorem dX8_unbind_30 : decode cX8_unbind 30 = .ok (.aload_n 0, 1) := by decide +kernel
theorem dX8_unbind_31 : decode cX8_unbind 31 = .ok (.iload_n 2, 1) := by decide +kernel
theorem dX8_unbind_32 : decode cX8_unbind 32 = .ok (.aload_n 0, 1) := by decide +kernel
theorem dX8_unbind_33 : decode cX8_unbind 33 = .ok (.getfield 74, 3) := by decide +kernel
theorem dX8_unbind_36 : decode cX8_unbind 36 = .ok (.iload_n 1, 1) := by decide +kernel
theorem dX8_unbind_37 : decode cX8_unbind 37 = .ok (.iaload, 1) := by decide +kernel
theorem dX8_unbind_38 : decode cX8_unbind 38 = .ok (.invokevirtual 187, 3) := by decide +kernel
theorem dX8_unbind_41 : decode cX8_unbind 41 = .ok (.iinc 2 1, 3) := by decide +kernel
theorem dX8_unbind_44 : decode cX8_unbind 44 = .ok (.goto (-31), 3) := by decide +kernel
theorem dX8_unbind_47 : decode cX8_unbind 47 = .ok (.aload_n 0, 1) := by decide +kernel
theorem dX8_unbind_48 : decode cX8_unbind 48 = .ok (.iload_n 1, 1) := by decide +kernel
theorem dX8_unbind_49 : decode cX8_unbind 49 = .ok (.invokevirtual 183, 3) := by decide +kernel
theorem dX8_unbind_52 : decode cX8_unbind 52 = .ok (.iconst 1, 1) := by decide +kernel
theorem dX8_unbind_53 : decode cX8_unbind 53 = .ok (.ireturn, 1) := by decide +kernel
theorem dX8_many_0 : decode cX8_many 0 = .ok (.iconst 0, 1) := by decide +kernel
theorem dX8_many_1 : decode cX8_many 1 = .ok (.istore_n 2, 1) := by decide +kernel
theorem dX8_many_2 : decode cX8_many 2 = .ok (.iconst 0, 1) := by decide +kernel
theorem dX8_many_3 : decode cX8_many 3 = .ok (.istore_n 3, 1) := by decide +kernel
theorem dX8_many_4 : decode cX8_many 4 = .ok (.iload_n 3, 1) := by decide +kernel
theorem dX8_many_5 : decode cX8_many 5 = .ok (.aload_n 0, 1) := by decide +kernel
theorem dX8_many_6 : decode cX8_many 6 = .ok (.getfield 148, 3) := by decide +kernel
theorem dX8_many_9 : decode cX8_many 9 = .ok (.if_icmp .ge 26, 3) := by decide +kernel
theorem dX8_many_12 : decode cX8_many 12 = .ok (.iload_n 2, 1) := by decide +kernel
theorem dX8_many_13 : decode cX8_many 13 = .ok (.aload_n 0, 1) := by decide +kernel
theorem dX8_many_14 : decode cX8_many 14 = .ok (.iload_n 3, 1) := by decide +kernel
theorem dX8_many_15 : decode cX8_many 15 = .ok (.iload_n 1, 1) := by decide +kernel
theorem dX8_many_16 : decode cX8_many 16 = .ok (.invokevirtual 180, 3) := by decide +kernel
theorem dX8_many_19 : decode cX8_many 19 = .ok (.ifCond .eq 7, 3) := by decide +kernel
theorem dX8_many_22 : decode cX8_many 22 = .ok (.iconst 1, 1) := by decide +kernel
theorem dX8_many_23 : decode cX8_many 23 = .ok (.goto 4, 3) := by decide +kernel
theorem dX8_many_26 : decode cX8_many 26 = .ok (.iconst 0, 1) := by decide +kernel
theorem dX8_many_27 : decode cX8_many 27 = .ok (.iadd, 1) := by decide +kernel
theorem dX8_many_28 : decode cX8_many 28 = .ok (.istore_n 2, 1) := by decide +kernel
theorem dX8_many_29 : decode cX8_many 29 = .ok (.iinc 3 1, 3) := by decide +kernel
theorem dX8_many_32 : decode cX8_many 32 = .ok (.goto (-28), 3) := by decide +kernel
theorem dX8_many_35 : decode cX8_many 35 = .ok (.iload_n 2, 1) := by decide +kernel
theorem dX8_many_36 : decode cX8_many 36 = .ok (.ireturn, 1) := by decide +kernel
theorem dX8_width_0 : decode cX8_width 0 = .ok (.iconst 0, 1) := by decide +kernel
theorem dX8_width_1 : decode cX8_width 1 = .ok (.istore_n 2, 1) := by decide +kernel
theorem dX8_width_2 : decode cX8_width 2 = .ok (.iconst 0, 1) := by decide +kernel
theorem dX8_width_3 : decode cX8_width 3 = .ok (.istore_n 3, 1) := by decide +kernel
theorem dX8_width_4 : decode cX8_width 4 = .ok (.iload_n 3, 1) := by decide +kernel
theorem dX8_width_5 : decode cX8_width 5 = .ok (.aload_n 0, 1) := by decide +kernel
theorem dX8_width_6 : decode cX8_width 6 = .ok (.getfield 77, 3) := by decide +kernel
theorem dX8_width_9 : decode cX8_width 9 = .ok (.iload_n 1, 1) := by decide +kernel
theorem dX8_width_10 : decode cX8_width 10 = .ok (.iaload, 1) := by decide +kernel
theorem dX8_width_11 : decode cX8_width 11 = .ok (.if_icmp .ge 76, 3) := by decide +kernel
theorem dX8_width_14 : decode cX8_width 14 = .ok (.iconst 0, 1) := by decide +kernel
theorem dX8_width_15 : decode cX8_width 15 = .ok (.istore 4, 2) := by decide +kernel
theorem dX8_width_17 : decode cX8_width 17 = .ok (.iconst 0, 1) := by decide +kernel
theorem dX8_width_18 : decode cX8_width 18 = .ok (.istore 5, 2) := by decide +kernel
theorem dX8_width_20 : decode cX8_width 20 = .ok (.iload 5, 2) := by decide +kernel
theorem dX8_width_22 : decode cX8_width 22 = .ok (.aload_n 0, 1) := by decide +kernel
theorem dX8_width_23 : decode cX8_width 23 = .ok (.getfield 148, 3) := by decide +kernel
theorem dX8_width_26 : decode cX8_width 26 = .ok (.if_icmp .ge 46, 3) := by decide +kernel
theorem dX8_width_29 : decode cX8_width 29 = .ok (.iload 4, 2) := by decide +kernel
theorem dX8_width_31 : decode cX8_width 31 = .ok (.aload_n 0, 1) := by decide +kernel
theorem dX8_width_32 : decode cX8_width 32 = .ok (.iload 5, 2) := by decide +kernel
theorem dX8_width_34 : decode cX8_width 34 = .ok (.iload_n 1, 1) := by decide +kernel
theorem dX8_width_35 : decode cX8_width 35 = .ok (.invokevirtual 180, 3) := by decide +kernel
theorem dX8_width_38 : decode cX8_width 38 = .ok (.ifCond .eq 24, 3) := by decide +kernel
theorem dX8_width_41 : decode cX8_width 41 = .ok (.aload_n 0, 1) := by decide +kernel
theorem dX8_width_42 : decode cX8_width 42 = .ok (.getfield 59, 3) := by decide +kernel
theorem dX8_width_45 : decode cX8_width 45 = .ok (.iload 5, 2) := by decide +kernel
theorem dX8_width_47 : decode cX8_width 47 = .ok (.iaload, 1) := by decide +kernel
theorem dX8_width_48 : decode cX8_width 48 = .ok (.iload_n 3, 1) := by decide +kernel
theorem dX8_width_49 : decode cX8_width 49 = .ok (.if_icmp .ne 13, 3) := by decide +kernel
theorem dX8_width_52 : decode cX8_width 52 = .ok (.aload_n 0, 1) := by decide +kernel
theorem dX8_width_53 : decode cX8_width 53 = .ok (.getfield 47, 3) := by decide +kernel
theorem dX8_width_56 : decode cX8_width 56 = .ok (.iload 5, 2) := by decide +kernel
theorem dX8_width_58 : decode cX8_width 58 = .ok (.iaload, 1) := by decide +kernel
theorem dX8_width_59 : decode cX8_width 59 = .ok (.goto 4, 3) := by decide +kernel
theorem dX8_width_62 : decode cX8_width 62 = .ok (.iconst 0, 1) := by decide +kernel
theorem dX8_width_63 : decode cX8_width 63 = .ok (.iadd, 1) := by decide +kernel
theorem dX8_width_64 : decode cX8_width 64 = .ok (.istore 4, 2) := by decide +kernel
theorem dX8_width_66 : decode cX8_width 66 = .ok (.iinc 5 1, 3) := by decide +kernel
theorem dX8_width_69 : decode cX8_width 69 = .ok (.goto (-49), 3) := by decide +kernel
theorem dX8_width_72 : decode cX8_width 72 = .ok (.iload 4, 2) := by decide +kernel
theorem dX8_width_74 : decode cX8_width 74 = .ok (.iload_n 2, 1) := by decide +kernel
theorem dX8_width_75 : decode cX8_width 75 = .ok (.if_icmp .le 6, 3) := by decide +kernel
theorem dX8_width_78 : decode cX8_width 78 = .ok (.iload 4, 2) := by decide +kernel
theorem dX8_width_80 : decode cX8_width 80 = .ok (.istore_n 2, 1) := by decide +kernel
theorem dX8_width_81 : decode cX8_width 81 = .ok (.iinc 3 1, 3) := by decide +kernel
theorem dX8_width_84 : decode cX8_width 84 = .ok (.goto (-80), 3) := by decide +kernel
theorem dX8_width_87 : decode cX8_width 87 = .ok (.iload_n 2, 1) := by decide +kernel
theorem dX8_width_88 : decode cX8_width 88 = .ok (.ireturn, 1) := by decide +kernel
theorem dX8_first_0 : decode cX8_first 0 = .ok (.iconst 0, 1) := by decide +kernel
theorem dX8_first_1 : decode cX8_first 1 = .ok (.istore_n 2, 1) := by decide +kernel
theorem dX8_first_2 : decode cX8_first 2 = .ok (.iload_n 2, 1) := by decide +kernel
theorem dX8_first_3 : decode cX8_first 3 = .ok (.aload_n 0, 1) := by decide +kernel
theorem dX8_first_4 : decode cX8_first 4 = .ok (.getfield 148, 3) := by decide +kernel
theorem dX8_first_7 : decode cX8_first 7 = .ok (.if_icmp .ge 38, 3) := by decide +kernel
theorem dX8_first_10 : decode cX8_first 10 = .ok (.aload_n 0, 1) := by decide +kernel
theorem dX8_first_11 : decode cX8_first 11 = .ok (.iload_n 2, 1) := by decide +kernel
theorem dX8_first_12 : decode cX8_first 12 = .ok (.iload_n 1, 1) := by decide +kernel
theorem dX8_first_13 : decode cX8_first 13 = .ok (.invokevirtual 180, 3) := by decide +kernel
theorem dX8_first_16 : decode cX8_first 16 = .ok (.ifCond .eq 23, 3) := by decide +kernel
theorem dX8_first_19 : decode cX8_first 19 = .ok (.aload_n 0, 1) := by decide +kernel
theorem dX8_first_20 : decode cX8_first 20 = .ok (.getfield 59, 3) := by decide +kernel
theorem dX8_first_23 : decode cX8_first 23 = .ok (.iload_n 2, 1) := by decide +kernel
theorem dX8_first_24 : decode cX8_first 24 = .ok (.iaload, 1) := by decide +kernel
theorem dX8_first_25 : decode cX8_first 25 = .ok (.ifCond .ne 14, 3) := by decide +kernel
theorem dX8_first_28 : decode cX8_first 28 = .ok (.aload_n 0, 1) := by decide +kernel
theorem dX8_first_29 : decode cX8_first 29 = .ok (.getfield 62, 3) := by decide +kernel
theorem dX8_first_32 : decode cX8_first 32 = .ok (.iload_n 2, 1) := by decide +kernel
theorem dX8_first_33 : decode cX8_first 33 = .ok (.iaload, 1) := by decide +kernel
theorem dX8_first_34 : decode cX8_first 34 = .ok (.ifCond .ne 5, 3) := by decide +kernel
theorem dX8_first_37 : decode cX8_first 37 = .ok (.iload_n 2, 1) := by decide +kernel
theorem dX8_first_38 : decode cX8_first 38 = .ok (.ireturn, 1) := by decide +kernel
theorem dX8_first_39 : decode cX8_first 39 = .ok (.iinc 2 1, 3) := by decide +kernel
theorem dX8_first_42 : decode cX8_first 42 = .ok (.goto (-40), 3) := by decide +kernel
theorem dX8_first_45 : decode cX8_first 45 = .ok (.iconst (-1), 1) := by decide +kernel
theorem dX8_first_46 : decode cX8_first 46 = .ok (.ireturn, 1) := by decide +kernel
theorem dX8_crew_0 : decode cX8_crew 0 = .ok (.aload_n 0, 1) := by decide +kernel
theorem dX8_crew_1 : decode cX8_crew 1 = .ok (.iload_n 1, 1) := by decide +kernel
theorem dX8_crew_2 : decode cX8_crew 2 = .ok (.invokevirtual 154, 3) := by decide +kernel
theorem dX8_crew_5 : decode cX8_crew 5 = .ok (.ifCond .eq 12, 3) := by decide +kernel
theorem dX8_crew_8 : decode cX8_crew 8 = .ok (.aload_n 0, 1) := by decide +kernel
theorem dX8_crew_9 : decode cX8_crew 9 = .ok (.getfield 191, 3) := by decide +kernel
theorem dX8_crew_12 : decode cX8_crew 12 = .ok (.bipush 10, 2) := by decide +kernel
theorem dX8_crew_14 : decode cX8_crew 14 = .ok (.if_icmp .ne 5, 3) := by decide +kernel
theorem dX8_crew_17 : decode cX8_crew 17 = .ok (.iconst (-1), 1) := by decide +kernel
theorem dX8_crew_18 : decode cX8_crew 18 = .ok (.ireturn, 1) := by decide +kernel
theorem dX8_crew_19 : decode cX8_crew 19 = .ok (.aload_n 0, 1) := by decide +kernel
theorem dX8_crew_20 : decode cX8_crew 20 = .ok (.getfield 86, 3) := by decide +kernel
theorem dX8_crew_23 : decode cX8_crew 23 = .ok (.aload_n 0, 1) := by decide +kernel
theorem dX8_crew_24 : decode cX8_crew 24 = .ok (.getfield 191, 3) := by decide +kernel
theorem dX8_crew_27 : decode cX8_crew 27 = .ok (.iload_n 1, 1) := by decide +kernel
theorem dX8_crew_28 : decode cX8_crew 28 = .ok (.iastore, 1) := by decide +kernel
theorem dX8_crew_29 : decode cX8_crew 29 = .ok (.aload_n 0, 1) := by decide +kernel
theorem dX8_crew_30 : decode cX8_crew 30 = .ok (.getfield 92, 3) := by decide +kernel
theorem dX8_crew_33 : decode cX8_crew 33 = .ok (.aload_n 0, 1) := by decide +kernel
theorem dX8_crew_34 : decode cX8_crew 34 = .ok (.getfield 191, 3) := by decide +kernel
theorem dX8_crew_37 : decode cX8_crew 37 = .ok (.iload_n 1, 1) := by decide +kernel
theorem dX8_crew_38 : decode cX8_crew 38 = .ok (.iastore, 1) := by decide +kernel
theorem dX8_crew_39 : decode cX8_crew 39 = .ok (.aload_n 0, 1) := by decide +kernel
theorem dX8_crew_40 : decode cX8_crew 40 = .ok (.getfield 95, 3) := by decide +kernel
theorem dX8_crew_43 : decode cX8_crew 43 = .ok (.aload_n 0, 1) := by decide +kernel
theorem dX8_crew_44 : decode cX8_crew 44 = .ok (.getfield 191, 3) := by decide +kernel
theorem dX8_crew_47 : decode cX8_crew 47 = .ok (.aload_n 0, 1) := by decide +kernel
theorem dX8_crew_48 : decode cX8_crew 48 = .ok (.getfield 194, 3) := by decide +kernel
theorem dX8_crew_51 : decode cX8_crew 51 = .ok (.bipush 8, 2) := by decide +kernel
theorem dX8_crew_53 : decode cX8_crew 53 = .ok (.isub, 1) := by decide +kernel
theorem dX8_crew_54 : decode cX8_crew 54 = .ok (.iastore, 1) := by decide +kernel
theorem dX8_crew_55 : decode cX8_crew 55 = .ok (.aload_n 0, 1) := by decide +kernel
theorem dX8_crew_56 : decode cX8_crew 56 = .ok (.getfield 98, 3) := by decide +kernel
theorem dX8_crew_59 : decode cX8_crew 59 = .ok (.aload_n 0, 1) := by decide +kernel
theorem dX8_crew_60 : decode cX8_crew 60 = .ok (.getfield 191, 3) := by decide +kernel
theorem dX8_crew_63 : decode cX8_crew 63 = .ok (.iconst (-1), 1) := by decide +kernel
theorem dX8_crew_64 : decode cX8_crew 64 = .ok (.iastore, 1) := by decide +kernel
theorem dX8_crew_65 : decode cX8_crew 65 = .ok (.aload_n 0, 1) := by decide +kernel
theorem dX8_crew_66 : decode cX8_crew 66 = .ok (.dup, 1) := by decide +kernel
theorem dX8_crew_67 : decode cX8_crew 67 = .ok (.getfield 191, 3) := by decide +kernel
theorem dX8_crew_70 : decode cX8_crew 70 = .ok (.iconst 1, 1) := by decide +kernel
theorem dX8_crew_71 : decode cX8_crew 71 = .ok (.iadd, 1) := by decide +kernel
theorem dX8_crew_72 : decode cX8_crew 72 = .ok (.putfield 191, 3) := by decide +kernel
theorem dX8_crew_75 : decode cX8_crew 75 = .ok (.aload_n 0, 1) := by decide +kernel
theorem dX8_crew_76 : decode cX8_crew 76 = .ok (.getfield 191, 3) := by decide +kernel
theorem dX8_crew_79 : decode cX8_crew 79 = .ok (.iconst 1, 1) := by decide +kernel
theorem dX8_crew_80 : decode cX8_crew 80 = .ok (.isub, 1) := by decide +kernel
theorem dX8_crew_81 : decode cX8_crew 81 = .ok (.ireturn, 1) := by decide +kernel
theorem dX8_isResting_0 : decode cX8_isResting 0 = .ok (.aload_n 0, 1) := by decide +kernel
theorem dX8_isResting_1 : decode cX8_isResting 1 = .ok (.getfield 89, 3) := by decide +kernel
theorem dX8_isResting_4 : decode cX8_isResting 4 = .ok (.iload_n 1, 1) := by decide +kernel
theorem dX8_isResting_5 : decode cX8_isResting 5 = .ok (.iaload, 1) := by decide +kernel
theorem dX8_isResting_6 : decode cX8_isResting 6 = .ok (.ifCond .ne 23, 3) := by decide +kernel
theorem dX8_isResting_9 : decode cX8_isResting 9 = .ok (.aload_n 0, 1) := by decide +kernel
theorem dX8_isResting_10 : decode cX8_isResting 10 = .ok (.getfield 194, 3) := by decide +kernel
theorem dX8_isResting_13 : decode cX8_isResting 13 = .ok (.aload_n 0, 1) := by decide +kernel
theorem dX8_isResting_14 : decode cX8_isResting 14 = .ok (.getfield 95, 3) := by decide +kernel
theorem dX8_isResting_17 : decode cX8_isResting 17 = .ok (.iload_n 1, 1) := by decide +kernel
theorem dX8_isResting_18 : decode cX8_isResting 18 = .ok (.iaload, 1) := by decide +kernel
theorem dX8_isResting_19 : decode cX8_isResting 19 = .ok (.isub, 1) := by decide +kernel
theorem dX8_isResting_20 : decode cX8_isResting 20 = .ok (.bipush 8, 2) := by decide +kernel
theorem dX8_isResting_22 : decode cX8_isResting 22 = .ok (.if_icmp .ge 7, 3) := by decide +kernel
theorem dX8_isResting_25 : decode cX8_isResting 25 = .ok (.iconst 1, 1) := by decide +kernel
theorem dX8_isResting_26 : decode cX8_isResting 26 = .ok (.goto 4, 3) := by decide +kernel
theorem dX8_isResting_29 : decode cX8_isResting 29 = .ok (.iconst 0, 1) := by decide +kernel
theorem dX8_isResting_30 : decode cX8_isResting 30 = .ok (.ireturn, 1) := by decide +kernel
theorem dX8_ready_0 : decode cX8_ready 0 = .ok (.aload_n 0, 1) := by decide +kernel
theorem dX8_ready_1 : decode cX8_ready 1 = .ok (.iload_n 1, 1) := by decide +kernel
theorem dX8_ready_2 : decode cX8_ready 2 = .ok (.iconst 0, 1) := by decide +kernel
theorem dX8_ready_3 : decode cX8_ready 3 = .ok (.invokevirtual 176, 3) := by decide +kernel
theorem dX8_ready_6 : decode cX8_ready 6 = .ok (.ifCond .eq 26, 3) := by decide +kernel
theorem dX8_ready_9 : decode cX8_ready 9 = .ok (.aload_n 0, 1) := by decide +kernel
theorem dX8_ready_10 : decode cX8_ready 10 = .ok (.getfield 74, 3) := by decide +kernel
theorem dX8_ready_13 : decode cX8_ready 13 = .ok (.iload_n 1, 1) := by decide +kernel
theorem dX8_ready_14 : decode cX8_ready 14 = .ok (.iaload, 1) := by decide +kernel
theorem dX8_ready_15 : decode cX8_ready 15 = .ok (.ifCond .eq 17, 3) := by decide +kernel
theorem dX8_ready_18 : decode cX8_ready 18 = .ok (.iload_n 2, 1) := by decide +kernel
theorem dX8_ready_19 : decode cX8_ready 19 = .ok (.iconst 0, 1) := by decide +kernel
theorem dX8_ready_20 : decode cX8_ready 20 = .ok (.aload_n 0, 1) := by decide +kernel
theorem dX8_ready_21 : decode cX8_ready 21 = .ok (.getfield 191, 3) := by decide +kernel
theorem dX8_ready_24 : decode cX8_ready 24 = .ok (.iconst 1, 1) := by decide +kernel
theorem dX8_ready_25 : decode cX8_ready 25 = .ok (.isub, 1) := by decide +kernel
theorem dX8_ready_26 : decode cX8_ready 26 = .ok (.invokestatic 144, 3) := by decide +kernel
theorem dX8_ready_29 : decode cX8_ready 29 = .ok (.ifCond .ne 5, 3) := by decide +kernel
theorem dX8_ready_32 : decode cX8_ready 32 = .ok (.iconst 0, 1) := by decide +kernel
theorem dX8_ready_33 : decode cX8_ready 33 = .ok (.ireturn, 1) := by decide +kernel
theorem dX8_ready_34 : decode cX8_ready 34 = .ok (.aload_n 0, 1) := by decide +kernel
theorem dX8_ready_35 : decode cX8_ready 35 = .ok (.getfield 89, 3) := by decide +kernel
theorem dX8_ready_38 : decode cX8_ready 38 = .ok (.iload_n 2, 1) := by decide +kernel
theorem dX8_ready_39 : decode cX8_ready 39 = .ok (.iaload, 1) := by decide +kernel
theorem dX8_ready_40 : decode cX8_ready 40 = .ok (.ifCond .ne 26, 3) := by decide +kernel
theorem dX8_ready_43 : decode cX8_ready 43 = .ok (.aload_n 0, 1) := by decide +kernel
theorem dX8_ready_44 : decode cX8_ready 44 = .ok (.getfield 92, 3) := by decide +kernel
theorem dX8_ready_47 : decode cX8_ready 47 = .ok (.iload_n 2, 1) := by decide +kernel
theorem dX8_ready_48 : decode cX8_ready 48 = .ok (.iaload, 1) := by decide +kernel
theorem dX8_ready_49 : decode cX8_ready 49 = .ok (.aload_n 0, 1) := by decide +kernel
theorem dX8_ready_50 : decode cX8_ready 50 = .ok (.getfield 74, 3) := by decide +kernel
theorem dX8_ready_53 : decode cX8_ready 53 = .ok (.iload_n 1, 1) := by decide +kernel
theorem dX8_ready_54 : decode cX8_ready 54 = .ok (.iaload, 1) := by decide +kernel
theorem dX8_ready_55 : decode cX8_ready 55 = .ok (.if_icmp .ne 11, 3) := by decide +kernel
theorem dX8_ready_58 : decode cX8_ready 58 = .ok (.aload_n 0, 1) := by decide +kernel
theorem dX8_ready_59 : decode cX8_ready 59 = .ok (.iload_n 2, 1) := by decide +kernel
theorem dX8_ready_60 : decode cX8_ready 60 = .ok (.invokevirtual 197, 3) := by decide +kernel
theorem dX8_ready_63 : decode cX8_ready 63 = .ok (.ifCond .eq 5, 3) := by decide +kernel
theorem dX8_ready_66 : decode cX8_ready 66 = .ok (.iconst 0, 1) := by decide +kernel
theorem dX8_ready_67 : decode cX8_ready 67 = .ok (.ireturn, 1) := by decide +kernel
theorem dX8_ready_68 : decode cX8_ready 68 = .ok (.aload_n 0, 1) := by decide +kernel
theorem dX8_ready_69 : decode cX8_ready 69 = .ok (.getfield 71, 3) := by decide +kernel
theorem dX8_ready_72 : decode cX8_ready 72 = .ok (.iload_n 1, 1) := by decide +kernel
theorem dX8_ready_73 : decode cX8_ready 73 = .ok (.iconst 1, 1) := by decide +kernel
theorem dX8_ready_74 : decode cX8_ready 74 = .ok (.iastore, 1) := by decide +kernel
theorem dX8_ready_75 : decode cX8_ready 75 = .ok (.aload_n 0, 1) := by decide +kernel
theorem dX8_ready_76 : decode cX8_ready 76 = .ok (.getfield 80, 3) := by decide +kernel
theorem dX8_ready_79 : decode cX8_ready 79 = .ok (.iload_n 1, 1) := by decide +kernel
theorem dX8_ready_80 : decode cX8_ready 80 = .ok (.iload_n 2, 1) := by decide +kernel
theorem dX8_ready_81 : decode cX8_ready 81 = .ok (.iastore, 1) := by decide +kernel
theorem dX8_ready_82 : decode cX8_ready 82 = .ok (.aload_n 0, 1) := by decide +kernel
theorem dX8_ready_83 : decode cX8_ready 83 = .ok (.getfield 89, 3) := by decide +kernel
theorem dX8_ready_86 : decode cX8_ready 86 = .ok (.iload_n 2, 1) := by decide +kernel
theorem dX8_ready_87 : decode cX8_ready 87 = .ok (.iconst 1, 1) := by decide +kernel
theorem dX8_ready_88 : decode cX8_ready 88 = .ok (.iastore, 1) := by decide +kernel
theorem dX8_ready_89 : decode cX8_ready 89 = .ok (.iconst 1, 1) := by decide +kernel
theorem dX8_ready_90 : decode cX8_ready 90 = .ok (.ireturn, 1) := by decide +kernel
theorem dX8_lands_0 : decode cX8_lands 0 = .ok (.aload_n 0, 1) := by decide +kernel
theorem dX8_lands_1 : decode cX8_lands 1 = .ok (.getfield 89, 3) := by decide +kernel
theorem dX8_lands_4 : decode cX8_lands 4 = .ok (.iload_n 1, 1) := by decide +kernel
theorem dX8_lands_5 : decode cX8_lands 5 = .ok (.iconst 0, 1) := by decide +kernel
theorem dX8_lands_6 : decode cX8_lands 6 = .ok (.iastore, 1) := by decide +kernel
theorem dX8_lands_7 : decode cX8_lands 7 = .ok (.aload_n 0, 1) := by decide +kernel
theorem dX8_lands_8 : decode cX8_lands 8 = .ok (.getfield 92, 3) := by decide +kernel
theorem dX8_lands_11 : decode cX8_lands 11 = .ok (.iload_n 1, 1) := by decide +kernel
theorem dX8_lands_12 : decode cX8_lands 12 = .ok (.iload_n 2, 1) := by decide +kernel
theorem dX8_lands_13 : decode cX8_lands 13 = .ok (.iastore, 1) := by decide +kernel
theorem dX8_lands_14 : decode cX8_lands 14 = .ok (.aload_n 0, 1) := by decide +kernel
theorem dX8_lands_15 : decode cX8_lands 15 = .ok (.getfield 95, 3) := by decide +kernel
theorem dX8_lands_18 : decode cX8_lands 18 = .ok (.iload_n 1, 1) := by decide +kernel
theorem dX8_lands_19 : decode cX8_lands 19 = .ok (.iload_n 3, 1) := by decide +kernel
theorem dX8_lands_20 : decode cX8_lands 20 = .ok (.iastore, 1) := by decide +kernel
theorem dX8_lands_21 : decode cX8_lands 21 = .ok (.aload_n 0, 1) := by decide +kernel
theorem dX8_lands_22 : decode cX8_lands 22 = .ok (.getfield 98, 3) := by decide +kernel
theorem dX8_lands_25 : decode cX8_lands 25 = .ok (.iload_n 1, 1) := by decide +kernel
theorem dX8_lands_26 : decode cX8_lands 26 = .ok (.iconst (-1), 1) := by decide +kernel
theorem dX8_lands_27 : decode cX8_lands 27 = .ok (.iastore, 1) := by decide +kernel
theorem dX8_lands_28 : decode cX8_lands 28 = .ok (.return_, 1) := by decide +kernel
theorem dX8_tie_0 : decode cX8_tie 0 = .ok (.aload_n 0, 1) := by decide +kernel
theorem dX8_tie_1 : decode cX8_tie 1 = .ok (.iload_n 1, 1) := by decide +kernel
theorem dX8_tie_2 : decode cX8_tie 2 = .ok (.iconst 1, 1) := by decide +kernel
theorem dX8_tie_3 : decode cX8_tie 3 = .ok (.invokevirtual 176, 3) := by decide +kernel
theorem dX8_tie_6 : decode cX8_tie 6 = .ok (.ifCond .ne 5, 3) := by decide +kernel
theorem dX8_tie_9 : decode cX8_tie 9 = .ok (.iconst 0, 1) := by decide +kernel
theorem dX8_tie_10 : decode cX8_tie 10 = .ok (.ireturn, 1) := by decide +kernel
theorem dX8_tie_11 : decode cX8_tie 11 = .ok (.aload_n 0, 1) := by decide +kernel
theorem dX8_tie_12 : decode cX8_tie 12 = .ok (.getfield 71, 3) := by decide +kernel
theorem dX8_tie_15 : decode cX8_tie 15 = .ok (.iload_n 1, 1) := by decide +kernel
theorem dX8_tie_16 : decode cX8_tie 16 = .ok (.iconst 0, 1) := by decide +kernel
theorem dX8_tie_17 : decode cX8_tie 17 = .ok (.iastore, 1) := by decide +kernel
theorem dX8_tie_18 : decode cX8_tie 18 = .ok (.aload_n 0, 1) := by decide +kernel
theorem dX8_tie_19 : decode cX8_tie 19 = .ok (.aload_n 0, 1) := by decide +kernel
theorem dX8_tie_20 : decode cX8_tie 20 = .ok (.getfield 80, 3) := by decide +kernel
theorem dX8_tie_23 : decode cX8_tie 23 = .ok (.iload_n 1, 1) := by decide +kernel
theorem dX8_tie_24 : decode cX8_tie 24 = .ok (.iaload, 1) := by decide +kernel
theorem dX8_tie_25 : decode cX8_tie 25 = .ok (.aload_n 0, 1) := by decide +kernel
theorem dX8_tie_26 : decode cX8_tie 26 = .ok (.getfield 74, 3) := by decide +kernel
theorem dX8_tie_29 : decode cX8_tie 29 = .ok (.iload_n 1, 1) := by decide +kernel
theorem dX8_tie_30 : decode cX8_tie 30 = .ok (.iaload, 1) := by decide +kernel
theorem dX8_tie_31 : decode cX8_tie 31 = .ok (.aload_n 0, 1) := by decide +kernel
theorem dX8_tie_32 : decode cX8_tie 32 = .ok (.getfield 194, 3) := by decide +kernel
theorem dX8_tie_35 : decode cX8_tie 35 = .ok (.bipush 8, 2) := by decide +kernel
theorem dX8_tie_37 : decode cX8_tie 37 = .ok (.isub, 1) := by decide +kernel
theorem dX8_tie_38 : decode cX8_tie 38 = .ok (.invokevirtual 200, 3) := by decide +kernel
theorem dX8_tie_41 : decode cX8_tie 41 = .ok (.aload_n 0, 1) := by decide +kernel
theorem dX8_tie_42 : decode cX8_tie 42 = .ok (.getfield 80, 3) := by decide +kernel
theorem dX8_tie_45 : decode cX8_tie 45 = .ok (.iload_n 1, 1) := by decide +kernel
theorem dX8_tie_46 : decode cX8_tie 46 = .ok (.iconst (-1), 1) := by decide +kernel
theorem dX8_tie_47 : decode cX8_tie 47 = .ok (.iastore, 1) := by decide +kernel
theorem dX8_tie_48 : decode cX8_tie 48 = .ok (.iconst 1, 1) := by decide +kernel
theorem dX8_tie_49 : decode cX8_tie 49 = .ok (.ireturn, 1) := by decide +kernel
theorem dX8_walk_0 : decode cX8_walk 0 = .ok (.iload_n 1, 1) := by decide +kernel
theorem dX8_walk_1 : decode cX8_walk 1 = .ok (.iconst 0, 1) := by decide +kernel
theorem dX8_walk_2 : decode cX8_walk 2 = .ok (.aload_n 0, 1) := by decide +kernel
theorem dX8_walk_3 : decode cX8_walk 3 = .ok (.getfield 191, 3) := by decide +kernel
theorem dX8_walk_6 : decode cX8_walk 6 = .ok (.iconst 1, 1) := by decide +kernel
theorem dX8_walk_7 : decode cX8_walk 7 = .ok (.isub, 1) := by decide +kernel
theorem dX8_walk_8 : decode cX8_walk 8 = .ok (.invokestatic 144, 3) := by decide +kernel
theorem dX8_walk_11 : decode cX8_walk 11 = .ok (.ifCond .eq 27, 3) := by decide +kernel
theorem dX8_walk_14 : decode cX8_walk 14 = .ok (.aload_n 0, 1) := by decide +kernel
theorem dX8_walk_15 : decode cX8_walk 15 = .ok (.getfield 89, 3) := by decide +kernel
theorem dX8_walk_18 : decode cX8_walk 18 = .ok (.iload_n 1, 1) := by decide +kernel
theorem dX8_walk_19 : decode cX8_walk 19 = .ok (.iaload, 1) := by decide +kernel
theorem dX8_walk_20 : decode cX8_walk 20 = .ok (.ifCond .ne 18, 3) := by decide +kernel
theorem dX8_walk_23 : decode cX8_walk 23 = .ok (.aload_n 0, 1) := by decide +kernel
theorem dX8_walk_24 : decode cX8_walk 24 = .ok (.getfield 92, 3) := by decide +kernel
theorem dX8_walk_27 : decode cX8_walk 27 = .ok (.iload_n 1, 1) := by decide +kernel
theorem dX8_walk_28 : decode cX8_walk 28 = .ok (.iaload, 1) := by decide +kernel
theorem dX8_walk_29 : decode cX8_walk 29 = .ok (.aload_n 0, 1) := by decide +kernel
theorem dX8_walk_30 : decode cX8_walk 30 = .ok (.getfield 86, 3) := by decide +kernel
theorem dX8_walk_33 : decode cX8_walk 33 = .ok (.iload_n 1, 1) := by decide +kernel
theorem dX8_walk_34 : decode cX8_walk 34 = .ok (.iaload, 1) := by decide +kernel
theorem dX8_walk_35 : decode cX8_walk 35 = .ok (.if_icmp .ne 5, 3) := by decide +kernel
theorem dX8_walk_38 : decode cX8_walk 38 = .ok (.iconst (-1), 1) := by decide +kernel
theorem dX8_walk_39 : decode cX8_walk 39 = .ok (.ireturn, 1) := by decide +kernel
theorem dX8_walk_40 : decode cX8_walk 40 = .ok (.iconst 0, 1) := by decide +kernel
theorem dX8_walk_41 : decode cX8_walk 41 = .ok (.istore_n 2, 1) := by decide +kernel
theorem dX8_walk_42 : decode cX8_walk 42 = .ok (.aload_n 0, 1) := by decide +kernel
theorem dX8_walk_43 : decode cX8_walk 43 = .ok (.getfield 86, 3) := by decide +kernel
theorem dX8_walk_46 : decode cX8_walk 46 = .ok (.iload_n 1, 1) := by decide +kernel
theorem dX8_walk_47 : decode cX8_walk 47 = .ok (.iaload, 1) := by decide +kernel
theorem dX8_walk_48 : decode cX8_walk 48 = .ok (.istore_n 3, 1) := by decide +kernel
theorem dX8_walk_49 : decode cX8_walk 49 = .ok (.iload_n 3, 1) := by decide +kernel
theorem dX8_walk_50 : decode cX8_walk 50 = .ok (.ifCond .eq 32, 3) := by decide +kernel
theorem dX8_walk_53 : decode cX8_walk 53 = .ok (.iload_n 3, 1) := by decide +kernel
theorem dX8_walk_54 : decode cX8_walk 54 = .ok (.aload_n 0, 1) := by decide +kernel
theorem dX8_walk_55 : decode cX8_walk 55 = .ok (.getfield 92, 3) := by decide +kernel
theorem dX8_walk_58 : decode cX8_walk 58 = .ok (.iload_n 1, 1) := by decide +kernel
theorem dX8_walk_59 : decode cX8_walk 59 = .ok (.iaload, 1) := by decide +kernel
theorem dX8_walk_60 : decode cX8_walk 60 = .ok (.if_icmp .eq 22, 3) := by decide +kernel
theorem dX8_walk_63 : decode cX8_walk 63 = .ok (.iload_n 2, 1) := by decide +kernel
theorem dX8_walk_64 : decode cX8_walk 64 = .ok (.aload_n 0, 1) := by decide +kernel
theorem dX8_walk_65 : decode cX8_walk 65 = .ok (.getfield 13, 3) := by decide +kernel
theorem dX8_walk_68 : decode cX8_walk 68 = .ok (.iload_n 3, 1) := by decide +kernel
theorem dX8_walk_69 : decode cX8_walk 69 = .ok (.iaload, 1) := by decide +kernel
theorem dX8_walk_70 : decode cX8_walk 70 = .ok (.iadd, 1) := by decide +kernel
theorem dX8_walk_71 : decode cX8_walk 71 = .ok (.istore_n 2, 1) := by decide +kernel
theorem dX8_walk_72 : decode cX8_walk 72 = .ok (.aload_n 0, 1) := by decide +kernel
theorem dX8_walk_73 : decode cX8_walk 73 = .ok (.getfield 9, 3) := by decide +kernel
theorem dX8_walk_76 : decode cX8_walk 76 = .ok (.iload_n 3, 1) := by decide +kernel
theorem dX8_walk_77 : decode cX8_walk 77 = .ok (.iaload, 1) := by decide +kernel
theorem dX8_walk_78 : decode cX8_walk 78 = .ok (.istore_n 3, 1) := by decide +kernel
theorem dX8_walk_79 : decode cX8_walk 79 = .ok (.goto (-30), 3) := by decide +kernel
theorem dX8_walk_82 : decode cX8_walk 82 = .ok (.iload_n 3, 1) := by decide +kernel
theorem dX8_walk_83 : decode cX8_walk 83 = .ok (.aload_n 0, 1) := by decide +kernel
theorem dX8_walk_84 : decode cX8_walk 84 = .ok (.getfield 92, 3) := by decide +kernel
theorem dX8_walk_87 : decode cX8_walk 87 = .ok (.iload_n 1, 1) := by decide +kernel
theorem dX8_walk_88 : decode cX8_walk 88 = .ok (.iaload, 1) := by decide +kernel
theorem dX8_walk_89 : decode cX8_walk 89 = .ok (.if_icmp .eq 5, 3) := by decide +kernel
theorem dX8_walk_92 : decode cX8_walk 92 = .ok (.iconst (-1), 1) := by decide +kernel
theorem dX8_walk_93 : decode cX8_walk 93 = .ok (.ireturn, 1) := by decide +kernel
theorem dX8_walk_94 : decode cX8_walk 94 = .ok (.aload_n 0, 1) := by decide +kernel
theorem dX8_walk_95 : decode cX8_walk 95 = .ok (.getfield 89, 3) := by decide +kernel
theorem dX8_walk_98 : decode cX8_walk 98 = .ok (.iload_n 1, 1) := by decide +kernel
theorem dX8_walk_99 : decode cX8_walk 99 = .ok (.iconst 2, 1) := by decide +kernel
theorem dX8_walk_100 : decode cX8_walk 100 = .ok (.iastore, 1) := by decide +kernel
theorem dX8_walk_101 : decode cX8_walk 101 = .ok (.aload_n 0, 1) := by decide +kernel
theorem dX8_walk_102 : decode cX8_walk 102 = .ok (.getfield 98, 3) := by decide +kernel
theorem dX8_walk_105 : decode cX8_walk 105 = .ok (.iload_n 1, 1) := by decide +kernel
theorem dX8_walk_106 : decode cX8_walk 106 = .ok (.aload_n 0, 1) := by decide +kernel
theorem dX8_walk_107 : decode cX8_walk 107 = .ok (.getfield 194, 3) := by decide +kernel
theorem dX8_walk_110 : decode cX8_walk 110 = .ok (.iconst 2, 1) := by decide +kernel
theorem dX8_walk_111 : decode cX8_walk 111 = .ok (.iload_n 2, 1) := by decide +kernel
theorem dX8_walk_112 : decode cX8_walk 112 = .ok (.imul, 1) := by decide +kernel
theorem dX8_walk_113 : decode cX8_walk 113 = .ok (.iadd, 1) := by decide +kernel
theorem dX8_walk_114 : decode cX8_walk 114 = .ok (.iastore, 1) := by decide +kernel
theorem dX8_walk_115 : decode cX8_walk 115 = .ok (.aload_n 0, 1) := by decide +kernel
theorem dX8_walk_116 : decode cX8_walk 116 = .ok (.getfield 98, 3) := by decide +kernel
theorem dX8_walk_119 : decode cX8_walk 119 = .ok (.iload_n 1, 1) := by decide +kernel
theorem dX8_walk_120 : decode cX8_walk 120 = .ok (.iaload, 1) := by decide +kernel
theorem dX8_walk_121 : decode cX8_walk 121 = .ok (.ireturn, 1) := by decide +kernel
theorem dX8_tollOf_0 : decode cX8_tollOf 0 = .ok (.iconst (-1), 1) := by decide +kernel
theorem dX8_tollOf_1 : decode cX8_tollOf 1 = .ok (.istore_n 2, 1) := by decide +kernel
theorem dX8_tollOf_2 : decode cX8_tollOf 2 = .ok (.iconst 0, 1) := by decide +kernel
theorem dX8_tollOf_3 : decode cX8_tollOf 3 = .ok (.istore_n 3, 1) := by decide +kernel
theorem dX8_tollOf_4 : decode cX8_tollOf 4 = .ok (.iload_n 3, 1) := by decide +kernel
theorem dX8_tollOf_5 : decode cX8_tollOf 5 = .ok (.aload_n 0, 1) := by decide +kernel
theorem dX8_tollOf_6 : decode cX8_tollOf 6 = .ok (.getfield 204, 3) := by decide +kernel
theorem dX8_tollOf_9 : decode cX8_tollOf 9 = .ok (.if_icmp .ge 41, 3) := by decide +kernel
theorem dX8_tollOf_12 : decode cX8_tollOf 12 = .ok (.aload_n 0, 1) := by decide +kernel
theorem dX8_tollOf_13 : decode cX8_tollOf 13 = .ok (.getfield 107, 3) := by decide +kernel
theorem dX8_tollOf_16 : decode cX8_tollOf 16 = .ok (.iload_n 3, 1) := by decide +kernel
theorem dX8_tollOf_17 : decode cX8_tollOf 17 = .ok (.iaload, 1) := by decide +kernel
theorem dX8_tollOf_18 : decode cX8_tollOf 18 = .ok (.iload_n 1, 1) := by decide +kernel
theorem dX8_tollOf_19 : decode cX8_tollOf 19 = .ok (.if_icmp .gt 25, 3) := by decide +kernel
theorem dX8_tollOf_22 : decode cX8_tollOf 22 = .ok (.iload_n 2, 1) := by decide +kernel
theorem dX8_tollOf_23 : decode cX8_tollOf 23 = .ok (.iconst (-1), 1) := by decide +kernel
theorem dX8_tollOf_24 : decode cX8_tollOf 24 = .ok (.if_icmp .eq 18, 3) := by decide +kernel
theorem dX8_tollOf_27 : decode cX8_tollOf 27 = .ok (.aload_n 0, 1) := by decide +kernel
theorem dX8_tollOf_28 : decode cX8_tollOf 28 = .ok (.getfield 107, 3) := by decide +kernel
theorem dX8_tollOf_31 : decode cX8_tollOf 31 = .ok (.iload_n 3, 1) := by decide +kernel
theorem dX8_tollOf_32 : decode cX8_tollOf 32 = .ok (.iaload, 1) := by decide +kernel
theorem dX8_tollOf_33 : decode cX8_tollOf 33 = .ok (.aload_n 0, 1) := by decide +kernel
theorem dX8_tollOf_34 : decode cX8_tollOf 34 = .ok (.getfield 107, 3) := by decide +kernel
theorem dX8_tollOf_37 : decode cX8_tollOf 37 = .ok (.iload_n 2, 1) := by decide +kernel
theorem dX8_tollOf_38 : decode cX8_tollOf 38 = .ok (.iaload, 1) := by decide +kernel
theorem dX8_tollOf_39 : decode cX8_tollOf 39 = .ok (.if_icmp .lt 5, 3) := by decide +kernel
theorem dX8_tollOf_42 : decode cX8_tollOf 42 = .ok (.iload_n 3, 1) := by decide +kernel
theorem dX8_tollOf_43 : decode cX8_tollOf 43 = .ok (.istore_n 2, 1) := by decide +kernel
theorem dX8_tollOf_44 : decode cX8_tollOf 44 = .ok (.iinc 3 1, 3) := by decide +kernel
theorem dX8_tollOf_47 : decode cX8_tollOf 47 = .ok (.goto (-43), 3) := by decide +kernel
theorem dX8_tollOf_50 : decode cX8_tollOf 50 = .ok (.iload_n 2, 1) := by decide +kernel
theorem dX8_tollOf_51 : decode cX8_tollOf 51 = .ok (.iconst (-1), 1) := by decide +kernel
theorem dX8_tollOf_52 : decode cX8_tollOf 52 = .ok (.if_icmp .ne 7, 3) := by decide +kernel
theorem dX8_tollOf_55 : decode cX8_tollOf 55 = .ok (.iconst 0, 1) := by decide +kernel
theorem dX8_tollOf_56 : decode cX8_tollOf 56 = .ok (.goto 9, 3) := by decide +kernel
theorem dX8_tollOf_59 : decode cX8_tollOf 59 = .ok (.aload_n 0, 1) := by decide +kernel
theorem dX8_tollOf_60 : decode cX8_tollOf 60 = .ok (.getfield 110, 3) := by decide +kernel
theorem dX8_tollOf_63 : decode cX8_tollOf 63 = .ok (.iload_n 2, 1) := by decide +kernel
theorem dX8_tollOf_64 : decode cX8_tollOf 64 = .ok (.iaload, 1) := by decide +kernel
theorem dX8_tollOf_65 : decode cX8_tollOf 65 = .ok (.ireturn, 1) := by decide +kernel
theorem dX8_arrivals_0 : decode cX8_arrivals 0 = .ok (.iconst 0, 1) := by decide +kernel
theorem dX8_arrivals_1 : decode cX8_arrivals 1 = .ok (.istore_n 1, 1) := by decide +kernel
theorem dX8_arrivals_2 : decode cX8_arrivals 2 = .ok (.iload_n 1, 1) := by decide +kernel
theorem dX8_arrivals_3 : decode cX8_arrivals 3 = .ok (.aload_n 0, 1) := by decide +kernel
theorem dX8_arrivals_4 : decode cX8_arrivals 4 = .ok (.getfield 151, 3) := by decide +kernel
theorem dX8_arrivals_7 : decode cX8_arrivals 7 = .ok (.if_icmp .ge 76, 3) := by decide +kernel
theorem dX8_arrivals_10 : decode cX8_arrivals 10 = .ok (.aload_n 0, 1) := by decide +kernel
theorem dX8_arrivals_11 : decode cX8_arrivals 11 = .ok (.getfield 71, 3) := by decide +kernel
theorem dX8_arrivals_14 : decode cX8_arrivals 14 = .ok (.iload_n 1, 1) := by decide +kernel
theorem dX8_arrivals_15 : decode cX8_arrivals 15 = .ok (.iaload, 1) := by decide +kernel
theorem dX8_arrivals_16 : decode cX8_arrivals 16 = .ok (.iconst 2, 1) := by decide +kernel
theorem dX8_arrivals_17 : decode cX8_arrivals 17 = .ok (.if_icmp .ne 60, 3) := by decide +kernel
theorem dX8_arrivals_20 : decode cX8_arrivals 20 = .ok (.aload_n 0, 1) := by decide +kernel
theorem dX8_arrivals_21 : decode cX8_arrivals 21 = .ok (.getfield 83, 3) := by decide +kernel
theorem dX8_arrivals_24 : decode cX8_arrivals 24 = .ok (.iload_n 1, 1) := by decide +kernel
theorem dX8_arrivals_25 : decode cX8_arrivals 25 = .ok (.iaload, 1) := by decide +kernel
theorem dX8_arrivals_26 : decode cX8_arrivals 26 = .ok (.aload_n 0, 1) := by decide +kernel
theorem dX8_arrivals_27 : decode cX8_arrivals 27 = .ok (.getfield 194, 3) := by decide +kernel
theorem dX8_arrivals_30 : decode cX8_arrivals 30 = .ok (.if_icmp .eq 6, 3) := by decide +kernel
theorem dX8_arrivals_33 : decode cX8_arrivals 33 = .ok (.goto 44, 3) := by decide +kernel
theorem dX8_arrivals_36 : decode cX8_arrivals 36 = .ok (.aload_n 0, 1) := by decide +kernel
theorem dX8_arrivals_37 : decode cX8_arrivals 37 = .ok (.getfield 71, 3) := by decide +kernel
theorem dX8_arrivals_40 : decode cX8_arrivals 40 = .ok (.iload_n 1, 1) := by decide +kernel
theorem dX8_arrivals_41 : decode cX8_arrivals 41 = .ok (.iconst 0, 1) := by decide +kernel
theorem dX8_arrivals_42 : decode cX8_arrivals 42 = .ok (.iastore, 1) := by decide +kernel
theorem dX8_arrivals_43 : decode cX8_arrivals 43 = .ok (.aload_n 0, 1) := by decide +kernel
theorem dX8_arrivals_44 : decode cX8_arrivals 44 = .ok (.getfield 83, 3) := by decide +kernel
theorem dX8_arrivals_47 : decode cX8_arrivals 47 = .ok (.iload_n 1, 1) := by decide +kernel
theorem dX8_arrivals_48 : decode cX8_arrivals 48 = .ok (.iconst (-1), 1) := by decide +kernel
theorem dX8_arrivals_49 : decode cX8_arrivals 49 = .ok (.iastore, 1) := by decide +kernel
theorem dX8_arrivals_50 : decode cX8_arrivals 50 = .ok (.aload_n 0, 1) := by decide +kernel
theorem dX8_arrivals_51 : decode cX8_arrivals 51 = .ok (.aload_n 0, 1) := by decide +kernel
theorem dX8_arrivals_52 : decode cX8_arrivals 52 = .ok (.getfield 80, 3) := by decide +kernel
theorem dX8_arrivals_55 : decode cX8_arrivals 55 = .ok (.iload_n 1, 1) := by decide +kernel
theorem dX8_arrivals_56 : decode cX8_arrivals 56 = .ok (.iaload, 1) := by decide +kernel
theorem dX8_arrivals_57 : decode cX8_arrivals 57 = .ok (.aload_n 0, 1) := by decide +kernel
theorem dX8_arrivals_58 : decode cX8_arrivals 58 = .ok (.getfield 74, 3) := by decide +kernel
theorem dX8_arrivals_61 : decode cX8_arrivals 61 = .ok (.iload_n 1, 1) := by decide +kernel
theorem dX8_arrivals_62 : decode cX8_arrivals 62 = .ok (.iaload, 1) := by decide +kernel
theorem dX8_arrivals_63 : decode cX8_arrivals 63 = .ok (.aload_n 0, 1) := by decide +kernel
theorem dX8_arrivals_64 : decode cX8_arrivals 64 = .ok (.getfield 194, 3) := by decide +kernel
theorem dX8_arrivals_67 : decode cX8_arrivals 67 = .ok (.invokevirtual 200, 3) := by decide +kernel
theorem dX8_arrivals_70 : decode cX8_arrivals 70 = .ok (.aload_n 0, 1) := by decide +kernel
theorem dX8_arrivals_71 : decode cX8_arrivals 71 = .ok (.getfield 80, 3) := by decide +kernel
theorem dX8_arrivals_74 : decode cX8_arrivals 74 = .ok (.iload_n 1, 1) := by decide +kernel
theorem dX8_arrivals_75 : decode cX8_arrivals 75 = .ok (.iconst (-1), 1) := by decide +kernel
theorem dX8_arrivals_76 : decode cX8_arrivals 76 = .ok (.iastore, 1) := by decide +kernel
theorem dX8_arrivals_77 : decode cX8_arrivals 77 = .ok (.iinc 1 1, 3) := by decide +kernel
theorem dX8_arrivals_80 : decode cX8_arrivals 80 = .ok (.goto (-78), 3) := by decide +kernel
theorem dX8_arrivals_83 : decode cX8_arrivals 83 = .ok (.iconst 0, 1) := by decide +kernel
theorem dX8_arrivals_84 : decode cX8_arrivals 84 = .ok (.istore_n 1, 1) := by decide +kernel
theorem dX8_arrivals_85 : decode cX8_arrivals 85 = .ok (.iload_n 1, 1) := by decide +kernel
theorem dX8_arrivals_86 : decode cX8_arrivals 86 = .ok (.aload_n 0, 1) := by decide +kernel
theorem dX8_arrivals_87 : decode cX8_arrivals 87 = .ok (.getfield 191, 3) := by decide +kernel
theorem dX8_arrivals_90 : decode cX8_arrivals 90 = .ok (.if_icmp .ge 47, 3) := by decide +kernel
theorem dX8_arrivals_93 : decode cX8_arrivals 93 = .ok (.aload_n 0, 1) := by decide +kernel
theorem dX8_arrivals_94 : decode cX8_arrivals 94 = .ok (.getfield 89, 3) := by decide +kernel
theorem dX8_arrivals_97 : decode cX8_arrivals 97 = .ok (.iload_n 1, 1) := by decide +kernel
theorem dX8_arrivals_98 : decode cX8_arrivals 98 = .ok (.iaload, 1) := by decide +kernel
theorem dX8_arrivals_99 : decode cX8_arrivals 99 = .ok (.iconst 2, 1) := by decide +kernel
theorem dX8_arrivals_100 : decode cX8_arrivals 100 = .ok (.if_icmp .ne 31, 3) := by decide +kernel
theorem dX8_arrivals_103 : decode cX8_arrivals 103 = .ok (.aload_n 0, 1) := by decide +kernel
theorem dX8_arrivals_104 : decode cX8_arrivals 104 = .ok (.getfield 98, 3) := by decide +kernel
theorem dX8_arrivals_107 : decode cX8_arrivals 107 = .ok (.iload_n 1, 1) := by decide +kernel
theorem dX8_arrivals_108 : decode cX8_arrivals 108 = .ok (.iaload, 1) := by decide +kernel
theorem dX8_arrivals_109 : decode cX8_arrivals 109 = .ok (.aload_n 0, 1) := by decide +kernel
theorem dX8_arrivals_110 : decode cX8_arrivals 110 = .ok (.getfield 194, 3) := by decide +kernel
theorem dX8_arrivals_113 : decode cX8_arrivals 113 = .ok (.if_icmp .ne 18, 3) := by decide +kernel
theorem dX8_arrivals_116 : decode cX8_arrivals 116 = .ok (.aload_n 0, 1) := by decide +kernel
theorem dX8_arrivals_117 : decode cX8_arrivals 117 = .ok (.iload_n 1, 1) := by decide +kernel
theorem dX8_arrivals_118 : decode cX8_arrivals 118 = .ok (.aload_n 0, 1) := by decide +kernel
theorem dX8_arrivals_119 : decode cX8_arrivals 119 = .ok (.getfield 86, 3) := by decide +kernel
theorem dX8_arrivals_122 : decode cX8_arrivals 122 = .ok (.iload_n 1, 1) := by decide +kernel
theorem dX8_arrivals_123 : decode cX8_arrivals 123 = .ok (.iaload, 1) := by decide +kernel
theorem dX8_arrivals_124 : decode cX8_arrivals 124 = .ok (.aload_n 0, 1) := by decide +kernel
theorem dX8_arrivals_125 : decode cX8_arrivals 125 = .ok (.getfield 194, 3) := by decide +kernel
theorem dX8_arrivals_128 : decode cX8_arrivals 128 = .ok (.invokevirtual 200, 3) := by decide +kernel
theorem dX8_arrivals_131 : decode cX8_arrivals 131 = .ok (.iinc 1 1, 3) := by decide +kernel
theorem dX8_arrivals_134 : decode cX8_arrivals 134 = .ok (.goto (-49), 3) := by decide +kernel
theorem dX8_arrivals_137 : decode cX8_arrivals 137 = .ok (.return_, 1) := by decide +kernel
theorem dX8_isAhead_0 : decode cX8_isAhead 0 = .ok (.aload_n 0, 1) := by decide +kernel
theorem dX8_isAhead_1 : decode cX8_isAhead 1 = .ok (.getfield 101, 3) := by decide +kernel
theorem dX8_isAhead_4 : decode cX8_isAhead 4 = .ok (.aload_n 0, 1) := by decide +kernel
theorem dX8_isAhead_5 : decode cX8_isAhead 5 = .ok (.getfield 41, 3) := by decide +kernel
theorem dX8_isAhead_8 : decode cX8_isAhead 8 = .ok (.aload_n 0, 1) := by decide +kernel
theorem dX8_isAhead_9 : decode cX8_isAhead 9 = .ok (.iload_n 1, 1) := by decide +kernel
theorem dX8_isAhead_10 : decode cX8_isAhead 10 = .ok (.invokevirtual 207, 3) := by decide +kernel
theorem dX8_isAhead_13 : decode cX8_isAhead 13 = .ok (.iaload, 1) := by decide +kernel
theorem dX8_isAhead_14 : decode cX8_isAhead 14 = .ok (.iaload, 1) := by decide +kernel
theorem dX8_isAhead_15 : decode cX8_isAhead 15 = .ok (.istore_n 3, 1) := by decide +kernel
theorem dX8_isAhead_16 : decode cX8_isAhead 16 = .ok (.aload_n 0, 1) := by decide +kernel
theorem dX8_isAhead_17 : decode cX8_isAhead 17 = .ok (.getfield 101, 3) := by decide +kernel
theorem dX8_isAhead_20 : decode cX8_isAhead 20 = .ok (.aload_n 0, 1) := by decide +kernel
theorem dX8_isAhead_21 : decode cX8_isAhead 21 = .ok (.getfield 41, 3) := by decide +kernel
theorem dX8_isAhead_24 : decode cX8_isAhead 24 = .ok (.aload_n 0, 1) := by decide +kernel
theorem dX8_isAhead_25 : decode cX8_isAhead 25 = .ok (.iload_n 2, 1) := by decide +kernel
theorem dX8_isAhead_26 : decode cX8_isAhead 26 = .ok (.invokevirtual 207, 3) := by decide +kernel
theorem dX8_isAhead_29 : decode cX8_isAhead 29 = .ok (.iaload, 1) := by decide +kernel
theorem dX8_isAhead_30 : decode cX8_isAhead 30 = .ok (.iaload, 1) := by decide +kernel
theorem dX8_isAhead_31 : decode cX8_isAhead 31 = .ok (.istore 4, 2) := by decide +kernel
theorem dX8_isAhead_33 : decode cX8_isAhead 33 = .ok (.iload_n 3, 1) := by decide +kernel
theorem dX8_isAhead_34 : decode cX8_isAhead 34 = .ok (.iload 4, 2) := by decide +kernel
theorem dX8_isAhead_36 : decode cX8_isAhead 36 = .ok (.if_icmp .lt 22, 3) := by decide +kernel
theorem dX8_isAhead_39 : decode cX8_isAhead 39 = .ok (.iload_n 3, 1) := by decide +kernel
theorem dX8_isAhead_40 : decode cX8_isAhead 40 = .ok (.iload 4, 2) := by decide +kernel
theorem dX8_isAhead_42 : decode cX8_isAhead 42 = .ok (.if_icmp .ne 20, 3) := by decide +kernel
theorem dX8_isAhead_45 : decode cX8_isAhead 45 = .ok (.aload_n 0, 1) := by decide +kernel
theorem dX8_isAhead_46 : decode cX8_isAhead 46 = .ok (.iload_n 1, 1) := by decide +kernel
theorem dX8_isAhead_47 : decode cX8_isAhead 47 = .ok (.invokevirtual 210, 3) := by decide +kernel
theorem dX8_isAhead_50 : decode cX8_isAhead 50 = .ok (.aload_n 0, 1) := by decide +kernel
theorem dX8_isAhead_51 : decode cX8_isAhead 51 = .ok (.iload_n 2, 1) := by decide +kernel
theorem dX8_isAhead_52 : decode cX8_isAhead 52 = .ok (.invokevirtual 210, 3) := by decide +kernel
theorem dX8_isAhead_55 : decode cX8_isAhead 55 = .ok (.if_icmp .le 7, 3) := by decide +kernel
theorem dX8_isAhead_58 : decode cX8_isAhead 58 = .ok (.iconst 1, 1) := by decide +kernel
theorem dX8_isAhead_59 : decode cX8_isAhead 59 = .ok (.goto 4, 3) := by decide +kernel
theorem dX8_isAhead_62 : decode cX8_isAhead 62 = .ok (.iconst 0, 1) := by decide +kernel
theorem dX8_isAhead_63 : decode cX8_isAhead 63 = .ok (.ireturn, 1) := by decide +kernel
theorem dX8_weir_0 : decode cX8_weir 0 = .ok (.aload_n 0, 1) := by decide +kernel
theorem dX8_weir_1 : decode cX8_weir 1 = .ok (.getfield 194, 3) := by decide +kernel
theorem dX8_weir_4 : decode cX8_weir 4 = .ok (.aload_n 0, 1) := by decide +kernel
theorem dX8_weir_5 : decode cX8_weir 5 = .ok (.getfield 32, 3) := by decide +kernel
theorem dX8_weir_8 : decode cX8_weir 8 = .ok (.iload_n 1, 1) := by decide +kernel
theorem dX8_weir_9 : decode cX8_weir 9 = .ok (.iaload, 1) := by decide +kernel
theorem dX8_weir_10 : decode cX8_weir 10 = .ok (.aload_n 0, 1) := by decide +kernel
theorem dX8_weir_11 : decode cX8_weir 11 = .ok (.getfield 35, 3) := by decide +kernel
theorem dX8_weir_14 : decode cX8_weir 14 = .ok (.iload_n 1, 1) := by decide +kernel
theorem dX8_weir_15 : decode cX8_weir 15 = .ok (.iaload, 1) := by decide +kernel
theorem dX8_weir_16 : decode cX8_weir 16 = .ok (.iconst 1, 1) := by decide +kernel
theorem dX8_weir_17 : decode cX8_weir 17 = .ok (.isub, 1) := by decide +kernel
theorem dX8_weir_18 : decode cX8_weir 18 = .ok (.invokestatic 144, 3) := by decide +kernel
theorem dX8_weir_21 : decode cX8_weir 21 = .ok (.ifCond .eq 4, 3) := by decide +kernel
theorem dX8_weir_24 : decode cX8_weir 24 = .ok (.return_, 1) := by decide +kernel
theorem dX8_weir_25 : decode cX8_weir 25 = .ok (.iconst (-1), 1) := by decide +kernel
theorem dX8_weir_26 : decode cX8_weir 26 = .ok (.istore_n 2, 1) := by decide +kernel
theorem dX8_weir_27 : decode cX8_weir 27 = .ok (.iconst 0, 1) := by decide +kernel
theorem dX8_weir_28 : decode cX8_weir 28 = .ok (.istore_n 3, 1) := by decide +kernel
theorem dX8_weir_29 : decode cX8_weir 29 = .ok (.iload_n 3, 1) := by decide +kernel
theorem dX8_weir_30 : decode cX8_weir 30 = .ok (.aload_n 0, 1) := by decide +kernel
theorem dX8_weir_31 : decode cX8_weir 31 = .ok (.getfield 151, 3) := by decide +kernel
theorem dX8_weir_34 : decode cX8_weir 34 = .ok (.if_icmp .ge 79, 3) := by decide +kernel
theorem dX8_weir_37 : decode cX8_weir 37 = .ok (.aload_n 0, 1) := by decide +kernel
theorem dX8_weir_38 : decode cX8_weir 38 = .ok (.getfield 71, 3) := by decide +kernel
theorem dX8_weir_41 : decode cX8_weir 41 = .ok (.iload_n 3, 1) := by decide +kernel
theorem dX8_weir_42 : decode cX8_weir 42 = .ok (.iaload, 1) := by decide +kernel
theorem dX8_weir_43 : decode cX8_weir 43 = .ok (.iconst 1, 1) := by decide +kernel
theorem dX8_weir_44 : decode cX8_weir 44 = .ok (.if_icmp .ne 63, 3) := by decide +kernel
theorem dX8_weir_47 : decode cX8_weir 47 = .ok (.aload_n 0, 1) := by decide +kernel
theorem dX8_weir_48 : decode cX8_weir 48 = .ok (.getfield 74, 3) := by decide +kernel
theorem dX8_weir_51 : decode cX8_weir 51 = .ok (.iload_n 3, 1) := by decide +kernel
theorem dX8_weir_52 : decode cX8_weir 52 = .ok (.iaload, 1) := by decide +kernel
theorem dX8_weir_53 : decode cX8_weir 53 = .ok (.iload_n 1, 1) := by decide +kernel
theorem dX8_weir_54 : decode cX8_weir 54 = .ok (.if_icmp .ne 53, 3) := by decide +kernel
theorem dX8_weir_57 : decode cX8_weir 57 = .ok (.aload_n 0, 1) := by decide +kernel
theorem dX8_weir_58 : decode cX8_weir 58 = .ok (.iload_n 3, 1) := by decide +kernel
theorem dX8_weir_59 : decode cX8_weir 59 = .ok (.invokevirtual 213, 3) := by decide +kernel
theorem dX8_weir_62 : decode cX8_weir 62 = .ok (.aload_n 0, 1) := by decide +kernel
theorem dX8_weir_63 : decode cX8_weir 63 = .ok (.getfield 16, 3) := by decide +kernel
theorem dX8_weir_66 : decode cX8_weir 66 = .ok (.iload_n 1, 1) := by decide +kernel
theorem dX8_weir_67 : decode cX8_weir 67 = .ok (.iaload, 1) := by decide +kernel
theorem dX8_weir_68 : decode cX8_weir 68 = .ok (.if_icmp .gt 39, 3) := by decide +kernel
theorem dX8_weir_71 : decode cX8_weir 71 = .ok (.iconst 5, 1) := by decide +kernel
theorem dX8_weir_72 : decode cX8_weir 72 = .ok (.aload_n 0, 1) := by decide +kernel
theorem dX8_weir_73 : decode cX8_weir 73 = .ok (.getfield 77, 3) := by decide +kernel
theorem dX8_weir_76 : decode cX8_weir 76 = .ok (.iload_n 3, 1) := by decide +kernel
theorem dX8_weir_77 : decode cX8_weir 77 = .ok (.iaload, 1) := by decide +kernel
theorem dX8_weir_78 : decode cX8_weir 78 = .ok (.imul, 1) := by decide +kernel
theorem dX8_weir_79 : decode cX8_weir 79 = .ok (.aload_n 0, 1) := by decide +kernel
theorem dX8_weir_80 : decode cX8_weir 80 = .ok (.getfield 25, 3) := by decide +kernel
theorem dX8_weir_83 : decode cX8_weir 83 = .ok (.iload_n 1, 1) := by decide +kernel
theorem dX8_weir_84 : decode cX8_weir 84 = .ok (.iaload, 1) := by decide +kernel
theorem dX8_weir_85 : decode cX8_weir 85 = .ok (.if_icmp .le 6, 3) := by decide +kernel
theorem dX8_weir_88 : decode cX8_weir 88 = .ok (.goto 19, 3) := by decide +kernel
theorem dX8_weir_91 : decode cX8_weir 91 = .ok (.iload_n 2, 1) := by decide +kernel
theorem dX8_weir_92 : decode cX8_weir 92 = .ok (.iconst (-1), 1) := by decide +kernel
theorem dX8_weir_93 : decode cX8_weir 93 = .ok (.if_icmp .eq 12, 3) := by decide +kernel
theorem dX8_weir_96 : decode cX8_weir 96 = .ok (.aload_n 0, 1) := by decide +kernel
theorem dX8_weir_97 : decode cX8_weir 97 = .ok (.iload_n 3, 1) := by decide +kernel
theorem dX8_weir_98 : decode cX8_weir 98 = .ok (.iload_n 2, 1) := by decide +kernel
theorem dX8_weir_99 : decode cX8_weir 99 = .ok (.invokevirtual 216, 3) := by decide +kernel
theorem dX8_weir_102 : decode cX8_weir 102 = .ok (.ifCond .eq 5, 3) := by decide +kernel
theorem dX8_weir_105 : decode cX8_weir 105 = .ok (.iload_n 3, 1) := by decide +kernel
theorem dX8_weir_106 : decode cX8_weir 106 = .ok (.istore_n 2, 1) := by decide +kernel
theorem dX8_weir_107 : decode cX8_weir 107 = .ok (.iinc 3 1, 3) := by decide +kernel
theorem dX8_weir_110 : decode cX8_weir 110 = .ok (.goto (-81), 3) := by decide +kernel
theorem dX8_weir_113 : decode cX8_weir 113 = .ok (.iload_n 2, 1) := by decide +kernel
theorem dX8_weir_114 : decode cX8_weir 114 = .ok (.iconst (-1), 1) := by decide +kernel
theorem dX8_weir_115 : decode cX8_weir 115 = .ok (.if_icmp .ne 4, 3) := by decide +kernel
theorem dX8_weir_118 : decode cX8_weir 118 = .ok (.return_, 1) := by decide +kernel
theorem dX8_weir_119 : decode cX8_weir 119 = .ok (.aload_n 0, 1) := by decide +kernel
theorem dX8_weir_120 : decode cX8_weir 120 = .ok (.getfield 25, 3) := by decide +kernel
theorem dX8_weir_123 : decode cX8_weir 123 = .ok (.iload_n 1, 1) := by decide +kernel
theorem dX8_weir_124 : decode cX8_weir 124 = .ok (.dup2, 1) := by decide +kernel
theorem dX8_weir_125 : decode cX8_weir 125 = .ok (.iaload, 1) := by decide +kernel
theorem dX8_weir_126 : decode cX8_weir 126 = .ok (.iconst 5, 1) := by decide +kernel
theorem dX8_weir_127 : decode cX8_weir 127 = .ok (.aload_n 0, 1) := by decide +kernel
theorem dX8_weir_128 : decode cX8_weir 128 = .ok (.getfield 77, 3) := by decide +kernel
theorem dX8_weir_131 : decode cX8_weir 131 = .ok (.iload_n 2, 1) := by decide +kernel
theorem dX8_weir_132 : decode cX8_weir 132 = .ok (.iaload, 1) := by decide +kernel
theorem dX8_weir_133 : decode cX8_weir 133 = .ok (.imul, 1) := by decide +kernel
theorem dX8_weir_134 : decode cX8_weir 134 = .ok (.isub, 1) := by decide +kernel
theorem dX8_weir_135 : decode cX8_weir 135 = .ok (.iastore, 1) := by decide +kernel
theorem dX8_weir_136 : decode cX8_weir 136 = .ok (.aload_n 0, 1) := by decide +kernel
theorem dX8_weir_137 : decode cX8_weir 137 = .ok (.getfield 71, 3) := by decide +kernel
theorem dX8_weir_140 : decode cX8_weir 140 = .ok (.iload_n 2, 1) := by decide +kernel
theorem dX8_weir_141 : decode cX8_weir 141 = .ok (.iconst 2, 1) := by decide +kernel
theorem dX8_weir_142 : decode cX8_weir 142 = .ok (.iastore, 1) := by decide +kernel
theorem dX8_weir_143 : decode cX8_weir 143 = .ok (.aload_n 0, 1) := by decide +kernel
theorem dX8_weir_144 : decode cX8_weir 144 = .ok (.getfield 74, 3) := by decide +kernel
theorem dX8_weir_147 : decode cX8_weir 147 = .ok (.iload_n 2, 1) := by decide +kernel
theorem dX8_weir_148 : decode cX8_weir 148 = .ok (.aload_n 0, 1) := by decide +kernel
theorem dX8_weir_149 : decode cX8_weir 149 = .ok (.getfield 9, 3) := by decide +kernel
theorem dX8_weir_152 : decode cX8_weir 152 = .ok (.iload_n 1, 1) := by decide +kernel
theorem dX8_weir_153 : decode cX8_weir 153 = .ok (.iaload, 1) := by decide +kernel
theorem dX8_weir_154 : decode cX8_weir 154 = .ok (.iastore, 1) := by decide +kernel
theorem dX8_weir_155 : decode cX8_weir 155 = .ok (.aload_n 0, 1) := by decide +kernel
theorem dX8_weir_156 : decode cX8_weir 156 = .ok (.getfield 83, 3) := by decide +kernel
theorem dX8_weir_159 : decode cX8_weir 159 = .ok (.iload_n 2, 1) := by decide +kernel
theorem dX8_weir_160 : decode cX8_weir 160 = .ok (.aload_n 0, 1) := by decide +kernel
theorem dX8_weir_161 : decode cX8_weir 161 = .ok (.getfield 194, 3) := by decide +kernel
theorem dX8_weir_164 : decode cX8_weir 164 = .ok (.aload_n 0, 1) := by decide +kernel
theorem dX8_weir_165 : decode cX8_weir 165 = .ok (.getfield 13, 3) := by decide +kernel
theorem dX8_weir_168 : decode cX8_weir 168 = .ok (.iload_n 1, 1) := by decide +kernel
theorem dX8_weir_169 : decode cX8_weir 169 = .ok (.iaload, 1) := by decide +kernel
theorem dX8_weir_170 : decode cX8_weir 170 = .ok (.iadd, 1) := by decide +kernel
theorem dX8_weir_171 : decode cX8_weir 171 = .ok (.iastore, 1) := by decide +kernel
theorem dX8_weir_172 : decode cX8_weir 172 = .ok (.aload_n 0, 1) := by decide +kernel
theorem dX8_weir_173 : decode cX8_weir 173 = .ok (.aload_n 0, 1) := by decide +kernel
theorem dX8_weir_174 : decode cX8_weir 174 = .ok (.getfield 194, 3) := by decide +kernel
theorem dX8_weir_177 : decode cX8_weir 177 = .ok (.bipush 24, 2) := by decide +kernel
theorem dX8_weir_179 : decode cX8_weir 179 = .ok (.idiv, 1) := by decide +kernel
theorem dX8_weir_180 : decode cX8_weir 180 = .ok (.invokevirtual 219, 3) := by decide +kernel
theorem dX8_weir_183 : decode cX8_weir 183 = .ok (.istore_n 3, 1) := by decide +kernel
theorem dX8_weir_184 : decode cX8_weir 184 = .ok (.iconst 0, 1) := by decide +kernel
theorem dX8_weir_185 : decode cX8_weir 185 = .ok (.istore 4, 2) := by decide +kernel
theorem dX8_weir_187 : decode cX8_weir 187 = .ok (.iload 4, 2) := by decide +kernel
theorem dX8_weir_189 : decode cX8_weir 189 = .ok (.aload_n 0, 1) := by decide +kernel
theorem dX8_weir_190 : decode cX8_weir 190 = .ok (.getfield 148, 3) := by decide +kernel
theorem dX8_weir_193 : decode cX8_weir 193 = .ok (.if_icmp .ge 48, 3) := by decide +kernel
theorem dX8_weir_196 : decode cX8_weir 196 = .ok (.aload_n 0, 1) := by decide +kernel
theorem dX8_weir_197 : decode cX8_weir 197 = .ok (.iload 4, 2) := by decide +kernel
theorem dX8_weir_199 : decode cX8_weir 199 = .ok (.iload_n 2, 1) := by decide +kernel
theorem dX8_weir_200 : decode cX8_weir 200 = .ok (.invokevirtual 180, 3) := by decide +kernel
theorem dX8_weir_203 : decode cX8_weir 203 = .ok (.ifCond .ne 6, 3) := by decide +kernel
theorem dX8_weir_206 : decode cX8_weir 206 = .ok (.goto 29, 3) := by decide +kernel
theorem dX8_weir_209 : decode cX8_weir 209 = .ok (.aload_n 0, 1) := by decide +kernel
theorem dX8_weir_210 : decode cX8_weir 210 = .ok (.getfield 104, 3) := by decide +kernel
theorem dX8_weir_213 : decode cX8_weir 213 = .ok (.aload_n 0, 1) := by decide +kernel
theorem dX8_weir_214 : decode cX8_weir 214 = .ok (.getfield 41, 3) := by decide +kernel
theorem dX8_weir_217 : decode cX8_weir 217 = .ok (.iload 4, 2) := by decide +kernel
theorem dX8_weir_219 : decode cX8_weir 219 = .ok (.iaload, 1) := by decide +kernel
theorem dX8_weir_220 : decode cX8_weir 220 = .ok (.dup2, 1) := by decide +kernel
theorem dX8_weir_221 : decode cX8_weir 221 = .ok (.iaload, 1) := by decide +kernel
theorem dX8_weir_222 : decode cX8_weir 222 = .ok (.iload_n 3, 1) := by decide +kernel
theorem dX8_weir_223 : decode cX8_weir 223 = .ok (.isub, 1) := by decide +kernel
theorem dX8_weir_224 : decode cX8_weir 224 = .ok (.iastore, 1) := by decide +kernel
theorem dX8_weir_225 : decode cX8_weir 225 = .ok (.aload_n 0, 1) := by decide +kernel
theorem dX8_weir_226 : decode cX8_weir 226 = .ok (.dup, 1) := by decide +kernel
theorem dX8_weir_227 : decode cX8_weir 227 = .ok (.getfield 222, 3) := by decide +kernel
theorem dX8_weir_230 : decode cX8_weir 230 = .ok (.iload_n 3, 1) := by decide +kernel
theorem dX8_weir_231 : decode cX8_weir 231 = .ok (.iadd, 1) := by decide +kernel
theorem dX8_weir_232 : decode cX8_weir 232 = .ok (.putfield 222, 3) := by decide +kernel
theorem dX8_weir_235 : decode cX8_weir 235 = .ok (.iinc 4 1, 3) := by decide +kernel
theorem dX8_weir_238 : decode cX8_weir 238 = .ok (.goto (-51), 3) := by decide +kernel
theorem dX8_weir_241 : decode cX8_weir 241 = .ok (.return_, 1) := by decide +kernel
theorem dX8_go_0 : decode cX8_go 0 = .ok (.iload_n 1, 1) := by decide +kernel
theorem dX8_go_1 : decode cX8_go 1 = .ok (.iconst 0, 1) := by decide +kernel
theorem dX8_go_2 : decode cX8_go 2 = .ok (.sipush 500, 3) := by decide +kernel
theorem dX8_go_5 : decode cX8_go 5 = .ok (.invokestatic 144, 3) := by decide +kernel
theorem dX8_go_8 : decode cX8_go 8 = .ok (.ifCond .ne 5, 3) := by decide +kernel
theorem dX8_go_11 : decode cX8_go 11 = .ok (.iconst (-1), 1) := by decide +kernel
theorem dX8_go_12 : decode cX8_go 12 = .ok (.ireturn, 1) := by decide +kernel
theorem dX8_go_13 : decode cX8_go 13 = .ok (.iconst 0, 1) := by decide +kernel
theorem dX8_go_14 : decode cX8_go 14 = .ok (.istore_n 2, 1) := by decide +kernel
theorem dX8_go_15 : decode cX8_go 15 = .ok (.iload_n 2, 1) := by decide +kernel
theorem dX8_go_16 : decode cX8_go 16 = .ok (.iload_n 1, 1) := by decide +kernel
theorem dX8_go_17 : decode cX8_go 17 = .ok (.if_icmp .ge 120, 3) := by decide +kernel
theorem dX8_go_20 : decode cX8_go 20 = .ok (.aload_n 0, 1) := by decide +kernel
theorem dX8_go_21 : decode cX8_go 21 = .ok (.getfield 194, 3) := by decide +kernel
theorem dX8_go_24 : decode cX8_go 24 = .ok (.sipush 20000, 3) := by decide +kernel
theorem dX8_go_27 : decode cX8_go 27 = .ok (.if_icmp .ge 110, 3) := by decide +kernel
theorem dX8_go_30 : decode cX8_go 30 = .ok (.aload_n 0, 1) := by decide +kernel
theorem dX8_go_31 : decode cX8_go 31 = .ok (.invokevirtual 225, 3) := by decide +kernel
theorem dX8_go_34 : decode cX8_go 34 = .ok (.iconst 1, 1) := by decide +kernel
theorem dX8_go_35 : decode cX8_go 35 = .ok (.istore_n 3, 1) := by decide +kernel
theorem dX8_go_36 : decode cX8_go 36 = .ok (.iload_n 3, 1) := by decide +kernel
theorem dX8_go_37 : decode cX8_go 37 = .ok (.aload_n 0, 1) := by decide +kernel
theorem dX8_go_38 : decode cX8_go 38 = .ok (.getfield 140, 3) := by decide +kernel
theorem dX8_go_41 : decode cX8_go 41 = .ok (.if_icmp .ge 14, 3) := by decide +kernel
theorem dX8_go_44 : decode cX8_go 44 = .ok (.aload_n 0, 1) := by decide +kernel
theorem dX8_go_45 : decode cX8_go 45 = .ok (.iload_n 3, 1) := by decide +kernel
theorem dX8_go_46 : decode cX8_go 46 = .ok (.invokevirtual 228, 3) := by decide +kernel
theorem dX8_go_49 : decode cX8_go 49 = .ok (.iinc 3 1, 3) := by decide +kernel
theorem dX8_go_52 : decode cX8_go 52 = .ok (.goto (-16), 3) := by decide +kernel
theorem dX8_go_55 : decode cX8_go 55 = .ok (.iconst 1, 1) := by decide +kernel
theorem dX8_go_56 : decode cX8_go 56 = .ok (.istore_n 3, 1) := by decide +kernel
theorem dX8_go_57 : decode cX8_go 57 = .ok (.iload_n 3, 1) := by decide +kernel
theorem dX8_go_58 : decode cX8_go 58 = .ok (.aload_n 0, 1) := by decide +kernel
theorem dX8_go_59 : decode cX8_go 59 = .ok (.getfield 140, 3) := by decide +kernel
theorem dX8_go_62 : decode cX8_go 62 = .ok (.if_icmp .ge 59, 3) := by decide +kernel
theorem dX8_go_65 : decode cX8_go 65 = .ok (.aload_n 0, 1) := by decide +kernel
theorem dX8_go_66 : decode cX8_go 66 = .ok (.getfield 25, 3) := by decide +kernel
theorem dX8_go_69 : decode cX8_go 69 = .ok (.iload_n 3, 1) := by decide +kernel
theorem dX8_go_70 : decode cX8_go 70 = .ok (.aload_n 0, 1) := by decide +kernel
theorem dX8_go_71 : decode cX8_go 71 = .ok (.getfield 25, 3) := by decide +kernel
theorem dX8_go_74 : decode cX8_go 74 = .ok (.iload_n 3, 1) := by decide +kernel
theorem dX8_go_75 : decode cX8_go 75 = .ok (.iaload, 1) := by decide +kernel
theorem dX8_go_76 : decode cX8_go 76 = .ok (.aload_n 0, 1) := by decide +kernel
theorem dX8_go_77 : decode cX8_go 77 = .ok (.getfield 19, 3) := by decide +kernel
theorem dX8_go_80 : decode cX8_go 80 = .ok (.iload_n 3, 1) := by decide +kernel
theorem dX8_go_81 : decode cX8_go 81 = .ok (.iaload, 1) := by decide +kernel
theorem dX8_go_82 : decode cX8_go 82 = .ok (.iadd, 1) := by decide +kernel
theorem dX8_go_83 : decode cX8_go 83 = .ok (.aload_n 0, 1) := by decide +kernel
theorem dX8_go_84 : decode cX8_go 84 = .ok (.getfield 22, 3) := by decide +kernel
theorem dX8_go_87 : decode cX8_go 87 = .ok (.iload_n 3, 1) := by decide +kernel
theorem dX8_go_88 : decode cX8_go 88 = .ok (.iaload, 1) := by decide +kernel
theorem dX8_go_89 : decode cX8_go 89 = .ok (.if_icmp .le 12, 3) := by decide +kernel
theorem dX8_go_92 : decode cX8_go 92 = .ok (.aload_n 0, 1) := by decide +kernel
theorem dX8_go_93 : decode cX8_go 93 = .ok (.getfield 22, 3) := by decide +kernel
theorem dX8_go_96 : decode cX8_go 96 = .ok (.iload_n 3, 1) := by decide +kernel
theorem dX8_go_97 : decode cX8_go 97 = .ok (.iaload, 1) := by decide +kernel
theorem dX8_go_98 : decode cX8_go 98 = .ok (.goto 16, 3) := by decide +kernel
theorem dX8_go_101 : decode cX8_go 101 = .ok (.aload_n 0, 1) := by decide +kernel
theorem dX8_go_102 : decode cX8_go 102 = .ok (.getfield 25, 3) := by decide +kernel
theorem dX8_go_105 : decode cX8_go 105 = .ok (.iload_n 3, 1) := by decide +kernel
theorem dX8_go_106 : decode cX8_go 106 = .ok (.iaload, 1) := by decide +kernel
theorem dX8_go_107 : decode cX8_go 107 = .ok (.aload_n 0, 1) := by decide +kernel
theorem dX8_go_108 : decode cX8_go 108 = .ok (.getfield 19, 3) := by decide +kernel
theorem dX8_go_111 : decode cX8_go 111 = .ok (.iload_n 3, 1) := by decide +kernel
theorem dX8_go_112 : decode cX8_go 112 = .ok (.iaload, 1) := by decide +kernel
theorem dX8_go_113 : decode cX8_go 113 = .ok (.iadd, 1) := by decide +kernel
theorem dX8_go_114 : decode cX8_go 114 = .ok (.iastore, 1) := by decide +kernel
theorem dX8_go_115 : decode cX8_go 115 = .ok (.iinc 3 1, 3) := by decide +kernel
theorem dX8_go_118 : decode cX8_go 118 = .ok (.goto (-61), 3) := by decide +kernel
theorem dX8_go_121 : decode cX8_go 121 = .ok (.aload_n 0, 1) := by decide +kernel
theorem dX8_go_122 : decode cX8_go 122 = .ok (.dup, 1) := by decide +kernel
theorem dX8_go_123 : decode cX8_go 123 = .ok (.getfield 194, 3) := by decide +kernel
theorem dX8_go_126 : decode cX8_go 126 = .ok (.iconst 1, 1) := by decide +kernel
theorem dX8_go_127 : decode cX8_go 127 = .ok (.iadd, 1) := by decide +kernel
theorem dX8_go_128 : decode cX8_go 128 = .ok (.putfield 194, 3) := by decide +kernel
theorem dX8_go_131 : decode cX8_go 131 = .ok (.iinc 2 1, 3) := by decide +kernel
theorem dX8_go_134 : decode cX8_go 134 = .ok (.goto (-119), 3) := by decide +kernel
theorem dX8_go_137 : decode cX8_go 137 = .ok (.aload_n 0, 1) := by decide +kernel
theorem dX8_go_138 : decode cX8_go 138 = .ok (.getfield 194, 3) := by decide +kernel
theorem dX8_go_141 : decode cX8_go 141 = .ok (.ireturn, 1) := by decide +kernel
theorem dX8_storm_0 : decode cX8_storm 0 = .ok (.aload_n 0, 1) := by decide +kernel
theorem dX8_storm_1 : decode cX8_storm 1 = .ok (.iload_n 1, 1) := by decide +kernel
theorem dX8_storm_2 : decode cX8_storm 2 = .ok (.invokevirtual 154, 3) := by decide +kernel
theorem dX8_storm_5 : decode cX8_storm 5 = .ok (.ifCond .eq 16, 3) := by decide +kernel
theorem dX8_storm_8 : decode cX8_storm 8 = .ok (.iload_n 2, 1) := by decide +kernel
theorem dX8_storm_9 : decode cX8_storm 9 = .ok (.aload_n 0, 1) := by decide +kernel
theorem dX8_storm_10 : decode cX8_storm 10 = .ok (.getfield 194, 3) := by decide +kernel
theorem dX8_storm_13 : decode cX8_storm 13 = .ok (.if_icmp .lt 8, 3) := by decide +kernel
theorem dX8_storm_16 : decode cX8_storm 16 = .ok (.iload_n 3, 1) := by decide +kernel
theorem dX8_storm_17 : decode cX8_storm 17 = .ok (.iload_n 2, 1) := by decide +kernel
theorem dX8_storm_18 : decode cX8_storm 18 = .ok (.if_icmp .gt 5, 3) := by decide +kernel
theorem dX8_storm_21 : decode cX8_storm 21 = .ok (.iconst 0, 1) := by decide +kernel
theorem dX8_storm_22 : decode cX8_storm 22 = .ok (.ireturn, 1) := by decide +kernel
theorem dX8_storm_23 : decode cX8_storm 23 = .ok (.aload_n 0, 1) := by decide +kernel
theorem dX8_storm_24 : decode cX8_storm 24 = .ok (.getfield 32, 3) := by decide +kernel
theorem dX8_storm_27 : decode cX8_storm 27 = .ok (.iload_n 1, 1) := by decide +kernel
theorem dX8_storm_28 : decode cX8_storm 28 = .ok (.iload_n 2, 1) := by decide +kernel
theorem dX8_storm_29 : decode cX8_storm 29 = .ok (.iastore, 1) := by decide +kernel
theorem dX8_storm_30 : decode cX8_storm 30 = .ok (.aload_n 0, 1) := by decide +kernel
theorem dX8_storm_31 : decode cX8_storm 31 = .ok (.getfield 35, 3) := by decide +kernel
theorem dX8_storm_34 : decode cX8_storm 34 = .ok (.iload_n 1, 1) := by decide +kernel
theorem dX8_storm_35 : decode cX8_storm 35 = .ok (.iload_n 3, 1) := by decide +kernel
theorem dX8_storm_36 : decode cX8_storm 36 = .ok (.iastore, 1) := by decide +kernel
theorem dX8_storm_37 : decode cX8_storm 37 = .ok (.iconst 1, 1) := by decide +kernel
theorem dX8_storm_38 : decode cX8_storm 38 = .ok (.ireturn, 1) := by decide +kernel
theorem dX8_breaks_0 : decode cX8_breaks 0 = .ok (.aload_n 0, 1) := by decide +kernel
theorem dX8_breaks_1 : decode cX8_breaks 1 = .ok (.iload_n 1, 1) := by decide +kernel
theorem dX8_breaks_2 : decode cX8_breaks 2 = .ok (.iconst 2, 1) := by decide +kernel
theorem dX8_breaks_3 : decode cX8_breaks 3 = .ok (.invokevirtual 176, 3) := by decide +kernel
theorem dX8_breaks_6 : decode cX8_breaks 6 = .ok (.ifCond .ne 5, 3) := by decide +kernel
theorem dX8_breaks_9 : decode cX8_breaks 9 = .ok (.iconst (-1), 1) := by decide +kernel
theorem dX8_breaks_10 : decode cX8_breaks 10 = .ok (.ireturn, 1) := by decide +kernel
theorem dX8_breaks_11 : decode cX8_breaks 11 = .ok (.iconst 0, 1) := by decide +kernel
theorem dX8_breaks_12 : decode cX8_breaks 12 = .ok (.istore_n 3, 1) := by decide +kernel
theorem dX8_breaks_13 : decode cX8_breaks 13 = .ok (.iconst 0, 1) := by decide +kernel
theorem dX8_breaks_14 : decode cX8_breaks 14 = .ok (.istore 4, 2) := by decide +kernel
theorem dX8_breaks_16 : decode cX8_breaks 16 = .ok (.iload 4, 2) := by decide +kernel
theorem dX8_breaks_18 : decode cX8_breaks 18 = .ok (.aload_n 0, 1) := by decide +kernel
theorem dX8_breaks_19 : decode cX8_breaks 19 = .ok (.getfield 148, 3) := by decide +kernel
theorem dX8_breaks_22 : decode cX8_breaks 22 = .ok (.if_icmp .ge 64, 3) := by decide +kernel
theorem dX8_breaks_25 : decode cX8_breaks 25 = .ok (.aload_n 0, 1) := by decide +kernel
theorem dX8_breaks_26 : decode cX8_breaks 26 = .ok (.iload 4, 2) := by decide +kernel
theorem dX8_breaks_28 : decode cX8_breaks 28 = .ok (.iload_n 1, 1) := by decide +kernel
theorem dX8_breaks_29 : decode cX8_breaks 29 = .ok (.invokevirtual 180, 3) := by decide +kernel
theorem dX8_breaks_32 : decode cX8_breaks 32 = .ok (.ifCond .ne 6, 3) := by decide +kernel
theorem dX8_breaks_35 : decode cX8_breaks 35 = .ok (.goto 45, 3) := by decide +kernel
theorem dX8_breaks_38 : decode cX8_breaks 38 = .ok (.aload_n 0, 1) := by decide +kernel
theorem dX8_breaks_39 : decode cX8_breaks 39 = .ok (.iload 4, 2) := by decide +kernel
theorem dX8_breaks_41 : decode cX8_breaks 41 = .ok (.aload_n 0, 1) := by decide +kernel
theorem dX8_breaks_42 : decode cX8_breaks 42 = .ok (.getfield 74, 3) := by decide +kernel
theorem dX8_breaks_45 : decode cX8_breaks 45 = .ok (.iload_n 1, 1) := by decide +kernel
theorem dX8_breaks_46 : decode cX8_breaks 46 = .ok (.iaload, 1) := by decide +kernel
theorem dX8_breaks_47 : decode cX8_breaks 47 = .ok (.invokevirtual 187, 3) := by decide +kernel
theorem dX8_breaks_50 : decode cX8_breaks 50 = .ok (.iload 4, 2) := by decide +kernel
theorem dX8_breaks_52 : decode cX8_breaks 52 = .ok (.iconst 2, 1) := by decide +kernel
theorem dX8_breaks_53 : decode cX8_breaks 53 = .ok (.irem, 1) := by decide +kernel
theorem dX8_breaks_54 : decode cX8_breaks 54 = .ok (.iload_n 2, 1) := by decide +kernel
theorem dX8_breaks_55 : decode cX8_breaks 55 = .ok (.ifCond .eq 7, 3) := by decide +kernel
theorem dX8_breaks_58 : decode cX8_breaks 58 = .ok (.iconst 1, 1) := by decide +kernel
theorem dX8_breaks_59 : decode cX8_breaks 59 = .ok (.goto 4, 3) := by decide +kernel
theorem dX8_breaks_62 : decode cX8_breaks 62 = .ok (.iconst 0, 1) := by decide +kernel
theorem dX8_breaks_63 : decode cX8_breaks 63 = .ok (.if_icmp .eq 6, 3) := by decide +kernel
theorem dX8_breaks_66 : decode cX8_breaks 66 = .ok (.goto 14, 3) := by decide +kernel
theorem dX8_breaks_69 : decode cX8_breaks 69 = .ok (.aload_n 0, 1) := by decide +kernel
theorem dX8_breaks_70 : decode cX8_breaks 70 = .ok (.getfield 50, 3) := by decide +kernel
theorem dX8_breaks_73 : decode cX8_breaks 73 = .ok (.iload 4, 2) := by decide +kernel
theorem dX8_breaks_75 : decode cX8_breaks 75 = .ok (.iconst 3, 1) := by decide +kernel
theorem dX8_breaks_76 : decode cX8_breaks 76 = .ok (.iastore, 1) := by decide +kernel
theorem dX8_breaks_77 : decode cX8_breaks 77 = .ok (.iinc 3 1, 3) := by decide +kernel
theorem dX8_breaks_80 : decode cX8_breaks 80 = .ok (.iinc 4 1, 3) := by decide +kernel
theorem dX8_breaks_83 : decode cX8_breaks 83 = .ok (.goto (-67), 3) := by decide +kernel
theorem dX8_breaks_86 : decode cX8_breaks 86 = .ok (.aload_n 0, 1) := by decide +kernel
theorem dX8_breaks_87 : decode cX8_breaks 87 = .ok (.aload_n 0, 1) := by decide +kernel
theorem dX8_breaks_88 : decode cX8_breaks 88 = .ok (.getfield 80, 3) := by decide +kernel
theorem dX8_breaks_91 : decode cX8_breaks 91 = .ok (.iload_n 1, 1) := by decide +kernel
theorem dX8_breaks_92 : decode cX8_breaks 92 = .ok (.iaload, 1) := by decide +kernel
theorem dX8_breaks_93 : decode cX8_breaks 93 = .ok (.aload_n 0, 1) := by decide +kernel
theorem dX8_breaks_94 : decode cX8_breaks 94 = .ok (.getfield 74, 3) := by decide +kernel
theorem dX8_breaks_97 : decode cX8_breaks 97 = .ok (.iload_n 1, 1) := by decide +kernel
theorem dX8_breaks_98 : decode cX8_breaks 98 = .ok (.iaload, 1) := by decide +kernel
theorem dX8_breaks_99 : decode cX8_breaks 99 = .ok (.aload_n 0, 1) := by decide +kernel
theorem dX8_breaks_100 : decode cX8_breaks 100 = .ok (.getfield 194, 3) := by decide +kernel
theorem dX8_breaks_103 : decode cX8_breaks 103 = .ok (.invokevirtual 200, 3) := by decide +kernel
theorem dX8_breaks_106 : decode cX8_breaks 106 = .ok (.aload_n 0, 1) := by decide +kernel
theorem dX8_breaks_107 : decode cX8_breaks 107 = .ok (.iload_n 1, 1) := by decide +kernel
theorem dX8_breaks_108 : decode cX8_breaks 108 = .ok (.invokevirtual 183, 3) := by decide +kernel
theorem dX8_breaks_111 : decode cX8_breaks 111 = .ok (.iload_n 3, 1) := by decide +kernel
theorem dX8_breaks_112 : decode cX8_breaks 112 = .ok (.ireturn, 1) := by decide +kernel
theorem dX8_right_0 : decode cX8_right 0 = .ok (.iload_n 1, 1) := by decide +kernel
theorem dX8_right_1 : decode cX8_right 1 = .ok (.iconst 0, 1) := by decide +kernel
theorem dX8_right_2 : decode cX8_right 2 = .ok (.bipush 7, 2) := by decide +kernel
theorem dX8_right_4 : decode cX8_right 4 = .ok (.invokestatic 144, 3) := by decide +kernel
theorem dX8_right_7 : decode cX8_right 7 = .ok (.ifCond .eq 13, 3) := by decide +kernel
theorem dX8_right_10 : decode cX8_right 10 = .ok (.iload_n 2, 1) := by decide +kernel
theorem dX8_right_11 : decode cX8_right 11 = .ok (.iconst 0, 1) := by decide +kernel
theorem dX8_right_12 : decode cX8_right 12 = .ok (.bipush 9, 2) := by decide +kernel
theorem dX8_right_14 : decode cX8_right 14 = .ok (.invokestatic 144, 3) := by decide +kernel
theorem dX8_right_17 : decode cX8_right 17 = .ok (.ifCond .ne 5, 3) := by decide +kernel
theorem dX8_right_20 : decode cX8_right 20 = .ok (.iconst 0, 1) := by decide +kernel
theorem dX8_right_21 : decode cX8_right 21 = .ok (.ireturn, 1) := by decide +kernel
theorem dX8_right_22 : decode cX8_right 22 = .ok (.aload_n 0, 1) := by decide +kernel
theorem dX8_right_23 : decode cX8_right 23 = .ok (.getfield 101, 3) := by decide +kernel
theorem dX8_right_26 : decode cX8_right 26 = .ok (.iload_n 1, 1) := by decide +kernel
theorem dX8_right_27 : decode cX8_right 27 = .ok (.iload_n 2, 1) := by decide +kernel
theorem dX8_right_28 : decode cX8_right 28 = .ok (.iastore, 1) := by decide +kernel
theorem dX8_right_29 : decode cX8_right 29 = .ok (.iconst 1, 1) := by decide +kernel
theorem dX8_right_30 : decode cX8_right 30 = .ok (.ireturn, 1) := by decide +kernel
theorem dX8_toll_0 : decode cX8_toll 0 = .ok (.iload_n 1, 1) := by decide +kernel
theorem dX8_toll_1 : decode cX8_toll 1 = .ok (.iconst 0, 1) := by decide +kernel
theorem dX8_toll_2 : decode cX8_toll 2 = .ok (.sipush 1000, 3) := by decide +kernel
theorem dX8_toll_5 : decode cX8_toll 5 = .ok (.invokestatic 144, 3) := by decide +kernel
theorem dX8_toll_8 : decode cX8_toll 8 = .ok (.ifCond .eq 22, 3) := by decide +kernel
theorem dX8_toll_11 : decode cX8_toll 11 = .ok (.iload_n 2, 1) := by decide +kernel
theorem dX8_toll_12 : decode cX8_toll 12 = .ok (.iconst 0, 1) := by decide +kernel
theorem dX8_toll_13 : decode cX8_toll 13 = .ok (.bipush 100, 2) := by decide +kernel
theorem dX8_toll_15 : decode cX8_toll 15 = .ok (.invokestatic 144, 3) := by decide +kernel
theorem dX8_toll_18 : decode cX8_toll 18 = .ok (.ifCond .eq 12, 3) := by decide +kernel
theorem dX8_toll_21 : decode cX8_toll 21 = .ok (.aload_n 0, 1) := by decide +kernel
theorem dX8_toll_22 : decode cX8_toll 22 = .ok (.getfield 204, 3) := by decide +kernel
theorem dX8_toll_25 : decode cX8_toll 25 = .ok (.bipush 30, 2) := by decide +kernel
theorem dX8_toll_27 : decode cX8_toll 27 = .ok (.if_icmp .ne 5, 3) := by decide +kernel
theorem dX8_toll_30 : decode cX8_toll 30 = .ok (.iconst 0, 1) := by decide +kernel
theorem dX8_toll_31 : decode cX8_toll 31 = .ok (.ireturn, 1) := by decide +kernel
theorem dX8_toll_32 : decode cX8_toll 32 = .ok (.aload_n 0, 1) := by decide +kernel
theorem dX8_toll_33 : decode cX8_toll 33 = .ok (.getfield 107, 3) := by decide +kernel
theorem dX8_toll_36 : decode cX8_toll 36 = .ok (.aload_n 0, 1) := by decide +kernel
theorem dX8_toll_37 : decode cX8_toll 37 = .ok (.getfield 204, 3) := by decide +kernel
theorem dX8_toll_40 : decode cX8_toll 40 = .ok (.iload_n 1, 1) := by decide +kernel
theorem dX8_toll_41 : decode cX8_toll 41 = .ok (.iastore, 1) := by decide +kernel
theorem dX8_toll_42 : decode cX8_toll 42 = .ok (.aload_n 0, 1) := by decide +kernel
theorem dX8_toll_43 : decode cX8_toll 43 = .ok (.getfield 110, 3) := by decide +kernel
theorem dX8_toll_46 : decode cX8_toll 46 = .ok (.aload_n 0, 1) := by decide +kernel
theorem dX8_toll_47 : decode cX8_toll 47 = .ok (.getfield 204, 3) := by decide +kernel
theorem dX8_toll_50 : decode cX8_toll 50 = .ok (.iload_n 2, 1) := by decide +kernel
theorem dX8_toll_51 : decode cX8_toll 51 = .ok (.iastore, 1) := by decide +kernel
theorem dX8_toll_52 : decode cX8_toll 52 = .ok (.aload_n 0, 1) := by decide +kernel
theorem dX8_toll_53 : decode cX8_toll 53 = .ok (.dup, 1) := by decide +kernel
theorem dX8_toll_54 : decode cX8_toll 54 = .ok (.getfield 204, 3) := by decide +kernel
theorem dX8_toll_57 : decode cX8_toll 57 = .ok (.iconst 1, 1) := by decide +kernel
theorem dX8_toll_58 : decode cX8_toll 58 = .ok (.iadd, 1) := by decide +kernel
theorem dX8_toll_59 : decode cX8_toll 59 = .ok (.putfield 204, 3) := by decide +kernel
theorem dX8_toll_62 : decode cX8_toll 62 = .ok (.iconst 1, 1) := by decide +kernel
theorem dX8_toll_63 : decode cX8_toll 63 = .ok (.ireturn, 1) := by decide +kernel
theorem dX8_price_0 : decode cX8_price 0 = .ok (.aload_n 0, 1) := by decide +kernel
theorem dX8_price_1 : decode cX8_price 1 = .ok (.iload_n 1, 1) := by decide +kernel
theorem dX8_price_2 : decode cX8_price 2 = .ok (.invokevirtual 154, 3) := by decide +kernel
theorem dX8_price_5 : decode cX8_price 5 = .ok (.ifCond .eq 53, 3) := by decide +kernel
theorem dX8_price_8 : decode cX8_price 8 = .ok (.aload_n 0, 1) := by decide +kernel
theorem dX8_price_9 : decode cX8_price 9 = .ok (.getfield 28, 3) := by decide +kernel
theorem dX8_price_12 : decode cX8_price 12 = .ok (.iload_n 1, 1) := by decide +kernel
theorem dX8_price_13 : decode cX8_price 13 = .ok (.baload, 1) := by decide +kernel
theorem dX8_price_14 : decode cX8_price 14 = .ok (.ifCond .eq 44, 3) := by decide +kernel
theorem dX8_price_17 : decode cX8_price 17 = .ok (.iload_n 2, 1) := by decide +kernel
theorem dX8_price_18 : decode cX8_price 18 = .ok (.iconst 0, 1) := by decide +kernel
theorem dX8_price_19 : decode cX8_price 19 = .ok (.iconst 3, 1) := by decide +kernel
theorem dX8_price_20 : decode cX8_price 20 = .ok (.invokestatic 144, 3) := by decide +kernel
theorem dX8_price_23 : decode cX8_price 23 = .ok (.ifCond .eq 35, 3) := by decide +kernel
theorem dX8_price_26 : decode cX8_price 26 = .ok (.iload_n 3, 1) := by decide +kernel
theorem dX8_price_27 : decode cX8_price 27 = .ok (.iconst 0, 1) := by decide +kernel
theorem dX8_price_28 : decode cX8_price 28 = .ok (.sipush 1000, 3) := by decide +kernel
theorem dX8_price_31 : decode cX8_price 31 = .ok (.invokestatic 144, 3) := by decide +kernel
theorem dX8_price_34 : decode cX8_price 34 = .ok (.ifCond .eq 24, 3) := by decide +kernel
theorem dX8_price_37 : decode cX8_price 37 = .ok (.iload 4, 2) := by decide +kernel
theorem dX8_price_39 : decode cX8_price 39 = .ok (.iconst 0, 1) := by decide +kernel
theorem dX8_price_40 : decode cX8_price 40 = .ok (.sipush 1000, 3) := by decide +kernel
theorem dX8_price_43 : decode cX8_price 43 = .ok (.invokestatic 144, 3) := by decide +kernel
theorem dX8_price_46 : decode cX8_price 46 = .ok (.ifCond .eq 12, 3) := by decide +kernel
theorem dX8_price_49 : decode cX8_price 49 = .ok (.aload_n 0, 1) := by decide +kernel
theorem dX8_price_50 : decode cX8_price 50 = .ok (.getfield 231, 3) := by decide +kernel
theorem dX8_price_53 : decode cX8_price 53 = .ok (.bipush 100, 2) := by decide +kernel
theorem dX8_price_55 : decode cX8_price 55 = .ok (.if_icmp .ne 5, 3) := by decide +kernel
theorem dX8_price_58 : decode cX8_price 58 = .ok (.iconst 0, 1) := by decide +kernel
theorem dX8_price_59 : decode cX8_price 59 = .ok (.ireturn, 1) := by decide +kernel
theorem dX8_price_60 : decode cX8_price 60 = .ok (.aload_n 0, 1) := by decide +kernel
theorem dX8_price_61 : decode cX8_price 61 = .ok (.getfield 113, 3) := by decide +kernel
theorem dX8_price_64 : decode cX8_price 64 = .ok (.aload_n 0, 1) := by decide +kernel
theorem dX8_price_65 : decode cX8_price 65 = .ok (.getfield 231, 3) := by decide +kernel
theorem dX8_price_68 : decode cX8_price 68 = .ok (.iload_n 1, 1) := by decide +kernel
theorem dX8_price_69 : decode cX8_price 69 = .ok (.iastore, 1) := by decide +kernel
theorem dX8_price_70 : decode cX8_price 70 = .ok (.aload_n 0, 1) := by decide +kernel
theorem dX8_price_71 : decode cX8_price 71 = .ok (.getfield 116, 3) := by decide +kernel
theorem dX8_price_74 : decode cX8_price 74 = .ok (.aload_n 0, 1) := by decide +kernel
theorem dX8_price_75 : decode cX8_price 75 = .ok (.getfield 231, 3) := by decide +kernel
theorem dX8_price_78 : decode cX8_price 78 = .ok (.iload_n 2, 1) := by decide +kernel
theorem dX8_price_79 : decode cX8_price 79 = .ok (.iastore, 1) := by decide +kernel
theorem dX8_price_80 : decode cX8_price 80 = .ok (.aload_n 0, 1) := by decide +kernel
theorem dX8_price_81 : decode cX8_price 81 = .ok (.getfield 119, 3) := by decide +kernel
theorem dX8_price_84 : decode cX8_price 84 = .ok (.aload_n 0, 1) := by decide +kernel
theorem dX8_price_85 : decode cX8_price 85 = .ok (.getfield 231, 3) := by decide +kernel
theorem dX8_price_88 : decode cX8_price 88 = .ok (.iload_n 3, 1) := by decide +kernel
theorem dX8_price_89 : decode cX8_price 89 = .ok (.iastore, 1) := by decide +kernel
theorem dX8_price_90 : decode cX8_price 90 = .ok (.aload_n 0, 1) := by decide +kernel
theorem dX8_price_91 : decode cX8_price 91 = .ok (.getfield 122, 3) := by decide +kernel
theorem dX8_price_94 : decode cX8_price 94 = .ok (.aload_n 0, 1) := by decide +kernel
theorem dX8_price_95 : decode cX8_price 95 = .ok (.getfield 231, 3) := by decide +kernel
theorem dX8_price_98 : decode cX8_price 98 = .ok (.iload 4, 2) := by decide +kernel
theorem dX8_price_100 : decode cX8_price 100 = .ok (.iastore, 1) := by decide +kernel
theorem dX8_price_101 : decode cX8_price 101 = .ok (.aload_n 0, 1) := by decide +kernel
theorem dX8_price_102 : decode cX8_price 102 = .ok (.dup, 1) := by decide +kernel
theorem dX8_price_103 : decode cX8_price 103 = .ok (.getfield 231, 3) := by decide +kernel
theorem dX8_price_106 : decode cX8_price 106 = .ok (.iconst 1, 1) := by decide +kernel
theorem dX8_price_107 : decode cX8_price 107 = .ok (.iadd, 1) := by decide +kernel
theorem dX8_price_108 : decode cX8_price 108 = .ok (.putfield 231, 3) := by decide +kernel
theorem dX8_price_111 : decode cX8_price 111 = .ok (.iconst 1, 1) := by decide +kernel
theorem dX8_price_112 : decode cX8_price 112 = .ok (.ireturn, 1) := by decide +kernel
theorem dX8_priceNow_0 : decode cX8_priceNow 0 = .ok (.iconst (-1), 1) := by decide +kernel
theorem dX8_priceNow_1 : decode cX8_priceNow 1 = .ok (.istore_n 3, 1) := by decide +kernel
theorem dX8_priceNow_2 : decode cX8_priceNow 2 = .ok (.iconst 0, 1) := by decide +kernel
theorem dX8_priceNow_3 : decode cX8_priceNow 3 = .ok (.istore 4, 2) := by decide +kernel
theorem dX8_priceNow_5 : decode cX8_priceNow 5 = .ok (.iload 4, 2) := by decide +kernel
theorem dX8_priceNow_7 : decode cX8_priceNow 7 = .ok (.aload_n 0, 1) := by decide +kernel
theorem dX8_priceNow_8 : decode cX8_priceNow 8 = .ok (.getfield 231, 3) := by decide +kernel
theorem dX8_priceNow_11 : decode cX8_priceNow 11 = .ok (.if_icmp .ge 72, 3) := by decide +kernel
theorem dX8_priceNow_14 : decode cX8_priceNow 14 = .ok (.aload_n 0, 1) := by decide +kernel
theorem dX8_priceNow_15 : decode cX8_priceNow 15 = .ok (.getfield 113, 3) := by decide +kernel
theorem dX8_priceNow_18 : decode cX8_priceNow 18 = .ok (.iload 4, 2) := by decide +kernel
theorem dX8_priceNow_20 : decode cX8_priceNow 20 = .ok (.iaload, 1) := by decide +kernel
theorem dX8_priceNow_21 : decode cX8_priceNow 21 = .ok (.iload_n 1, 1) := by decide +kernel
theorem dX8_priceNow_22 : decode cX8_priceNow 22 = .ok (.if_icmp .ne 55, 3) := by decide +kernel
theorem dX8_priceNow_25 : decode cX8_priceNow 25 = .ok (.aload_n 0, 1) := by decide +kernel
theorem dX8_priceNow_26 : decode cX8_priceNow 26 = .ok (.getfield 116, 3) := by decide +kernel
theorem dX8_priceNow_29 : decode cX8_priceNow 29 = .ok (.iload 4, 2) := by decide +kernel
theorem dX8_priceNow_31 : decode cX8_priceNow 31 = .ok (.iaload, 1) := by decide +kernel
theorem dX8_priceNow_32 : decode cX8_priceNow 32 = .ok (.iload_n 2, 1) := by decide +kernel
theorem dX8_priceNow_33 : decode cX8_priceNow 33 = .ok (.if_icmp .ne 44, 3) := by decide +kernel
theorem dX8_priceNow_36 : decode cX8_priceNow 36 = .ok (.aload_n 0, 1) := by decide +kernel
theorem dX8_priceNow_37 : decode cX8_priceNow 37 = .ok (.getfield 119, 3) := by decide +kernel
theorem dX8_priceNow_40 : decode cX8_priceNow 40 = .ok (.iload 4, 2) := by decide +kernel
theorem dX8_priceNow_42 : decode cX8_priceNow 42 = .ok (.iaload, 1) := by decide +kernel
theorem dX8_priceNow_43 : decode cX8_priceNow 43 = .ok (.aload_n 0, 1) := by decide +kernel
theorem dX8_priceNow_44 : decode cX8_priceNow 44 = .ok (.getfield 194, 3) := by decide +kernel
theorem dX8_priceNow_47 : decode cX8_priceNow 47 = .ok (.bipush 24, 2) := by decide +kernel
theorem dX8_priceNow_49 : decode cX8_priceNow 49 = .ok (.idiv, 1) := by decide +kernel
theorem dX8_priceNow_50 : decode cX8_priceNow 50 = .ok (.if_icmp .gt 27, 3) := by decide +kernel
theorem dX8_priceNow_53 : decode cX8_priceNow 53 = .ok (.iload_n 3, 1) := by decide +kernel
theorem dX8_priceNow_54 : decode cX8_priceNow 54 = .ok (.iconst (-1), 1) := by decide +kernel
theorem dX8_priceNow_55 : decode cX8_priceNow 55 = .ok (.if_icmp .eq 19, 3) := by decide +kernel
theorem dX8_priceNow_58 : decode cX8_priceNow 58 = .ok (.aload_n 0, 1) := by decide +kernel
theorem dX8_priceNow_59 : decode cX8_priceNow 59 = .ok (.getfield 119, 3) := by decide +kernel
theorem dX8_priceNow_62 : decode cX8_priceNow 62 = .ok (.iload 4, 2) := by decide +kernel
theorem dX8_priceNow_64 : decode cX8_priceNow 64 = .ok (.iaload, 1) := by decide +kernel
theorem dX8_priceNow_65 : decode cX8_priceNow 65 = .ok (.aload_n 0, 1) := by decide +kernel
theorem dX8_priceNow_66 : decode cX8_priceNow 66 = .ok (.getfield 119, 3) := by decide +kernel
theorem dX8_priceNow_69 : decode cX8_priceNow 69 = .ok (.iload_n 3, 1) := by decide +kernel
theorem dX8_priceNow_70 : decode cX8_priceNow 70 = .ok (.iaload, 1) := by decide +kernel
theorem dX8_priceNow_71 : decode cX8_priceNow 71 = .ok (.if_icmp .lt 6, 3) := by decide +kernel
theorem dX8_priceNow_74 : decode cX8_priceNow 74 = .ok (.iload 4, 2) := by decide +kernel
theorem dX8_priceNow_76 : decode cX8_priceNow 76 = .ok (.istore_n 3, 1) := by decide +kernel
theorem dX8_priceNow_77 : decode cX8_priceNow 77 = .ok (.iinc 4 1, 3) := by decide +kernel
theorem dX8_priceNow_80 : decode cX8_priceNow 80 = .ok (.goto (-75), 3) := by decide +kernel
theorem dX8_priceNow_83 : decode cX8_priceNow 83 = .ok (.iload_n 3, 1) := by decide +kernel
theorem dX8_priceNow_84 : decode cX8_priceNow 84 = .ok (.iconst (-1), 1) := by decide +kernel
theorem dX8_priceNow_85 : decode cX8_priceNow 85 = .ok (.if_icmp .ne 7, 3) := by decide +kernel
theorem dX8_priceNow_88 : decode cX8_priceNow 88 = .ok (.iconst 0, 1) := by decide +kernel
theorem dX8_priceNow_89 : decode cX8_priceNow 89 = .ok (.goto 9, 3) := by decide +kernel
theorem dX8_priceNow_92 : decode cX8_priceNow 92 = .ok (.aload_n 0, 1) := by decide +kernel
theorem dX8_priceNow_93 : decode cX8_priceNow 93 = .ok (.getfield 122, 3) := by decide +kernel
theorem dX8_priceNow_96 : decode cX8_priceNow 96 = .ok (.iload_n 3, 1) := by decide +kernel
theorem dX8_priceNow_97 : decode cX8_priceNow 97 = .ok (.iaload, 1) := by decide +kernel
theorem dX8_priceNow_98 : decode cX8_priceNow 98 = .ok (.ireturn, 1) := by decide +kernel
theorem dX8_sell_0 : decode cX8_sell 0 = .ok (.aload_n 0, 1) := by decide +kernel
theorem dX8_sell_1 : decode cX8_sell 1 = .ok (.iload_n 1, 1) := by decide +kernel
theorem dX8_sell_2 : decode cX8_sell 2 = .ok (.invokevirtual 167, 3) := by decide +kernel
theorem dX8_sell_5 : decode cX8_sell 5 = .ok (.ifCond .eq 34, 3) := by decide +kernel
theorem dX8_sell_8 : decode cX8_sell 8 = .ok (.aload_n 0, 1) := by decide +kernel
theorem dX8_sell_9 : decode cX8_sell 9 = .ok (.getfield 50, 3) := by decide +kernel
theorem dX8_sell_12 : decode cX8_sell 12 = .ok (.iload_n 1, 1) := by decide +kernel
theorem dX8_sell_13 : decode cX8_sell 13 = .ok (.iaload, 1) := by decide +kernel
theorem dX8_sell_14 : decode cX8_sell 14 = .ok (.ifCond .ne 25, 3) := by decide +kernel
theorem dX8_sell_17 : decode cX8_sell 17 = .ok (.aload_n 0, 1) := by decide +kernel
theorem dX8_sell_18 : decode cX8_sell 18 = .ok (.getfield 28, 3) := by decide +kernel
theorem dX8_sell_21 : decode cX8_sell 21 = .ok (.aload_n 0, 1) := by decide +kernel
theorem dX8_sell_22 : decode cX8_sell 22 = .ok (.getfield 53, 3) := by decide +kernel
theorem dX8_sell_25 : decode cX8_sell 25 = .ok (.iload_n 1, 1) := by decide +kernel
theorem dX8_sell_26 : decode cX8_sell 26 = .ok (.iaload, 1) := by decide +kernel
theorem dX8_sell_27 : decode cX8_sell 27 = .ok (.baload, 1) := by decide +kernel
theorem dX8_sell_28 : decode cX8_sell 28 = .ok (.ifCond .eq 11, 3) := by decide +kernel
theorem dX8_sell_31 : decode cX8_sell 31 = .ok (.aload_n 0, 1) := by decide +kernel
theorem dX8_sell_32 : decode cX8_sell 32 = .ok (.iload_n 1, 1) := by decide +kernel
theorem dX8_sell_33 : decode cX8_sell 33 = .ok (.invokevirtual 170, 3) := by decide +kernel
theorem dX8_sell_36 : decode cX8_sell 36 = .ok (.ifCond .eq 5, 3) := by decide +kernel
theorem dX8_sell_39 : decode cX8_sell 39 = .ok (.iconst (-1), 1) := by decide +kernel
theorem dX8_sell_40 : decode cX8_sell 40 = .ok (.ireturn, 1) := by decide +kernel
theorem dX8_sell_41 : decode cX8_sell 41 = .ok (.aload_n 0, 1) := by decide +kernel
theorem dX8_sell_42 : decode cX8_sell 42 = .ok (.aload_n 0, 1) := by decide +kernel
theorem dX8_sell_43 : decode cX8_sell 43 = .ok (.getfield 53, 3) := by decide +kernel
theorem dX8_sell_46 : decode cX8_sell 46 = .ok (.iload_n 1, 1) := by decide +kernel
theorem dX8_sell_47 : decode cX8_sell 47 = .ok (.iaload, 1) := by decide +kernel
theorem dX8_sell_48 : decode cX8_sell 48 = .ok (.aload_n 0, 1) := by decide +kernel
theorem dX8_sell_49 : decode cX8_sell 49 = .ok (.getfield 44, 3) := by decide +kernel
theorem dX8_sell_52 : decode cX8_sell 52 = .ok (.iload_n 1, 1) := by decide +kernel
theorem dX8_sell_53 : decode cX8_sell 53 = .ok (.iaload, 1) := by decide +kernel
theorem dX8_sell_54 : decode cX8_sell 54 = .ok (.invokevirtual 234, 3) := by decide +kernel
theorem dX8_sell_57 : decode cX8_sell 57 = .ok (.aload_n 0, 1) := by decide +kernel
theorem dX8_sell_58 : decode cX8_sell 58 = .ok (.getfield 47, 3) := by decide +kernel
theorem dX8_sell_61 : decode cX8_sell 61 = .ok (.iload_n 1, 1) := by decide +kernel
theorem dX8_sell_62 : decode cX8_sell 62 = .ok (.iaload, 1) := by decide +kernel
theorem dX8_sell_63 : decode cX8_sell 63 = .ok (.imul, 1) := by decide +kernel
theorem dX8_sell_64 : decode cX8_sell 64 = .ok (.istore_n 2, 1) := by decide +kernel
theorem dX8_sell_65 : decode cX8_sell 65 = .ok (.aload_n 0, 1) := by decide +kernel
theorem dX8_sell_66 : decode cX8_sell 66 = .ok (.getfield 50, 3) := by decide +kernel
theorem dX8_sell_69 : decode cX8_sell 69 = .ok (.iload_n 1, 1) := by decide +kernel
theorem dX8_sell_70 : decode cX8_sell 70 = .ok (.iconst 2, 1) := by decide +kernel
theorem dX8_sell_71 : decode cX8_sell 71 = .ok (.iastore, 1) := by decide +kernel
theorem dX8_sell_72 : decode cX8_sell 72 = .ok (.aload_n 0, 1) := by decide +kernel
theorem dX8_sell_73 : decode cX8_sell 73 = .ok (.getfield 65, 3) := by decide +kernel
theorem dX8_sell_76 : decode cX8_sell 76 = .ok (.iload_n 1, 1) := by decide +kernel
theorem dX8_sell_77 : decode cX8_sell 77 = .ok (.iload_n 2, 1) := by decide +kernel
theorem dX8_sell_78 : decode cX8_sell 78 = .ok (.iastore, 1) := by decide +kernel
theorem dX8_sell_79 : decode cX8_sell 79 = .ok (.aload_n 0, 1) := by decide +kernel
theorem dX8_sell_80 : decode cX8_sell 80 = .ok (.getfield 104, 3) := by decide +kernel
theorem dX8_sell_83 : decode cX8_sell 83 = .ok (.aload_n 0, 1) := by decide +kernel
theorem dX8_sell_84 : decode cX8_sell 84 = .ok (.getfield 41, 3) := by decide +kernel
theorem dX8_sell_87 : decode cX8_sell 87 = .ok (.iload_n 1, 1) := by decide +kernel
theorem dX8_sell_88 : decode cX8_sell 88 = .ok (.iaload, 1) := by decide +kernel
theorem dX8_sell_89 : decode cX8_sell 89 = .ok (.dup2, 1) := by decide +kernel
theorem dX8_sell_90 : decode cX8_sell 90 = .ok (.iaload, 1) := by decide +kernel
theorem dX8_sell_91 : decode cX8_sell 91 = .ok (.iload_n 2, 1) := by decide +kernel
theorem dX8_sell_92 : decode cX8_sell 92 = .ok (.iadd, 1) := by decide +kernel
theorem dX8_sell_93 : decode cX8_sell 93 = .ok (.iastore, 1) := by decide +kernel
theorem dX8_sell_94 : decode cX8_sell 94 = .ok (.iload_n 2, 1) := by decide +kernel
theorem dX8_sell_95 : decode cX8_sell 95 = .ok (.ireturn, 1) := by decide +kernel
theorem dX8_advance_0 : decode cX8_advance 0 = .ok (.iload_n 1, 1) := by decide +kernel
theorem dX8_advance_1 : decode cX8_advance 1 = .ok (.iconst 0, 1) := by decide +kernel
theorem dX8_advance_2 : decode cX8_advance 2 = .ok (.bipush 7, 2) := by decide +kernel
theorem dX8_advance_4 : decode cX8_advance 4 = .ok (.invokestatic 144, 3) := by decide +kernel
theorem dX8_advance_7 : decode cX8_advance 7 = .ok (.ifCond .eq 13, 3) := by decide +kernel
theorem dX8_advance_10 : decode cX8_advance 10 = .ok (.iload_n 2, 1) := by decide +kernel
theorem dX8_advance_11 : decode cX8_advance 11 = .ok (.iconst 1, 1) := by decide +kernel
theorem dX8_advance_12 : decode cX8_advance 12 = .ok (.ldc 158, 2) := by decide +kernel
theorem dX8_advance_14 : decode cX8_advance 14 = .ok (.invokestatic 144, 3) := by decide +kernel
theorem dX8_advance_17 : decode cX8_advance 17 = .ok (.ifCond .ne 6, 3) := by decide +kernel
theorem dX8_advance_20 : decode cX8_advance 20 = .ok (.ldc 238, 2) := by decide +kernel
theorem dX8_advance_22 : decode cX8_advance 22 = .ok (.ireturn, 1) := by decide +kernel
theorem dX8_advance_23 : decode cX8_advance 23 = .ok (.aload_n 0, 1) := by decide +kernel
theorem dX8_advance_24 : decode cX8_advance 24 = .ok (.getfield 104, 3) := by decide +kernel
theorem dX8_advance_27 : decode cX8_advance 27 = .ok (.iload_n 1, 1) := by decide +kernel
theorem dX8_advance_28 : decode cX8_advance 28 = .ok (.dup2, 1) := by decide +kernel
theorem dX8_advance_29 : decode cX8_advance 29 = .ok (.iaload, 1) := by decide +kernel
theorem dX8_advance_30 : decode cX8_advance 30 = .ok (.iload_n 2, 1) := by decide +kernel
theorem dX8_advance_31 : decode cX8_advance 31 = .ok (.isub, 1) := by decide +kernel
theorem dX8_advance_32 : decode cX8_advance 32 = .ok (.iastore, 1) := by decide +kernel
theorem dX8_advance_33 : decode cX8_advance 33 = .ok (.aload_n 0, 1) := by decide +kernel
theorem dX8_advance_34 : decode cX8_advance 34 = .ok (.getfield 104, 3) := by decide +kernel
theorem dX8_advance_37 : decode cX8_advance 37 = .ok (.iload_n 1, 1) := by decide +kernel
theorem dX8_advance_38 : decode cX8_advance 38 = .ok (.iaload, 1) := by decide +kernel
theorem dX8_advance_39 : decode cX8_advance 39 = .ok (.ireturn, 1) := by decide +kernel
theorem dX8_balance_0 : decode cX8_balance 0 = .ok (.iload_n 1, 1) := by decide +kernel
theorem dX8_balance_1 : decode cX8_balance 1 = .ok (.iconst 0, 1) := by decide +kernel
theorem dX8_balance_2 : decode cX8_balance 2 = .ok (.bipush 7, 2) := by decide +kernel
theorem dX8_balance_4 : decode cX8_balance 4 = .ok (.invokestatic 144, 3) := by decide +kernel
theorem dX8_balance_7 : decode cX8_balance 7 = .ok (.ifCond .eq 12, 3) := by decide +kernel
theorem dX8_balance_10 : decode cX8_balance 10 = .ok (.aload_n 0, 1) := by decide +kernel
theorem dX8_balance_11 : decode cX8_balance 11 = .ok (.getfield 104, 3) := by decide +kernel
theorem dX8_balance_14 : decode cX8_balance 14 = .ok (.iload_n 1, 1) := by decide +kernel
theorem dX8_balance_15 : decode cX8_balance 15 = .ok (.iaload, 1) := by decide +kernel
theorem dX8_balance_16 : decode cX8_balance 16 = .ok (.goto 4, 3) := by decide +kernel
theorem dX8_balance_19 : decode cX8_balance 19 = .ok (.iconst 0, 1) := by decide +kernel
theorem dX8_balance_20 : decode cX8_balance 20 = .ok (.ireturn, 1) := by decide +kernel
theorem dX8_tries_0 : decode cX8_tries 0 = .ok (.iload_n 1, 1) := by decide +kernel
theorem dX8_tries_1 : decode cX8_tries 1 = .ok (.iconst 1, 1) := by decide +kernel
theorem dX8_tries_2 : decode cX8_tries 2 = .ok (.aload_n 0, 1) := by decide +kernel
theorem dX8_tries_3 : decode cX8_tries 3 = .ok (.getfield 140, 3) := by decide +kernel
theorem dX8_tries_6 : decode cX8_tries 6 = .ok (.iconst 1, 1) := by decide +kernel
theorem dX8_tries_7 : decode cX8_tries 7 = .ok (.isub, 1) := by decide +kernel
theorem dX8_tries_8 : decode cX8_tries 8 = .ok (.invokestatic 144, 3) := by decide +kernel
theorem dX8_tries_11 : decode cX8_tries 11 = .ok (.ifCond .ne 5, 3) := by decide +kernel
theorem dX8_tries_14 : decode cX8_tries 14 = .ok (.iconst (-1), 1) := by decide +kernel
theorem dX8_tries_15 : decode cX8_tries 15 = .ok (.ireturn, 1) := by decide +kernel
theorem dX8_tries_16 : decode cX8_tries 16 = .ok (.iconst 0, 1) := by decide +kernel
theorem dX8_tries_17 : decode cX8_tries 17 = .ok (.istore_n 2, 1) := by decide +kernel
theorem dX8_tries_18 : decode cX8_tries 18 = .ok (.iconst 0, 1) := by decide +kernel
theorem dX8_tries_19 : decode cX8_tries 19 = .ok (.istore_n 3, 1) := by decide +kernel
theorem dX8_tries_20 : decode cX8_tries 20 = .ok (.iload_n 3, 1) := by decide +kernel
theorem dX8_tries_21 : decode cX8_tries 21 = .ok (.aload_n 0, 1) := by decide +kernel
theorem dX8_tries_22 : decode cX8_tries 22 = .ok (.getfield 151, 3) := by decide +kernel
theorem dX8_tries_25 : decode cX8_tries 25 = .ok (.if_icmp .ge 80, 3) := by decide +kernel
theorem dX8_tries_28 : decode cX8_tries 28 = .ok (.aload_n 0, 1) := by decide +kernel
theorem dX8_tries_29 : decode cX8_tries 29 = .ok (.getfield 71, 3) := by decide +kernel
theorem dX8_tries_32 : decode cX8_tries 32 = .ok (.iload_n 3, 1) := by decide +kernel
theorem dX8_tries_33 : decode cX8_tries 33 = .ok (.iaload, 1) := by decide +kernel
theorem dX8_tries_34 : decode cX8_tries 34 = .ok (.iconst 1, 1) := by decide +kernel
theorem dX8_tries_35 : decode cX8_tries 35 = .ok (.if_icmp .ne 64, 3) := by decide +kernel
theorem dX8_tries_38 : decode cX8_tries 38 = .ok (.aload_n 0, 1) := by decide +kernel
theorem dX8_tries_39 : decode cX8_tries 39 = .ok (.getfield 74, 3) := by decide +kernel
theorem dX8_tries_42 : decode cX8_tries 42 = .ok (.iload_n 3, 1) := by decide +kernel
theorem dX8_tries_43 : decode cX8_tries 43 = .ok (.iaload, 1) := by decide +kernel
theorem dX8_tries_44 : decode cX8_tries 44 = .ok (.iload_n 1, 1) := by decide +kernel
theorem dX8_tries_45 : decode cX8_tries 45 = .ok (.if_icmp .ne 54, 3) := by decide +kernel
theorem dX8_tries_48 : decode cX8_tries 48 = .ok (.aload_n 0, 1) := by decide +kernel
theorem dX8_tries_49 : decode cX8_tries 49 = .ok (.iload_n 3, 1) := by decide +kernel
theorem dX8_tries_50 : decode cX8_tries 50 = .ok (.invokevirtual 213, 3) := by decide +kernel
theorem dX8_tries_53 : decode cX8_tries 53 = .ok (.aload_n 0, 1) := by decide +kernel
theorem dX8_tries_54 : decode cX8_tries 54 = .ok (.getfield 16, 3) := by decide +kernel
theorem dX8_tries_57 : decode cX8_tries 57 = .ok (.iload_n 1, 1) := by decide +kernel
theorem dX8_tries_58 : decode cX8_tries 58 = .ok (.iaload, 1) := by decide +kernel
theorem dX8_tries_59 : decode cX8_tries 59 = .ok (.if_icmp .gt 40, 3) := by decide +kernel
theorem dX8_tries_62 : decode cX8_tries 62 = .ok (.iconst 5, 1) := by decide +kernel
theorem dX8_tries_63 : decode cX8_tries 63 = .ok (.aload_n 0, 1) := by decide +kernel
theorem dX8_tries_64 : decode cX8_tries 64 = .ok (.getfield 77, 3) := by decide +kernel
theorem dX8_tries_67 : decode cX8_tries 67 = .ok (.iload_n 3, 1) := by decide +kernel
theorem dX8_tries_68 : decode cX8_tries 68 = .ok (.iaload, 1) := by decide +kernel
theorem dX8_tries_69 : decode cX8_tries 69 = .ok (.imul, 1) := by decide +kernel
theorem dX8_tries_70 : decode cX8_tries 70 = .ok (.aload_n 0, 1) := by decide +kernel
theorem dX8_tries_71 : decode cX8_tries 71 = .ok (.getfield 22, 3) := by decide +kernel
theorem dX8_tries_74 : decode cX8_tries 74 = .ok (.iload_n 1, 1) := by decide +kernel
theorem dX8_tries_75 : decode cX8_tries 75 = .ok (.iaload, 1) := by decide +kernel
theorem dX8_tries_76 : decode cX8_tries 76 = .ok (.if_icmp .le 6, 3) := by decide +kernel
theorem dX8_tries_79 : decode cX8_tries 79 = .ok (.goto 20, 3) := by decide +kernel
theorem dX8_tries_82 : decode cX8_tries 82 = .ok (.iload_n 2, 1) := by decide +kernel
theorem dX8_tries_83 : decode cX8_tries 83 = .ok (.iconst 5, 1) := by decide +kernel
theorem dX8_tries_84 : decode cX8_tries 84 = .ok (.if_icmp .ne 5, 3) := by decide +kernel
theorem dX8_tries_87 : decode cX8_tries 87 = .ok (.iconst (-1), 1) := by decide +kernel
theorem dX8_tries_88 : decode cX8_tries 88 = .ok (.ireturn, 1) := by decide +kernel
theorem dX8_tries_89 : decode cX8_tries 89 = .ok (.aload_n 0, 1) := by decide +kernel
theorem dX8_tries_90 : decode cX8_tries 90 = .ok (.getfield 125, 3) := by decide +kernel
theorem dX8_tries_93 : decode cX8_tries 93 = .ok (.iload_n 2, 1) := by decide +kernel
theorem dX8_tries_94 : decode cX8_tries 94 = .ok (.iload_n 3, 1) := by decide +kernel
theorem dX8_tries_95 : decode cX8_tries 95 = .ok (.iastore, 1) := by decide +kernel
theorem dX8_tries_96 : decode cX8_tries 96 = .ok (.iinc 2 1, 3) := by decide +kernel
theorem dX8_tries_99 : decode cX8_tries 99 = .ok (.iinc 3 1, 3) := by decide +kernel
theorem dX8_tries_102 : decode cX8_tries 102 = .ok (.goto (-82), 3) := by decide +kernel
