theorem dX8_tries_105 : decode cX8_tries 105 = .ok (.iload_n 2, 1) := by decide +kernel
theorem dX8_tries_106 : decode cX8_tries 106 = .ok (.ifCond .ne 7, 3) := by decide +kernel
theorem dX8_tries_109 : decode cX8_tries 109 = .ok (.iconst 0, 1) := by decide +kernel
theorem dX8_tries_110 : decode cX8_tries 110 = .ok (.goto 4, 3) := by decide +kernel
theorem dX8_tries_113 : decode cX8_tries 113 = .ok (.iconst 1, 1) := by decide +kernel
theorem dX8_tries_114 : decode cX8_tries 114 = .ok (.istore_n 3, 1) := by decide +kernel
theorem dX8_tries_115 : decode cX8_tries 115 = .ok (.iconst 2, 1) := by decide +kernel
theorem dX8_tries_116 : decode cX8_tries 116 = .ok (.istore 4, 2) := by decide +kernel
theorem dX8_tries_118 : decode cX8_tries 118 = .ok (.iload 4, 2) := by decide +kernel
theorem dX8_tries_120 : decode cX8_tries 120 = .ok (.iload_n 2, 1) := by decide +kernel
theorem dX8_tries_121 : decode cX8_tries 121 = .ok (.if_icmp .gt 14, 3) := by decide +kernel
theorem dX8_tries_124 : decode cX8_tries 124 = .ok (.iload_n 3, 1) := by decide +kernel
theorem dX8_tries_125 : decode cX8_tries 125 = .ok (.iload 4, 2) := by decide +kernel
theorem dX8_tries_127 : decode cX8_tries 127 = .ok (.imul, 1) := by decide +kernel
theorem dX8_tries_128 : decode cX8_tries 128 = .ok (.istore_n 3, 1) := by decide +kernel
theorem dX8_tries_129 : decode cX8_tries 129 = .ok (.iinc 4 1, 3) := by decide +kernel
theorem dX8_tries_132 : decode cX8_tries 132 = .ok (.goto (-14), 3) := by decide +kernel
theorem dX8_tries_135 : decode cX8_tries 135 = .ok (.iconst (-1), 1) := by decide +kernel
theorem dX8_tries_136 : decode cX8_tries 136 = .ok (.istore 4, 2) := by decide +kernel
theorem dX8_tries_138 : decode cX8_tries 138 = .ok (.iconst 0, 1) := by decide +kernel
theorem dX8_tries_139 : decode cX8_tries 139 = .ok (.istore 5, 2) := by decide +kernel
theorem dX8_tries_141 : decode cX8_tries 141 = .ok (.iload 5, 2) := by decide +kernel
theorem dX8_tries_143 : decode cX8_tries 143 = .ok (.iload_n 3, 1) := by decide +kernel
theorem dX8_tries_144 : decode cX8_tries 144 = .ok (.if_icmp .ge 98, 3) := by decide +kernel
theorem dX8_tries_147 : decode cX8_tries 147 = .ok (.aload_n 0, 1) := by decide +kernel
theorem dX8_tries_148 : decode cX8_tries 148 = .ok (.iload 5, 2) := by decide +kernel
theorem dX8_tries_150 : decode cX8_tries 150 = .ok (.iload_n 2, 1) := by decide +kernel
theorem dX8_tries_151 : decode cX8_tries 151 = .ok (.invokevirtual 239, 3) := by decide +kernel
theorem dX8_tries_154 : decode cX8_tries 154 = .ok (.aload_n 0, 1) := by decide +kernel
theorem dX8_tries_155 : decode cX8_tries 155 = .ok (.iload_n 1, 1) := by decide +kernel
theorem dX8_tries_156 : decode cX8_tries 156 = .ok (.iload_n 2, 1) := by decide +kernel
theorem dX8_tries_157 : decode cX8_tries 157 = .ok (.invokevirtual 242, 3) := by decide +kernel
theorem dX8_tries_160 : decode cX8_tries 160 = .ok (.istore 6, 2) := by decide +kernel
theorem dX8_tries_162 : decode cX8_tries 162 = .ok (.iload 6, 2) := by decide +kernel
theorem dX8_tries_164 : decode cX8_tries 164 = .ok (.iconst (-1), 1) := by decide +kernel
theorem dX8_tries_165 : decode cX8_tries 165 = .ok (.if_icmp .eq 71, 3) := by decide +kernel
theorem dX8_tries_168 : decode cX8_tries 168 = .ok (.iload 4, 2) := by decide +kernel
theorem dX8_tries_170 : decode cX8_tries 170 = .ok (.iconst (-1), 1) := by decide +kernel
theorem dX8_tries_171 : decode cX8_tries 171 = .ok (.if_icmp .eq 13, 3) := by decide +kernel
theorem dX8_tries_174 : decode cX8_tries 174 = .ok (.iload 6, 2) := by decide +kernel
theorem dX8_tries_176 : decode cX8_tries 176 = .ok (.iload 4, 2) := by decide +kernel
theorem dX8_tries_178 : decode cX8_tries 178 = .ok (.if_icmp .lt 6, 3) := by decide +kernel
theorem dX8_tries_181 : decode cX8_tries 181 = .ok (.goto 55, 3) := by decide +kernel
theorem dX8_tries_184 : decode cX8_tries 184 = .ok (.iload 6, 2) := by decide +kernel
theorem dX8_tries_186 : decode cX8_tries 186 = .ok (.istore 4, 2) := by decide +kernel
theorem dX8_tries_188 : decode cX8_tries 188 = .ok (.iconst 0, 1) := by decide +kernel
theorem dX8_tries_189 : decode cX8_tries 189 = .ok (.istore 7, 2) := by decide +kernel
theorem dX8_tries_191 : decode cX8_tries 191 = .ok (.iload 7, 2) := by decide +kernel
theorem dX8_tries_193 : decode cX8_tries 193 = .ok (.iload_n 2, 1) := by decide +kernel
theorem dX8_tries_194 : decode cX8_tries 194 = .ok (.if_icmp .ge 42, 3) := by decide +kernel
theorem dX8_tries_197 : decode cX8_tries 197 = .ok (.aload_n 0, 1) := by decide +kernel
theorem dX8_tries_198 : decode cX8_tries 198 = .ok (.getfield 134, 3) := by decide +kernel
theorem dX8_tries_201 : decode cX8_tries 201 = .ok (.iload 7, 2) := by decide +kernel
theorem dX8_tries_203 : decode cX8_tries 203 = .ok (.aload_n 0, 1) := by decide +kernel
theorem dX8_tries_204 : decode cX8_tries 204 = .ok (.getfield 125, 3) := by decide +kernel
theorem dX8_tries_207 : decode cX8_tries 207 = .ok (.aload_n 0, 1) := by decide +kernel
theorem dX8_tries_208 : decode cX8_tries 208 = .ok (.getfield 128, 3) := by decide +kernel
theorem dX8_tries_211 : decode cX8_tries 211 = .ok (.iload 7, 2) := by decide +kernel
theorem dX8_tries_213 : decode cX8_tries 213 = .ok (.iaload, 1) := by decide +kernel
theorem dX8_tries_214 : decode cX8_tries 214 = .ok (.iaload, 1) := by decide +kernel
theorem dX8_tries_215 : decode cX8_tries 215 = .ok (.iastore, 1) := by decide +kernel
theorem dX8_tries_216 : decode cX8_tries 216 = .ok (.aload_n 0, 1) := by decide +kernel
theorem dX8_tries_217 : decode cX8_tries 217 = .ok (.getfield 137, 3) := by decide +kernel
theorem dX8_tries_220 : decode cX8_tries 220 = .ok (.iload 7, 2) := by decide +kernel
theorem dX8_tries_222 : decode cX8_tries 222 = .ok (.aload_n 0, 1) := by decide +kernel
theorem dX8_tries_223 : decode cX8_tries 223 = .ok (.getfield 131, 3) := by decide +kernel
theorem dX8_tries_226 : decode cX8_tries 226 = .ok (.iload 7, 2) := by decide +kernel
theorem dX8_tries_228 : decode cX8_tries 228 = .ok (.iaload, 1) := by decide +kernel
theorem dX8_tries_229 : decode cX8_tries 229 = .ok (.iastore, 1) := by decide +kernel
theorem dX8_tries_230 : decode cX8_tries 230 = .ok (.iinc 7 1, 3) := by decide +kernel
theorem dX8_tries_233 : decode cX8_tries 233 = .ok (.goto (-42), 3) := by decide +kernel
theorem dX8_tries_236 : decode cX8_tries 236 = .ok (.iinc 5 1, 3) := by decide +kernel
theorem dX8_tries_239 : decode cX8_tries 239 = .ok (.goto (-98), 3) := by decide +kernel
theorem dX8_tries_242 : decode cX8_tries 242 = .ok (.iload 4, 2) := by decide +kernel
theorem dX8_tries_244 : decode cX8_tries 244 = .ok (.iconst (-1), 1) := by decide +kernel
theorem dX8_tries_245 : decode cX8_tries 245 = .ok (.if_icmp .ne 7, 3) := by decide +kernel
theorem dX8_tries_248 : decode cX8_tries 248 = .ok (.iconst (-1), 1) := by decide +kernel
theorem dX8_tries_249 : decode cX8_tries 249 = .ok (.goto 4, 3) := by decide +kernel
theorem dX8_tries_252 : decode cX8_tries 252 = .ok (.iload_n 2, 1) := by decide +kernel
theorem dX8_tries_253 : decode cX8_tries 253 = .ok (.ireturn, 1) := by decide +kernel
theorem dX8_sumOf_0 : decode cX8_sumOf 0 = .ok (.aload_n 0, 1) := by decide +kernel
theorem dX8_sumOf_1 : decode cX8_sumOf 1 = .ok (.getfield 25, 3) := by decide +kernel
theorem dX8_sumOf_4 : decode cX8_sumOf 4 = .ok (.iload_n 1, 1) := by decide +kernel
theorem dX8_sumOf_5 : decode cX8_sumOf 5 = .ok (.iaload, 1) := by decide +kernel
theorem dX8_sumOf_6 : decode cX8_sumOf 6 = .ok (.istore_n 3, 1) := by decide +kernel
theorem dX8_sumOf_7 : decode cX8_sumOf 7 = .ok (.aload_n 0, 1) := by decide +kernel
theorem dX8_sumOf_8 : decode cX8_sumOf 8 = .ok (.getfield 194, 3) := by decide +kernel
theorem dX8_sumOf_11 : decode cX8_sumOf 11 = .ok (.istore 4, 2) := by decide +kernel
theorem dX8_sumOf_13 : decode cX8_sumOf 13 = .ok (.iconst 0, 1) := by decide +kernel
theorem dX8_sumOf_14 : decode cX8_sumOf 14 = .ok (.istore 5, 2) := by decide +kernel
theorem dX8_sumOf_16 : decode cX8_sumOf 16 = .ok (.iconst 0, 1) := by decide +kernel
theorem dX8_sumOf_17 : decode cX8_sumOf 17 = .ok (.istore 6, 2) := by decide +kernel
theorem dX8_sumOf_19 : decode cX8_sumOf 19 = .ok (.iload 6, 2) := by decide +kernel
theorem dX8_sumOf_21 : decode cX8_sumOf 21 = .ok (.iload_n 2, 1) := by decide +kernel
theorem dX8_sumOf_22 : decode cX8_sumOf 22 = .ok (.if_icmp .ge 147, 3) := by decide +kernel
theorem dX8_sumOf_25 : decode cX8_sumOf 25 = .ok (.iconst 5, 1) := by decide +kernel
theorem dX8_sumOf_26 : decode cX8_sumOf 26 = .ok (.aload_n 0, 1) := by decide +kernel
theorem dX8_sumOf_27 : decode cX8_sumOf 27 = .ok (.getfield 77, 3) := by decide +kernel
theorem dX8_sumOf_30 : decode cX8_sumOf 30 = .ok (.aload_n 0, 1) := by decide +kernel
theorem dX8_sumOf_31 : decode cX8_sumOf 31 = .ok (.getfield 125, 3) := by decide +kernel
theorem dX8_sumOf_34 : decode cX8_sumOf 34 = .ok (.aload_n 0, 1) := by decide +kernel
theorem dX8_sumOf_35 : decode cX8_sumOf 35 = .ok (.getfield 128, 3) := by decide +kernel
theorem dX8_sumOf_38 : decode cX8_sumOf 38 = .ok (.iload 6, 2) := by decide +kernel
theorem dX8_sumOf_40 : decode cX8_sumOf 40 = .ok (.iaload, 1) := by decide +kernel
theorem dX8_sumOf_41 : decode cX8_sumOf 41 = .ok (.iaload, 1) := by decide +kernel
theorem dX8_sumOf_42 : decode cX8_sumOf 42 = .ok (.iaload, 1) := by decide +kernel
theorem dX8_sumOf_43 : decode cX8_sumOf 43 = .ok (.imul, 1) := by decide +kernel
theorem dX8_sumOf_44 : decode cX8_sumOf 44 = .ok (.istore 7, 2) := by decide +kernel
theorem dX8_sumOf_46 : decode cX8_sumOf 46 = .ok (.iload_n 3, 1) := by decide +kernel
theorem dX8_sumOf_47 : decode cX8_sumOf 47 = .ok (.iload 7, 2) := by decide +kernel
theorem dX8_sumOf_49 : decode cX8_sumOf 49 = .ok (.if_icmp .ge 55, 3) := by decide +kernel
theorem dX8_sumOf_52 : decode cX8_sumOf 52 = .ok (.aload_n 0, 1) := by decide +kernel
theorem dX8_sumOf_53 : decode cX8_sumOf 53 = .ok (.getfield 19, 3) := by decide +kernel
theorem dX8_sumOf_56 : decode cX8_sumOf 56 = .ok (.iload_n 1, 1) := by decide +kernel
theorem dX8_sumOf_57 : decode cX8_sumOf 57 = .ok (.iaload, 1) := by decide +kernel
theorem dX8_sumOf_58 : decode cX8_sumOf 58 = .ok (.ifCond .ne 5, 3) := by decide +kernel
theorem dX8_sumOf_61 : decode cX8_sumOf 61 = .ok (.iconst (-1), 1) := by decide +kernel
theorem dX8_sumOf_62 : decode cX8_sumOf 62 = .ok (.ireturn, 1) := by decide +kernel
theorem dX8_sumOf_63 : decode cX8_sumOf 63 = .ok (.iload_n 3, 1) := by decide +kernel
theorem dX8_sumOf_64 : decode cX8_sumOf 64 = .ok (.aload_n 0, 1) := by decide +kernel
theorem dX8_sumOf_65 : decode cX8_sumOf 65 = .ok (.getfield 19, 3) := by decide +kernel
theorem dX8_sumOf_68 : decode cX8_sumOf 68 = .ok (.iload_n 1, 1) := by decide +kernel
theorem dX8_sumOf_69 : decode cX8_sumOf 69 = .ok (.iaload, 1) := by decide +kernel
theorem dX8_sumOf_70 : decode cX8_sumOf 70 = .ok (.iadd, 1) := by decide +kernel
theorem dX8_sumOf_71 : decode cX8_sumOf 71 = .ok (.aload_n 0, 1) := by decide +kernel
theorem dX8_sumOf_72 : decode cX8_sumOf 72 = .ok (.getfield 22, 3) := by decide +kernel
theorem dX8_sumOf_75 : decode cX8_sumOf 75 = .ok (.iload_n 1, 1) := by decide +kernel
theorem dX8_sumOf_76 : decode cX8_sumOf 76 = .ok (.iaload, 1) := by decide +kernel
theorem dX8_sumOf_77 : decode cX8_sumOf 77 = .ok (.if_icmp .le 12, 3) := by decide +kernel
theorem dX8_sumOf_80 : decode cX8_sumOf 80 = .ok (.aload_n 0, 1) := by decide +kernel
theorem dX8_sumOf_81 : decode cX8_sumOf 81 = .ok (.getfield 22, 3) := by decide +kernel
theorem dX8_sumOf_84 : decode cX8_sumOf 84 = .ok (.iload_n 1, 1) := by decide +kernel
theorem dX8_sumOf_85 : decode cX8_sumOf 85 = .ok (.iaload, 1) := by decide +kernel
theorem dX8_sumOf_86 : decode cX8_sumOf 86 = .ok (.goto 11, 3) := by decide +kernel
theorem dX8_sumOf_89 : decode cX8_sumOf 89 = .ok (.iload_n 3, 1) := by decide +kernel
theorem dX8_sumOf_90 : decode cX8_sumOf 90 = .ok (.aload_n 0, 1) := by decide +kernel
theorem dX8_sumOf_91 : decode cX8_sumOf 91 = .ok (.getfield 19, 3) := by decide +kernel
theorem dX8_sumOf_94 : decode cX8_sumOf 94 = .ok (.iload_n 1, 1) := by decide +kernel
theorem dX8_sumOf_95 : decode cX8_sumOf 95 = .ok (.iaload, 1) := by decide +kernel
theorem dX8_sumOf_96 : decode cX8_sumOf 96 = .ok (.iadd, 1) := by decide +kernel
theorem dX8_sumOf_97 : decode cX8_sumOf 97 = .ok (.istore_n 3, 1) := by decide +kernel
theorem dX8_sumOf_98 : decode cX8_sumOf 98 = .ok (.iinc 4 1, 3) := by decide +kernel
theorem dX8_sumOf_101 : decode cX8_sumOf 101 = .ok (.goto (-55), 3) := by decide +kernel
theorem dX8_sumOf_104 : decode cX8_sumOf 104 = .ok (.aload_n 0, 1) := by decide +kernel
theorem dX8_sumOf_105 : decode cX8_sumOf 105 = .ok (.getfield 131, 3) := by decide +kernel
theorem dX8_sumOf_108 : decode cX8_sumOf 108 = .ok (.iload 6, 2) := by decide +kernel
theorem dX8_sumOf_110 : decode cX8_sumOf 110 = .ok (.iload 4, 2) := by decide +kernel
theorem dX8_sumOf_112 : decode cX8_sumOf 112 = .ok (.iastore, 1) := by decide +kernel
theorem dX8_sumOf_113 : decode cX8_sumOf 113 = .ok (.iload 5, 2) := by decide +kernel
theorem dX8_sumOf_115 : decode cX8_sumOf 115 = .ok (.iload 4, 2) := by decide +kernel
theorem dX8_sumOf_117 : decode cX8_sumOf 117 = .ok (.iadd, 1) := by decide +kernel
theorem dX8_sumOf_118 : decode cX8_sumOf 118 = .ok (.istore 5, 2) := by decide +kernel
theorem dX8_sumOf_120 : decode cX8_sumOf 120 = .ok (.iload_n 3, 1) := by decide +kernel
theorem dX8_sumOf_121 : decode cX8_sumOf 121 = .ok (.iload 7, 2) := by decide +kernel
theorem dX8_sumOf_123 : decode cX8_sumOf 123 = .ok (.isub, 1) := by decide +kernel
theorem dX8_sumOf_124 : decode cX8_sumOf 124 = .ok (.istore_n 3, 1) := by decide +kernel
theorem dX8_sumOf_125 : decode cX8_sumOf 125 = .ok (.iload_n 3, 1) := by decide +kernel
theorem dX8_sumOf_126 : decode cX8_sumOf 126 = .ok (.aload_n 0, 1) := by decide +kernel
theorem dX8_sumOf_127 : decode cX8_sumOf 127 = .ok (.getfield 19, 3) := by decide +kernel
theorem dX8_sumOf_130 : decode cX8_sumOf 130 = .ok (.iload_n 1, 1) := by decide +kernel
theorem dX8_sumOf_131 : decode cX8_sumOf 131 = .ok (.iaload, 1) := by decide +kernel
theorem dX8_sumOf_132 : decode cX8_sumOf 132 = .ok (.iadd, 1) := by decide +kernel
theorem dX8_sumOf_133 : decode cX8_sumOf 133 = .ok (.aload_n 0, 1) := by decide +kernel
theorem dX8_sumOf_134 : decode cX8_sumOf 134 = .ok (.getfield 22, 3) := by decide +kernel
theorem dX8_sumOf_137 : decode cX8_sumOf 137 = .ok (.iload_n 1, 1) := by decide +kernel
theorem dX8_sumOf_138 : decode cX8_sumOf 138 = .ok (.iaload, 1) := by decide +kernel
theorem dX8_sumOf_139 : decode cX8_sumOf 139 = .ok (.if_icmp .le 12, 3) := by decide +kernel
theorem dX8_sumOf_142 : decode cX8_sumOf 142 = .ok (.aload_n 0, 1) := by decide +kernel
theorem dX8_sumOf_143 : decode cX8_sumOf 143 = .ok (.getfield 22, 3) := by decide +kernel
theorem dX8_sumOf_146 : decode cX8_sumOf 146 = .ok (.iload_n 1, 1) := by decide +kernel
theorem dX8_sumOf_147 : decode cX8_sumOf 147 = .ok (.iaload, 1) := by decide +kernel
theorem dX8_sumOf_148 : decode cX8_sumOf 148 = .ok (.goto 11, 3) := by decide +kernel
theorem dX8_sumOf_151 : decode cX8_sumOf 151 = .ok (.iload_n 3, 1) := by decide +kernel
theorem dX8_sumOf_152 : decode cX8_sumOf 152 = .ok (.aload_n 0, 1) := by decide +kernel
theorem dX8_sumOf_153 : decode cX8_sumOf 153 = .ok (.getfield 19, 3) := by decide +kernel
theorem dX8_sumOf_156 : decode cX8_sumOf 156 = .ok (.iload_n 1, 1) := by decide +kernel
theorem dX8_sumOf_157 : decode cX8_sumOf 157 = .ok (.iaload, 1) := by decide +kernel
theorem dX8_sumOf_158 : decode cX8_sumOf 158 = .ok (.iadd, 1) := by decide +kernel
theorem dX8_sumOf_159 : decode cX8_sumOf 159 = .ok (.istore_n 3, 1) := by decide +kernel
theorem dX8_sumOf_160 : decode cX8_sumOf 160 = .ok (.iinc 4 1, 3) := by decide +kernel
theorem dX8_sumOf_163 : decode cX8_sumOf 163 = .ok (.iinc 6 1, 3) := by decide +kernel
theorem dX8_sumOf_166 : decode cX8_sumOf 166 = .ok (.goto (-147), 3) := by decide +kernel
theorem dX8_sumOf_169 : decode cX8_sumOf 169 = .ok (.iload 5, 2) := by decide +kernel
theorem dX8_sumOf_171 : decode cX8_sumOf 171 = .ok (.ireturn, 1) := by decide +kernel
theorem dX8_orders_0 : decode cX8_orders 0 = .ok (.iload_n 1, 1) := by decide +kernel
theorem dX8_orders_1 : decode cX8_orders 1 = .ok (.istore_n 3, 1) := by decide +kernel
theorem dX8_orders_2 : decode cX8_orders 2 = .ok (.iconst 0, 1) := by decide +kernel
theorem dX8_orders_3 : decode cX8_orders 3 = .ok (.istore 4, 2) := by decide +kernel
theorem dX8_orders_5 : decode cX8_orders 5 = .ok (.iconst 0, 1) := by decide +kernel
theorem dX8_orders_6 : decode cX8_orders 6 = .ok (.istore 5, 2) := by decide +kernel
theorem dX8_orders_8 : decode cX8_orders 8 = .ok (.iload 5, 2) := by decide +kernel
theorem dX8_orders_10 : decode cX8_orders 10 = .ok (.iload_n 2, 1) := by decide +kernel
theorem dX8_orders_11 : decode cX8_orders 11 = .ok (.if_icmp .ge 117, 3) := by decide +kernel
theorem dX8_orders_14 : decode cX8_orders 14 = .ok (.iconst 1, 1) := by decide +kernel
theorem dX8_orders_15 : decode cX8_orders 15 = .ok (.istore 6, 2) := by decide +kernel
theorem dX8_orders_17 : decode cX8_orders 17 = .ok (.iconst 2, 1) := by decide +kernel
theorem dX8_orders_18 : decode cX8_orders 18 = .ok (.istore 7, 2) := by decide +kernel
theorem dX8_orders_20 : decode cX8_orders 20 = .ok (.iload 7, 2) := by decide +kernel
theorem dX8_orders_22 : decode cX8_orders 22 = .ok (.iload_n 2, 1) := by decide +kernel
theorem dX8_orders_23 : decode cX8_orders 23 = .ok (.iload 5, 2) := by decide +kernel
theorem dX8_orders_25 : decode cX8_orders 25 = .ok (.isub, 1) := by decide +kernel
theorem dX8_orders_26 : decode cX8_orders 26 = .ok (.if_icmp .ge 16, 3) := by decide +kernel
theorem dX8_orders_29 : decode cX8_orders 29 = .ok (.iload 6, 2) := by decide +kernel
theorem dX8_orders_31 : decode cX8_orders 31 = .ok (.iload 7, 2) := by decide +kernel
theorem dX8_orders_33 : decode cX8_orders 33 = .ok (.imul, 1) := by decide +kernel
theorem dX8_orders_34 : decode cX8_orders 34 = .ok (.istore 6, 2) := by decide +kernel
theorem dX8_orders_36 : decode cX8_orders 36 = .ok (.iinc 7 1, 3) := by decide +kernel
theorem dX8_orders_39 : decode cX8_orders 39 = .ok (.goto (-19), 3) := by decide +kernel
theorem dX8_orders_42 : decode cX8_orders 42 = .ok (.iload_n 3, 1) := by decide +kernel
theorem dX8_orders_43 : decode cX8_orders 43 = .ok (.iload 6, 2) := by decide +kernel
theorem dX8_orders_45 : decode cX8_orders 45 = .ok (.idiv, 1) := by decide +kernel
theorem dX8_orders_46 : decode cX8_orders 46 = .ok (.istore 7, 2) := by decide +kernel
theorem dX8_orders_48 : decode cX8_orders 48 = .ok (.iload_n 3, 1) := by decide +kernel
theorem dX8_orders_49 : decode cX8_orders 49 = .ok (.iload 6, 2) := by decide +kernel
theorem dX8_orders_51 : decode cX8_orders 51 = .ok (.irem, 1) := by decide +kernel
theorem dX8_orders_52 : decode cX8_orders 52 = .ok (.istore_n 3, 1) := by decide +kernel
theorem dX8_orders_53 : decode cX8_orders 53 = .ok (.iconst 0, 1) := by decide +kernel
theorem dX8_orders_54 : decode cX8_orders 54 = .ok (.istore 8, 2) := by decide +kernel
theorem dX8_orders_56 : decode cX8_orders 56 = .ok (.iload 4, 2) := by decide +kernel
theorem dX8_orders_58 : decode cX8_orders 58 = .ok (.iload 8, 2) := by decide +kernel
theorem dX8_orders_60 : decode cX8_orders 60 = .ok (.ishr, 1) := by decide +kernel
theorem dX8_orders_61 : decode cX8_orders 61 = .ok (.iconst 1, 1) := by decide +kernel
theorem dX8_orders_62 : decode cX8_orders 62 = .ok (.iand, 1) := by decide +kernel
theorem dX8_orders_63 : decode cX8_orders 63 = .ok (.iconst 1, 1) := by decide +kernel
theorem dX8_orders_64 : decode cX8_orders 64 = .ok (.if_icmp .ne 9, 3) := by decide +kernel
theorem dX8_orders_67 : decode cX8_orders 67 = .ok (.iinc 8 1, 3) := by decide +kernel
theorem dX8_orders_70 : decode cX8_orders 70 = .ok (.goto (-14), 3) := by decide +kernel
theorem dX8_orders_73 : decode cX8_orders 73 = .ok (.iload 7, 2) := by decide +kernel
theorem dX8_orders_75 : decode cX8_orders 75 = .ok (.ifCond .le 29, 3) := by decide +kernel
theorem dX8_orders_78 : decode cX8_orders 78 = .ok (.iinc 8 1, 3) := by decide +kernel
theorem dX8_orders_81 : decode cX8_orders 81 = .ok (.iload 4, 2) := by decide +kernel
theorem dX8_orders_83 : decode cX8_orders 83 = .ok (.iload 8, 2) := by decide +kernel
theorem dX8_orders_85 : decode cX8_orders 85 = .ok (.ishr, 1) := by decide +kernel
theorem dX8_orders_86 : decode cX8_orders 86 = .ok (.iconst 1, 1) := by decide +kernel
theorem dX8_orders_87 : decode cX8_orders 87 = .ok (.iand, 1) := by decide +kernel
theorem dX8_orders_88 : decode cX8_orders 88 = .ok (.iconst 1, 1) := by decide +kernel
theorem dX8_orders_89 : decode cX8_orders 89 = .ok (.if_icmp .ne 9, 3) := by decide +kernel
theorem dX8_orders_92 : decode cX8_orders 92 = .ok (.iinc 8 1, 3) := by decide +kernel
theorem dX8_orders_95 : decode cX8_orders 95 = .ok (.goto (-14), 3) := by decide +kernel
theorem dX8_orders_98 : decode cX8_orders 98 = .ok (.iinc 7 (-1), 3) := by decide +kernel
theorem dX8_orders_101 : decode cX8_orders 101 = .ok (.goto (-28), 3) := by decide +kernel
theorem dX8_orders_104 : decode cX8_orders 104 = .ok (.aload_n 0, 1) := by decide +kernel
theorem dX8_orders_105 : decode cX8_orders 105 = .ok (.getfield 128, 3) := by decide +kernel
theorem dX8_orders_108 : decode cX8_orders 108 = .ok (.iload 5, 2) := by decide +kernel
theorem dX8_orders_110 : decode cX8_orders 110 = .ok (.iload 8, 2) := by decide +kernel
theorem dX8_orders_112 : decode cX8_orders 112 = .ok (.iastore, 1) := by decide +kernel
theorem dX8_orders_113 : decode cX8_orders 113 = .ok (.iload 4, 2) := by decide +kernel
theorem dX8_orders_115 : decode cX8_orders 115 = .ok (.iconst 1, 1) := by decide +kernel
theorem dX8_orders_116 : decode cX8_orders 116 = .ok (.iload 8, 2) := by decide +kernel
theorem dX8_orders_118 : decode cX8_orders 118 = .ok (.ishl, 1) := by decide +kernel
theorem dX8_orders_119 : decode cX8_orders 119 = .ok (.ior, 1) := by decide +kernel
theorem dX8_orders_120 : decode cX8_orders 120 = .ok (.istore 4, 2) := by decide +kernel
theorem dX8_orders_122 : decode cX8_orders 122 = .ok (.iinc 5 1, 3) := by decide +kernel
theorem dX8_orders_125 : decode cX8_orders 125 = .ok (.goto (-117), 3) := by decide +kernel
theorem dX8_orders_128 : decode cX8_orders 128 = .ok (.return_, 1) := by decide +kernel
theorem dX8_best_0 : decode cX8_best 0 = .ok (.iload_n 2, 1) := by decide +kernel
theorem dX8_best_1 : decode cX8_best 1 = .ok (.iconst 0, 1) := by decide +kernel
theorem dX8_best_2 : decode cX8_best 2 = .ok (.aload_n 0, 1) := by decide +kernel
theorem dX8_best_3 : decode cX8_best 3 = .ok (.iload_n 1, 1) := by decide +kernel
theorem dX8_best_4 : decode cX8_best 4 = .ok (.invokevirtual 245, 3) := by decide +kernel
theorem dX8_best_7 : decode cX8_best 7 = .ok (.iconst 1, 1) := by decide +kernel
theorem dX8_best_8 : decode cX8_best 8 = .ok (.isub, 1) := by decide +kernel
theorem dX8_best_9 : decode cX8_best 9 = .ok (.invokestatic 144, 3) := by decide +kernel
theorem dX8_best_12 : decode cX8_best 12 = .ok (.ifCond .eq 12, 3) := by decide +kernel
theorem dX8_best_15 : decode cX8_best 15 = .ok (.aload_n 0, 1) := by decide +kernel
theorem dX8_best_16 : decode cX8_best 16 = .ok (.getfield 134, 3) := by decide +kernel
theorem dX8_best_19 : decode cX8_best 19 = .ok (.iload_n 2, 1) := by decide +kernel
theorem dX8_best_20 : decode cX8_best 20 = .ok (.iaload, 1) := by decide +kernel
theorem dX8_best_21 : decode cX8_best 21 = .ok (.goto 4, 3) := by decide +kernel
theorem dX8_best_24 : decode cX8_best 24 = .ok (.iconst (-1), 1) := by decide +kernel
theorem dX8_best_25 : decode cX8_best 25 = .ok (.ireturn, 1) := by decide +kernel
theorem dX8_passes_0 : decode cX8_passes 0 = .ok (.iload_n 2, 1) := by decide +kernel
theorem dX8_passes_1 : decode cX8_passes 1 = .ok (.iconst 0, 1) := by decide +kernel
theorem dX8_passes_2 : decode cX8_passes 2 = .ok (.aload_n 0, 1) := by decide +kernel
theorem dX8_passes_3 : decode cX8_passes 3 = .ok (.iload_n 1, 1) := by decide +kernel
theorem dX8_passes_4 : decode cX8_passes 4 = .ok (.invokevirtual 245, 3) := by decide +kernel
theorem dX8_passes_7 : decode cX8_passes 7 = .ok (.iconst 1, 1) := by decide +kernel
theorem dX8_passes_8 : decode cX8_passes 8 = .ok (.isub, 1) := by decide +kernel
theorem dX8_passes_9 : decode cX8_passes 9 = .ok (.invokestatic 144, 3) := by decide +kernel
theorem dX8_passes_12 : decode cX8_passes 12 = .ok (.ifCond .eq 12, 3) := by decide +kernel
theorem dX8_passes_15 : decode cX8_passes 15 = .ok (.aload_n 0, 1) := by decide +kernel
theorem dX8_passes_16 : decode cX8_passes 16 = .ok (.getfield 137, 3) := by decide +kernel
theorem dX8_passes_19 : decode cX8_passes 19 = .ok (.iload_n 2, 1) := by decide +kernel
theorem dX8_passes_20 : decode cX8_passes 20 = .ok (.iaload, 1) := by decide +kernel
theorem dX8_passes_21 : decode cX8_passes 21 = .ok (.goto 4, 3) := by decide +kernel
theorem dX8_passes_24 : decode cX8_passes 24 = .ok (.iconst (-1), 1) := by decide +kernel
theorem dX8_passes_25 : decode cX8_passes 25 = .ok (.ireturn, 1) := by decide +kernel
theorem dX8_told_0 : decode cX8_told 0 = .ok (.aload_n 0, 1) := by decide +kernel
theorem dX8_told_1 : decode cX8_told 1 = .ok (.iload_n 1, 1) := by decide +kernel
theorem dX8_told_2 : decode cX8_told 2 = .ok (.invokevirtual 167, 3) := by decide +kernel
theorem dX8_told_5 : decode cX8_told 5 = .ok (.ifCond .ne 5, 3) := by decide +kernel
theorem dX8_told_8 : decode cX8_told 8 = .ok (.iconst (-1), 1) := by decide +kernel
theorem dX8_told_9 : decode cX8_told 9 = .ok (.ireturn, 1) := by decide +kernel
theorem dX8_told_10 : decode cX8_told 10 = .ok (.iload_n 2, 1) := by decide +kernel
theorem dX8_told_11 : decode cX8_told 11 = .ok (.tableswitch 128 0 7 #[45, 52, 59, 66, 73, 80, 100, 121], 45) := by decide +kernel
theorem dX8_told_56 : decode cX8_told 56 = .ok (.aload_n 0, 1) := by decide +kernel
theorem dX8_told_57 : decode cX8_told 57 = .ok (.getfield 38, 3) := by decide +kernel
theorem dX8_told_60 : decode cX8_told 60 = .ok (.iload_n 1, 1) := by decide +kernel
theorem dX8_told_61 : decode cX8_told 61 = .ok (.iaload, 1) := by decide +kernel
theorem dX8_told_62 : decode cX8_told 62 = .ok (.ireturn, 1) := by decide +kernel
theorem dX8_told_63 : decode cX8_told 63 = .ok (.aload_n 0, 1) := by decide +kernel
theorem dX8_told_64 : decode cX8_told 64 = .ok (.getfield 41, 3) := by decide +kernel
theorem dX8_told_67 : decode cX8_told 67 = .ok (.iload_n 1, 1) := by decide +kernel
theorem dX8_told_68 : decode cX8_told 68 = .ok (.iaload, 1) := by decide +kernel
theorem dX8_told_69 : decode cX8_told 69 = .ok (.ireturn, 1) := by decide +kernel
theorem dX8_told_70 : decode cX8_told 70 = .ok (.aload_n 0, 1) := by decide +kernel
theorem dX8_told_71 : decode cX8_told 71 = .ok (.getfield 44, 3) := by decide +kernel
theorem dX8_told_74 : decode cX8_told 74 = .ok (.iload_n 1, 1) := by decide +kernel
theorem dX8_told_75 : decode cX8_told 75 = .ok (.iaload, 1) := by decide +kernel
theorem dX8_told_76 : decode cX8_told 76 = .ok (.ireturn, 1) := by decide +kernel
theorem dX8_told_77 : decode cX8_told 77 = .ok (.aload_n 0, 1) := by decide +kernel
theorem dX8_told_78 : decode cX8_told 78 = .ok (.getfield 47, 3) := by decide +kernel
theorem dX8_told_81 : decode cX8_told 81 = .ok (.iload_n 1, 1) := by decide +kernel
theorem dX8_told_82 : decode cX8_told 82 = .ok (.iaload, 1) := by decide +kernel
theorem dX8_told_83 : decode cX8_told 83 = .ok (.ireturn, 1) := by decide +kernel
theorem dX8_told_84 : decode cX8_told 84 = .ok (.aload_n 0, 1) := by decide +kernel
theorem dX8_told_85 : decode cX8_told 85 = .ok (.getfield 50, 3) := by decide +kernel
theorem dX8_told_88 : decode cX8_told 88 = .ok (.iload_n 1, 1) := by decide +kernel
theorem dX8_told_89 : decode cX8_told 89 = .ok (.iaload, 1) := by decide +kernel
theorem dX8_told_90 : decode cX8_told 90 = .ok (.ireturn, 1) := by decide +kernel
theorem dX8_told_91 : decode cX8_told 91 = .ok (.aload_n 0, 1) := by decide +kernel
theorem dX8_told_92 : decode cX8_told 92 = .ok (.getfield 50, 3) := by decide +kernel
theorem dX8_told_95 : decode cX8_told 95 = .ok (.iload_n 1, 1) := by decide +kernel
theorem dX8_told_96 : decode cX8_told 96 = .ok (.iaload, 1) := by decide +kernel
theorem dX8_told_97 : decode cX8_told 97 = .ok (.ifCond .ne 12, 3) := by decide +kernel
theorem dX8_told_100 : decode cX8_told 100 = .ok (.aload_n 0, 1) := by decide +kernel
theorem dX8_told_101 : decode cX8_told 101 = .ok (.getfield 53, 3) := by decide +kernel
theorem dX8_told_104 : decode cX8_told 104 = .ok (.iload_n 1, 1) := by decide +kernel
theorem dX8_told_105 : decode cX8_told 105 = .ok (.iaload, 1) := by decide +kernel
theorem dX8_told_106 : decode cX8_told 106 = .ok (.goto 4, 3) := by decide +kernel
theorem dX8_told_109 : decode cX8_told 109 = .ok (.iconst (-1), 1) := by decide +kernel
theorem dX8_told_110 : decode cX8_told 110 = .ok (.ireturn, 1) := by decide +kernel
theorem dX8_told_111 : decode cX8_told 111 = .ok (.aload_n 0, 1) := by decide +kernel
theorem dX8_told_112 : decode cX8_told 112 = .ok (.getfield 50, 3) := by decide +kernel
theorem dX8_told_115 : decode cX8_told 115 = .ok (.iload_n 1, 1) := by decide +kernel
theorem dX8_told_116 : decode cX8_told 116 = .ok (.iaload, 1) := by decide +kernel
theorem dX8_told_117 : decode cX8_told 117 = .ok (.iconst 1, 1) := by decide +kernel
theorem dX8_told_118 : decode cX8_told 118 = .ok (.if_icmp .ne 12, 3) := by decide +kernel
theorem dX8_told_121 : decode cX8_told 121 = .ok (.aload_n 0, 1) := by decide +kernel
theorem dX8_told_122 : decode cX8_told 122 = .ok (.getfield 56, 3) := by decide +kernel
theorem dX8_told_125 : decode cX8_told 125 = .ok (.iload_n 1, 1) := by decide +kernel
theorem dX8_told_126 : decode cX8_told 126 = .ok (.iaload, 1) := by decide +kernel
theorem dX8_told_127 : decode cX8_told 127 = .ok (.goto 4, 3) := by decide +kernel
theorem dX8_told_130 : decode cX8_told 130 = .ok (.iconst (-1), 1) := by decide +kernel
theorem dX8_told_131 : decode cX8_told 131 = .ok (.ireturn, 1) := by decide +kernel
theorem dX8_told_132 : decode cX8_told 132 = .ok (.aload_n 0, 1) := by decide +kernel
theorem dX8_told_133 : decode cX8_told 133 = .ok (.getfield 65, 3) := by decide +kernel
theorem dX8_told_136 : decode cX8_told 136 = .ok (.iload_n 1, 1) := by decide +kernel
theorem dX8_told_137 : decode cX8_told 137 = .ok (.iaload, 1) := by decide +kernel
theorem dX8_told_138 : decode cX8_told 138 = .ok (.ireturn, 1) := by decide +kernel
theorem dX8_told_139 : decode cX8_told 139 = .ok (.iconst (-1), 1) := by decide +kernel
theorem dX8_told_140 : decode cX8_told 140 = .ok (.ireturn, 1) := by decide +kernel
theorem dX8_raft_0 : decode cX8_raft 0 = .ok (.iload_n 1, 1) := by decide +kernel
theorem dX8_raft_1 : decode cX8_raft 1 = .ok (.iconst 0, 1) := by decide +kernel
theorem dX8_raft_2 : decode cX8_raft 2 = .ok (.aload_n 0, 1) := by decide +kernel
theorem dX8_raft_3 : decode cX8_raft 3 = .ok (.getfield 151, 3) := by decide +kernel
theorem dX8_raft_6 : decode cX8_raft 6 = .ok (.iconst 1, 1) := by decide +kernel
theorem dX8_raft_7 : decode cX8_raft 7 = .ok (.isub, 1) := by decide +kernel
theorem dX8_raft_8 : decode cX8_raft 8 = .ok (.invokestatic 144, 3) := by decide +kernel
theorem dX8_raft_11 : decode cX8_raft 11 = .ok (.ifCond .ne 5, 3) := by decide +kernel
theorem dX8_raft_14 : decode cX8_raft 14 = .ok (.iconst (-1), 1) := by decide +kernel
theorem dX8_raft_15 : decode cX8_raft 15 = .ok (.ireturn, 1) := by decide +kernel
theorem dX8_raft_16 : decode cX8_raft 16 = .ok (.iload_n 2, 1) := by decide +kernel
theorem dX8_raft_17 : decode cX8_raft 17 = .ok (.tableswitch 104 0 6 #[43, 50, 71, 78, 84, 90, 97], 43) := by decide +kernel
theorem dX8_raft_60 : decode cX8_raft 60 = .ok (.aload_n 0, 1) := by decide +kernel
theorem dX8_raft_61 : decode cX8_raft 61 = .ok (.getfield 71, 3) := by decide +kernel
theorem dX8_raft_64 : decode cX8_raft 64 = .ok (.iload_n 1, 1) := by decide +kernel
theorem dX8_raft_65 : decode cX8_raft 65 = .ok (.iaload, 1) := by decide +kernel
theorem dX8_raft_66 : decode cX8_raft 66 = .ok (.ireturn, 1) := by decide +kernel
theorem dX8_raft_67 : decode cX8_raft 67 = .ok (.aload_n 0, 1) := by decide +kernel
theorem dX8_raft_68 : decode cX8_raft 68 = .ok (.getfield 71, 3) := by decide +kernel
theorem dX8_raft_71 : decode cX8_raft 71 = .ok (.iload_n 1, 1) := by decide +kernel
theorem dX8_raft_72 : decode cX8_raft 72 = .ok (.iaload, 1) := by decide +kernel
theorem dX8_raft_73 : decode cX8_raft 73 = .ok (.iconst 3, 1) := by decide +kernel
theorem dX8_raft_74 : decode cX8_raft 74 = .ok (.if_icmp .ne 7, 3) := by decide +kernel
theorem dX8_raft_77 : decode cX8_raft 77 = .ok (.iconst (-1), 1) := by decide +kernel
theorem dX8_raft_78 : decode cX8_raft 78 = .ok (.goto 9, 3) := by decide +kernel
theorem dX8_raft_81 : decode cX8_raft 81 = .ok (.aload_n 0, 1) := by decide +kernel
theorem dX8_raft_82 : decode cX8_raft 82 = .ok (.getfield 74, 3) := by decide +kernel
theorem dX8_raft_85 : decode cX8_raft 85 = .ok (.iload_n 1, 1) := by decide +kernel
theorem dX8_raft_86 : decode cX8_raft 86 = .ok (.iaload, 1) := by decide +kernel
theorem dX8_raft_87 : decode cX8_raft 87 = .ok (.ireturn, 1) := by decide +kernel
theorem dX8_raft_88 : decode cX8_raft 88 = .ok (.aload_n 0, 1) := by decide +kernel
theorem dX8_raft_89 : decode cX8_raft 89 = .ok (.getfield 77, 3) := by decide +kernel
theorem dX8_raft_92 : decode cX8_raft 92 = .ok (.iload_n 1, 1) := by decide +kernel
theorem dX8_raft_93 : decode cX8_raft 93 = .ok (.iaload, 1) := by decide +kernel
theorem dX8_raft_94 : decode cX8_raft 94 = .ok (.ireturn, 1) := by decide +kernel
theorem dX8_raft_95 : decode cX8_raft 95 = .ok (.aload_n 0, 1) := by decide +kernel
theorem dX8_raft_96 : decode cX8_raft 96 = .ok (.iload_n 1, 1) := by decide +kernel
theorem dX8_raft_97 : decode cX8_raft 97 = .ok (.invokevirtual 210, 3) := by decide +kernel
theorem dX8_raft_100 : decode cX8_raft 100 = .ok (.ireturn, 1) := by decide +kernel
theorem dX8_raft_101 : decode cX8_raft 101 = .ok (.aload_n 0, 1) := by decide +kernel
theorem dX8_raft_102 : decode cX8_raft 102 = .ok (.iload_n 1, 1) := by decide +kernel
theorem dX8_raft_103 : decode cX8_raft 103 = .ok (.invokevirtual 213, 3) := by decide +kernel
theorem dX8_raft_106 : decode cX8_raft 106 = .ok (.ireturn, 1) := by decide +kernel
theorem dX8_raft_107 : decode cX8_raft 107 = .ok (.aload_n 0, 1) := by decide +kernel
theorem dX8_raft_108 : decode cX8_raft 108 = .ok (.getfield 80, 3) := by decide +kernel
theorem dX8_raft_111 : decode cX8_raft 111 = .ok (.iload_n 1, 1) := by decide +kernel
theorem dX8_raft_112 : decode cX8_raft 112 = .ok (.iaload, 1) := by decide +kernel
theorem dX8_raft_113 : decode cX8_raft 113 = .ok (.ireturn, 1) := by decide +kernel
theorem dX8_raft_114 : decode cX8_raft 114 = .ok (.aload_n 0, 1) := by decide +kernel
theorem dX8_raft_115 : decode cX8_raft 115 = .ok (.getfield 83, 3) := by decide +kernel
theorem dX8_raft_118 : decode cX8_raft 118 = .ok (.iload_n 1, 1) := by decide +kernel
theorem dX8_raft_119 : decode cX8_raft 119 = .ok (.iaload, 1) := by decide +kernel
theorem dX8_raft_120 : decode cX8_raft 120 = .ok (.ireturn, 1) := by decide +kernel
theorem dX8_raft_121 : decode cX8_raft 121 = .ok (.iconst (-1), 1) := by decide +kernel
theorem dX8_raft_122 : decode cX8_raft 122 = .ok (.ireturn, 1) := by decide +kernel
theorem dX8_crewed_0 : decode cX8_crewed 0 = .ok (.iload_n 1, 1) := by decide +kernel
theorem dX8_crewed_1 : decode cX8_crewed 1 = .ok (.iconst 0, 1) := by decide +kernel
theorem dX8_crewed_2 : decode cX8_crewed 2 = .ok (.aload_n 0, 1) := by decide +kernel
theorem dX8_crewed_3 : decode cX8_crewed 3 = .ok (.getfield 191, 3) := by decide +kernel
theorem dX8_crewed_6 : decode cX8_crewed 6 = .ok (.iconst 1, 1) := by decide +kernel
theorem dX8_crewed_7 : decode cX8_crewed 7 = .ok (.isub, 1) := by decide +kernel
theorem dX8_crewed_8 : decode cX8_crewed 8 = .ok (.invokestatic 144, 3) := by decide +kernel
theorem dX8_crewed_11 : decode cX8_crewed 11 = .ok (.ifCond .ne 5, 3) := by decide +kernel
theorem dX8_crewed_14 : decode cX8_crewed 14 = .ok (.iconst (-1), 1) := by decide +kernel
theorem dX8_crewed_15 : decode cX8_crewed 15 = .ok (.ireturn, 1) := by decide +kernel
theorem dX8_crewed_16 : decode cX8_crewed 16 = .ok (.iload_n 2, 1) := by decide +kernel
theorem dX8_crewed_17 : decode cX8_crewed 17 = .ok (.tableswitch 93 0 3 #[31, 38, 58, 79], 31) := by decide +kernel
theorem dX8_crewed_48 : decode cX8_crewed 48 = .ok (.aload_n 0, 1) := by decide +kernel
theorem dX8_crewed_49 : decode cX8_crewed 49 = .ok (.getfield 89, 3) := by decide +kernel
theorem dX8_crewed_52 : decode cX8_crewed 52 = .ok (.iload_n 1, 1) := by decide +kernel
theorem dX8_crewed_53 : decode cX8_crewed 53 = .ok (.iaload, 1) := by decide +kernel
theorem dX8_crewed_54 : decode cX8_crewed 54 = .ok (.ireturn, 1) := by decide +kernel
theorem dX8_crewed_55 : decode cX8_crewed 55 = .ok (.aload_n 0, 1) := by decide +kernel
theorem dX8_crewed_56 : decode cX8_crewed 56 = .ok (.getfield 89, 3) := by decide +kernel
theorem dX8_crewed_59 : decode cX8_crewed 59 = .ok (.iload_n 1, 1) := by decide +kernel
theorem dX8_crewed_60 : decode cX8_crewed 60 = .ok (.iaload, 1) := by decide +kernel
theorem dX8_crewed_61 : decode cX8_crewed 61 = .ok (.ifCond .ne 12, 3) := by decide +kernel
theorem dX8_crewed_64 : decode cX8_crewed 64 = .ok (.aload_n 0, 1) := by decide +kernel
theorem dX8_crewed_65 : decode cX8_crewed 65 = .ok (.getfield 92, 3) := by decide +kernel
theorem dX8_crewed_68 : decode cX8_crewed 68 = .ok (.iload_n 1, 1) := by decide +kernel
theorem dX8_crewed_69 : decode cX8_crewed 69 = .ok (.iaload, 1) := by decide +kernel
theorem dX8_crewed_70 : decode cX8_crewed 70 = .ok (.goto 4, 3) := by decide +kernel
theorem dX8_crewed_73 : decode cX8_crewed 73 = .ok (.iconst (-1), 1) := by decide +kernel
theorem dX8_crewed_74 : decode cX8_crewed 74 = .ok (.ireturn, 1) := by decide +kernel
theorem dX8_crewed_75 : decode cX8_crewed 75 = .ok (.aload_n 0, 1) := by decide +kernel
theorem dX8_crewed_76 : decode cX8_crewed 76 = .ok (.getfield 89, 3) := by decide +kernel
theorem dX8_crewed_79 : decode cX8_crewed 79 = .ok (.iload_n 1, 1) := by decide +kernel
theorem dX8_crewed_80 : decode cX8_crewed 80 = .ok (.iaload, 1) := by decide +kernel
theorem dX8_crewed_81 : decode cX8_crewed 81 = .ok (.iconst 2, 1) := by decide +kernel
theorem dX8_crewed_82 : decode cX8_crewed 82 = .ok (.if_icmp .ne 12, 3) := by decide +kernel
theorem dX8_crewed_85 : decode cX8_crewed 85 = .ok (.aload_n 0, 1) := by decide +kernel
theorem dX8_crewed_86 : decode cX8_crewed 86 = .ok (.getfield 98, 3) := by decide +kernel
theorem dX8_crewed_89 : decode cX8_crewed 89 = .ok (.iload_n 1, 1) := by decide +kernel
theorem dX8_crewed_90 : decode cX8_crewed 90 = .ok (.iaload, 1) := by decide +kernel
theorem dX8_crewed_91 : decode cX8_crewed 91 = .ok (.goto 4, 3) := by decide +kernel
theorem dX8_crewed_94 : decode cX8_crewed 94 = .ok (.iconst (-1), 1) := by decide +kernel
theorem dX8_crewed_95 : decode cX8_crewed 95 = .ok (.ireturn, 1) := by decide +kernel
theorem dX8_crewed_96 : decode cX8_crewed 96 = .ok (.aload_n 0, 1) := by decide +kernel
theorem dX8_crewed_97 : decode cX8_crewed 97 = .ok (.iload_n 1, 1) := by decide +kernel
theorem dX8_crewed_98 : decode cX8_crewed 98 = .ok (.invokevirtual 197, 3) := by decide +kernel
theorem dX8_crewed_101 : decode cX8_crewed 101 = .ok (.ifCond .eq 7, 3) := by decide +kernel
theorem dX8_crewed_104 : decode cX8_crewed 104 = .ok (.iconst 1, 1) := by decide +kernel
theorem dX8_crewed_105 : decode cX8_crewed 105 = .ok (.goto 4, 3) := by decide +kernel
theorem dX8_crewed_108 : decode cX8_crewed 108 = .ok (.iconst 0, 1) := by decide +kernel
theorem dX8_crewed_109 : decode cX8_crewed 109 = .ok (.ireturn, 1) := by decide +kernel
theorem dX8_crewed_110 : decode cX8_crewed 110 = .ok (.iconst (-1), 1) := by decide +kernel
theorem dX8_crewed_111 : decode cX8_crewed 111 = .ok (.ireturn, 1) := by decide +kernel
theorem dX8_count_0 : decode cX8_count 0 = .ok (.iconst 0, 1) := by decide +kernel
theorem dX8_count_1 : decode cX8_count 1 = .ok (.istore_n 2, 1) := by decide +kernel
theorem dX8_count_2 : decode cX8_count 2 = .ok (.iload_n 1, 1) := by decide +kernel
theorem dX8_count_3 : decode cX8_count 3 = .ok (.tableswitch 147 0 7 #[45, 50, 55, 60, 65, 70, 75, 111], 45) := by decide +kernel
theorem dX8_count_48 : decode cX8_count 48 = .ok (.aload_n 0, 1) := by decide +kernel
theorem dX8_count_49 : decode cX8_count 49 = .ok (.getfield 194, 3) := by decide +kernel
theorem dX8_count_52 : decode cX8_count 52 = .ok (.ireturn, 1) := by decide +kernel
theorem dX8_count_53 : decode cX8_count 53 = .ok (.aload_n 0, 1) := by decide +kernel
theorem dX8_count_54 : decode cX8_count 54 = .ok (.getfield 140, 3) := by decide +kernel
theorem dX8_count_57 : decode cX8_count 57 = .ok (.ireturn, 1) := by decide +kernel
theorem dX8_count_58 : decode cX8_count 58 = .ok (.aload_n 0, 1) := by decide +kernel
theorem dX8_count_59 : decode cX8_count 59 = .ok (.getfield 148, 3) := by decide +kernel
theorem dX8_count_62 : decode cX8_count 62 = .ok (.ireturn, 1) := by decide +kernel
theorem dX8_count_63 : decode cX8_count 63 = .ok (.aload_n 0, 1) := by decide +kernel
theorem dX8_count_64 : decode cX8_count 64 = .ok (.getfield 151, 3) := by decide +kernel
theorem dX8_count_67 : decode cX8_count 67 = .ok (.ireturn, 1) := by decide +kernel
theorem dX8_count_68 : decode cX8_count 68 = .ok (.aload_n 0, 1) := by decide +kernel
theorem dX8_count_69 : decode cX8_count 69 = .ok (.getfield 191, 3) := by decide +kernel
theorem dX8_count_72 : decode cX8_count 72 = .ok (.ireturn, 1) := by decide +kernel
theorem dX8_count_73 : decode cX8_count 73 = .ok (.aload_n 0, 1) := by decide +kernel
theorem dX8_count_74 : decode cX8_count 74 = .ok (.getfield 222, 3) := by decide +kernel
theorem dX8_count_77 : decode cX8_count 77 = .ok (.ireturn, 1) := by decide +kernel
theorem dX8_count_78 : decode cX8_count 78 = .ok (.iconst 0, 1) := by decide +kernel
theorem dX8_count_79 : decode cX8_count 79 = .ok (.istore_n 3, 1) := by decide +kernel
theorem dX8_count_80 : decode cX8_count 80 = .ok (.iload_n 3, 1) := by decide +kernel
theorem dX8_count_81 : decode cX8_count 81 = .ok (.aload_n 0, 1) := by decide +kernel
theorem dX8_count_82 : decode cX8_count 82 = .ok (.getfield 148, 3) := by decide +kernel
theorem dX8_count_85 : decode cX8_count 85 = .ok (.if_icmp .ge 27, 3) := by decide +kernel
theorem dX8_count_88 : decode cX8_count 88 = .ok (.iload_n 2, 1) := by decide +kernel
theorem dX8_count_89 : decode cX8_count 89 = .ok (.aload_n 0, 1) := by decide +kernel
theorem dX8_count_90 : decode cX8_count 90 = .ok (.getfield 50, 3) := by decide +kernel
theorem dX8_count_93 : decode cX8_count 93 = .ok (.iload_n 3, 1) := by decide +kernel
theorem dX8_count_94 : decode cX8_count 94 = .ok (.iaload, 1) := by decide +kernel
theorem dX8_count_95 : decode cX8_count 95 = .ok (.iconst 2, 1) := by decide +kernel
theorem dX8_count_96 : decode cX8_count 96 = .ok (.if_icmp .ne 7, 3) := by decide +kernel
theorem dX8_count_99 : decode cX8_count 99 = .ok (.iconst 1, 1) := by decide +kernel
theorem dX8_count_100 : decode cX8_count 100 = .ok (.goto 4, 3) := by decide +kernel
theorem dX8_count_103 : decode cX8_count 103 = .ok (.iconst 0, 1) := by decide +kernel
theorem dX8_count_104 : decode cX8_count 104 = .ok (.iadd, 1) := by decide +kernel
theorem dX8_count_105 : decode cX8_count 105 = .ok (.istore_n 2, 1) := by decide +kernel
theorem dX8_count_106 : decode cX8_count 106 = .ok (.iinc 3 1, 3) := by decide +kernel
theorem dX8_count_109 : decode cX8_count 109 = .ok (.goto (-29), 3) := by decide +kernel
theorem dX8_count_112 : decode cX8_count 112 = .ok (.iload_n 2, 1) := by decide +kernel
theorem dX8_count_113 : decode cX8_count 113 = .ok (.ireturn, 1) := by decide +kernel
theorem dX8_count_114 : decode cX8_count 114 = .ok (.iconst 0, 1) := by decide +kernel
theorem dX8_count_115 : decode cX8_count 115 = .ok (.istore_n 3, 1) := by decide +kernel
theorem dX8_count_116 : decode cX8_count 116 = .ok (.iload_n 3, 1) := by decide +kernel
theorem dX8_count_117 : decode cX8_count 117 = .ok (.aload_n 0, 1) := by decide +kernel
theorem dX8_count_118 : decode cX8_count 118 = .ok (.getfield 148, 3) := by decide +kernel
theorem dX8_count_121 : decode cX8_count 121 = .ok (.if_icmp .ge 27, 3) := by decide +kernel
theorem dX8_count_124 : decode cX8_count 124 = .ok (.iload_n 2, 1) := by decide +kernel
theorem dX8_count_125 : decode cX8_count 125 = .ok (.aload_n 0, 1) := by decide +kernel
theorem dX8_count_126 : decode cX8_count 126 = .ok (.getfield 50, 3) := by decide +kernel
theorem dX8_count_129 : decode cX8_count 129 = .ok (.iload_n 3, 1) := by decide +kernel
theorem dX8_count_130 : decode cX8_count 130 = .ok (.iaload, 1) := by decide +kernel
theorem dX8_count_131 : decode cX8_count 131 = .ok (.iconst 3, 1) := by decide +kernel
theorem dX8_count_132 : decode cX8_count 132 = .ok (.if_icmp .ne 7, 3) := by decide +kernel
theorem dX8_count_135 : decode cX8_count 135 = .ok (.iconst 1, 1) := by decide +kernel
theorem dX8_count_136 : decode cX8_count 136 = .ok (.goto 4, 3) := by decide +kernel
theorem dX8_count_139 : decode cX8_count 139 = .ok (.iconst 0, 1) := by decide +kernel
theorem dX8_count_140 : decode cX8_count 140 = .ok (.iadd, 1) := by decide +kernel
theorem dX8_count_141 : decode cX8_count 141 = .ok (.istore_n 2, 1) := by decide +kernel
theorem dX8_count_142 : decode cX8_count 142 = .ok (.iinc 3 1, 3) := by decide +kernel
theorem dX8_count_145 : decode cX8_count 145 = .ok (.goto (-29), 3) := by decide +kernel
theorem dX8_count_148 : decode cX8_count 148 = .ok (.iload_n 2, 1) := by decide +kernel
theorem dX8_count_149 : decode cX8_count 149 = .ok (.ireturn, 1) := by decide +kernel
theorem dX8_count_150 : decode cX8_count 150 = .ok (.iload_n 1, 1) := by decide +kernel
theorem dX8_count_151 : decode cX8_count 151 = .ok (.bipush 100, 2) := by decide +kernel
theorem dX8_count_153 : decode cX8_count 153 = .ok (.bipush 99, 2) := by decide +kernel
theorem dX8_count_155 : decode cX8_count 155 = .ok (.aload_n 0, 1) := by decide +kernel
theorem dX8_count_156 : decode cX8_count 156 = .ok (.getfield 140, 3) := by decide +kernel
theorem dX8_count_159 : decode cX8_count 159 = .ok (.iadd, 1) := by decide +kernel
theorem dX8_count_160 : decode cX8_count 160 = .ok (.invokestatic 144, 3) := by decide +kernel
theorem dX8_count_163 : decode cX8_count 163 = .ok (.ifCond .eq 15, 3) := by decide +kernel
theorem dX8_count_166 : decode cX8_count 166 = .ok (.aload_n 0, 1) := by decide +kernel
theorem dX8_count_167 : decode cX8_count 167 = .ok (.getfield 25, 3) := by decide +kernel
theorem dX8_count_170 : decode cX8_count 170 = .ok (.iload_n 1, 1) := by decide +kernel
theorem dX8_count_171 : decode cX8_count 171 = .ok (.bipush 100, 2) := by decide +kernel
theorem dX8_count_173 : decode cX8_count 173 = .ok (.isub, 1) := by decide +kernel
theorem dX8_count_174 : decode cX8_count 174 = .ok (.iaload, 1) := by decide +kernel
theorem dX8_count_175 : decode cX8_count 175 = .ok (.goto 4, 3) := by decide +kernel
theorem dX8_count_178 : decode cX8_count 178 = .ok (.iconst (-1), 1) := by decide +kernel
theorem dX8_count_179 : decode cX8_count 179 = .ok (.ireturn, 1) := by decide +kernel
theorem dJ9_max_7cf53_0 : decode cJ9_max_7cf53 0 = .ok (.iload_n 0, 1) := by decide +kernel
theorem dJ9_max_7cf53_1 : decode cJ9_max_7cf53 1 = .ok (.iload_n 1, 1) := by decide +kernel
theorem dJ9_max_7cf53_2 : decode cJ9_max_7cf53 2 = .ok (.if_icmp .lt 7, 3) := by decide +kernel
theorem dJ9_max_7cf53_5 : decode cJ9_max_7cf53 5 = .ok (.iload_n 0, 1) := by decide +kernel
theorem dJ9_max_7cf53_6 : decode cJ9_max_7cf53 6 = .ok (.goto 4, 3) := by decide +kernel
theorem dJ9_max_7cf53_9 : decode cJ9_max_7cf53 9 = .ok (.iload_n 1, 1) := by decide +kernel
theorem dJ9_max_7cf53_10 : decode cJ9_max_7cf53 10 = .ok (.ireturn, 1) := by decide +kernel
theorem dJ9_min_7cf53_0 : decode cJ9_min_7cf53 0 = .ok (.iload_n 0, 1) := by decide +kernel
theorem dJ9_min_7cf53_1 : decode cJ9_min_7cf53 1 = .ok (.iload_n 1, 1) := by decide +kernel
theorem dJ9_min_7cf53_2 : decode cJ9_min_7cf53 2 = .ok (.if_icmp .gt 7, 3) := by decide +kernel
theorem dJ9_min_7cf53_5 : decode cJ9_min_7cf53 5 = .ok (.iload_n 0, 1) := by decide +kernel
theorem dJ9_min_7cf53_6 : decode cJ9_min_7cf53 6 = .ok (.goto 4, 3) := by decide +kernel
theorem dJ9_min_7cf53_9 : decode cJ9_min_7cf53 9 = .ok (.iload_n 1, 1) := by decide +kernel
theorem dJ9_min_7cf53_10 : decode cJ9_min_7cf53 10 = .ok (.ireturn, 1) := by decide +kernel
theorem dL_law_0 : decode cL_law 0 = .ok (.new 7, 3) := by decide +kernel
theorem dL_law_3 : decode cL_law 3 = .ok (.dup, 1) := by decide +kernel
theorem dL_law_4 : decode cL_law 4 = .ok (.invokespecial 9, 3) := by decide +kernel
theorem dL_law_7 : decode cL_law 7 = .ok (.astore_n 1, 1) := by decide +kernel
theorem dL_law_8 : decode cL_law 8 = .ok (.new 10, 3) := by decide +kernel
theorem dL_law_11 : decode cL_law 11 = .ok (.dup, 1) := by decide +kernel
theorem dL_law_12 : decode cL_law 12 = .ok (.invokespecial 12, 3) := by decide +kernel
theorem dL_law_15 : decode cL_law 15 = .ok (.astore_n 2, 1) := by decide +kernel
theorem dL_law_16 : decode cL_law 16 = .ok (.iconst 0, 1) := by decide +kernel
theorem dL_law_17 : decode cL_law 17 = .ok (.istore_n 3, 1) := by decide +kernel
theorem dL_law_18 : decode cL_law 18 = .ok (.iload_n 3, 1) := by decide +kernel
theorem dL_law_19 : decode cL_law 19 = .ok (.aload_n 0, 1) := by decide +kernel
theorem dL_law_20 : decode cL_law 20 = .ok (.arraylength, 1) := by decide +kernel
theorem dL_law_21 : decode cL_law 21 = .ok (.iconst 5, 1) := by decide +kernel
theorem dL_law_22 : decode cL_law 22 = .ok (.isub, 1) := by decide +kernel
theorem dL_law_23 : decode cL_law 23 = .ok (.if_icmp .gt 1002, 3) := by decide +kernel
theorem dL_law_26 : decode cL_law 26 = .ok (.aload_n 0, 1) := by decide +kernel
theorem dL_law_27 : decode cL_law 27 = .ok (.iload_n 3, 1) := by decide +kernel
theorem dL_law_28 : decode cL_law 28 = .ok (.iaload, 1) := by decide +kernel
theorem dL_law_29 : decode cL_law 29 = .ok (.bipush 31, 2) := by decide +kernel
theorem dL_law_31 : decode cL_law 31 = .ok (.iand, 1) := by decide +kernel
theorem dL_law_32 : decode cL_law 32 = .ok (.tableswitch 987 0 26 #[124, 193, 236, 259, 282, 295, 328, 361, 384, 407, 440, 463, 486, 509, 552, 601, 634, 667, 720, 743, 776, 799, 832, 865, 898, 931, 964], 124) := by decide +kernel
theorem dL_law_156 : decode cL_law 156 = .ok (.aload_n 1, 1) := by decide +kernel
theorem dL_law_157 : decode cL_law 157 = .ok (.aload_n 0, 1) := by decide +kernel
theorem dL_law_158 : decode cL_law 158 = .ok (.iload_n 3, 1) := by decide +kernel
theorem dL_law_159 : decode cL_law 159 = .ok (.iconst 1, 1) := by decide +kernel
theorem dL_law_160 : decode cL_law 160 = .ok (.iadd, 1) := by decide +kernel
theorem dL_law_161 : decode cL_law 161 = .ok (.iaload, 1) := by decide +kernel
theorem dL_law_162 : decode cL_law 162 = .ok (.aload_n 0, 1) := by decide +kernel
theorem dL_law_163 : decode cL_law 163 = .ok (.iload_n 3, 1) := by decide +kernel
theorem dL_law_164 : decode cL_law 164 = .ok (.iconst 2, 1) := by decide +kernel
theorem dL_law_165 : decode cL_law 165 = .ok (.iadd, 1) := by decide +kernel
theorem dL_law_166 : decode cL_law 166 = .ok (.iaload, 1) := by decide +kernel
theorem dL_law_167 : decode cL_law 167 = .ok (.aload_n 0, 1) := by decide +kernel
theorem dL_law_168 : decode cL_law 168 = .ok (.iload_n 3, 1) := by decide +kernel
theorem dL_law_169 : decode cL_law 169 = .ok (.iconst 3, 1) := by decide +kernel
theorem dL_law_170 : decode cL_law 170 = .ok (.iadd, 1) := by decide +kernel
theorem dL_law_171 : decode cL_law 171 = .ok (.iaload, 1) := by decide +kernel
theorem dL_law_172 : decode cL_law 172 = .ok (.aload_n 0, 1) := by decide +kernel
theorem dL_law_173 : decode cL_law 173 = .ok (.iload_n 3, 1) := by decide +kernel
theorem dL_law_174 : decode cL_law 174 = .ok (.iconst 4, 1) := by decide +kernel
theorem dL_law_175 : decode cL_law 175 = .ok (.iadd, 1) := by decide +kernel
theorem dL_law_176 : decode cL_law 176 = .ok (.iaload, 1) := by decide +kernel
theorem dL_law_177 : decode cL_law 177 = .ok (.ifCond .eq 7, 3) := by decide +kernel
theorem dL_law_180 : decode cL_law 180 = .ok (.iconst 1, 1) := by decide +kernel
theorem dL_law_181 : decode cL_law 181 = .ok (.goto 4, 3) := by decide +kernel
theorem dL_law_184 : decode cL_law 184 = .ok (.iconst 0, 1) := by decide +kernel
theorem dL_law_185 : decode cL_law 185 = .ok (.invokevirtual 13, 3) := by decide +kernel
theorem dL_law_188 : decode cL_law 188 = .ok (.aload_n 2, 1) := by decide +kernel
theorem dL_law_189 : decode cL_law 189 = .ok (.aload_n 0, 1) := by decide +kernel
theorem dL_law_190 : decode cL_law 190 = .ok (.iload_n 3, 1) := by decide +kernel
theorem dL_law_191 : decode cL_law 191 = .ok (.iconst 1, 1) := by decide +kernel
theorem dL_law_192 : decode cL_law 192 = .ok (.iadd, 1) := by decide +kernel
theorem dL_law_193 : decode cL_law 193 = .ok (.iaload, 1) := by decide +kernel
theorem dL_law_194 : decode cL_law 194 = .ok (.aload_n 0, 1) := by decide +kernel
theorem dL_law_195 : decode cL_law 195 = .ok (.iload_n 3, 1) := by decide +kernel
theorem dL_law_196 : decode cL_law 196 = .ok (.iconst 2, 1) := by decide +kernel
theorem dL_law_197 : decode cL_law 197 = .ok (.iadd, 1) := by decide +kernel
theorem dL_law_198 : decode cL_law 198 = .ok (.iaload, 1) := by decide +kernel
theorem dL_law_199 : decode cL_law 199 = .ok (.aload_n 0, 1) := by decide +kernel
theorem dL_law_200 : decode cL_law 200 = .ok (.iload_n 3, 1) := by decide +kernel
theorem dL_law_201 : decode cL_law 201 = .ok (.iconst 3, 1) := by decide +kernel
theorem dL_law_202 : decode cL_law 202 = .ok (.iadd, 1) := by decide +kernel
theorem dL_law_203 : decode cL_law 203 = .ok (.iaload, 1) := by decide +kernel
theorem dL_law_204 : decode cL_law 204 = .ok (.aload_n 0, 1) := by decide +kernel
theorem dL_law_205 : decode cL_law 205 = .ok (.iload_n 3, 1) := by decide +kernel
theorem dL_law_206 : decode cL_law 206 = .ok (.iconst 4, 1) := by decide +kernel
theorem dL_law_207 : decode cL_law 207 = .ok (.iadd, 1) := by decide +kernel
theorem dL_law_208 : decode cL_law 208 = .ok (.iaload, 1) := by decide +kernel
theorem dL_law_209 : decode cL_law 209 = .ok (.ifCond .eq 7, 3) := by decide +kernel
theorem dL_law_212 : decode cL_law 212 = .ok (.iconst 1, 1) := by decide +kernel
theorem dL_law_213 : decode cL_law 213 = .ok (.goto 4, 3) := by decide +kernel
theorem dL_law_216 : decode cL_law 216 = .ok (.iconst 0, 1) := by decide +kernel
theorem dL_law_217 : decode cL_law 217 = .ok (.invokevirtual 17, 3) := by decide +kernel
theorem dL_law_220 : decode cL_law 220 = .ok (.if_icmp .eq 799, 3) := by decide +kernel
theorem dL_law_223 : decode cL_law 223 = .ok (.iconst 0, 1) := by decide +kernel
theorem dL_law_224 : decode cL_law 224 = .ok (.ireturn, 1) := by decide +kernel
theorem dL_law_225 : decode cL_law 225 = .ok (.aload_n 1, 1) := by decide +kernel
theorem dL_law_226 : decode cL_law 226 = .ok (.aload_n 0, 1) := by decide +kernel
theorem dL_law_227 : decode cL_law 227 = .ok (.iload_n 3, 1) := by decide +kernel
theorem dL_law_228 : decode cL_law 228 = .ok (.iconst 1, 1) := by decide +kernel
theorem dL_law_229 : decode cL_law 229 = .ok (.iadd, 1) := by decide +kernel
theorem dL_law_230 : decode cL_law 230 = .ok (.iaload, 1) := by decide +kernel
theorem dL_law_231 : decode cL_law 231 = .ok (.aload_n 0, 1) := by decide +kernel
theorem dL_law_232 : decode cL_law 232 = .ok (.iload_n 3, 1) := by decide +kernel
theorem dL_law_233 : decode cL_law 233 = .ok (.iconst 2, 1) := by decide +kernel
theorem dL_law_234 : decode cL_law 234 = .ok (.iadd, 1) := by decide +kernel
theorem dL_law_235 : decode cL_law 235 = .ok (.iaload, 1) := by decide +kernel
theorem dL_law_236 : decode cL_law 236 = .ok (.aload_n 0, 1) := by decide +kernel
theorem dL_law_237 : decode cL_law 237 = .ok (.iload_n 3, 1) := by decide +kernel
theorem dL_law_238 : decode cL_law 238 = .ok (.iconst 3, 1) := by decide +kernel
theorem dL_law_239 : decode cL_law 239 = .ok (.iadd, 1) := by decide +kernel
theorem dL_law_240 : decode cL_law 240 = .ok (.iaload, 1) := by decide +kernel
theorem dL_law_241 : decode cL_law 241 = .ok (.invokevirtual 18, 3) := by decide +kernel
theorem dL_law_244 : decode cL_law 244 = .ok (.aload_n 2, 1) := by decide +kernel
theorem dL_law_245 : decode cL_law 245 = .ok (.aload_n 0, 1) := by decide +kernel
theorem dL_law_246 : decode cL_law 246 = .ok (.iload_n 3, 1) := by decide +kernel
theorem dL_law_247 : decode cL_law 247 = .ok (.iconst 1, 1) := by decide +kernel
theorem dL_law_248 : decode cL_law 248 = .ok (.iadd, 1) := by decide +kernel
theorem dL_law_249 : decode cL_law 249 = .ok (.iaload, 1) := by decide +kernel
theorem dL_law_250 : decode cL_law 250 = .ok (.aload_n 0, 1) := by decide +kernel
theorem dL_law_251 : decode cL_law 251 = .ok (.iload_n 3, 1) := by decide +kernel
theorem dL_law_252 : decode cL_law 252 = .ok (.iconst 2, 1) := by decide +kernel
theorem dL_law_253 : decode cL_law 253 = .ok (.iadd, 1) := by decide +kernel
theorem dL_law_254 : decode cL_law 254 = .ok (.iaload, 1) := by decide +kernel
theorem dL_law_255 : decode cL_law 255 = .ok (.aload_n 0, 1) := by decide +kernel
theorem dL_law_256 : decode cL_law 256 = .ok (.iload_n 3, 1) := by decide +kernel
theorem dL_law_257 : decode cL_law 257 = .ok (.iconst 3, 1) := by decide +kernel
theorem dL_law_258 : decode cL_law 258 = .ok (.iadd, 1) := by decide +kernel
theorem dL_law_259 : decode cL_law 259 = .ok (.iaload, 1) := by decide +kernel
theorem dL_law_260 : decode cL_law 260 = .ok (.invokevirtual 22, 3) := by decide +kernel
theorem dL_law_263 : decode cL_law 263 = .ok (.if_icmp .eq 756, 3) := by decide +kernel
theorem dL_law_266 : decode cL_law 266 = .ok (.iconst 0, 1) := by decide +kernel
theorem dL_law_267 : decode cL_law 267 = .ok (.ireturn, 1) := by decide +kernel
theorem dL_law_268 : decode cL_law 268 = .ok (.aload_n 1, 1) := by decide +kernel
theorem dL_law_269 : decode cL_law 269 = .ok (.aload_n 0, 1) := by decide +kernel
theorem dL_law_270 : decode cL_law 270 = .ok (.iload_n 3, 1) := by decide +kernel
theorem dL_law_271 : decode cL_law 271 = .ok (.iconst 1, 1) := by decide +kernel
theorem dL_law_272 : decode cL_law 272 = .ok (.iadd, 1) := by decide +kernel
theorem dL_law_273 : decode cL_law 273 = .ok (.iaload, 1) := by decide +kernel
theorem dL_law_274 : decode cL_law 274 = .ok (.invokevirtual 23, 3) := by decide +kernel
theorem dL_law_277 : decode cL_law 277 = .ok (.aload_n 2, 1) := by decide +kernel
theorem dL_law_278 : decode cL_law 278 = .ok (.aload_n 0, 1) := by decide +kernel
theorem dL_law_279 : decode cL_law 279 = .ok (.iload_n 3, 1) := by decide +kernel
theorem dL_law_280 : decode cL_law 280 = .ok (.iconst 1, 1) := by decide +kernel
theorem dL_law_281 : decode cL_law 281 = .ok (.iadd, 1) := by decide +kernel
theorem dL_law_282 : decode cL_law 282 = .ok (.iaload, 1) := by decide +kernel
theorem dL_law_283 : decode cL_law 283 = .ok (.invokevirtual 27, 3) := by decide +kernel
theorem dL_law_286 : decode cL_law 286 = .ok (.if_icmp .eq 733, 3) := by decide +kernel
theorem dL_law_289 : decode cL_law 289 = .ok (.iconst 0, 1) := by decide +kernel
theorem dL_law_290 : decode cL_law 290 = .ok (.ireturn, 1) := by decide +kernel
theorem dL_law_291 : decode cL_law 291 = .ok (.aload_n 1, 1) := by decide +kernel
theorem dL_law_292 : decode cL_law 292 = .ok (.aload_n 0, 1) := by decide +kernel
theorem dL_law_293 : decode cL_law 293 = .ok (.iload_n 3, 1) := by decide +kernel
theorem dL_law_294 : decode cL_law 294 = .ok (.iconst 1, 1) := by decide +kernel
theorem dL_law_295 : decode cL_law 295 = .ok (.iadd, 1) := by decide +kernel
theorem dL_law_296 : decode cL_law 296 = .ok (.iaload, 1) := by decide +kernel
theorem dL_law_297 : decode cL_law 297 = .ok (.invokevirtual 28, 3) := by decide +kernel
theorem dL_law_300 : decode cL_law 300 = .ok (.aload_n 2, 1) := by decide +kernel
theorem dL_law_301 : decode cL_law 301 = .ok (.aload_n 0, 1) := by decide +kernel
theorem dL_law_302 : decode cL_law 302 = .ok (.iload_n 3, 1) := by decide +kernel
theorem dL_law_303 : decode cL_law 303 = .ok (.iconst 1, 1) := by decide +kernel
theorem dL_law_304 : decode cL_law 304 = .ok (.iadd, 1) := by decide +kernel
theorem dL_law_305 : decode cL_law 305 = .ok (.iaload, 1) := by decide +kernel
theorem dL_law_306 : decode cL_law 306 = .ok (.invokevirtual 31, 3) := by decide +kernel
theorem dL_law_309 : decode cL_law 309 = .ok (.if_icmp .eq 710, 3) := by decide +kernel
theorem dL_law_312 : decode cL_law 312 = .ok (.iconst 0, 1) := by decide +kernel
theorem dL_law_313 : decode cL_law 313 = .ok (.ireturn, 1) := by decide +kernel
theorem dL_law_314 : decode cL_law 314 = .ok (.aload_n 1, 1) := by decide +kernel
theorem dL_law_315 : decode cL_law 315 = .ok (.invokevirtual 32, 3) := by decide +kernel
theorem dL_law_318 : decode cL_law 318 = .ok (.aload_n 2, 1) := by decide +kernel
theorem dL_law_319 : decode cL_law 319 = .ok (.invokevirtual 36, 3) := by decide +kernel
theorem dL_law_322 : decode cL_law 322 = .ok (.if_icmp .eq 697, 3) := by decide +kernel
theorem dL_law_325 : decode cL_law 325 = .ok (.iconst 0, 1) := by decide +kernel
theorem dL_law_326 : decode cL_law 326 = .ok (.ireturn, 1) := by decide +kernel
theorem dL_law_327 : decode cL_law 327 = .ok (.aload_n 1, 1) := by decide +kernel
theorem dL_law_328 : decode cL_law 328 = .ok (.aload_n 0, 1) := by decide +kernel
theorem dL_law_329 : decode cL_law 329 = .ok (.iload_n 3, 1) := by decide +kernel
theorem dL_law_330 : decode cL_law 330 = .ok (.iconst 1, 1) := by decide +kernel
theorem dL_law_331 : decode cL_law 331 = .ok (.iadd, 1) := by decide +kernel
theorem dL_law_332 : decode cL_law 332 = .ok (.iaload, 1) := by decide +kernel
theorem dL_law_333 : decode cL_law 333 = .ok (.aload_n 0, 1) := by decide +kernel
theorem dL_law_334 : decode cL_law 334 = .ok (.iload_n 3, 1) := by decide +kernel
theorem dL_law_335 : decode cL_law 335 = .ok (.iconst 2, 1) := by decide +kernel
theorem dL_law_336 : decode cL_law 336 = .ok (.iadd, 1) := by decide +kernel
theorem dL_law_337 : decode cL_law 337 = .ok (.iaload, 1) := by decide +kernel
theorem dL_law_338 : decode cL_law 338 = .ok (.invokevirtual 37, 3) := by decide +kernel
theorem dL_law_341 : decode cL_law 341 = .ok (.aload_n 2, 1) := by decide +kernel
theorem dL_law_342 : decode cL_law 342 = .ok (.aload_n 0, 1) := by decide +kernel
theorem dL_law_343 : decode cL_law 343 = .ok (.iload_n 3, 1) := by decide +kernel
theorem dL_law_344 : decode cL_law 344 = .ok (.iconst 1, 1) := by decide +kernel
theorem dL_law_345 : decode cL_law 345 = .ok (.iadd, 1) := by decide +kernel
theorem dL_law_346 : decode cL_law 346 = .ok (.iaload, 1) := by decide +kernel
theorem dL_law_347 : decode cL_law 347 = .ok (.aload_n 0, 1) := by decide +kernel
theorem dL_law_348 : decode cL_law 348 = .ok (.iload_n 3, 1) := by decide +kernel
theorem dL_law_349 : decode cL_law 349 = .ok (.iconst 2, 1) := by decide +kernel
theorem dL_law_350 : decode cL_law 350 = .ok (.iadd, 1) := by decide +kernel
theorem dL_law_351 : decode cL_law 351 = .ok (.iaload, 1) := by decide +kernel
theorem dL_law_352 : decode cL_law 352 = .ok (.invokevirtual 41, 3) := by decide +kernel
theorem dL_law_355 : decode cL_law 355 = .ok (.if_icmp .eq 664, 3) := by decide +kernel
theorem dL_law_358 : decode cL_law 358 = .ok (.iconst 0, 1) := by decide +kernel
theorem dL_law_359 : decode cL_law 359 = .ok (.ireturn, 1) := by decide +kernel
theorem dL_law_360 : decode cL_law 360 = .ok (.aload_n 1, 1) := by decide +kernel
theorem dL_law_361 : decode cL_law 361 = .ok (.aload_n 0, 1) := by decide +kernel
theorem dL_law_362 : decode cL_law 362 = .ok (.iload_n 3, 1) := by decide +kernel
theorem dL_law_363 : decode cL_law 363 = .ok (.iconst 1, 1) := by decide +kernel
theorem dL_law_364 : decode cL_law 364 = .ok (.iadd, 1) := by decide +kernel
theorem dL_law_365 : decode cL_law 365 = .ok (.iaload, 1) := by decide +kernel
theorem dL_law_366 : decode cL_law 366 = .ok (.aload_n 0, 1) := by decide +kernel
theorem dL_law_367 : decode cL_law 367 = .ok (.iload_n 3, 1) := by decide +kernel
theorem dL_law_368 : decode cL_law 368 = .ok (.iconst 2, 1) := by decide +kernel
theorem dL_law_369 : decode cL_law 369 = .ok (.iadd, 1) := by decide +kernel
theorem dL_law_370 : decode cL_law 370 = .ok (.iaload, 1) := by decide +kernel
theorem dL_law_371 : decode cL_law 371 = .ok (.invokevirtual 42, 3) := by decide +kernel
theorem dL_law_374 : decode cL_law 374 = .ok (.aload_n 2, 1) := by decide +kernel
theorem dL_law_375 : decode cL_law 375 = .ok (.aload_n 0, 1) := by decide +kernel
theorem dL_law_376 : decode cL_law 376 = .ok (.iload_n 3, 1) := by decide +kernel
theorem dL_law_377 : decode cL_law 377 = .ok (.iconst 1, 1) := by decide +kernel
theorem dL_law_378 : decode cL_law 378 = .ok (.iadd, 1) := by decide +kernel
theorem dL_law_379 : decode cL_law 379 = .ok (.iaload, 1) := by decide +kernel
theorem dL_law_380 : decode cL_law 380 = .ok (.aload_n 0, 1) := by decide +kernel
theorem dL_law_381 : decode cL_law 381 = .ok (.iload_n 3, 1) := by decide +kernel
theorem dL_law_382 : decode cL_law 382 = .ok (.iconst 2, 1) := by decide +kernel
theorem dL_law_383 : decode cL_law 383 = .ok (.iadd, 1) := by decide +kernel
theorem dL_law_384 : decode cL_law 384 = .ok (.iaload, 1) := by decide +kernel
theorem dL_law_385 : decode cL_law 385 = .ok (.invokevirtual 46, 3) := by decide +kernel
theorem dL_law_388 : decode cL_law 388 = .ok (.if_icmp .eq 631, 3) := by decide +kernel
theorem dL_law_391 : decode cL_law 391 = .ok (.iconst 0, 1) := by decide +kernel
theorem dL_law_392 : decode cL_law 392 = .ok (.ireturn, 1) := by decide +kernel
theorem dL_law_393 : decode cL_law 393 = .ok (.aload_n 1, 1) := by decide +kernel
theorem dL_law_394 : decode cL_law 394 = .ok (.aload_n 0, 1) := by decide +kernel
theorem dL_law_395 : decode cL_law 395 = .ok (.iload_n 3, 1) := by decide +kernel
theorem dL_law_396 : decode cL_law 396 = .ok (.iconst 1, 1) := by decide +kernel
theorem dL_law_397 : decode cL_law 397 = .ok (.iadd, 1) := by decide +kernel
theorem dL_law_398 : decode cL_law 398 = .ok (.iaload, 1) := by decide +kernel
theorem dL_law_399 : decode cL_law 399 = .ok (.invokevirtual 47, 3) := by decide +kernel
theorem dL_law_402 : decode cL_law 402 = .ok (.aload_n 2, 1) := by decide +kernel
theorem dL_law_403 : decode cL_law 403 = .ok (.aload_n 0, 1) := by decide +kernel
theorem dL_law_404 : decode cL_law 404 = .ok (.iload_n 3, 1) := by decide +kernel
theorem dL_law_405 : decode cL_law 405 = .ok (.iconst 1, 1) := by decide +kernel
theorem dL_law_406 : decode cL_law 406 = .ok (.iadd, 1) := by decide +kernel
theorem dL_law_407 : decode cL_law 407 = .ok (.iaload, 1) := by decide +kernel
theorem dL_law_408 : decode cL_law 408 = .ok (.invokevirtual 51, 3) := by decide +kernel
theorem dL_law_411 : decode cL_law 411 = .ok (.if_icmp .eq 608, 3) := by decide +kernel
theorem dL_law_414 : decode cL_law 414 = .ok (.iconst 0, 1) := by decide +kernel
theorem dL_law_415 : decode cL_law 415 = .ok (.ireturn, 1) := by decide +kernel
theorem dL_law_416 : decode cL_law 416 = .ok (.aload_n 1, 1) := by decide +kernel
theorem dL_law_417 : decode cL_law 417 = .ok (.aload_n 0, 1) := by decide +kernel
theorem dL_law_418 : decode cL_law 418 = .ok (.iload_n 3, 1) := by decide +kernel
theorem dL_law_419 : decode cL_law 419 = .ok (.iconst 1, 1) := by decide +kernel
theorem dL_law_420 : decode cL_law 420 = .ok (.iadd, 1) := by decide +kernel
theorem dL_law_421 : decode cL_law 421 = .ok (.iaload, 1) := by decide +kernel
theorem dL_law_422 : decode cL_law 422 = .ok (.invokevirtual 52, 3) := by decide +kernel
theorem dL_law_425 : decode cL_law 425 = .ok (.aload_n 2, 1) := by decide +kernel
theorem dL_law_426 : decode cL_law 426 = .ok (.aload_n 0, 1) := by decide +kernel
theorem dL_law_427 : decode cL_law 427 = .ok (.iload_n 3, 1) := by decide +kernel
theorem dL_law_428 : decode cL_law 428 = .ok (.iconst 1, 1) := by decide +kernel
theorem dL_law_429 : decode cL_law 429 = .ok (.iadd, 1) := by decide +kernel
theorem dL_law_430 : decode cL_law 430 = .ok (.iaload, 1) := by decide +kernel
theorem dL_law_431 : decode cL_law 431 = .ok (.invokevirtual 55, 3) := by decide +kernel
theorem dL_law_434 : decode cL_law 434 = .ok (.if_icmp .eq 585, 3) := by decide +kernel
theorem dL_law_437 : decode cL_law 437 = .ok (.iconst 0, 1) := by decide +kernel
theorem dL_law_438 : decode cL_law 438 = .ok (.ireturn, 1) := by decide +kernel
theorem dL_law_439 : decode cL_law 439 = .ok (.aload_n 1, 1) := by decide +kernel
theorem dL_law_440 : decode cL_law 440 = .ok (.aload_n 0, 1) := by decide +kernel
theorem dL_law_441 : decode cL_law 441 = .ok (.iload_n 3, 1) := by decide +kernel
theorem dL_law_442 : decode cL_law 442 = .ok (.iconst 1, 1) := by decide +kernel
theorem dL_law_443 : decode cL_law 443 = .ok (.iadd, 1) := by decide +kernel
theorem dL_law_444 : decode cL_law 444 = .ok (.iaload, 1) := by decide +kernel
theorem dL_law_445 : decode cL_law 445 = .ok (.aload_n 0, 1) := by decide +kernel
theorem dL_law_446 : decode cL_law 446 = .ok (.iload_n 3, 1) := by decide +kernel
theorem dL_law_447 : decode cL_law 447 = .ok (.iconst 2, 1) := by decide +kernel
theorem dL_law_448 : decode cL_law 448 = .ok (.iadd, 1) := by decide +kernel
theorem dL_law_449 : decode cL_law 449 = .ok (.iaload, 1) := by decide +kernel
theorem dL_law_450 : decode cL_law 450 = .ok (.invokevirtual 56, 3) := by decide +kernel
theorem dL_law_453 : decode cL_law 453 = .ok (.aload_n 2, 1) := by decide +kernel
theorem dL_law_454 : decode cL_law 454 = .ok (.aload_n 0, 1) := by decide +kernel
theorem dL_law_455 : decode cL_law 455 = .ok (.iload_n 3, 1) := by decide +kernel
theorem dL_law_456 : decode cL_law 456 = .ok (.iconst 1, 1) := by decide +kernel
theorem dL_law_457 : decode cL_law 457 = .ok (.iadd, 1) := by decide +kernel
theorem dL_law_458 : decode cL_law 458 = .ok (.iaload, 1) := by decide +kernel
theorem dL_law_459 : decode cL_law 459 = .ok (.aload_n 0, 1) := by decide +kernel
theorem dL_law_460 : decode cL_law 460 = .ok (.iload_n 3, 1) := by decide +kernel
theorem dL_law_461 : decode cL_law 461 = .ok (.iconst 2, 1) := by decide +kernel
theorem dL_law_462 : decode cL_law 462 = .ok (.iadd, 1) := by decide +kernel
theorem dL_law_463 : decode cL_law 463 = .ok (.iaload, 1) := by decide +kernel
theorem dL_law_464 : decode cL_law 464 = .ok (.invokevirtual 59, 3) := by decide +kernel
theorem dL_law_467 : decode cL_law 467 = .ok (.if_icmp .eq 552, 3) := by decide +kernel
theorem dL_law_470 : decode cL_law 470 = .ok (.iconst 0, 1) := by decide +kernel
theorem dL_law_471 : decode cL_law 471 = .ok (.ireturn, 1) := by decide +kernel
theorem dL_law_472 : decode cL_law 472 = .ok (.aload_n 1, 1) := by decide +kernel
theorem dL_law_473 : decode cL_law 473 = .ok (.aload_n 0, 1) := by decide +kernel
theorem dL_law_474 : decode cL_law 474 = .ok (.iload_n 3, 1) := by decide +kernel
theorem dL_law_475 : decode cL_law 475 = .ok (.iconst 1, 1) := by decide +kernel
theorem dL_law_476 : decode cL_law 476 = .ok (.iadd, 1) := by decide +kernel
theorem dL_law_477 : decode cL_law 477 = .ok (.iaload, 1) := by decide +kernel
theorem dL_law_478 : decode cL_law 478 = .ok (.invokevirtual 60, 3) := by decide +kernel
theorem dL_law_481 : decode cL_law 481 = .ok (.aload_n 2, 1) := by decide +kernel
theorem dL_law_482 : decode cL_law 482 = .ok (.aload_n 0, 1) := by decide +kernel
theorem dL_law_483 : decode cL_law 483 = .ok (.iload_n 3, 1) := by decide +kernel
theorem dL_law_484 : decode cL_law 484 = .ok (.iconst 1, 1) := by decide +kernel
theorem dL_law_485 : decode cL_law 485 = .ok (.iadd, 1) := by decide +kernel
theorem dL_law_486 : decode cL_law 486 = .ok (.iaload, 1) := by decide +kernel
theorem dL_law_487 : decode cL_law 487 = .ok (.invokevirtual 63, 3) := by decide +kernel
theorem dL_law_490 : decode cL_law 490 = .ok (.if_icmp .eq 529, 3) := by decide +kernel
theorem dL_law_493 : decode cL_law 493 = .ok (.iconst 0, 1) := by decide +kernel
theorem dL_law_494 : decode cL_law 494 = .ok (.ireturn, 1) := by decide +kernel
theorem dL_law_495 : decode cL_law 495 = .ok (.aload_n 1, 1) := by decide +kernel
theorem dL_law_496 : decode cL_law 496 = .ok (.aload_n 0, 1) := by decide +kernel
theorem dL_law_497 : decode cL_law 497 = .ok (.iload_n 3, 1) := by decide +kernel
theorem dL_law_498 : decode cL_law 498 = .ok (.iconst 1, 1) := by decide +kernel
theorem dL_law_499 : decode cL_law 499 = .ok (.iadd, 1) := by decide +kernel
theorem dL_law_500 : decode cL_law 500 = .ok (.iaload, 1) := by decide +kernel
theorem dL_law_501 : decode cL_law 501 = .ok (.invokevirtual 64, 3) := by decide +kernel
theorem dL_law_504 : decode cL_law 504 = .ok (.aload_n 2, 1) := by decide +kernel
theorem dL_law_505 : decode cL_law 505 = .ok (.aload_n 0, 1) := by decide +kernel
theorem dL_law_506 : decode cL_law 506 = .ok (.iload_n 3, 1) := by decide +kernel
theorem dL_law_507 : decode cL_law 507 = .ok (.iconst 1, 1) := by decide +kernel
theorem dL_law_508 : decode cL_law 508 = .ok (.iadd, 1) := by decide +kernel
theorem dL_law_509 : decode cL_law 509 = .ok (.iaload, 1) := by decide +kernel
theorem dL_law_510 : decode cL_law 510 = .ok (.invokevirtual 67, 3) := by decide +kernel
theorem dL_law_513 : decode cL_law 513 = .ok (.if_icmp .eq 506, 3) := by decide +kernel
theorem dL_law_516 : decode cL_law 516 = .ok (.iconst 0, 1) := by decide +kernel
theorem dL_law_517 : decode cL_law 517 = .ok (.ireturn, 1) := by decide +kernel
theorem dL_law_518 : decode cL_law 518 = .ok (.aload_n 1, 1) := by decide +kernel
theorem dL_law_519 : decode cL_law 519 = .ok (.aload_n 0, 1) := by decide +kernel
theorem dL_law_520 : decode cL_law 520 = .ok (.iload_n 3, 1) := by decide +kernel
theorem dL_law_521 : decode cL_law 521 = .ok (.iconst 1, 1) := by decide +kernel
theorem dL_law_522 : decode cL_law 522 = .ok (.iadd, 1) := by decide +kernel
theorem dL_law_523 : decode cL_law 523 = .ok (.iaload, 1) := by decide +kernel
theorem dL_law_524 : decode cL_law 524 = .ok (.invokevirtual 68, 3) := by decide +kernel
theorem dL_law_527 : decode cL_law 527 = .ok (.aload_n 2, 1) := by decide +kernel
theorem dL_law_528 : decode cL_law 528 = .ok (.aload_n 0, 1) := by decide +kernel
theorem dL_law_529 : decode cL_law 529 = .ok (.iload_n 3, 1) := by decide +kernel
theorem dL_law_530 : decode cL_law 530 = .ok (.iconst 1, 1) := by decide +kernel
theorem dL_law_531 : decode cL_law 531 = .ok (.iadd, 1) := by decide +kernel
theorem dL_law_532 : decode cL_law 532 = .ok (.iaload, 1) := by decide +kernel
theorem dL_law_533 : decode cL_law 533 = .ok (.invokevirtual 71, 3) := by decide +kernel
theorem dL_law_536 : decode cL_law 536 = .ok (.if_icmp .eq 483, 3) := by decide +kernel
theorem dL_law_539 : decode cL_law 539 = .ok (.iconst 0, 1) := by decide +kernel
theorem dL_law_540 : decode cL_law 540 = .ok (.ireturn, 1) := by decide +kernel
theorem dL_law_541 : decode cL_law 541 = .ok (.aload_n 1, 1) := by decide +kernel
theorem dL_law_542 : decode cL_law 542 = .ok (.aload_n 0, 1) := by decide +kernel
theorem dL_law_543 : decode cL_law 543 = .ok (.iload_n 3, 1) := by decide +kernel
theorem dL_law_544 : decode cL_law 544 = .ok (.iconst 1, 1) := by decide +kernel
theorem dL_law_545 : decode cL_law 545 = .ok (.iadd, 1) := by decide +kernel
theorem dL_law_546 : decode cL_law 546 = .ok (.iaload, 1) := by decide +kernel
theorem dL_law_547 : decode cL_law 547 = .ok (.aload_n 0, 1) := by decide +kernel
theorem dL_law_548 : decode cL_law 548 = .ok (.iload_n 3, 1) := by decide +kernel
theorem dL_law_549 : decode cL_law 549 = .ok (.iconst 2, 1) := by decide +kernel
theorem dL_law_550 : decode cL_law 550 = .ok (.iadd, 1) := by decide +kernel
theorem dL_law_551 : decode cL_law 551 = .ok (.iaload, 1) := by decide +kernel
theorem dL_law_552 : decode cL_law 552 = .ok (.aload_n 0, 1) := by decide +kernel
theorem dL_law_553 : decode cL_law 553 = .ok (.iload_n 3, 1) := by decide +kernel
theorem dL_law_554 : decode cL_law 554 = .ok (.iconst 3, 1) := by decide +kernel
theorem dL_law_555 : decode cL_law 555 = .ok (.iadd, 1) := by decide +kernel
theorem dL_law_556 : decode cL_law 556 = .ok (.iaload, 1) := by decide +kernel
theorem dL_law_557 : decode cL_law 557 = .ok (.invokevirtual 72, 3) := by decide +kernel
theorem dL_law_560 : decode cL_law 560 = .ok (.aload_n 2, 1) := by decide +kernel
theorem dL_law_561 : decode cL_law 561 = .ok (.aload_n 0, 1) := by decide +kernel
theorem dL_law_562 : decode cL_law 562 = .ok (.iload_n 3, 1) := by decide +kernel
theorem dL_law_563 : decode cL_law 563 = .ok (.iconst 1, 1) := by decide +kernel
theorem dL_law_564 : decode cL_law 564 = .ok (.iadd, 1) := by decide +kernel
theorem dL_law_565 : decode cL_law 565 = .ok (.iaload, 1) := by decide +kernel
theorem dL_law_566 : decode cL_law 566 = .ok (.aload_n 0, 1) := by decide +kernel
theorem dL_law_567 : decode cL_law 567 = .ok (.iload_n 3, 1) := by decide +kernel
theorem dL_law_568 : decode cL_law 568 = .ok (.iconst 2, 1) := by decide +kernel
theorem dL_law_569 : decode cL_law 569 = .ok (.iadd, 1) := by decide +kernel
theorem dL_law_570 : decode cL_law 570 = .ok (.iaload, 1) := by decide +kernel
theorem dL_law_571 : decode cL_law 571 = .ok (.aload_n 0, 1) := by decide +kernel
theorem dL_law_572 : decode cL_law 572 = .ok (.iload_n 3, 1) := by decide +kernel
theorem dL_law_573 : decode cL_law 573 = .ok (.iconst 3, 1) := by decide +kernel
theorem dL_law_574 : decode cL_law 574 = .ok (.iadd, 1) := by decide +kernel
theorem dL_law_575 : decode cL_law 575 = .ok (.iaload, 1) := by decide +kernel
theorem dL_law_576 : decode cL_law 576 = .ok (.invokevirtual 76, 3) := by decide +kernel
theorem dL_law_579 : decode cL_law 579 = .ok (.if_icmp .eq 440, 3) := by decide +kernel
theorem dL_law_582 : decode cL_law 582 = .ok (.iconst 0, 1) := by decide +kernel
theorem dL_law_583 : decode cL_law 583 = .ok (.ireturn, 1) := by decide +kernel
theorem dL_law_584 : decode cL_law 584 = .ok (.aload_n 1, 1) := by decide +kernel
theorem dL_law_585 : decode cL_law 585 = .ok (.aload_n 0, 1) := by decide +kernel
theorem dL_law_586 : decode cL_law 586 = .ok (.iload_n 3, 1) := by decide +kernel
theorem dL_law_587 : decode cL_law 587 = .ok (.iconst 1, 1) := by decide +kernel
theorem dL_law_588 : decode cL_law 588 = .ok (.iadd, 1) := by decide +kernel
theorem dL_law_589 : decode cL_law 589 = .ok (.iaload, 1) := by decide +kernel
theorem dL_law_590 : decode cL_law 590 = .ok (.aload_n 0, 1) := by decide +kernel
theorem dL_law_591 : decode cL_law 591 = .ok (.iload_n 3, 1) := by decide +kernel
theorem dL_law_592 : decode cL_law 592 = .ok (.iconst 2, 1) := by decide +kernel
theorem dL_law_593 : decode cL_law 593 = .ok (.iadd, 1) := by decide +kernel
theorem dL_law_594 : decode cL_law 594 = .ok (.iaload, 1) := by decide +kernel
theorem dL_law_595 : decode cL_law 595 = .ok (.ifCond .eq 7, 3) := by decide +kernel
theorem dL_law_598 : decode cL_law 598 = .ok (.iconst 1, 1) := by decide +kernel
theorem dL_law_599 : decode cL_law 599 = .ok (.goto 4, 3) := by decide +kernel
theorem dL_law_602 : decode cL_law 602 = .ok (.iconst 0, 1) := by decide +kernel
theorem dL_law_603 : decode cL_law 603 = .ok (.invokevirtual 77, 3) := by decide +kernel
theorem dL_law_606 : decode cL_law 606 = .ok (.aload_n 2, 1) := by decide +kernel
theorem dL_law_607 : decode cL_law 607 = .ok (.aload_n 0, 1) := by decide +kernel
theorem dL_law_608 : decode cL_law 608 = .ok (.iload_n 3, 1) := by decide +kernel
theorem dL_law_609 : decode cL_law 609 = .ok (.iconst 1, 1) := by decide +kernel
theorem dL_law_610 : decode cL_law 610 = .ok (.iadd, 1) := by decide +kernel
theorem dL_law_611 : decode cL_law 611 = .ok (.iaload, 1) := by decide +kernel
theorem dL_law_612 : decode cL_law 612 = .ok (.aload_n 0, 1) := by decide +kernel
theorem dL_law_613 : decode cL_law 613 = .ok (.iload_n 3, 1) := by decide +kernel
theorem dL_law_614 : decode cL_law 614 = .ok (.iconst 2, 1) := by decide +kernel
theorem dL_law_615 : decode cL_law 615 = .ok (.iadd, 1) := by decide +kernel
theorem dL_law_616 : decode cL_law 616 = .ok (.iaload, 1) := by decide +kernel
theorem dL_law_617 : decode cL_law 617 = .ok (.ifCond .eq 7, 3) := by decide +kernel
theorem dL_law_620 : decode cL_law 620 = .ok (.iconst 1, 1) := by decide +kernel
theorem dL_law_621 : decode cL_law 621 = .ok (.goto 4, 3) := by decide +kernel
theorem dL_law_624 : decode cL_law 624 = .ok (.iconst 0, 1) := by decide +kernel
theorem dL_law_625 : decode cL_law 625 = .ok (.invokevirtual 81, 3) := by decide +kernel
theorem dL_law_628 : decode cL_law 628 = .ok (.if_icmp .eq 391, 3) := by decide +kernel
theorem dL_law_631 : decode cL_law 631 = .ok (.iconst 0, 1) := by decide +kernel
theorem dL_law_632 : decode cL_law 632 = .ok (.ireturn, 1) := by decide +kernel
theorem dL_law_633 : decode cL_law 633 = .ok (.aload_n 1, 1) := by decide +kernel
theorem dL_law_634 : decode cL_law 634 = .ok (.aload_n 0, 1) := by decide +kernel
theorem dL_law_635 : decode cL_law 635 = .ok (.iload_n 3, 1) := by decide +kernel
theorem dL_law_636 : decode cL_law 636 = .ok (.iconst 1, 1) := by decide +kernel
theorem dL_law_637 : decode cL_law 637 = .ok (.iadd, 1) := by decide +kernel
theorem dL_law_638 : decode cL_law 638 = .ok (.iaload, 1) := by decide +kernel
theorem dL_law_639 : decode cL_law 639 = .ok (.aload_n 0, 1) := by decide +kernel
theorem dL_law_640 : decode cL_law 640 = .ok (.iload_n 3, 1) := by decide +kernel
theorem dL_law_641 : decode cL_law 641 = .ok (.iconst 2, 1) := by decide +kernel
theorem dL_law_642 : decode cL_law 642 = .ok (.iadd, 1) := by decide +kernel
theorem dL_law_643 : decode cL_law 643 = .ok (.iaload, 1) := by decide +kernel
theorem dL_law_644 : decode cL_law 644 = .ok (.invokevirtual 82, 3) := by decide +kernel
theorem dL_law_647 : decode cL_law 647 = .ok (.aload_n 2, 1) := by decide +kernel
theorem dL_law_648 : decode cL_law 648 = .ok (.aload_n 0, 1) := by decide +kernel
theorem dL_law_649 : decode cL_law 649 = .ok (.iload_n 3, 1) := by decide +kernel
theorem dL_law_650 : decode cL_law 650 = .ok (.iconst 1, 1) := by decide +kernel
theorem dL_law_651 : decode cL_law 651 = .ok (.iadd, 1) := by decide +kernel
theorem dL_law_652 : decode cL_law 652 = .ok (.iaload, 1) := by decide +kernel
theorem dL_law_653 : decode cL_law 653 = .ok (.aload_n 0, 1) := by decide +kernel
theorem dL_law_654 : decode cL_law 654 = .ok (.iload_n 3, 1) := by decide +kernel
theorem dL_law_655 : decode cL_law 655 = .ok (.iconst 2, 1) := by decide +kernel
theorem dL_law_656 : decode cL_law 656 = .ok (.iadd, 1) := by decide +kernel
theorem dL_law_657 : decode cL_law 657 = .ok (.iaload, 1) := by decide +kernel
theorem dL_law_658 : decode cL_law 658 = .ok (.invokevirtual 85, 3) := by decide +kernel
theorem dL_law_661 : decode cL_law 661 = .ok (.if_icmp .eq 358, 3) := by decide +kernel
theorem dL_law_664 : decode cL_law 664 = .ok (.iconst 0, 1) := by decide +kernel
theorem dL_law_665 : decode cL_law 665 = .ok (.ireturn, 1) := by decide +kernel
theorem dL_law_666 : decode cL_law 666 = .ok (.aload_n 1, 1) := by decide +kernel
theorem dL_law_667 : decode cL_law 667 = .ok (.aload_n 0, 1) := by decide +kernel
theorem dL_law_668 : decode cL_law 668 = .ok (.iload_n 3, 1) := by decide +kernel
theorem dL_law_669 : decode cL_law 669 = .ok (.iconst 1, 1) := by decide +kernel
theorem dL_law_670 : decode cL_law 670 = .ok (.iadd, 1) := by decide +kernel
theorem dL_law_671 : decode cL_law 671 = .ok (.iaload, 1) := by decide +kernel
theorem dL_law_672 : decode cL_law 672 = .ok (.aload_n 0, 1) := by decide +kernel
theorem dL_law_673 : decode cL_law 673 = .ok (.iload_n 3, 1) := by decide +kernel
theorem dL_law_674 : decode cL_law 674 = .ok (.iconst 2, 1) := by decide +kernel
theorem dL_law_675 : decode cL_law 675 = .ok (.iadd, 1) := by decide +kernel
theorem dL_law_676 : decode cL_law 676 = .ok (.iaload, 1) := by decide +kernel
theorem dL_law_677 : decode cL_law 677 = .ok (.invokevirtual 86, 3) := by decide +kernel
theorem dL_law_680 : decode cL_law 680 = .ok (.aload_n 2, 1) := by decide +kernel
theorem dL_law_681 : decode cL_law 681 = .ok (.aload_n 0, 1) := by decide +kernel
theorem dL_law_682 : decode cL_law 682 = .ok (.iload_n 3, 1) := by decide +kernel
theorem dL_law_683 : decode cL_law 683 = .ok (.iconst 1, 1) := by decide +kernel
theorem dL_law_684 : decode cL_law 684 = .ok (.iadd, 1) := by decide +kernel
theorem dL_law_685 : decode cL_law 685 = .ok (.iaload, 1) := by decide +kernel
theorem dL_law_686 : decode cL_law 686 = .ok (.aload_n 0, 1) := by decide +kernel
theorem dL_law_687 : decode cL_law 687 = .ok (.iload_n 3, 1) := by decide +kernel
theorem dL_law_688 : decode cL_law 688 = .ok (.iconst 2, 1) := by decide +kernel
theorem dL_law_689 : decode cL_law 689 = .ok (.iadd, 1) := by decide +kernel
theorem dL_law_690 : decode cL_law 690 = .ok (.iaload, 1) := by decide +kernel
theorem dL_law_691 : decode cL_law 691 = .ok (.invokevirtual 89, 3) := by decide +kernel
theorem dL_law_694 : decode cL_law 694 = .ok (.if_icmp .eq 325, 3) := by decide +kernel
theorem dL_law_697 : decode cL_law 697 = .ok (.iconst 0, 1) := by decide +kernel
theorem dL_law_698 : decode cL_law 698 = .ok (.ireturn, 1) := by decide +kernel
theorem dL_law_699 : decode cL_law 699 = .ok (.aload_n 1, 1) := by decide +kernel
theorem dL_law_700 : decode cL_law 700 = .ok (.aload_n 0, 1) := by decide +kernel
theorem dL_law_701 : decode cL_law 701 = .ok (.iload_n 3, 1) := by decide +kernel
theorem dL_law_702 : decode cL_law 702 = .ok (.iconst 1, 1) := by decide +kernel
theorem dL_law_703 : decode cL_law 703 = .ok (.iadd, 1) := by decide +kernel
theorem dL_law_704 : decode cL_law 704 = .ok (.iaload, 1) := by decide +kernel
theorem dL_law_705 : decode cL_law 705 = .ok (.aload_n 0, 1) := by decide +kernel
theorem dL_law_706 : decode cL_law 706 = .ok (.iload_n 3, 1) := by decide +kernel
theorem dL_law_707 : decode cL_law 707 = .ok (.iconst 2, 1) := by decide +kernel
theorem dL_law_708 : decode cL_law 708 = .ok (.iadd, 1) := by decide +kernel
theorem dL_law_709 : decode cL_law 709 = .ok (.iaload, 1) := by decide +kernel
theorem dL_law_710 : decode cL_law 710 = .ok (.aload_n 0, 1) := by decide +kernel
theorem dL_law_711 : decode cL_law 711 = .ok (.iload_n 3, 1) := by decide +kernel
theorem dL_law_712 : decode cL_law 712 = .ok (.iconst 3, 1) := by decide +kernel
theorem dL_law_713 : decode cL_law 713 = .ok (.iadd, 1) := by decide +kernel
theorem dL_law_714 : decode cL_law 714 = .ok (.iaload, 1) := by decide +kernel
theorem dL_law_715 : decode cL_law 715 = .ok (.aload_n 0, 1) := by decide +kernel
theorem dL_law_716 : decode cL_law 716 = .ok (.iload_n 3, 1) := by decide +kernel
theorem dL_law_717 : decode cL_law 717 = .ok (.iconst 4, 1) := by decide +kernel
theorem dL_law_718 : decode cL_law 718 = .ok (.iadd, 1) := by decide +kernel
theorem dL_law_719 : decode cL_law 719 = .ok (.iaload, 1) := by decide +kernel
theorem dL_law_720 : decode cL_law 720 = .ok (.invokevirtual 90, 3) := by decide +kernel
theorem dL_law_723 : decode cL_law 723 = .ok (.aload_n 2, 1) := by decide +kernel
theorem dL_law_724 : decode cL_law 724 = .ok (.aload_n 0, 1) := by decide +kernel
theorem dL_law_725 : decode cL_law 725 = .ok (.iload_n 3, 1) := by decide +kernel
theorem dL_law_726 : decode cL_law 726 = .ok (.iconst 1, 1) := by decide +kernel
theorem dL_law_727 : decode cL_law 727 = .ok (.iadd, 1) := by decide +kernel
theorem dL_law_728 : decode cL_law 728 = .ok (.iaload, 1) := by decide +kernel
theorem dL_law_729 : decode cL_law 729 = .ok (.aload_n 0, 1) := by decide +kernel
theorem dL_law_730 : decode cL_law 730 = .ok (.iload_n 3, 1) := by decide +kernel
theorem dL_law_731 : decode cL_law 731 = .ok (.iconst 2, 1) := by decide +kernel
theorem dL_law_732 : decode cL_law 732 = .ok (.iadd, 1) := by decide +kernel
theorem dL_law_733 : decode cL_law 733 = .ok (.iaload, 1) := by decide +kernel
theorem dL_law_734 : decode cL_law 734 = .ok (.aload_n 0, 1) := by decide +kernel
theorem dL_law_735 : decode cL_law 735 = .ok (.iload_n 3, 1) := by decide +kernel
theorem dL_law_736 : decode cL_law 736 = .ok (.iconst 3, 1) := by decide +kernel
theorem dL_law_737 : decode cL_law 737 = .ok (.iadd, 1) := by decide +kernel
theorem dL_law_738 : decode cL_law 738 = .ok (.iaload, 1) := by decide +kernel
theorem dL_law_739 : decode cL_law 739 = .ok (.aload_n 0, 1) := by decide +kernel
theorem dL_law_740 : decode cL_law 740 = .ok (.iload_n 3, 1) := by decide +kernel
theorem dL_law_741 : decode cL_law 741 = .ok (.iconst 4, 1) := by decide +kernel
theorem dL_law_742 : decode cL_law 742 = .ok (.iadd, 1) := by decide +kernel
theorem dL_law_743 : decode cL_law 743 = .ok (.iaload, 1) := by decide +kernel
theorem dL_law_744 : decode cL_law 744 = .ok (.invokevirtual 94, 3) := by decide +kernel
theorem dL_law_747 : decode cL_law 747 = .ok (.if_icmp .eq 272, 3) := by decide +kernel
theorem dL_law_750 : decode cL_law 750 = .ok (.iconst 0, 1) := by decide +kernel
theorem dL_law_751 : decode cL_law 751 = .ok (.ireturn, 1) := by decide +kernel
theorem dL_law_752 : decode cL_law 752 = .ok (.aload_n 1, 1) := by decide +kernel
theorem dL_law_753 : decode cL_law 753 = .ok (.aload_n 0, 1) := by decide +kernel
theorem dL_law_754 : decode cL_law 754 = .ok (.iload_n 3, 1) := by decide +kernel
theorem dL_law_755 : decode cL_law 755 = .ok (.iconst 1, 1) := by decide +kernel
theorem dL_law_756 : decode cL_law 756 = .ok (.iadd, 1) := by decide +kernel
theorem dL_law_757 : decode cL_law 757 = .ok (.iaload, 1) := by decide +kernel
theorem dL_law_758 : decode cL_law 758 = .ok (.invokevirtual 95, 3) := by decide +kernel
theorem dL_law_761 : decode cL_law 761 = .ok (.aload_n 2, 1) := by decide +kernel
theorem dL_law_762 : decode cL_law 762 = .ok (.aload_n 0, 1) := by decide +kernel
theorem dL_law_763 : decode cL_law 763 = .ok (.iload_n 3, 1) := by decide +kernel
theorem dL_law_764 : decode cL_law 764 = .ok (.iconst 1, 1) := by decide +kernel
theorem dL_law_765 : decode cL_law 765 = .ok (.iadd, 1) := by decide +kernel
theorem dL_law_766 : decode cL_law 766 = .ok (.iaload, 1) := by decide +kernel
theorem dL_law_767 : decode cL_law 767 = .ok (.invokevirtual 98, 3) := by decide +kernel
theorem dL_law_770 : decode cL_law 770 = .ok (.if_icmp .eq 249, 3) := by decide +kernel
theorem dL_law_773 : decode cL_law 773 = .ok (.iconst 0, 1) := by decide +kernel
theorem dL_law_774 : decode cL_law 774 = .ok (.ireturn, 1) := by decide +kernel
theorem dL_law_775 : decode cL_law 775 = .ok (.aload_n 1, 1) := by decide +kernel
theorem dL_law_776 : decode cL_law 776 = .ok (.aload_n 0, 1) := by decide +kernel
theorem dL_law_777 : decode cL_law 777 = .ok (.iload_n 3, 1) := by decide +kernel
theorem dL_law_778 : decode cL_law 778 = .ok (.iconst 1, 1) := by decide +kernel
theorem dL_law_779 : decode cL_law 779 = .ok (.iadd, 1) := by decide +kernel
theorem dL_law_780 : decode cL_law 780 = .ok (.iaload, 1) := by decide +kernel
theorem dL_law_781 : decode cL_law 781 = .ok (.aload_n 0, 1) := by decide +kernel
theorem dL_law_782 : decode cL_law 782 = .ok (.iload_n 3, 1) := by decide +kernel
theorem dL_law_783 : decode cL_law 783 = .ok (.iconst 2, 1) := by decide +kernel
theorem dL_law_784 : decode cL_law 784 = .ok (.iadd, 1) := by decide +kernel
theorem dL_law_785 : decode cL_law 785 = .ok (.iaload, 1) := by decide +kernel
theorem dL_law_786 : decode cL_law 786 = .ok (.invokevirtual 99, 3) := by decide +kernel
theorem dL_law_789 : decode cL_law 789 = .ok (.aload_n 2, 1) := by decide +kernel
theorem dL_law_790 : decode cL_law 790 = .ok (.aload_n 0, 1) := by decide +kernel
theorem dL_law_791 : decode cL_law 791 = .ok (.iload_n 3, 1) := by decide +kernel
theorem dL_law_792 : decode cL_law 792 = .ok (.iconst 1, 1) := by decide +kernel
theorem dL_law_793 : decode cL_law 793 = .ok (.iadd, 1) := by decide +kernel
theorem dL_law_794 : decode cL_law 794 = .ok (.iaload, 1) := by decide +kernel
theorem dL_law_795 : decode cL_law 795 = .ok (.aload_n 0, 1) := by decide +kernel
theorem dL_law_796 : decode cL_law 796 = .ok (.iload_n 3, 1) := by decide +kernel
theorem dL_law_797 : decode cL_law 797 = .ok (.iconst 2, 1) := by decide +kernel
theorem dL_law_798 : decode cL_law 798 = .ok (.iadd, 1) := by decide +kernel
theorem dL_law_799 : decode cL_law 799 = .ok (.iaload, 1) := by decide +kernel
theorem dL_law_800 : decode cL_law 800 = .ok (.invokevirtual 102, 3) := by decide +kernel
theorem dL_law_803 : decode cL_law 803 = .ok (.if_icmp .eq 216, 3) := by decide +kernel
theorem dL_law_806 : decode cL_law 806 = .ok (.iconst 0, 1) := by decide +kernel
theorem dL_law_807 : decode cL_law 807 = .ok (.ireturn, 1) := by decide +kernel
theorem dL_law_808 : decode cL_law 808 = .ok (.aload_n 1, 1) := by decide +kernel
theorem dL_law_809 : decode cL_law 809 = .ok (.aload_n 0, 1) := by decide +kernel
theorem dL_law_810 : decode cL_law 810 = .ok (.iload_n 3, 1) := by decide +kernel
theorem dL_law_811 : decode cL_law 811 = .ok (.iconst 1, 1) := by decide +kernel
theorem dL_law_812 : decode cL_law 812 = .ok (.iadd, 1) := by decide +kernel
theorem dL_law_813 : decode cL_law 813 = .ok (.iaload, 1) := by decide +kernel
theorem dL_law_814 : decode cL_law 814 = .ok (.invokevirtual 103, 3) := by decide +kernel
theorem dL_law_817 : decode cL_law 817 = .ok (.aload_n 2, 1) := by decide +kernel
theorem dL_law_818 : decode cL_law 818 = .ok (.aload_n 0, 1) := by decide +kernel
theorem dL_law_819 : decode cL_law 819 = .ok (.iload_n 3, 1) := by decide +kernel
theorem dL_law_820 : decode cL_law 820 = .ok (.iconst 1, 1) := by decide +kernel
theorem dL_law_821 : decode cL_law 821 = .ok (.iadd, 1) := by decide +kernel
theorem dL_law_822 : decode cL_law 822 = .ok (.iaload, 1) := by decide +kernel
theorem dL_law_823 : decode cL_law 823 = .ok (.invokevirtual 106, 3) := by decide +kernel
theorem dL_law_826 : decode cL_law 826 = .ok (.if_icmp .eq 193, 3) := by decide +kernel
theorem dL_law_829 : decode cL_law 829 = .ok (.iconst 0, 1) := by decide +kernel
theorem dL_law_830 : decode cL_law 830 = .ok (.ireturn, 1) := by decide +kernel
theorem dL_law_831 : decode cL_law 831 = .ok (.aload_n 1, 1) := by decide +kernel
theorem dL_law_832 : decode cL_law 832 = .ok (.aload_n 0, 1) := by decide +kernel
theorem dL_law_833 : decode cL_law 833 = .ok (.iload_n 3, 1) := by decide +kernel
theorem dL_law_834 : decode cL_law 834 = .ok (.iconst 1, 1) := by decide +kernel
theorem dL_law_835 : decode cL_law 835 = .ok (.iadd, 1) := by decide +kernel
theorem dL_law_836 : decode cL_law 836 = .ok (.iaload, 1) := by decide +kernel
theorem dL_law_837 : decode cL_law 837 = .ok (.aload_n 0, 1) := by decide +kernel
theorem dL_law_838 : decode cL_law 838 = .ok (.iload_n 3, 1) := by decide +kernel
theorem dL_law_839 : decode cL_law 839 = .ok (.iconst 2, 1) := by decide +kernel
theorem dL_law_840 : decode cL_law 840 = .ok (.iadd, 1) := by decide +kernel
theorem dL_law_841 : decode cL_law 841 = .ok (.iaload, 1) := by decide +kernel
theorem dL_law_842 : decode cL_law 842 = .ok (.invokevirtual 107, 3) := by decide +kernel
theorem dL_law_845 : decode cL_law 845 = .ok (.aload_n 2, 1) := by decide +kernel
theorem dL_law_846 : decode cL_law 846 = .ok (.aload_n 0, 1) := by decide +kernel
theorem dL_law_847 : decode cL_law 847 = .ok (.iload_n 3, 1) := by decide +kernel
theorem dL_law_848 : decode cL_law 848 = .ok (.iconst 1, 1) := by decide +kernel
theorem dL_law_849 : decode cL_law 849 = .ok (.iadd, 1) := by decide +kernel
theorem dL_law_850 : decode cL_law 850 = .ok (.iaload, 1) := by decide +kernel
theorem dL_law_851 : decode cL_law 851 = .ok (.aload_n 0, 1) := by decide +kernel
theorem dL_law_852 : decode cL_law 852 = .ok (.iload_n 3, 1) := by decide +kernel
theorem dL_law_853 : decode cL_law 853 = .ok (.iconst 2, 1) := by decide +kernel
theorem dL_law_854 : decode cL_law 854 = .ok (.iadd, 1) := by decide +kernel
theorem dL_law_855 : decode cL_law 855 = .ok (.iaload, 1) := by decide +kernel
theorem dL_law_856 : decode cL_law 856 = .ok (.invokevirtual 110, 3) := by decide +kernel
theorem dL_law_859 : decode cL_law 859 = .ok (.if_icmp .eq 160, 3) := by decide +kernel
theorem dL_law_862 : decode cL_law 862 = .ok (.iconst 0, 1) := by decide +kernel
theorem dL_law_863 : decode cL_law 863 = .ok (.ireturn, 1) := by decide +kernel
theorem dL_law_864 : decode cL_law 864 = .ok (.aload_n 1, 1) := by decide +kernel
theorem dL_law_865 : decode cL_law 865 = .ok (.aload_n 0, 1) := by decide +kernel
theorem dL_law_866 : decode cL_law 866 = .ok (.iload_n 3, 1) := by decide +kernel
theorem dL_law_867 : decode cL_law 867 = .ok (.iconst 1, 1) := by decide +kernel
theorem dL_law_868 : decode cL_law 868 = .ok (.iadd, 1) := by decide +kernel
theorem dL_law_869 : decode cL_law 869 = .ok (.iaload, 1) := by decide +kernel
theorem dL_law_870 : decode cL_law 870 = .ok (.aload_n 0, 1) := by decide +kernel
theorem dL_law_871 : decode cL_law 871 = .ok (.iload_n 3, 1) := by decide +kernel
theorem dL_law_872 : decode cL_law 872 = .ok (.iconst 2, 1) := by decide +kernel
theorem dL_law_873 : decode cL_law 873 = .ok (.iadd, 1) := by decide +kernel
theorem dL_law_874 : decode cL_law 874 = .ok (.iaload, 1) := by decide +kernel
theorem dL_law_875 : decode cL_law 875 = .ok (.invokevirtual 111, 3) := by decide +kernel
theorem dL_law_878 : decode cL_law 878 = .ok (.aload_n 2, 1) := by decide +kernel
theorem dL_law_879 : decode cL_law 879 = .ok (.aload_n 0, 1) := by decide +kernel
theorem dL_law_880 : decode cL_law 880 = .ok (.iload_n 3, 1) := by decide +kernel
theorem dL_law_881 : decode cL_law 881 = .ok (.iconst 1, 1) := by decide +kernel
theorem dL_law_882 : decode cL_law 882 = .ok (.iadd, 1) := by decide +kernel
theorem dL_law_883 : decode cL_law 883 = .ok (.iaload, 1) := by decide +kernel
theorem dL_law_884 : decode cL_law 884 = .ok (.aload_n 0, 1) := by decide +kernel
theorem dL_law_885 : decode cL_law 885 = .ok (.iload_n 3, 1) := by decide +kernel
theorem dL_law_886 : decode cL_law 886 = .ok (.iconst 2, 1) := by decide +kernel
theorem dL_law_887 : decode cL_law 887 = .ok (.iadd, 1) := by decide +kernel
theorem dL_law_888 : decode cL_law 888 = .ok (.iaload, 1) := by decide +kernel
theorem dL_law_889 : decode cL_law 889 = .ok (.invokevirtual 114, 3) := by decide +kernel
theorem dL_law_892 : decode cL_law 892 = .ok (.if_icmp .eq 127, 3) := by decide +kernel
theorem dL_law_895 : decode cL_law 895 = .ok (.iconst 0, 1) := by decide +kernel
theorem dL_law_896 : decode cL_law 896 = .ok (.ireturn, 1) := by decide +kernel
theorem dL_law_897 : decode cL_law 897 = .ok (.aload_n 1, 1) := by decide +kernel
theorem dL_law_898 : decode cL_law 898 = .ok (.aload_n 0, 1) := by decide +kernel
theorem dL_law_899 : decode cL_law 899 = .ok (.iload_n 3, 1) := by decide +kernel
theorem dL_law_900 : decode cL_law 900 = .ok (.iconst 1, 1) := by decide +kernel
theorem dL_law_901 : decode cL_law 901 = .ok (.iadd, 1) := by decide +kernel
theorem dL_law_902 : decode cL_law 902 = .ok (.iaload, 1) := by decide +kernel
theorem dL_law_903 : decode cL_law 903 = .ok (.aload_n 0, 1) := by decide +kernel
theorem dL_law_904 : decode cL_law 904 = .ok (.iload_n 3, 1) := by decide +kernel
theorem dL_law_905 : decode cL_law 905 = .ok (.iconst 2, 1) := by decide +kernel
theorem dL_law_906 : decode cL_law 906 = .ok (.iadd, 1) := by decide +kernel
theorem dL_law_907 : decode cL_law 907 = .ok (.iaload, 1) := by decide +kernel
theorem dL_law_908 : decode cL_law 908 = .ok (.invokevirtual 115, 3) := by decide +kernel
theorem dL_law_911 : decode cL_law 911 = .ok (.aload_n 2, 1) := by decide +kernel
theorem dL_law_912 : decode cL_law 912 = .ok (.aload_n 0, 1) := by decide +kernel
theorem dL_law_913 : decode cL_law 913 = .ok (.iload_n 3, 1) := by decide +kernel
theorem dL_law_914 : decode cL_law 914 = .ok (.iconst 1, 1) := by decide +kernel
theorem dL_law_915 : decode cL_law 915 = .ok (.iadd, 1) := by decide +kernel
theorem dL_law_916 : decode cL_law 916 = .ok (.iaload, 1) := by decide +kernel
theorem dL_law_917 : decode cL_law 917 = .ok (.aload_n 0, 1) := by decide +kernel
theorem dL_law_918 : decode cL_law 918 = .ok (.iload_n 3, 1) := by decide +kernel
theorem dL_law_919 : decode cL_law 919 = .ok (.iconst 2, 1) := by decide +kernel
theorem dL_law_920 : decode cL_law 920 = .ok (.iadd, 1) := by decide +kernel
theorem dL_law_921 : decode cL_law 921 = .ok (.iaload, 1) := by decide +kernel
theorem dL_law_922 : decode cL_law 922 = .ok (.invokevirtual 118, 3) := by decide +kernel
theorem dL_law_925 : decode cL_law 925 = .ok (.if_icmp .eq 94, 3) := by decide +kernel
theorem dL_law_928 : decode cL_law 928 = .ok (.iconst 0, 1) := by decide +kernel
theorem dL_law_929 : decode cL_law 929 = .ok (.ireturn, 1) := by decide +kernel
theorem dL_law_930 : decode cL_law 930 = .ok (.aload_n 1, 1) := by decide +kernel
theorem dL_law_931 : decode cL_law 931 = .ok (.aload_n 0, 1) := by decide +kernel
theorem dL_law_932 : decode cL_law 932 = .ok (.iload_n 3, 1) := by decide +kernel
theorem dL_law_933 : decode cL_law 933 = .ok (.iconst 1, 1) := by decide +kernel
theorem dL_law_934 : decode cL_law 934 = .ok (.iadd, 1) := by decide +kernel
theorem dL_law_935 : decode cL_law 935 = .ok (.iaload, 1) := by decide +kernel
theorem dL_law_936 : decode cL_law 936 = .ok (.aload_n 0, 1) := by decide +kernel
theorem dL_law_937 : decode cL_law 937 = .ok (.iload_n 3, 1) := by decide +kernel
theorem dL_law_938 : decode cL_law 938 = .ok (.iconst 2, 1) := by decide +kernel
theorem dL_law_939 : decode cL_law 939 = .ok (.iadd, 1) := by decide +kernel
theorem dL_law_940 : decode cL_law 940 = .ok (.iaload, 1) := by decide +kernel
theorem dL_law_941 : decode cL_law 941 = .ok (.invokevirtual 119, 3) := by decide +kernel
theorem dL_law_944 : decode cL_law 944 = .ok (.aload_n 2, 1) := by decide +kernel
theorem dL_law_945 : decode cL_law 945 = .ok (.aload_n 0, 1) := by decide +kernel
theorem dL_law_946 : decode cL_law 946 = .ok (.iload_n 3, 1) := by decide +kernel
theorem dL_law_947 : decode cL_law 947 = .ok (.iconst 1, 1) := by decide +kernel
theorem dL_law_948 : decode cL_law 948 = .ok (.iadd, 1) := by decide +kernel
theorem dL_law_949 : decode cL_law 949 = .ok (.iaload, 1) := by decide +kernel
theorem dL_law_950 : decode cL_law 950 = .ok (.aload_n 0, 1) := by decide +kernel
theorem dL_law_951 : decode cL_law 951 = .ok (.iload_n 3, 1) := by decide +kernel
theorem dL_law_952 : decode cL_law 952 = .ok (.iconst 2, 1) := by decide +kernel
theorem dL_law_953 : decode cL_law 953 = .ok (.iadd, 1) := by decide +kernel
theorem dL_law_954 : decode cL_law 954 = .ok (.iaload, 1) := by decide +kernel
theorem dL_law_955 : decode cL_law 955 = .ok (.invokevirtual 122, 3) := by decide +kernel
theorem dL_law_958 : decode cL_law 958 = .ok (.if_icmp .eq 61, 3) := by decide +kernel
theorem dL_law_961 : decode cL_law 961 = .ok (.iconst 0, 1) := by decide +kernel
theorem dL_law_962 : decode cL_law 962 = .ok (.ireturn, 1) := by decide +kernel
theorem dL_law_963 : decode cL_law 963 = .ok (.aload_n 1, 1) := by decide +kernel
theorem dL_law_964 : decode cL_law 964 = .ok (.aload_n 0, 1) := by decide +kernel
theorem dL_law_965 : decode cL_law 965 = .ok (.iload_n 3, 1) := by decide +kernel
theorem dL_law_966 : decode cL_law 966 = .ok (.iconst 1, 1) := by decide +kernel
theorem dL_law_967 : decode cL_law 967 = .ok (.iadd, 1) := by decide +kernel
theorem dL_law_968 : decode cL_law 968 = .ok (.iaload, 1) := by decide +kernel
theorem dL_law_969 : decode cL_law 969 = .ok (.aload_n 0, 1) := by decide +kernel
theorem dL_law_970 : decode cL_law 970 = .ok (.iload_n 3, 1) := by decide +kernel
theorem dL_law_971 : decode cL_law 971 = .ok (.iconst 2, 1) := by decide +kernel
theorem dL_law_972 : decode cL_law 972 = .ok (.iadd, 1) := by decide +kernel
theorem dL_law_973 : decode cL_law 973 = .ok (.iaload, 1) := by decide +kernel
theorem dL_law_974 : decode cL_law 974 = .ok (.invokevirtual 123, 3) := by decide +kernel
theorem dL_law_977 : decode cL_law 977 = .ok (.aload_n 2, 1) := by decide +kernel
theorem dL_law_978 : decode cL_law 978 = .ok (.aload_n 0, 1) := by decide +kernel
theorem dL_law_979 : decode cL_law 979 = .ok (.iload_n 3, 1) := by decide +kernel
theorem dL_law_980 : decode cL_law 980 = .ok (.iconst 1, 1) := by decide +kernel
theorem dL_law_981 : decode cL_law 981 = .ok (.iadd, 1) := by decide +kernel
theorem dL_law_982 : decode cL_law 982 = .ok (.iaload, 1) := by decide +kernel
theorem dL_law_983 : decode cL_law 983 = .ok (.aload_n 0, 1) := by decide +kernel
theorem dL_law_984 : decode cL_law 984 = .ok (.iload_n 3, 1) := by decide +kernel
theorem dL_law_985 : decode cL_law 985 = .ok (.iconst 2, 1) := by decide +kernel
theorem dL_law_986 : decode cL_law 986 = .ok (.iadd, 1) := by decide +kernel
theorem dL_law_987 : decode cL_law 987 = .ok (.iaload, 1) := by decide +kernel
theorem dL_law_988 : decode cL_law 988 = .ok (.invokevirtual 126, 3) := by decide +kernel
theorem dL_law_991 : decode cL_law 991 = .ok (.if_icmp .eq 28, 3) := by decide +kernel
theorem dL_law_994 : decode cL_law 994 = .ok (.iconst 0, 1) := by decide +kernel
theorem dL_law_995 : decode cL_law 995 = .ok (.ireturn, 1) := by decide +kernel
theorem dL_law_996 : decode cL_law 996 = .ok (.aload_n 1, 1) := by decide +kernel
theorem dL_law_997 : decode cL_law 997 = .ok (.aload_n 0, 1) := by decide +kernel
theorem dL_law_998 : decode cL_law 998 = .ok (.iload_n 3, 1) := by decide +kernel
theorem dL_law_999 : decode cL_law 999 = .ok (.iconst 1, 1) := by decide +kernel
theorem dL_law_1000 : decode cL_law 1000 = .ok (.iadd, 1) := by decide +kernel
theorem dL_law_1001 : decode cL_law 1001 = .ok (.iaload, 1) := by decide +kernel
theorem dL_law_1002 : decode cL_law 1002 = .ok (.invokevirtual 127, 3) := by decide +kernel
theorem dL_law_1005 : decode cL_law 1005 = .ok (.aload_n 2, 1) := by decide +kernel
theorem dL_law_1006 : decode cL_law 1006 = .ok (.aload_n 0, 1) := by decide +kernel
theorem dL_law_1007 : decode cL_law 1007 = .ok (.iload_n 3, 1) := by decide +kernel
theorem dL_law_1008 : decode cL_law 1008 = .ok (.iconst 1, 1) := by decide +kernel
theorem dL_law_1009 : decode cL_law 1009 = .ok (.iadd, 1) := by decide +kernel
theorem dL_law_1010 : decode cL_law 1010 = .ok (.iaload, 1) := by decide +kernel
theorem dL_law_1011 : decode cL_law 1011 = .ok (.invokevirtual 130, 3) := by decide +kernel
theorem dL_law_1014 : decode cL_law 1014 = .ok (.if_icmp .eq 5, 3) := by decide +kernel
theorem dL_law_1017 : decode cL_law 1017 = .ok (.iconst 0, 1) := by decide +kernel
theorem dL_law_1018 : decode cL_law 1018 = .ok (.ireturn, 1) := by decide +kernel
theorem dL_law_1019 : decode cL_law 1019 = .ok (.iinc 3 5, 3) := by decide +kernel
theorem dL_law_1022 : decode cL_law 1022 = .ok (.goto (-1004), 3) := by decide +kernel
theorem dL_law_1025 : decode cL_law 1025 = .ok (.iconst 1, 1) := by decide +kernel
theorem dL_law_1026 : decode cL_law 1026 = .ok (.ireturn, 1) := by decide +kernel
