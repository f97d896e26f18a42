theorem dX12_isSeven_37 : decode cX12_isSeven 37 = .ok (.getfield 151, 3) := by decide +kernel
theorem dX12_isSeven_40 : decode cX12_isSeven 40 = .ok (.iload_n 2, 1) := by decide +kernel
theorem dX12_isSeven_41 : decode cX12_isSeven 41 = .ok (.iadd, 1) := by decide +kernel
theorem dX12_isSeven_42 : decode cX12_isSeven 42 = .ok (.iaload, 1) := by decide +kernel
theorem dX12_isSeven_43 : decode cX12_isSeven 43 = .ok (.aload_n 0, 1) := by decide +kernel
theorem dX12_isSeven_44 : decode cX12_isSeven 44 = .ok (.getfield 49, 3) := by decide +kernel
theorem dX12_isSeven_47 : decode cX12_isSeven 47 = .ok (.iload_n 2, 1) := by decide +kernel
theorem dX12_isSeven_48 : decode cX12_isSeven 48 = .ok (.iaload, 1) := by decide +kernel
theorem dX12_isSeven_49 : decode cX12_isSeven 49 = .ok (.if_icmp .ne 7, 3) := by decide +kernel
theorem dX12_isSeven_52 : decode cX12_isSeven 52 = .ok (.iconst 1, 1) := by decide +kernel
theorem dX12_isSeven_53 : decode cX12_isSeven 53 = .ok (.goto 4, 3) := by decide +kernel
theorem dX12_isSeven_56 : decode cX12_isSeven 56 = .ok (.iconst 0, 1) := by decide +kernel
theorem dX12_isSeven_57 : decode cX12_isSeven 57 = .ok (.istore_n 1, 1) := by decide +kernel
theorem dX12_isSeven_58 : decode cX12_isSeven 58 = .ok (.iinc 2 1, 3) := by decide +kernel
theorem dX12_isSeven_61 : decode cX12_isSeven 61 = .ok (.goto (-39), 3) := by decide +kernel
theorem dX12_isSeven_64 : decode cX12_isSeven 64 = .ok (.iload_n 1, 1) := by decide +kernel
theorem dX12_isSeven_65 : decode cX12_isSeven 65 = .ok (.ireturn, 1) := by decide +kernel
theorem dX12_advance_0 : decode cX12_advance 0 = .ok (.aload_n 0, 1) := by decide +kernel
theorem dX12_advance_1 : decode cX12_advance 1 = .ok (.getfield 148, 3) := by decide +kernel
theorem dX12_advance_4 : decode cX12_advance 4 = .ok (.istore_n 1, 1) := by decide +kernel
theorem dX12_advance_5 : decode cX12_advance 5 = .ok (.iload_n 1, 1) := by decide +kernel
theorem dX12_advance_6 : decode cX12_advance 6 = .ok (.aload_n 0, 1) := by decide +kernel
theorem dX12_advance_7 : decode cX12_advance 7 = .ok (.getfield 142, 3) := by decide +kernel
theorem dX12_advance_10 : decode cX12_advance 10 = .ok (.if_icmp .ge 20, 3) := by decide +kernel
theorem dX12_advance_13 : decode cX12_advance 13 = .ok (.aload_n 0, 1) := by decide +kernel
theorem dX12_advance_14 : decode cX12_advance 14 = .ok (.getfield 37, 3) := by decide +kernel
theorem dX12_advance_17 : decode cX12_advance 17 = .ok (.iload_n 1, 1) := by decide +kernel
theorem dX12_advance_18 : decode cX12_advance 18 = .ok (.iaload, 1) := by decide +kernel
theorem dX12_advance_19 : decode cX12_advance 19 = .ok (.bipush 32, 2) := by decide +kernel
theorem dX12_advance_21 : decode cX12_advance 21 = .ok (.if_icmp .ne 9, 3) := by decide +kernel
theorem dX12_advance_24 : decode cX12_advance 24 = .ok (.iinc 1 1, 3) := by decide +kernel
theorem dX12_advance_27 : decode cX12_advance 27 = .ok (.goto (-22), 3) := by decide +kernel
theorem dX12_advance_30 : decode cX12_advance 30 = .ok (.aload_n 0, 1) := by decide +kernel
theorem dX12_advance_31 : decode cX12_advance 31 = .ok (.iload_n 1, 1) := by decide +kernel
theorem dX12_advance_32 : decode cX12_advance 32 = .ok (.putfield 151, 3) := by decide +kernel
theorem dX12_advance_35 : decode cX12_advance 35 = .ok (.aload_n 0, 1) := by decide +kernel
theorem dX12_advance_36 : decode cX12_advance 36 = .ok (.iconst 0, 1) := by decide +kernel
theorem dX12_advance_37 : decode cX12_advance 37 = .ok (.putfield 154, 3) := by decide +kernel
theorem dX12_advance_40 : decode cX12_advance 40 = .ok (.iload_n 1, 1) := by decide +kernel
theorem dX12_advance_41 : decode cX12_advance 41 = .ok (.aload_n 0, 1) := by decide +kernel
theorem dX12_advance_42 : decode cX12_advance 42 = .ok (.getfield 142, 3) := by decide +kernel
theorem dX12_advance_45 : decode cX12_advance 45 = .ok (.if_icmp .ne 11, 3) := by decide +kernel
theorem dX12_advance_48 : decode cX12_advance 48 = .ok (.aload_n 0, 1) := by decide +kernel
theorem dX12_advance_49 : decode cX12_advance 49 = .ok (.iconst 0, 1) := by decide +kernel
theorem dX12_advance_50 : decode cX12_advance 50 = .ok (.putfield 157, 3) := by decide +kernel
theorem dX12_advance_53 : decode cX12_advance 53 = .ok (.goto 181, 3) := by decide +kernel
theorem dX12_advance_56 : decode cX12_advance 56 = .ok (.aload_n 0, 1) := by decide +kernel
theorem dX12_advance_57 : decode cX12_advance 57 = .ok (.getfield 37, 3) := by decide +kernel
theorem dX12_advance_60 : decode cX12_advance 60 = .ok (.iload_n 1, 1) := by decide +kernel
theorem dX12_advance_61 : decode cX12_advance 61 = .ok (.iaload, 1) := by decide +kernel
theorem dX12_advance_62 : decode cX12_advance 62 = .ok (.invokestatic 160, 3) := by decide +kernel
theorem dX12_advance_65 : decode cX12_advance 65 = .ok (.ifCond .eq 70, 3) := by decide +kernel
theorem dX12_advance_68 : decode cX12_advance 68 = .ok (.aload_n 0, 1) := by decide +kernel
theorem dX12_advance_69 : decode cX12_advance 69 = .ok (.iconst 1, 1) := by decide +kernel
theorem dX12_advance_70 : decode cX12_advance 70 = .ok (.putfield 157, 3) := by decide +kernel
theorem dX12_advance_73 : decode cX12_advance 73 = .ok (.iload_n 1, 1) := by decide +kernel
theorem dX12_advance_74 : decode cX12_advance 74 = .ok (.aload_n 0, 1) := by decide +kernel
theorem dX12_advance_75 : decode cX12_advance 75 = .ok (.getfield 142, 3) := by decide +kernel
theorem dX12_advance_78 : decode cX12_advance 78 = .ok (.if_icmp .ge 156, 3) := by decide +kernel
theorem dX12_advance_81 : decode cX12_advance 81 = .ok (.aload_n 0, 1) := by decide +kernel
theorem dX12_advance_82 : decode cX12_advance 82 = .ok (.getfield 37, 3) := by decide +kernel
theorem dX12_advance_85 : decode cX12_advance 85 = .ok (.iload_n 1, 1) := by decide +kernel
theorem dX12_advance_86 : decode cX12_advance 86 = .ok (.iaload, 1) := by decide +kernel
theorem dX12_advance_87 : decode cX12_advance 87 = .ok (.invokestatic 160, 3) := by decide +kernel
theorem dX12_advance_90 : decode cX12_advance 90 = .ok (.ifCond .eq 144, 3) := by decide +kernel
theorem dX12_advance_93 : decode cX12_advance 93 = .ok (.aload_n 0, 1) := by decide +kernel
theorem dX12_advance_94 : decode cX12_advance 94 = .ok (.iload_n 1, 1) := by decide +kernel
theorem dX12_advance_95 : decode cX12_advance 95 = .ok (.aload_n 0, 1) := by decide +kernel
theorem dX12_advance_96 : decode cX12_advance 96 = .ok (.getfield 151, 3) := by decide +kernel
theorem dX12_advance_99 : decode cX12_advance 99 = .ok (.isub, 1) := by decide +kernel
theorem dX12_advance_100 : decode cX12_advance 100 = .ok (.bipush 6, 2) := by decide +kernel
theorem dX12_advance_102 : decode cX12_advance 102 = .ok (.if_icmp .ge 23, 3) := by decide +kernel
theorem dX12_advance_105 : decode cX12_advance 105 = .ok (.bipush 27, 2) := by decide +kernel
theorem dX12_advance_107 : decode cX12_advance 107 = .ok (.aload_n 0, 1) := by decide +kernel
theorem dX12_advance_108 : decode cX12_advance 108 = .ok (.getfield 154, 3) := by decide +kernel
theorem dX12_advance_111 : decode cX12_advance 111 = .ok (.imul, 1) := by decide +kernel
theorem dX12_advance_112 : decode cX12_advance 112 = .ok (.aload_n 0, 1) := by decide +kernel
theorem dX12_advance_113 : decode cX12_advance 113 = .ok (.getfield 37, 3) := by decide +kernel
theorem dX12_advance_116 : decode cX12_advance 116 = .ok (.iload_n 1, 1) := by decide +kernel
theorem dX12_advance_117 : decode cX12_advance 117 = .ok (.iaload, 1) := by decide +kernel
theorem dX12_advance_118 : decode cX12_advance 118 = .ok (.iadd, 1) := by decide +kernel
theorem dX12_advance_119 : decode cX12_advance 119 = .ok (.bipush 96, 2) := by decide +kernel
theorem dX12_advance_121 : decode cX12_advance 121 = .ok (.isub, 1) := by decide +kernel
theorem dX12_advance_122 : decode cX12_advance 122 = .ok (.goto 4, 3) := by decide +kernel
theorem dX12_advance_125 : decode cX12_advance 125 = .ok (.iconst 0, 1) := by decide +kernel
theorem dX12_advance_126 : decode cX12_advance 126 = .ok (.putfield 154, 3) := by decide +kernel
theorem dX12_advance_129 : decode cX12_advance 129 = .ok (.iinc 1 1, 3) := by decide +kernel
theorem dX12_advance_132 : decode cX12_advance 132 = .ok (.goto (-59), 3) := by decide +kernel
theorem dX12_advance_135 : decode cX12_advance 135 = .ok (.aload_n 0, 1) := by decide +kernel
theorem dX12_advance_136 : decode cX12_advance 136 = .ok (.getfield 37, 3) := by decide +kernel
theorem dX12_advance_139 : decode cX12_advance 139 = .ok (.iload_n 1, 1) := by decide +kernel
theorem dX12_advance_140 : decode cX12_advance 140 = .ok (.iaload, 1) := by decide +kernel
theorem dX12_advance_141 : decode cX12_advance 141 = .ok (.invokestatic 163, 3) := by decide +kernel
theorem dX12_advance_144 : decode cX12_advance 144 = .ok (.ifCond .eq 72, 3) := by decide +kernel
theorem dX12_advance_147 : decode cX12_advance 147 = .ok (.aload_n 0, 1) := by decide +kernel
theorem dX12_advance_148 : decode cX12_advance 148 = .ok (.iconst 2, 1) := by decide +kernel
theorem dX12_advance_149 : decode cX12_advance 149 = .ok (.putfield 157, 3) := by decide +kernel
theorem dX12_advance_152 : decode cX12_advance 152 = .ok (.iload_n 1, 1) := by decide +kernel
theorem dX12_advance_153 : decode cX12_advance 153 = .ok (.aload_n 0, 1) := by decide +kernel
theorem dX12_advance_154 : decode cX12_advance 154 = .ok (.getfield 142, 3) := by decide +kernel
theorem dX12_advance_157 : decode cX12_advance 157 = .ok (.if_icmp .ge 77, 3) := by decide +kernel
theorem dX12_advance_160 : decode cX12_advance 160 = .ok (.aload_n 0, 1) := by decide +kernel
theorem dX12_advance_161 : decode cX12_advance 161 = .ok (.getfield 37, 3) := by decide +kernel
theorem dX12_advance_164 : decode cX12_advance 164 = .ok (.iload_n 1, 1) := by decide +kernel
theorem dX12_advance_165 : decode cX12_advance 165 = .ok (.iaload, 1) := by decide +kernel
theorem dX12_advance_166 : decode cX12_advance 166 = .ok (.invokestatic 163, 3) := by decide +kernel
theorem dX12_advance_169 : decode cX12_advance 169 = .ok (.ifCond .eq 65, 3) := by decide +kernel
theorem dX12_advance_172 : decode cX12_advance 172 = .ok (.aload_n 0, 1) := by decide +kernel
theorem dX12_advance_173 : decode cX12_advance 173 = .ok (.iload_n 1, 1) := by decide +kernel
theorem dX12_advance_174 : decode cX12_advance 174 = .ok (.aload_n 0, 1) := by decide +kernel
theorem dX12_advance_175 : decode cX12_advance 175 = .ok (.getfield 151, 3) := by decide +kernel
theorem dX12_advance_178 : decode cX12_advance 178 = .ok (.isub, 1) := by decide +kernel
theorem dX12_advance_179 : decode cX12_advance 179 = .ok (.iconst 3, 1) := by decide +kernel
theorem dX12_advance_180 : decode cX12_advance 180 = .ok (.if_icmp .ge 23, 3) := by decide +kernel
theorem dX12_advance_183 : decode cX12_advance 183 = .ok (.bipush 10, 2) := by decide +kernel
theorem dX12_advance_185 : decode cX12_advance 185 = .ok (.aload_n 0, 1) := by decide +kernel
theorem dX12_advance_186 : decode cX12_advance 186 = .ok (.getfield 154, 3) := by decide +kernel
theorem dX12_advance_189 : decode cX12_advance 189 = .ok (.imul, 1) := by decide +kernel
theorem dX12_advance_190 : decode cX12_advance 190 = .ok (.aload_n 0, 1) := by decide +kernel
theorem dX12_advance_191 : decode cX12_advance 191 = .ok (.getfield 37, 3) := by decide +kernel
theorem dX12_advance_194 : decode cX12_advance 194 = .ok (.iload_n 1, 1) := by decide +kernel
theorem dX12_advance_195 : decode cX12_advance 195 = .ok (.iaload, 1) := by decide +kernel
theorem dX12_advance_196 : decode cX12_advance 196 = .ok (.iadd, 1) := by decide +kernel
theorem dX12_advance_197 : decode cX12_advance 197 = .ok (.bipush 48, 2) := by decide +kernel
theorem dX12_advance_199 : decode cX12_advance 199 = .ok (.isub, 1) := by decide +kernel
theorem dX12_advance_200 : decode cX12_advance 200 = .ok (.goto 7, 3) := by decide +kernel
theorem dX12_advance_203 : decode cX12_advance 203 = .ok (.aload_n 0, 1) := by decide +kernel
theorem dX12_advance_204 : decode cX12_advance 204 = .ok (.getfield 154, 3) := by decide +kernel
theorem dX12_advance_207 : decode cX12_advance 207 = .ok (.putfield 154, 3) := by decide +kernel
theorem dX12_advance_210 : decode cX12_advance 210 = .ok (.iinc 1 1, 3) := by decide +kernel
theorem dX12_advance_213 : decode cX12_advance 213 = .ok (.goto (-61), 3) := by decide +kernel
theorem dX12_advance_216 : decode cX12_advance 216 = .ok (.aload_n 0, 1) := by decide +kernel
theorem dX12_advance_217 : decode cX12_advance 217 = .ok (.iconst 3, 1) := by decide +kernel
theorem dX12_advance_218 : decode cX12_advance 218 = .ok (.putfield 157, 3) := by decide +kernel
theorem dX12_advance_221 : decode cX12_advance 221 = .ok (.aload_n 0, 1) := by decide +kernel
theorem dX12_advance_222 : decode cX12_advance 222 = .ok (.aload_n 0, 1) := by decide +kernel
theorem dX12_advance_223 : decode cX12_advance 223 = .ok (.getfield 37, 3) := by decide +kernel
theorem dX12_advance_226 : decode cX12_advance 226 = .ok (.iload_n 1, 1) := by decide +kernel
theorem dX12_advance_227 : decode cX12_advance 227 = .ok (.iaload, 1) := by decide +kernel
theorem dX12_advance_228 : decode cX12_advance 228 = .ok (.putfield 154, 3) := by decide +kernel
theorem dX12_advance_231 : decode cX12_advance 231 = .ok (.iinc 1 1, 3) := by decide +kernel
theorem dX12_advance_234 : decode cX12_advance 234 = .ok (.aload_n 0, 1) := by decide +kernel
theorem dX12_advance_235 : decode cX12_advance 235 = .ok (.iload_n 1, 1) := by decide +kernel
theorem dX12_advance_236 : decode cX12_advance 236 = .ok (.putfield 148, 3) := by decide +kernel
theorem dX12_advance_239 : decode cX12_advance 239 = .ok (.aload_n 0, 1) := by decide +kernel
theorem dX12_advance_240 : decode cX12_advance 240 = .ok (.getfield 157, 3) := by decide +kernel
theorem dX12_advance_243 : decode cX12_advance 243 = .ok (.iconst 1, 1) := by decide +kernel
theorem dX12_advance_244 : decode cX12_advance 244 = .ok (.if_icmp .ne 34, 3) := by decide +kernel
theorem dX12_advance_247 : decode cX12_advance 247 = .ok (.aload_n 0, 1) := by decide +kernel
theorem dX12_advance_248 : decode cX12_advance 248 = .ok (.getfield 148, 3) := by decide +kernel
theorem dX12_advance_251 : decode cX12_advance 251 = .ok (.aload_n 0, 1) := by decide +kernel
theorem dX12_advance_252 : decode cX12_advance 252 = .ok (.getfield 151, 3) := by decide +kernel
theorem dX12_advance_255 : decode cX12_advance 255 = .ok (.isub, 1) := by decide +kernel
theorem dX12_advance_256 : decode cX12_advance 256 = .ok (.bipush 6, 2) := by decide +kernel
theorem dX12_advance_258 : decode cX12_advance 258 = .ok (.if_icmp .le 20, 3) := by decide +kernel
theorem dX12_advance_261 : decode cX12_advance 261 = .ok (.aload_n 0, 1) := by decide +kernel
theorem dX12_advance_262 : decode cX12_advance 262 = .ok (.aload_n 0, 1) := by decide +kernel
theorem dX12_advance_263 : decode cX12_advance 263 = .ok (.invokevirtual 166, 3) := by decide +kernel
theorem dX12_advance_266 : decode cX12_advance 266 = .ok (.ifCond .eq 8, 3) := by decide +kernel
theorem dX12_advance_269 : decode cX12_advance 269 = .ok (.bipush (-2), 2) := by decide +kernel
theorem dX12_advance_271 : decode cX12_advance 271 = .ok (.goto 4, 3) := by decide +kernel
theorem dX12_advance_274 : decode cX12_advance 274 = .ok (.iconst 0, 1) := by decide +kernel
theorem dX12_advance_275 : decode cX12_advance 275 = .ok (.putfield 154, 3) := by decide +kernel
theorem dX12_advance_278 : decode cX12_advance 278 = .ok (.return_, 1) := by decide +kernel
theorem dX12_isGood_0 : decode cX12_isGood 0 = .ok (.aload_n 0, 1) := by decide +kernel
theorem dX12_isGood_1 : decode cX12_isGood 1 = .ok (.getfield 170, 3) := by decide +kernel
theorem dX12_isGood_4 : decode cX12_isGood 4 = .ok (.ifCond .ge 7, 3) := by decide +kernel
theorem dX12_isGood_7 : decode cX12_isGood 7 = .ok (.iconst 1, 1) := by decide +kernel
theorem dX12_isGood_8 : decode cX12_isGood 8 = .ok (.goto 4, 3) := by decide +kernel
theorem dX12_isGood_11 : decode cX12_isGood 11 = .ok (.iconst 0, 1) := by decide +kernel
theorem dX12_isGood_12 : decode cX12_isGood 12 = .ok (.ireturn, 1) := by decide +kernel
theorem dX12_wrong_0 : decode cX12_wrong 0 = .ok (.aload_n 0, 1) := by decide +kernel
theorem dX12_wrong_1 : decode cX12_wrong 1 = .ok (.aload_n 0, 1) := by decide +kernel
theorem dX12_wrong_2 : decode cX12_wrong 2 = .ok (.getfield 170, 3) := by decide +kernel
theorem dX12_wrong_5 : decode cX12_wrong 5 = .ok (.ifCond .ge 10, 3) := by decide +kernel
theorem dX12_wrong_8 : decode cX12_wrong 8 = .ok (.aload_n 0, 1) := by decide +kernel
theorem dX12_wrong_9 : decode cX12_wrong 9 = .ok (.getfield 151, 3) := by decide +kernel
theorem dX12_wrong_12 : decode cX12_wrong 12 = .ok (.goto 7, 3) := by decide +kernel
theorem dX12_wrong_15 : decode cX12_wrong 15 = .ok (.aload_n 0, 1) := by decide +kernel
theorem dX12_wrong_16 : decode cX12_wrong 16 = .ok (.getfield 170, 3) := by decide +kernel
theorem dX12_wrong_19 : decode cX12_wrong 19 = .ok (.putfield 170, 3) := by decide +kernel
theorem dX12_wrong_22 : decode cX12_wrong 22 = .ok (.return_, 1) := by decide +kernel
theorem dX12_wantNumber_0 : decode cX12_wantNumber 0 = .ok (.aload_n 0, 1) := by decide +kernel
theorem dX12_wantNumber_1 : decode cX12_wantNumber 1 = .ok (.getfield 154, 3) := by decide +kernel
theorem dX12_wantNumber_4 : decode cX12_wantNumber 4 = .ok (.istore_n 3, 1) := by decide +kernel
theorem dX12_wantNumber_5 : decode cX12_wantNumber 5 = .ok (.aload_n 0, 1) := by decide +kernel
theorem dX12_wantNumber_6 : decode cX12_wantNumber 6 = .ok (.invokevirtual 173, 3) := by decide +kernel
theorem dX12_wantNumber_9 : decode cX12_wantNumber 9 = .ok (.ifCond .eq 44, 3) := by decide +kernel
theorem dX12_wantNumber_12 : decode cX12_wantNumber 12 = .ok (.aload_n 0, 1) := by decide +kernel
theorem dX12_wantNumber_13 : decode cX12_wantNumber 13 = .ok (.getfield 157, 3) := by decide +kernel
theorem dX12_wantNumber_16 : decode cX12_wantNumber 16 = .ok (.iconst 2, 1) := by decide +kernel
theorem dX12_wantNumber_17 : decode cX12_wantNumber 17 = .ok (.if_icmp .ne 32, 3) := by decide +kernel
theorem dX12_wantNumber_20 : decode cX12_wantNumber 20 = .ok (.aload_n 0, 1) := by decide +kernel
theorem dX12_wantNumber_21 : decode cX12_wantNumber 21 = .ok (.getfield 148, 3) := by decide +kernel
theorem dX12_wantNumber_24 : decode cX12_wantNumber 24 = .ok (.aload_n 0, 1) := by decide +kernel
theorem dX12_wantNumber_25 : decode cX12_wantNumber 25 = .ok (.getfield 151, 3) := by decide +kernel
theorem dX12_wantNumber_28 : decode cX12_wantNumber 28 = .ok (.isub, 1) := by decide +kernel
theorem dX12_wantNumber_29 : decode cX12_wantNumber 29 = .ok (.iconst 3, 1) := by decide +kernel
theorem dX12_wantNumber_30 : decode cX12_wantNumber 30 = .ok (.if_icmp .gt 19, 3) := by decide +kernel
theorem dX12_wantNumber_33 : decode cX12_wantNumber 33 = .ok (.iload_n 3, 1) := by decide +kernel
theorem dX12_wantNumber_34 : decode cX12_wantNumber 34 = .ok (.iload_n 1, 1) := by decide +kernel
theorem dX12_wantNumber_35 : decode cX12_wantNumber 35 = .ok (.iload_n 2, 1) := by decide +kernel
theorem dX12_wantNumber_36 : decode cX12_wantNumber 36 = .ok (.invokestatic 95, 3) := by decide +kernel
theorem dX12_wantNumber_39 : decode cX12_wantNumber 39 = .ok (.ifCond .eq 10, 3) := by decide +kernel
theorem dX12_wantNumber_42 : decode cX12_wantNumber 42 = .ok (.aload_n 0, 1) := by decide +kernel
theorem dX12_wantNumber_43 : decode cX12_wantNumber 43 = .ok (.invokevirtual 176, 3) := by decide +kernel
theorem dX12_wantNumber_46 : decode cX12_wantNumber 46 = .ok (.goto 7, 3) := by decide +kernel
theorem dX12_wantNumber_49 : decode cX12_wantNumber 49 = .ok (.aload_n 0, 1) := by decide +kernel
theorem dX12_wantNumber_50 : decode cX12_wantNumber 50 = .ok (.invokevirtual 179, 3) := by decide +kernel
theorem dX12_wantNumber_53 : decode cX12_wantNumber 53 = .ok (.iload_n 3, 1) := by decide +kernel
theorem dX12_wantNumber_54 : decode cX12_wantNumber 54 = .ok (.ireturn, 1) := by decide +kernel
theorem dX12_isWord_0 : decode cX12_isWord 0 = .ok (.aload_n 0, 1) := by decide +kernel
theorem dX12_isWord_1 : decode cX12_isWord 1 = .ok (.getfield 157, 3) := by decide +kernel
theorem dX12_isWord_4 : decode cX12_isWord 4 = .ok (.iconst 1, 1) := by decide +kernel
theorem dX12_isWord_5 : decode cX12_isWord 5 = .ok (.if_icmp .ne 15, 3) := by decide +kernel
theorem dX12_isWord_8 : decode cX12_isWord 8 = .ok (.aload_n 0, 1) := by decide +kernel
theorem dX12_isWord_9 : decode cX12_isWord 9 = .ok (.getfield 154, 3) := by decide +kernel
theorem dX12_isWord_12 : decode cX12_isWord 12 = .ok (.iload_n 1, 1) := by decide +kernel
theorem dX12_isWord_13 : decode cX12_isWord 13 = .ok (.if_icmp .ne 7, 3) := by decide +kernel
theorem dX12_isWord_16 : decode cX12_isWord 16 = .ok (.iconst 1, 1) := by decide +kernel
theorem dX12_isWord_17 : decode cX12_isWord 17 = .ok (.goto 4, 3) := by decide +kernel
theorem dX12_isWord_20 : decode cX12_isWord 20 = .ok (.iconst 0, 1) := by decide +kernel
theorem dX12_isWord_21 : decode cX12_isWord 21 = .ok (.ireturn, 1) := by decide +kernel
theorem dX12_isMark_0 : decode cX12_isMark 0 = .ok (.aload_n 0, 1) := by decide +kernel
theorem dX12_isMark_1 : decode cX12_isMark 1 = .ok (.getfield 157, 3) := by decide +kernel
theorem dX12_isMark_4 : decode cX12_isMark 4 = .ok (.iconst 3, 1) := by decide +kernel
theorem dX12_isMark_5 : decode cX12_isMark 5 = .ok (.if_icmp .ne 15, 3) := by decide +kernel
theorem dX12_isMark_8 : decode cX12_isMark 8 = .ok (.aload_n 0, 1) := by decide +kernel
theorem dX12_isMark_9 : decode cX12_isMark 9 = .ok (.getfield 154, 3) := by decide +kernel
theorem dX12_isMark_12 : decode cX12_isMark 12 = .ok (.iload_n 1, 1) := by decide +kernel
theorem dX12_isMark_13 : decode cX12_isMark 13 = .ok (.if_icmp .ne 7, 3) := by decide +kernel
theorem dX12_isMark_16 : decode cX12_isMark 16 = .ok (.iconst 1, 1) := by decide +kernel
theorem dX12_isMark_17 : decode cX12_isMark 17 = .ok (.goto 4, 3) := by decide +kernel
theorem dX12_isMark_20 : decode cX12_isMark 20 = .ok (.iconst 0, 1) := by decide +kernel
theorem dX12_isMark_21 : decode cX12_isMark 21 = .ok (.ireturn, 1) := by decide +kernel
theorem dX12_want_0 : decode cX12_want 0 = .ok (.aload_n 0, 1) := by decide +kernel
theorem dX12_want_1 : decode cX12_want 1 = .ok (.invokevirtual 173, 3) := by decide +kernel
theorem dX12_want_4 : decode cX12_want 4 = .ok (.ifCond .eq 18, 3) := by decide +kernel
theorem dX12_want_7 : decode cX12_want 7 = .ok (.iload_n 1, 1) := by decide +kernel
theorem dX12_want_8 : decode cX12_want 8 = .ok (.ifCond .eq 10, 3) := by decide +kernel
theorem dX12_want_11 : decode cX12_want 11 = .ok (.aload_n 0, 1) := by decide +kernel
theorem dX12_want_12 : decode cX12_want 12 = .ok (.invokevirtual 176, 3) := by decide +kernel
theorem dX12_want_15 : decode cX12_want 15 = .ok (.goto 7, 3) := by decide +kernel
theorem dX12_want_18 : decode cX12_want 18 = .ok (.aload_n 0, 1) := by decide +kernel
theorem dX12_want_19 : decode cX12_want 19 = .ok (.invokevirtual 179, 3) := by decide +kernel
theorem dX12_want_22 : decode cX12_want 22 = .ok (.return_, 1) := by decide +kernel
theorem dX12_emit_0 : decode cX12_emit 0 = .ok (.aload_n 0, 1) := by decide +kernel
theorem dX12_emit_1 : decode cX12_emit 1 = .ok (.getfield 43, 3) := by decide +kernel
theorem dX12_emit_4 : decode cX12_emit 4 = .ok (.aload_n 0, 1) := by decide +kernel
theorem dX12_emit_5 : decode cX12_emit 5 = .ok (.getfield 182, 3) := by decide +kernel
theorem dX12_emit_8 : decode cX12_emit 8 = .ok (.iload_n 1, 1) := by decide +kernel
theorem dX12_emit_9 : decode cX12_emit 9 = .ok (.iastore, 1) := by decide +kernel
theorem dX12_emit_10 : decode cX12_emit 10 = .ok (.aload_n 0, 1) := by decide +kernel
theorem dX12_emit_11 : decode cX12_emit 11 = .ok (.dup, 1) := by decide +kernel
theorem dX12_emit_12 : decode cX12_emit 12 = .ok (.getfield 182, 3) := by decide +kernel
theorem dX12_emit_15 : decode cX12_emit 15 = .ok (.iconst 1, 1) := by decide +kernel
theorem dX12_emit_16 : decode cX12_emit 16 = .ok (.iadd, 1) := by decide +kernel
theorem dX12_emit_17 : decode cX12_emit 17 = .ok (.putfield 182, 3) := by decide +kernel
theorem dX12_emit_20 : decode cX12_emit 20 = .ok (.return_, 1) := by decide +kernel
theorem dX12_settle_0 : decode cX12_settle 0 = .ok (.aload_n 0, 1) := by decide +kernel
theorem dX12_settle_1 : decode cX12_settle 1 = .ok (.getfield 185, 3) := by decide +kernel
theorem dX12_settle_4 : decode cX12_settle 4 = .ok (.ifCond .le 60, 3) := by decide +kernel
theorem dX12_settle_7 : decode cX12_settle 7 = .ok (.aload_n 0, 1) := by decide +kernel
theorem dX12_settle_8 : decode cX12_settle 8 = .ok (.getfield 46, 3) := by decide +kernel
theorem dX12_settle_11 : decode cX12_settle 11 = .ok (.aload_n 0, 1) := by decide +kernel
theorem dX12_settle_12 : decode cX12_settle 12 = .ok (.getfield 185, 3) := by decide +kernel
theorem dX12_settle_15 : decode cX12_settle 15 = .ok (.iconst 1, 1) := by decide +kernel
theorem dX12_settle_16 : decode cX12_settle 16 = .ok (.isub, 1) := by decide +kernel
theorem dX12_settle_17 : decode cX12_settle 17 = .ok (.iaload, 1) := by decide +kernel
theorem dX12_settle_18 : decode cX12_settle 18 = .ok (.bipush 10, 2) := by decide +kernel
theorem dX12_settle_20 : decode cX12_settle 20 = .ok (.if_icmp .eq 44, 3) := by decide +kernel
theorem dX12_settle_23 : decode cX12_settle 23 = .ok (.aload_n 0, 1) := by decide +kernel
theorem dX12_settle_24 : decode cX12_settle 24 = .ok (.getfield 46, 3) := by decide +kernel
theorem dX12_settle_27 : decode cX12_settle 27 = .ok (.aload_n 0, 1) := by decide +kernel
theorem dX12_settle_28 : decode cX12_settle 28 = .ok (.getfield 185, 3) := by decide +kernel
theorem dX12_settle_31 : decode cX12_settle 31 = .ok (.iconst 1, 1) := by decide +kernel
theorem dX12_settle_32 : decode cX12_settle 32 = .ok (.isub, 1) := by decide +kernel
theorem dX12_settle_33 : decode cX12_settle 33 = .ok (.iaload, 1) := by decide +kernel
theorem dX12_settle_34 : decode cX12_settle 34 = .ok (.iload_n 1, 1) := by decide +kernel
theorem dX12_settle_35 : decode cX12_settle 35 = .ok (.if_icmp .gt 29, 3) := by decide +kernel
theorem dX12_settle_38 : decode cX12_settle 38 = .ok (.aload_n 0, 1) := by decide +kernel
theorem dX12_settle_39 : decode cX12_settle 39 = .ok (.dup, 1) := by decide +kernel
theorem dX12_settle_40 : decode cX12_settle 40 = .ok (.getfield 185, 3) := by decide +kernel
theorem dX12_settle_43 : decode cX12_settle 43 = .ok (.iconst 1, 1) := by decide +kernel
theorem dX12_settle_44 : decode cX12_settle 44 = .ok (.isub, 1) := by decide +kernel
theorem dX12_settle_45 : decode cX12_settle 45 = .ok (.putfield 185, 3) := by decide +kernel
theorem dX12_settle_48 : decode cX12_settle 48 = .ok (.aload_n 0, 1) := by decide +kernel
theorem dX12_settle_49 : decode cX12_settle 49 = .ok (.aload_n 0, 1) := by decide +kernel
theorem dX12_settle_50 : decode cX12_settle 50 = .ok (.getfield 46, 3) := by decide +kernel
theorem dX12_settle_53 : decode cX12_settle 53 = .ok (.aload_n 0, 1) := by decide +kernel
theorem dX12_settle_54 : decode cX12_settle 54 = .ok (.getfield 185, 3) := by decide +kernel
theorem dX12_settle_57 : decode cX12_settle 57 = .ok (.iaload, 1) := by decide +kernel
theorem dX12_settle_58 : decode cX12_settle 58 = .ok (.invokevirtual 188, 3) := by decide +kernel
theorem dX12_settle_61 : decode cX12_settle 61 = .ok (.goto (-61), 3) := by decide +kernel
theorem dX12_settle_64 : decode cX12_settle 64 = .ok (.return_, 1) := by decide +kernel
theorem dX12_hold_0 : decode cX12_hold 0 = .ok (.aload_n 0, 1) := by decide +kernel
theorem dX12_hold_1 : decode cX12_hold 1 = .ok (.getfield 46, 3) := by decide +kernel
theorem dX12_hold_4 : decode cX12_hold 4 = .ok (.aload_n 0, 1) := by decide +kernel
theorem dX12_hold_5 : decode cX12_hold 5 = .ok (.getfield 185, 3) := by decide +kernel
theorem dX12_hold_8 : decode cX12_hold 8 = .ok (.iload_n 1, 1) := by decide +kernel
theorem dX12_hold_9 : decode cX12_hold 9 = .ok (.iastore, 1) := by decide +kernel
theorem dX12_hold_10 : decode cX12_hold 10 = .ok (.aload_n 0, 1) := by decide +kernel
theorem dX12_hold_11 : decode cX12_hold 11 = .ok (.dup, 1) := by decide +kernel
theorem dX12_hold_12 : decode cX12_hold 12 = .ok (.getfield 185, 3) := by decide +kernel
theorem dX12_hold_15 : decode cX12_hold 15 = .ok (.iconst 1, 1) := by decide +kernel
theorem dX12_hold_16 : decode cX12_hold 16 = .ok (.iadd, 1) := by decide +kernel
theorem dX12_hold_17 : decode cX12_hold 17 = .ok (.putfield 185, 3) := by decide +kernel
theorem dX12_hold_20 : decode cX12_hold 20 = .ok (.aload_n 0, 1) := by decide +kernel
theorem dX12_hold_21 : decode cX12_hold 21 = .ok (.invokevirtual 176, 3) := by decide +kernel
theorem dX12_hold_24 : decode cX12_hold 24 = .ok (.return_, 1) := by decide +kernel
theorem dX12_factHere_0 : decode cX12_factHere 0 = .ok (.aload_n 0, 1) := by decide +kernel
theorem dX12_factHere_1 : decode cX12_factHere 1 = .ok (.ldc 192, 2) := by decide +kernel
theorem dX12_factHere_3 : decode cX12_factHere 3 = .ok (.invokevirtual 193, 3) := by decide +kernel
theorem dX12_factHere_6 : decode cX12_factHere 6 = .ok (.ifCond .eq 7, 3) := by decide +kernel
theorem dX12_factHere_9 : decode cX12_factHere 9 = .ok (.iconst 1, 1) := by decide +kernel
theorem dX12_factHere_10 : decode cX12_factHere 10 = .ok (.goto 70, 3) := by decide +kernel
theorem dX12_factHere_13 : decode cX12_factHere 13 = .ok (.aload_n 0, 1) := by decide +kernel
theorem dX12_factHere_14 : decode cX12_factHere 14 = .ok (.ldc 196, 2) := by decide +kernel
theorem dX12_factHere_16 : decode cX12_factHere 16 = .ok (.invokevirtual 193, 3) := by decide +kernel
theorem dX12_factHere_19 : decode cX12_factHere 19 = .ok (.ifCond .eq 7, 3) := by decide +kernel
theorem dX12_factHere_22 : decode cX12_factHere 22 = .ok (.iconst 2, 1) := by decide +kernel
theorem dX12_factHere_23 : decode cX12_factHere 23 = .ok (.goto 57, 3) := by decide +kernel
theorem dX12_factHere_26 : decode cX12_factHere 26 = .ok (.aload_n 0, 1) := by decide +kernel
theorem dX12_factHere_27 : decode cX12_factHere 27 = .ok (.ldc 197, 2) := by decide +kernel
theorem dX12_factHere_29 : decode cX12_factHere 29 = .ok (.invokevirtual 193, 3) := by decide +kernel
theorem dX12_factHere_32 : decode cX12_factHere 32 = .ok (.ifCond .eq 7, 3) := by decide +kernel
theorem dX12_factHere_35 : decode cX12_factHere 35 = .ok (.iconst 3, 1) := by decide +kernel
theorem dX12_factHere_36 : decode cX12_factHere 36 = .ok (.goto 44, 3) := by decide +kernel
theorem dX12_factHere_39 : decode cX12_factHere 39 = .ok (.aload_n 0, 1) := by decide +kernel
theorem dX12_factHere_40 : decode cX12_factHere 40 = .ok (.ldc 198, 2) := by decide +kernel
theorem dX12_factHere_42 : decode cX12_factHere 42 = .ok (.invokevirtual 193, 3) := by decide +kernel
theorem dX12_factHere_45 : decode cX12_factHere 45 = .ok (.ifCond .eq 7, 3) := by decide +kernel
theorem dX12_factHere_48 : decode cX12_factHere 48 = .ok (.iconst 4, 1) := by decide +kernel
theorem dX12_factHere_49 : decode cX12_factHere 49 = .ok (.goto 31, 3) := by decide +kernel
theorem dX12_factHere_52 : decode cX12_factHere 52 = .ok (.aload_n 0, 1) := by decide +kernel
theorem dX12_factHere_53 : decode cX12_factHere 53 = .ok (.ldc 199, 2) := by decide +kernel
theorem dX12_factHere_55 : decode cX12_factHere 55 = .ok (.invokevirtual 193, 3) := by decide +kernel
theorem dX12_factHere_58 : decode cX12_factHere 58 = .ok (.ifCond .eq 7, 3) := by decide +kernel
theorem dX12_factHere_61 : decode cX12_factHere 61 = .ok (.iconst 5, 1) := by decide +kernel
theorem dX12_factHere_62 : decode cX12_factHere 62 = .ok (.goto 18, 3) := by decide +kernel
theorem dX12_factHere_65 : decode cX12_factHere 65 = .ok (.aload_n 0, 1) := by decide +kernel
theorem dX12_factHere_66 : decode cX12_factHere 66 = .ok (.bipush (-2), 2) := by decide +kernel
theorem dX12_factHere_68 : decode cX12_factHere 68 = .ok (.invokevirtual 193, 3) := by decide +kernel
theorem dX12_factHere_71 : decode cX12_factHere 71 = .ok (.ifCond .eq 8, 3) := by decide +kernel
theorem dX12_factHere_74 : decode cX12_factHere 74 = .ok (.bipush 6, 2) := by decide +kernel
theorem dX12_factHere_76 : decode cX12_factHere 76 = .ok (.goto 4, 3) := by decide +kernel
theorem dX12_factHere_79 : decode cX12_factHere 79 = .ok (.iconst 0, 1) := by decide +kernel
theorem dX12_factHere_80 : decode cX12_factHere 80 = .ok (.ireturn, 1) := by decide +kernel
theorem dX12_wantValue_0 : decode cX12_wantValue 0 = .ok (.aload_n 0, 1) := by decide +kernel
theorem dX12_wantValue_1 : decode cX12_wantValue 1 = .ok (.ldc 200, 2) := by decide +kernel
theorem dX12_wantValue_3 : decode cX12_wantValue 3 = .ok (.invokevirtual 193, 3) := by decide +kernel
theorem dX12_wantValue_6 : decode cX12_wantValue 6 = .ok (.ifCond .eq 8, 3) := by decide +kernel
theorem dX12_wantValue_9 : decode cX12_wantValue 9 = .ok (.bipush 11, 2) := by decide +kernel
theorem dX12_wantValue_11 : decode cX12_wantValue 11 = .ok (.goto 33, 3) := by decide +kernel
theorem dX12_wantValue_14 : decode cX12_wantValue 14 = .ok (.aload_n 0, 1) := by decide +kernel
theorem dX12_wantValue_15 : decode cX12_wantValue 15 = .ok (.ldc 201, 2) := by decide +kernel
theorem dX12_wantValue_17 : decode cX12_wantValue 17 = .ok (.invokevirtual 193, 3) := by decide +kernel
theorem dX12_wantValue_20 : decode cX12_wantValue 20 = .ok (.ifCond .eq 8, 3) := by decide +kernel
theorem dX12_wantValue_23 : decode cX12_wantValue 23 = .ok (.bipush 12, 2) := by decide +kernel
theorem dX12_wantValue_25 : decode cX12_wantValue 25 = .ok (.goto 19, 3) := by decide +kernel
theorem dX12_wantValue_28 : decode cX12_wantValue 28 = .ok (.aload_n 0, 1) := by decide +kernel
theorem dX12_wantValue_29 : decode cX12_wantValue 29 = .ok (.sipush 923, 3) := by decide +kernel
theorem dX12_wantValue_32 : decode cX12_wantValue 32 = .ok (.invokevirtual 193, 3) := by decide +kernel
theorem dX12_wantValue_35 : decode cX12_wantValue 35 = .ok (.ifCond .eq 8, 3) := by decide +kernel
theorem dX12_wantValue_38 : decode cX12_wantValue 38 = .ok (.bipush 13, 2) := by decide +kernel
theorem dX12_wantValue_40 : decode cX12_wantValue 40 = .ok (.goto 4, 3) := by decide +kernel
theorem dX12_wantValue_43 : decode cX12_wantValue 43 = .ok (.iconst 0, 1) := by decide +kernel
theorem dX12_wantValue_44 : decode cX12_wantValue 44 = .ok (.istore_n 1, 1) := by decide +kernel
theorem dX12_wantValue_45 : decode cX12_wantValue 45 = .ok (.iload_n 1, 1) := by decide +kernel
theorem dX12_wantValue_46 : decode cX12_wantValue 46 = .ok (.ifCond .le 15, 3) := by decide +kernel
theorem dX12_wantValue_49 : decode cX12_wantValue 49 = .ok (.aload_n 0, 1) := by decide +kernel
theorem dX12_wantValue_50 : decode cX12_wantValue 50 = .ok (.iload_n 1, 1) := by decide +kernel
theorem dX12_wantValue_51 : decode cX12_wantValue 51 = .ok (.invokevirtual 188, 3) := by decide +kernel
theorem dX12_wantValue_54 : decode cX12_wantValue 54 = .ok (.aload_n 0, 1) := by decide +kernel
theorem dX12_wantValue_55 : decode cX12_wantValue 55 = .ok (.invokevirtual 176, 3) := by decide +kernel
theorem dX12_wantValue_58 : decode cX12_wantValue 58 = .ok (.goto 28, 3) := by decide +kernel
theorem dX12_wantValue_61 : decode cX12_wantValue 61 = .ok (.aload_n 0, 1) := by decide +kernel
theorem dX12_wantValue_62 : decode cX12_wantValue 62 = .ok (.iconst 0, 1) := by decide +kernel
theorem dX12_wantValue_63 : decode cX12_wantValue 63 = .ok (.sipush 999, 3) := by decide +kernel
theorem dX12_wantValue_66 : decode cX12_wantValue 66 = .ok (.invokevirtual 202, 3) := by decide +kernel
theorem dX12_wantValue_69 : decode cX12_wantValue 69 = .ok (.istore_n 2, 1) := by decide +kernel
theorem dX12_wantValue_70 : decode cX12_wantValue 70 = .ok (.aload_n 0, 1) := by decide +kernel
theorem dX12_wantValue_71 : decode cX12_wantValue 71 = .ok (.invokevirtual 173, 3) := by decide +kernel
theorem dX12_wantValue_74 : decode cX12_wantValue 74 = .ok (.ifCond .eq 12, 3) := by decide +kernel
theorem dX12_wantValue_77 : decode cX12_wantValue 77 = .ok (.aload_n 0, 1) := by decide +kernel
theorem dX12_wantValue_78 : decode cX12_wantValue 78 = .ok (.sipush 1000, 3) := by decide +kernel
theorem dX12_wantValue_81 : decode cX12_wantValue 81 = .ok (.iload_n 2, 1) := by decide +kernel
theorem dX12_wantValue_82 : decode cX12_wantValue 82 = .ok (.iadd, 1) := by decide +kernel
theorem dX12_wantValue_83 : decode cX12_wantValue 83 = .ok (.invokevirtual 188, 3) := by decide +kernel
theorem dX12_wantValue_86 : decode cX12_wantValue 86 = .ok (.return_, 1) := by decide +kernel
theorem dX12_wantSum_0 : decode cX12_wantSum 0 = .ok (.aload_n 0, 1) := by decide +kernel
theorem dX12_wantSum_1 : decode cX12_wantSum 1 = .ok (.invokevirtual 205, 3) := by decide +kernel
theorem dX12_wantSum_4 : decode cX12_wantSum 4 = .ok (.aload_n 0, 1) := by decide +kernel
theorem dX12_wantSum_5 : decode cX12_wantSum 5 = .ok (.invokevirtual 173, 3) := by decide +kernel
theorem dX12_wantSum_8 : decode cX12_wantSum 8 = .ok (.ifCond .eq 36, 3) := by decide +kernel
theorem dX12_wantSum_11 : decode cX12_wantSum 11 = .ok (.aload_n 0, 1) := by decide +kernel
theorem dX12_wantSum_12 : decode cX12_wantSum 12 = .ok (.bipush 43, 2) := by decide +kernel
theorem dX12_wantSum_14 : decode cX12_wantSum 14 = .ok (.invokevirtual 208, 3) := by decide +kernel
theorem dX12_wantSum_17 : decode cX12_wantSum 17 = .ok (.ifCond .eq 27, 3) := by decide +kernel
theorem dX12_wantSum_20 : decode cX12_wantSum 20 = .ok (.aload_n 0, 1) := by decide +kernel
theorem dX12_wantSum_21 : decode cX12_wantSum 21 = .ok (.invokevirtual 176, 3) := by decide +kernel
theorem dX12_wantSum_24 : decode cX12_wantSum 24 = .ok (.aload_n 0, 1) := by decide +kernel
theorem dX12_wantSum_25 : decode cX12_wantSum 25 = .ok (.invokevirtual 205, 3) := by decide +kernel
theorem dX12_wantSum_28 : decode cX12_wantSum 28 = .ok (.aload_n 0, 1) := by decide +kernel
theorem dX12_wantSum_29 : decode cX12_wantSum 29 = .ok (.invokevirtual 173, 3) := by decide +kernel
theorem dX12_wantSum_32 : decode cX12_wantSum 32 = .ok (.ifCond .eq (-28), 3) := by decide +kernel
theorem dX12_wantSum_35 : decode cX12_wantSum 35 = .ok (.aload_n 0, 1) := by decide +kernel
theorem dX12_wantSum_36 : decode cX12_wantSum 36 = .ok (.bipush 14, 2) := by decide +kernel
theorem dX12_wantSum_38 : decode cX12_wantSum 38 = .ok (.invokevirtual 188, 3) := by decide +kernel
theorem dX12_wantSum_41 : decode cX12_wantSum 41 = .ok (.goto (-37), 3) := by decide +kernel
theorem dX12_wantSum_44 : decode cX12_wantSum 44 = .ok (.return_, 1) := by decide +kernel
theorem dX12_wantAsk_0 : decode cX12_wantAsk 0 = .ok (.aload_n 0, 1) := by decide +kernel
theorem dX12_wantAsk_1 : decode cX12_wantAsk 1 = .ok (.invokevirtual 211, 3) := by decide +kernel
theorem dX12_wantAsk_4 : decode cX12_wantAsk 4 = .ok (.istore_n 1, 1) := by decide +kernel
theorem dX12_wantAsk_5 : decode cX12_wantAsk 5 = .ok (.iload_n 1, 1) := by decide +kernel
theorem dX12_wantAsk_6 : decode cX12_wantAsk 6 = .ok (.ifCond .le 13, 3) := by decide +kernel
theorem dX12_wantAsk_9 : decode cX12_wantAsk 9 = .ok (.aload_n 0, 1) := by decide +kernel
theorem dX12_wantAsk_10 : decode cX12_wantAsk 10 = .ok (.iload_n 1, 1) := by decide +kernel
theorem dX12_wantAsk_11 : decode cX12_wantAsk 11 = .ok (.invokevirtual 188, 3) := by decide +kernel
theorem dX12_wantAsk_14 : decode cX12_wantAsk 14 = .ok (.aload_n 0, 1) := by decide +kernel
theorem dX12_wantAsk_15 : decode cX12_wantAsk 15 = .ok (.invokevirtual 176, 3) := by decide +kernel
theorem dX12_wantAsk_18 : decode cX12_wantAsk 18 = .ok (.return_, 1) := by decide +kernel
theorem dX12_wantAsk_19 : decode cX12_wantAsk 19 = .ok (.aload_n 0, 1) := by decide +kernel
theorem dX12_wantAsk_20 : decode cX12_wantAsk 20 = .ok (.invokevirtual 215, 3) := by decide +kernel
theorem dX12_wantAsk_23 : decode cX12_wantAsk 23 = .ok (.aload_n 0, 1) := by decide +kernel
theorem dX12_wantAsk_24 : decode cX12_wantAsk 24 = .ok (.bipush 60, 2) := by decide +kernel
theorem dX12_wantAsk_26 : decode cX12_wantAsk 26 = .ok (.invokevirtual 208, 3) := by decide +kernel
theorem dX12_wantAsk_29 : decode cX12_wantAsk 29 = .ok (.ifCond .eq 8, 3) := by decide +kernel
theorem dX12_wantAsk_32 : decode cX12_wantAsk 32 = .ok (.bipush 15, 2) := by decide +kernel
theorem dX12_wantAsk_34 : decode cX12_wantAsk 34 = .ok (.goto 32, 3) := by decide +kernel
theorem dX12_wantAsk_37 : decode cX12_wantAsk 37 = .ok (.aload_n 0, 1) := by decide +kernel
theorem dX12_wantAsk_38 : decode cX12_wantAsk 38 = .ok (.bipush 61, 2) := by decide +kernel
theorem dX12_wantAsk_40 : decode cX12_wantAsk 40 = .ok (.invokevirtual 208, 3) := by decide +kernel
theorem dX12_wantAsk_43 : decode cX12_wantAsk 43 = .ok (.ifCond .eq 8, 3) := by decide +kernel
theorem dX12_wantAsk_46 : decode cX12_wantAsk 46 = .ok (.bipush 16, 2) := by decide +kernel
theorem dX12_wantAsk_48 : decode cX12_wantAsk 48 = .ok (.goto 18, 3) := by decide +kernel
theorem dX12_wantAsk_51 : decode cX12_wantAsk 51 = .ok (.aload_n 0, 1) := by decide +kernel
theorem dX12_wantAsk_52 : decode cX12_wantAsk 52 = .ok (.bipush 62, 2) := by decide +kernel
theorem dX12_wantAsk_54 : decode cX12_wantAsk 54 = .ok (.invokevirtual 208, 3) := by decide +kernel
theorem dX12_wantAsk_57 : decode cX12_wantAsk 57 = .ok (.ifCond .eq 8, 3) := by decide +kernel
theorem dX12_wantAsk_60 : decode cX12_wantAsk 60 = .ok (.bipush 17, 2) := by decide +kernel
theorem dX12_wantAsk_62 : decode cX12_wantAsk 62 = .ok (.goto 4, 3) := by decide +kernel
theorem dX12_wantAsk_65 : decode cX12_wantAsk 65 = .ok (.iconst 0, 1) := by decide +kernel
theorem dX12_wantAsk_66 : decode cX12_wantAsk 66 = .ok (.istore_n 2, 1) := by decide +kernel
theorem dX12_wantAsk_67 : decode cX12_wantAsk 67 = .ok (.aload_n 0, 1) := by decide +kernel
theorem dX12_wantAsk_68 : decode cX12_wantAsk 68 = .ok (.iload_n 2, 1) := by decide +kernel
theorem dX12_wantAsk_69 : decode cX12_wantAsk 69 = .ok (.ifCond .le 7, 3) := by decide +kernel
theorem dX12_wantAsk_72 : decode cX12_wantAsk 72 = .ok (.iconst 1, 1) := by decide +kernel
theorem dX12_wantAsk_73 : decode cX12_wantAsk 73 = .ok (.goto 4, 3) := by decide +kernel
theorem dX12_wantAsk_76 : decode cX12_wantAsk 76 = .ok (.iconst 0, 1) := by decide +kernel
theorem dX12_wantAsk_77 : decode cX12_wantAsk 77 = .ok (.invokevirtual 218, 3) := by decide +kernel
theorem dX12_wantAsk_80 : decode cX12_wantAsk 80 = .ok (.aload_n 0, 1) := by decide +kernel
theorem dX12_wantAsk_81 : decode cX12_wantAsk 81 = .ok (.invokevirtual 173, 3) := by decide +kernel
theorem dX12_wantAsk_84 : decode cX12_wantAsk 84 = .ok (.ifCond .eq 7, 3) := by decide +kernel
theorem dX12_wantAsk_87 : decode cX12_wantAsk 87 = .ok (.aload_n 0, 1) := by decide +kernel
theorem dX12_wantAsk_88 : decode cX12_wantAsk 88 = .ok (.invokevirtual 215, 3) := by decide +kernel
theorem dX12_wantAsk_91 : decode cX12_wantAsk 91 = .ok (.aload_n 0, 1) := by decide +kernel
theorem dX12_wantAsk_92 : decode cX12_wantAsk 92 = .ok (.invokevirtual 173, 3) := by decide +kernel
theorem dX12_wantAsk_95 : decode cX12_wantAsk 95 = .ok (.ifCond .eq 8, 3) := by decide +kernel
theorem dX12_wantAsk_98 : decode cX12_wantAsk 98 = .ok (.aload_n 0, 1) := by decide +kernel
theorem dX12_wantAsk_99 : decode cX12_wantAsk 99 = .ok (.iload_n 2, 1) := by decide +kernel
theorem dX12_wantAsk_100 : decode cX12_wantAsk 100 = .ok (.invokevirtual 188, 3) := by decide +kernel
theorem dX12_wantAsk_103 : decode cX12_wantAsk 103 = .ok (.return_, 1) := by decide +kernel
theorem dX12_wantCond_0 : decode cX12_wantCond 0 = .ok (.iconst 0, 1) := by decide +kernel
theorem dX12_wantCond_1 : decode cX12_wantCond 1 = .ok (.istore_n 1, 1) := by decide +kernel
theorem dX12_wantCond_2 : decode cX12_wantCond 2 = .ok (.iconst 1, 1) := by decide +kernel
theorem dX12_wantCond_3 : decode cX12_wantCond 3 = .ok (.istore_n 2, 1) := by decide +kernel
theorem dX12_wantCond_4 : decode cX12_wantCond 4 = .ok (.iconst 1, 1) := by decide +kernel
theorem dX12_wantCond_5 : decode cX12_wantCond 5 = .ok (.istore_n 3, 1) := by decide +kernel
theorem dX12_wantCond_6 : decode cX12_wantCond 6 = .ok (.aload_n 0, 1) := by decide +kernel
theorem dX12_wantCond_7 : decode cX12_wantCond 7 = .ok (.iconst 0, 1) := by decide +kernel
theorem dX12_wantCond_8 : decode cX12_wantCond 8 = .ok (.putfield 185, 3) := by decide +kernel
theorem dX12_wantCond_11 : decode cX12_wantCond 11 = .ok (.iload_n 3, 1) := by decide +kernel
theorem dX12_wantCond_12 : decode cX12_wantCond 12 = .ok (.ifCond .eq 184, 3) := by decide +kernel
theorem dX12_wantCond_15 : decode cX12_wantCond 15 = .ok (.aload_n 0, 1) := by decide +kernel
theorem dX12_wantCond_16 : decode cX12_wantCond 16 = .ok (.invokevirtual 173, 3) := by decide +kernel
theorem dX12_wantCond_19 : decode cX12_wantCond 19 = .ok (.ifCond .eq 177, 3) := by decide +kernel
theorem dX12_wantCond_22 : decode cX12_wantCond 22 = .ok (.iload_n 2, 1) := by decide +kernel
theorem dX12_wantCond_23 : decode cX12_wantCond 23 = .ok (.ifCond .eq 70, 3) := by decide +kernel
theorem dX12_wantCond_26 : decode cX12_wantCond 26 = .ok (.aload_n 0, 1) := by decide +kernel
theorem dX12_wantCond_27 : decode cX12_wantCond 27 = .ok (.sipush 10631, 3) := by decide +kernel
theorem dX12_wantCond_30 : decode cX12_wantCond 30 = .ok (.invokevirtual 193, 3) := by decide +kernel
theorem dX12_wantCond_33 : decode cX12_wantCond 33 = .ok (.ifCond .eq 12, 3) := by decide +kernel
theorem dX12_wantCond_36 : decode cX12_wantCond 36 = .ok (.aload_n 0, 1) := by decide +kernel
theorem dX12_wantCond_37 : decode cX12_wantCond 37 = .ok (.bipush 7, 2) := by decide +kernel
theorem dX12_wantCond_39 : decode cX12_wantCond 39 = .ok (.invokevirtual 222, 3) := by decide +kernel
theorem dX12_wantCond_42 : decode cX12_wantCond 42 = .ok (.goto (-31), 3) := by decide +kernel
theorem dX12_wantCond_45 : decode cX12_wantCond 45 = .ok (.aload_n 0, 1) := by decide +kernel
theorem dX12_wantCond_46 : decode cX12_wantCond 46 = .ok (.bipush 40, 2) := by decide +kernel
theorem dX12_wantCond_48 : decode cX12_wantCond 48 = .ok (.invokevirtual 208, 3) := by decide +kernel
theorem dX12_wantCond_51 : decode cX12_wantCond 51 = .ok (.ifCond .eq 27, 3) := by decide +kernel
theorem dX12_wantCond_54 : decode cX12_wantCond 54 = .ok (.iload_n 1, 1) := by decide +kernel
theorem dX12_wantCond_55 : decode cX12_wantCond 55 = .ok (.iconst 4, 1) := by decide +kernel
theorem dX12_wantCond_56 : decode cX12_wantCond 56 = .ok (.if_icmp .ne 10, 3) := by decide +kernel
theorem dX12_wantCond_59 : decode cX12_wantCond 59 = .ok (.aload_n 0, 1) := by decide +kernel
theorem dX12_wantCond_60 : decode cX12_wantCond 60 = .ok (.invokevirtual 179, 3) := by decide +kernel
theorem dX12_wantCond_63 : decode cX12_wantCond 63 = .ok (.goto (-52), 3) := by decide +kernel
theorem dX12_wantCond_66 : decode cX12_wantCond 66 = .ok (.aload_n 0, 1) := by decide +kernel
theorem dX12_wantCond_67 : decode cX12_wantCond 67 = .ok (.bipush 10, 2) := by decide +kernel
theorem dX12_wantCond_69 : decode cX12_wantCond 69 = .ok (.invokevirtual 222, 3) := by decide +kernel
theorem dX12_wantCond_72 : decode cX12_wantCond 72 = .ok (.iinc 1 1, 3) := by decide +kernel
theorem dX12_wantCond_75 : decode cX12_wantCond 75 = .ok (.goto (-64), 3) := by decide +kernel
theorem dX12_wantCond_78 : decode cX12_wantCond 78 = .ok (.aload_n 0, 1) := by decide +kernel
theorem dX12_wantCond_79 : decode cX12_wantCond 79 = .ok (.invokevirtual 225, 3) := by decide +kernel
theorem dX12_wantCond_82 : decode cX12_wantCond 82 = .ok (.aload_n 0, 1) := by decide +kernel
theorem dX12_wantCond_83 : decode cX12_wantCond 83 = .ok (.bipush 7, 2) := by decide +kernel
theorem dX12_wantCond_85 : decode cX12_wantCond 85 = .ok (.invokevirtual 228, 3) := by decide +kernel
theorem dX12_wantCond_88 : decode cX12_wantCond 88 = .ok (.iconst 0, 1) := by decide +kernel
theorem dX12_wantCond_89 : decode cX12_wantCond 89 = .ok (.istore_n 2, 1) := by decide +kernel
theorem dX12_wantCond_90 : decode cX12_wantCond 90 = .ok (.goto (-79), 3) := by decide +kernel
theorem dX12_wantCond_93 : decode cX12_wantCond 93 = .ok (.aload_n 0, 1) := by decide +kernel
theorem dX12_wantCond_94 : decode cX12_wantCond 94 = .ok (.sipush 1111, 3) := by decide +kernel
theorem dX12_wantCond_97 : decode cX12_wantCond 97 = .ok (.invokevirtual 193, 3) := by decide +kernel
theorem dX12_wantCond_100 : decode cX12_wantCond 100 = .ok (.ifCond .ne 13, 3) := by decide +kernel
theorem dX12_wantCond_103 : decode cX12_wantCond 103 = .ok (.aload_n 0, 1) := by decide +kernel
theorem dX12_wantCond_104 : decode cX12_wantCond 104 = .ok (.sipush 423, 3) := by decide +kernel
theorem dX12_wantCond_107 : decode cX12_wantCond 107 = .ok (.invokevirtual 193, 3) := by decide +kernel
theorem dX12_wantCond_110 : decode cX12_wantCond 110 = .ok (.ifCond .eq 39, 3) := by decide +kernel
theorem dX12_wantCond_113 : decode cX12_wantCond 113 = .ok (.aload_n 0, 1) := by decide +kernel
theorem dX12_wantCond_114 : decode cX12_wantCond 114 = .ok (.sipush 1111, 3) := by decide +kernel
theorem dX12_wantCond_117 : decode cX12_wantCond 117 = .ok (.invokevirtual 193, 3) := by decide +kernel
theorem dX12_wantCond_120 : decode cX12_wantCond 120 = .ok (.ifCond .eq 8, 3) := by decide +kernel
theorem dX12_wantCond_123 : decode cX12_wantCond 123 = .ok (.bipush 8, 2) := by decide +kernel
theorem dX12_wantCond_125 : decode cX12_wantCond 125 = .ok (.goto 5, 3) := by decide +kernel
theorem dX12_wantCond_128 : decode cX12_wantCond 128 = .ok (.bipush 9, 2) := by decide +kernel
theorem dX12_wantCond_130 : decode cX12_wantCond 130 = .ok (.istore 4, 2) := by decide +kernel
theorem dX12_wantCond_132 : decode cX12_wantCond 132 = .ok (.aload_n 0, 1) := by decide +kernel
theorem dX12_wantCond_133 : decode cX12_wantCond 133 = .ok (.iload 4, 2) := by decide +kernel
theorem dX12_wantCond_135 : decode cX12_wantCond 135 = .ok (.invokevirtual 228, 3) := by decide +kernel
theorem dX12_wantCond_138 : decode cX12_wantCond 138 = .ok (.aload_n 0, 1) := by decide +kernel
theorem dX12_wantCond_139 : decode cX12_wantCond 139 = .ok (.iload 4, 2) := by decide +kernel
theorem dX12_wantCond_141 : decode cX12_wantCond 141 = .ok (.invokevirtual 222, 3) := by decide +kernel
theorem dX12_wantCond_144 : decode cX12_wantCond 144 = .ok (.iconst 1, 1) := by decide +kernel
theorem dX12_wantCond_145 : decode cX12_wantCond 145 = .ok (.istore_n 2, 1) := by decide +kernel
theorem dX12_wantCond_146 : decode cX12_wantCond 146 = .ok (.goto (-135), 3) := by decide +kernel
theorem dX12_wantCond_149 : decode cX12_wantCond 149 = .ok (.iload_n 1, 1) := by decide +kernel
theorem dX12_wantCond_150 : decode cX12_wantCond 150 = .ok (.ifCond .le 41, 3) := by decide +kernel
theorem dX12_wantCond_153 : decode cX12_wantCond 153 = .ok (.aload_n 0, 1) := by decide +kernel
theorem dX12_wantCond_154 : decode cX12_wantCond 154 = .ok (.bipush 9, 2) := by decide +kernel
theorem dX12_wantCond_156 : decode cX12_wantCond 156 = .ok (.invokevirtual 228, 3) := by decide +kernel
theorem dX12_wantCond_159 : decode cX12_wantCond 159 = .ok (.aload_n 0, 1) := by decide +kernel
theorem dX12_wantCond_160 : decode cX12_wantCond 160 = .ok (.dup, 1) := by decide +kernel
theorem dX12_wantCond_161 : decode cX12_wantCond 161 = .ok (.getfield 185, 3) := by decide +kernel
theorem dX12_wantCond_164 : decode cX12_wantCond 164 = .ok (.iconst 1, 1) := by decide +kernel
theorem dX12_wantCond_165 : decode cX12_wantCond 165 = .ok (.isub, 1) := by decide +kernel
theorem dX12_wantCond_166 : decode cX12_wantCond 166 = .ok (.putfield 185, 3) := by decide +kernel
theorem dX12_wantCond_169 : decode cX12_wantCond 169 = .ok (.iinc 1 (-1), 3) := by decide +kernel
theorem dX12_wantCond_172 : decode cX12_wantCond 172 = .ok (.aload_n 0, 1) := by decide +kernel
theorem dX12_wantCond_173 : decode cX12_wantCond 173 = .ok (.aload_n 0, 1) := by decide +kernel
theorem dX12_wantCond_174 : decode cX12_wantCond 174 = .ok (.bipush 41, 2) := by decide +kernel
theorem dX12_wantCond_176 : decode cX12_wantCond 176 = .ok (.invokevirtual 208, 3) := by decide +kernel
theorem dX12_wantCond_179 : decode cX12_wantCond 179 = .ok (.invokevirtual 218, 3) := by decide +kernel
theorem dX12_wantCond_182 : decode cX12_wantCond 182 = .ok (.aload_n 0, 1) := by decide +kernel
theorem dX12_wantCond_183 : decode cX12_wantCond 183 = .ok (.bipush 7, 2) := by decide +kernel
theorem dX12_wantCond_185 : decode cX12_wantCond 185 = .ok (.invokevirtual 228, 3) := by decide +kernel
theorem dX12_wantCond_188 : decode cX12_wantCond 188 = .ok (.goto (-177), 3) := by decide +kernel
theorem dX12_wantCond_191 : decode cX12_wantCond 191 = .ok (.iconst 0, 1) := by decide +kernel
theorem dX12_wantCond_192 : decode cX12_wantCond 192 = .ok (.istore_n 3, 1) := by decide +kernel
theorem dX12_wantCond_193 : decode cX12_wantCond 193 = .ok (.goto (-182), 3) := by decide +kernel
theorem dX12_wantCond_196 : decode cX12_wantCond 196 = .ok (.aload_n 0, 1) := by decide +kernel
theorem dX12_wantCond_197 : decode cX12_wantCond 197 = .ok (.bipush 9, 2) := by decide +kernel
theorem dX12_wantCond_199 : decode cX12_wantCond 199 = .ok (.invokevirtual 228, 3) := by decide +kernel
theorem dX12_wantCond_202 : decode cX12_wantCond 202 = .ok (.return_, 1) := by decide +kernel
theorem dX12_sortHere_0 : decode cX12_sortHere 0 = .ok (.aload_n 0, 1) := by decide +kernel
theorem dX12_sortHere_1 : decode cX12_sortHere 1 = .ok (.ldc 231, 2) := by decide +kernel
theorem dX12_sortHere_3 : decode cX12_sortHere 3 = .ok (.invokevirtual 193, 3) := by decide +kernel
theorem dX12_sortHere_6 : decode cX12_sortHere 6 = .ok (.ifCond .ne 12, 3) := by decide +kernel
theorem dX12_sortHere_9 : decode cX12_sortHere 9 = .ok (.aload_n 0, 1) := by decide +kernel
theorem dX12_sortHere_10 : decode cX12_sortHere 10 = .ok (.ldc 200, 2) := by decide +kernel
theorem dX12_sortHere_12 : decode cX12_sortHere 12 = .ok (.invokevirtual 193, 3) := by decide +kernel
theorem dX12_sortHere_15 : decode cX12_sortHere 15 = .ok (.ifCond .eq 18, 3) := by decide +kernel
theorem dX12_sortHere_18 : decode cX12_sortHere 18 = .ok (.aload_n 0, 1) := by decide +kernel
theorem dX12_sortHere_19 : decode cX12_sortHere 19 = .ok (.ldc 231, 2) := by decide +kernel
theorem dX12_sortHere_21 : decode cX12_sortHere 21 = .ok (.invokevirtual 193, 3) := by decide +kernel
theorem dX12_sortHere_24 : decode cX12_sortHere 24 = .ok (.ifCond .eq 7, 3) := by decide +kernel
theorem dX12_sortHere_27 : decode cX12_sortHere 27 = .ok (.iconst 0, 1) := by decide +kernel
theorem dX12_sortHere_28 : decode cX12_sortHere 28 = .ok (.goto 4, 3) := by decide +kernel
theorem dX12_sortHere_31 : decode cX12_sortHere 31 = .ok (.iconst 1, 1) := by decide +kernel
theorem dX12_sortHere_32 : decode cX12_sortHere 32 = .ok (.ireturn, 1) := by decide +kernel
theorem dX12_sortHere_33 : decode cX12_sortHere 33 = .ok (.aload_n 0, 1) := by decide +kernel
theorem dX12_sortHere_34 : decode cX12_sortHere 34 = .ok (.sipush 11263, 3) := by decide +kernel
theorem dX12_sortHere_37 : decode cX12_sortHere 37 = .ok (.invokevirtual 193, 3) := by decide +kernel
theorem dX12_sortHere_40 : decode cX12_sortHere 40 = .ok (.ifCond .ne 12, 3) := by decide +kernel
theorem dX12_sortHere_43 : decode cX12_sortHere 43 = .ok (.aload_n 0, 1) := by decide +kernel
theorem dX12_sortHere_44 : decode cX12_sortHere 44 = .ok (.ldc 232, 2) := by decide +kernel
theorem dX12_sortHere_46 : decode cX12_sortHere 46 = .ok (.invokevirtual 193, 3) := by decide +kernel
theorem dX12_sortHere_49 : decode cX12_sortHere 49 = .ok (.ifCond .eq 19, 3) := by decide +kernel
theorem dX12_sortHere_52 : decode cX12_sortHere 52 = .ok (.aload_n 0, 1) := by decide +kernel
theorem dX12_sortHere_53 : decode cX12_sortHere 53 = .ok (.sipush 11263, 3) := by decide +kernel
theorem dX12_sortHere_56 : decode cX12_sortHere 56 = .ok (.invokevirtual 193, 3) := by decide +kernel
theorem dX12_sortHere_59 : decode cX12_sortHere 59 = .ok (.ifCond .eq 7, 3) := by decide +kernel
theorem dX12_sortHere_62 : decode cX12_sortHere 62 = .ok (.iconst 2, 1) := by decide +kernel
theorem dX12_sortHere_63 : decode cX12_sortHere 63 = .ok (.goto 4, 3) := by decide +kernel
theorem dX12_sortHere_66 : decode cX12_sortHere 66 = .ok (.iconst 3, 1) := by decide +kernel
theorem dX12_sortHere_67 : decode cX12_sortHere 67 = .ok (.ireturn, 1) := by decide +kernel
theorem dX12_sortHere_68 : decode cX12_sortHere 68 = .ok (.aload_n 0, 1) := by decide +kernel
theorem dX12_sortHere_69 : decode cX12_sortHere 69 = .ok (.sipush 583, 3) := by decide +kernel
theorem dX12_sortHere_72 : decode cX12_sortHere 72 = .ok (.invokevirtual 193, 3) := by decide +kernel
theorem dX12_sortHere_75 : decode cX12_sortHere 75 = .ok (.ifCond .ne 12, 3) := by decide +kernel
theorem dX12_sortHere_78 : decode cX12_sortHere 78 = .ok (.aload_n 0, 1) := by decide +kernel
theorem dX12_sortHere_79 : decode cX12_sortHere 79 = .ok (.ldc 233, 2) := by decide +kernel
theorem dX12_sortHere_81 : decode cX12_sortHere 81 = .ok (.invokevirtual 193, 3) := by decide +kernel
theorem dX12_sortHere_84 : decode cX12_sortHere 84 = .ok (.ifCond .eq 19, 3) := by decide +kernel
theorem dX12_sortHere_87 : decode cX12_sortHere 87 = .ok (.aload_n 0, 1) := by decide +kernel
theorem dX12_sortHere_88 : decode cX12_sortHere 88 = .ok (.sipush 583, 3) := by decide +kernel
theorem dX12_sortHere_91 : decode cX12_sortHere 91 = .ok (.invokevirtual 193, 3) := by decide +kernel
theorem dX12_sortHere_94 : decode cX12_sortHere 94 = .ok (.ifCond .eq 7, 3) := by decide +kernel
theorem dX12_sortHere_97 : decode cX12_sortHere 97 = .ok (.iconst 4, 1) := by decide +kernel
theorem dX12_sortHere_98 : decode cX12_sortHere 98 = .ok (.goto 4, 3) := by decide +kernel
theorem dX12_sortHere_101 : decode cX12_sortHere 101 = .ok (.iconst 5, 1) := by decide +kernel
theorem dX12_sortHere_102 : decode cX12_sortHere 102 = .ok (.ireturn, 1) := by decide +kernel
theorem dX12_sortHere_103 : decode cX12_sortHere 103 = .ok (.aload_n 0, 1) := by decide +kernel
theorem dX12_sortHere_104 : decode cX12_sortHere 104 = .ok (.ldc 234, 2) := by decide +kernel
theorem dX12_sortHere_106 : decode cX12_sortHere 106 = .ok (.invokevirtual 193, 3) := by decide +kernel
theorem dX12_sortHere_109 : decode cX12_sortHere 109 = .ok (.ifCond .eq 8, 3) := by decide +kernel
theorem dX12_sortHere_112 : decode cX12_sortHere 112 = .ok (.bipush 6, 2) := by decide +kernel
theorem dX12_sortHere_114 : decode cX12_sortHere 114 = .ok (.goto 18, 3) := by decide +kernel
theorem dX12_sortHere_117 : decode cX12_sortHere 117 = .ok (.aload_n 0, 1) := by decide +kernel
theorem dX12_sortHere_118 : decode cX12_sortHere 118 = .ok (.ldc 235, 2) := by decide +kernel
theorem dX12_sortHere_120 : decode cX12_sortHere 120 = .ok (.invokevirtual 193, 3) := by decide +kernel
theorem dX12_sortHere_123 : decode cX12_sortHere 123 = .ok (.ifCond .eq 8, 3) := by decide +kernel
theorem dX12_sortHere_126 : decode cX12_sortHere 126 = .ok (.bipush 7, 2) := by decide +kernel
theorem dX12_sortHere_128 : decode cX12_sortHere 128 = .ok (.goto 4, 3) := by decide +kernel
theorem dX12_sortHere_131 : decode cX12_sortHere 131 = .ok (.iconst (-1), 1) := by decide +kernel
theorem dX12_sortHere_132 : decode cX12_sortHere 132 = .ok (.ireturn, 1) := by decide +kernel
theorem dX12_wantLine_0 : decode cX12_wantLine 0 = .ok (.aload_n 0, 1) := by decide +kernel
theorem dX12_wantLine_1 : decode cX12_wantLine 1 = .ok (.invokevirtual 236, 3) := by decide +kernel
theorem dX12_wantLine_4 : decode cX12_wantLine 4 = .ok (.istore_n 2, 1) := by decide +kernel
theorem dX12_wantLine_5 : decode cX12_wantLine 5 = .ok (.iload_n 2, 1) := by decide +kernel
theorem dX12_wantLine_6 : decode cX12_wantLine 6 = .ok (.ifCond .lt 9, 3) := by decide +kernel
theorem dX12_wantLine_9 : decode cX12_wantLine 9 = .ok (.iload_n 1, 1) := by decide +kernel
theorem dX12_wantLine_10 : decode cX12_wantLine 10 = .ok (.bipush 12, 2) := by decide +kernel
theorem dX12_wantLine_12 : decode cX12_wantLine 12 = .ok (.if_icmp .ne 8, 3) := by decide +kernel
theorem dX12_wantLine_15 : decode cX12_wantLine 15 = .ok (.aload_n 0, 1) := by decide +kernel
theorem dX12_wantLine_16 : decode cX12_wantLine 16 = .ok (.invokevirtual 179, 3) := by decide +kernel
theorem dX12_wantLine_19 : decode cX12_wantLine 19 = .ok (.return_, 1) := by decide +kernel
theorem dX12_wantLine_20 : decode cX12_wantLine 20 = .ok (.aload_n 0, 1) := by decide +kernel
theorem dX12_wantLine_21 : decode cX12_wantLine 21 = .ok (.invokevirtual 176, 3) := by decide +kernel
theorem dX12_wantLine_24 : decode cX12_wantLine 24 = .ok (.bipush 7, 2) := by decide +kernel
theorem dX12_wantLine_26 : decode cX12_wantLine 26 = .ok (.iload_n 1, 1) := by decide +kernel
theorem dX12_wantLine_27 : decode cX12_wantLine 27 = .ok (.imul, 1) := by decide +kernel
theorem dX12_wantLine_28 : decode cX12_wantLine 28 = .ok (.istore_n 3, 1) := by decide +kernel
theorem dX12_wantLine_29 : decode cX12_wantLine 29 = .ok (.aload_n 0, 1) := by decide +kernel
theorem dX12_wantLine_30 : decode cX12_wantLine 30 = .ok (.getfield 40, 3) := by decide +kernel
theorem dX12_wantLine_33 : decode cX12_wantLine 33 = .ok (.iload_n 3, 1) := by decide +kernel
theorem dX12_wantLine_34 : decode cX12_wantLine 34 = .ok (.iload_n 2, 1) := by decide +kernel
theorem dX12_wantLine_35 : decode cX12_wantLine 35 = .ok (.iastore, 1) := by decide +kernel
theorem dX12_wantLine_36 : decode cX12_wantLine 36 = .ok (.aload_n 0, 1) := by decide +kernel
theorem dX12_wantLine_37 : decode cX12_wantLine 37 = .ok (.getfield 40, 3) := by decide +kernel
theorem dX12_wantLine_40 : decode cX12_wantLine 40 = .ok (.iload_n 3, 1) := by decide +kernel
theorem dX12_wantLine_41 : decode cX12_wantLine 41 = .ok (.iconst 5, 1) := by decide +kernel
theorem dX12_wantLine_42 : decode cX12_wantLine 42 = .ok (.iadd, 1) := by decide +kernel
theorem dX12_wantLine_43 : decode cX12_wantLine 43 = .ok (.aload_n 0, 1) := by decide +kernel
theorem dX12_wantLine_44 : decode cX12_wantLine 44 = .ok (.getfield 182, 3) := by decide +kernel
theorem dX12_wantLine_47 : decode cX12_wantLine 47 = .ok (.iastore, 1) := by decide +kernel
theorem dX12_wantLine_48 : decode cX12_wantLine 48 = .ok (.iload_n 2, 1) := by decide +kernel
theorem dX12_wantLine_49 : decode cX12_wantLine 49 = .ok (.tableswitch 181 0 7 #[47, 47, 79, 97, 181, 181, 181, 178], 47) := by decide +kernel
theorem dX12_wantLine_96 : decode cX12_wantLine 96 = .ok (.aload_n 0, 1) := by decide +kernel
theorem dX12_wantLine_97 : decode cX12_wantLine 97 = .ok (.getfield 40, 3) := by decide +kernel
theorem dX12_wantLine_100 : decode cX12_wantLine 100 = .ok (.iload_n 3, 1) := by decide +kernel
theorem dX12_wantLine_101 : decode cX12_wantLine 101 = .ok (.iconst 1, 1) := by decide +kernel
theorem dX12_wantLine_102 : decode cX12_wantLine 102 = .ok (.iadd, 1) := by decide +kernel
theorem dX12_wantLine_103 : decode cX12_wantLine 103 = .ok (.aload_n 0, 1) := by decide +kernel
theorem dX12_wantLine_104 : decode cX12_wantLine 104 = .ok (.iconst 0, 1) := by decide +kernel
theorem dX12_wantLine_105 : decode cX12_wantLine 105 = .ok (.iconst 5, 1) := by decide +kernel
theorem dX12_wantLine_106 : decode cX12_wantLine 106 = .ok (.invokevirtual 202, 3) := by decide +kernel
theorem dX12_wantLine_109 : decode cX12_wantLine 109 = .ok (.iastore, 1) := by decide +kernel
theorem dX12_wantLine_110 : decode cX12_wantLine 110 = .ok (.aload_n 0, 1) := by decide +kernel
theorem dX12_wantLine_111 : decode cX12_wantLine 111 = .ok (.getfield 40, 3) := by decide +kernel
theorem dX12_wantLine_114 : decode cX12_wantLine 114 = .ok (.iload_n 3, 1) := by decide +kernel
theorem dX12_wantLine_115 : decode cX12_wantLine 115 = .ok (.iconst 2, 1) := by decide +kernel
theorem dX12_wantLine_116 : decode cX12_wantLine 116 = .ok (.iadd, 1) := by decide +kernel
theorem dX12_wantLine_117 : decode cX12_wantLine 117 = .ok (.aload_n 0, 1) := by decide +kernel
theorem dX12_wantLine_118 : decode cX12_wantLine 118 = .ok (.iconst 0, 1) := by decide +kernel
theorem dX12_wantLine_119 : decode cX12_wantLine 119 = .ok (.bipush 9, 2) := by decide +kernel
theorem dX12_wantLine_121 : decode cX12_wantLine 121 = .ok (.invokevirtual 202, 3) := by decide +kernel
theorem dX12_wantLine_124 : decode cX12_wantLine 124 = .ok (.iastore, 1) := by decide +kernel
theorem dX12_wantLine_125 : decode cX12_wantLine 125 = .ok (.goto 144, 3) := by decide +kernel
theorem dX12_wantLine_128 : decode cX12_wantLine 128 = .ok (.aload_n 0, 1) := by decide +kernel
theorem dX12_wantLine_129 : decode cX12_wantLine 129 = .ok (.getfield 40, 3) := by decide +kernel
theorem dX12_wantLine_132 : decode cX12_wantLine 132 = .ok (.iload_n 3, 1) := by decide +kernel
theorem dX12_wantLine_133 : decode cX12_wantLine 133 = .ok (.iconst 1, 1) := by decide +kernel
theorem dX12_wantLine_134 : decode cX12_wantLine 134 = .ok (.iadd, 1) := by decide +kernel
theorem dX12_wantLine_135 : decode cX12_wantLine 135 = .ok (.aload_n 0, 1) := by decide +kernel
theorem dX12_wantLine_136 : decode cX12_wantLine 136 = .ok (.iconst 0, 1) := by decide +kernel
theorem dX12_wantLine_137 : decode cX12_wantLine 137 = .ok (.bipush 90, 2) := by decide +kernel
theorem dX12_wantLine_139 : decode cX12_wantLine 139 = .ok (.invokevirtual 202, 3) := by decide +kernel
theorem dX12_wantLine_142 : decode cX12_wantLine 142 = .ok (.iastore, 1) := by decide +kernel
theorem dX12_wantLine_143 : decode cX12_wantLine 143 = .ok (.goto 126, 3) := by decide +kernel
theorem dX12_wantLine_146 : decode cX12_wantLine 146 = .ok (.aload_n 0, 1) := by decide +kernel
theorem dX12_wantLine_147 : decode cX12_wantLine 147 = .ok (.getfield 40, 3) := by decide +kernel
theorem dX12_wantLine_150 : decode cX12_wantLine 150 = .ok (.iload_n 3, 1) := by decide +kernel
theorem dX12_wantLine_151 : decode cX12_wantLine 151 = .ok (.iconst 1, 1) := by decide +kernel
theorem dX12_wantLine_152 : decode cX12_wantLine 152 = .ok (.iadd, 1) := by decide +kernel
theorem dX12_wantLine_153 : decode cX12_wantLine 153 = .ok (.aload_n 0, 1) := by decide +kernel
theorem dX12_wantLine_154 : decode cX12_wantLine 154 = .ok (.iconst 0, 1) := by decide +kernel
theorem dX12_wantLine_155 : decode cX12_wantLine 155 = .ok (.iconst 4, 1) := by decide +kernel
theorem dX12_wantLine_156 : decode cX12_wantLine 156 = .ok (.invokevirtual 202, 3) := by decide +kernel
theorem dX12_wantLine_159 : decode cX12_wantLine 159 = .ok (.iastore, 1) := by decide +kernel
theorem dX12_wantLine_160 : decode cX12_wantLine 160 = .ok (.aload_n 0, 1) := by decide +kernel
theorem dX12_wantLine_161 : decode cX12_wantLine 161 = .ok (.getfield 40, 3) := by decide +kernel
theorem dX12_wantLine_164 : decode cX12_wantLine 164 = .ok (.iload_n 3, 1) := by decide +kernel
theorem dX12_wantLine_165 : decode cX12_wantLine 165 = .ok (.iconst 2, 1) := by decide +kernel
theorem dX12_wantLine_166 : decode cX12_wantLine 166 = .ok (.iadd, 1) := by decide +kernel
theorem dX12_wantLine_167 : decode cX12_wantLine 167 = .ok (.aload_n 0, 1) := by decide +kernel
theorem dX12_wantLine_168 : decode cX12_wantLine 168 = .ok (.iconst 0, 1) := by decide +kernel
theorem dX12_wantLine_169 : decode cX12_wantLine 169 = .ok (.iconst 3, 1) := by decide +kernel
theorem dX12_wantLine_170 : decode cX12_wantLine 170 = .ok (.invokevirtual 202, 3) := by decide +kernel
theorem dX12_wantLine_173 : decode cX12_wantLine 173 = .ok (.iastore, 1) := by decide +kernel
theorem dX12_wantLine_174 : decode cX12_wantLine 174 = .ok (.aload_n 0, 1) := by decide +kernel
theorem dX12_wantLine_175 : decode cX12_wantLine 175 = .ok (.getfield 40, 3) := by decide +kernel
theorem dX12_wantLine_178 : decode cX12_wantLine 178 = .ok (.iload_n 3, 1) := by decide +kernel
theorem dX12_wantLine_179 : decode cX12_wantLine 179 = .ok (.iconst 3, 1) := by decide +kernel
theorem dX12_wantLine_180 : decode cX12_wantLine 180 = .ok (.iadd, 1) := by decide +kernel
theorem dX12_wantLine_181 : decode cX12_wantLine 181 = .ok (.aload_n 0, 1) := by decide +kernel
theorem dX12_wantLine_182 : decode cX12_wantLine 182 = .ok (.iconst 0, 1) := by decide +kernel
theorem dX12_wantLine_183 : decode cX12_wantLine 183 = .ok (.sipush 240, 3) := by decide +kernel
theorem dX12_wantLine_186 : decode cX12_wantLine 186 = .ok (.invokevirtual 202, 3) := by decide +kernel
theorem dX12_wantLine_189 : decode cX12_wantLine 189 = .ok (.iastore, 1) := by decide +kernel
theorem dX12_wantLine_190 : decode cX12_wantLine 190 = .ok (.aload_n 0, 1) := by decide +kernel
theorem dX12_wantLine_191 : decode cX12_wantLine 191 = .ok (.aload_n 0, 1) := by decide +kernel
theorem dX12_wantLine_192 : decode cX12_wantLine 192 = .ok (.sipush 555, 3) := by decide +kernel
theorem dX12_wantLine_195 : decode cX12_wantLine 195 = .ok (.invokevirtual 193, 3) := by decide +kernel
theorem dX12_wantLine_198 : decode cX12_wantLine 198 = .ok (.invokevirtual 218, 3) := by decide +kernel
theorem dX12_wantLine_201 : decode cX12_wantLine 201 = .ok (.aload_n 0, 1) := by decide +kernel
theorem dX12_wantLine_202 : decode cX12_wantLine 202 = .ok (.getfield 40, 3) := by decide +kernel
theorem dX12_wantLine_205 : decode cX12_wantLine 205 = .ok (.iload_n 3, 1) := by decide +kernel
theorem dX12_wantLine_206 : decode cX12_wantLine 206 = .ok (.iconst 4, 1) := by decide +kernel
theorem dX12_wantLine_207 : decode cX12_wantLine 207 = .ok (.iadd, 1) := by decide +kernel
theorem dX12_wantLine_208 : decode cX12_wantLine 208 = .ok (.aload_n 0, 1) := by decide +kernel
theorem dX12_wantLine_209 : decode cX12_wantLine 209 = .ok (.aload_n 0, 1) := by decide +kernel
theorem dX12_wantLine_210 : decode cX12_wantLine 210 = .ok (.getfield 40, 3) := by decide +kernel
theorem dX12_wantLine_213 : decode cX12_wantLine 213 = .ok (.iload_n 3, 1) := by decide +kernel
theorem dX12_wantLine_214 : decode cX12_wantLine 214 = .ok (.iconst 3, 1) := by decide +kernel
theorem dX12_wantLine_215 : decode cX12_wantLine 215 = .ok (.iadd, 1) := by decide +kernel
theorem dX12_wantLine_216 : decode cX12_wantLine 216 = .ok (.iaload, 1) := by decide +kernel
theorem dX12_wantLine_217 : decode cX12_wantLine 217 = .ok (.sipush 240, 3) := by decide +kernel
theorem dX12_wantLine_220 : decode cX12_wantLine 220 = .ok (.invokevirtual 202, 3) := by decide +kernel
theorem dX12_wantLine_223 : decode cX12_wantLine 223 = .ok (.iastore, 1) := by decide +kernel
theorem dX12_wantLine_224 : decode cX12_wantLine 224 = .ok (.goto 45, 3) := by decide +kernel
theorem dX12_wantLine_227 : decode cX12_wantLine 227 = .ok (.goto 42, 3) := by decide +kernel
theorem dX12_wantLine_230 : decode cX12_wantLine 230 = .ok (.aload_n 0, 1) := by decide +kernel
theorem dX12_wantLine_231 : decode cX12_wantLine 231 = .ok (.getfield 40, 3) := by decide +kernel
theorem dX12_wantLine_234 : decode cX12_wantLine 234 = .ok (.iload_n 3, 1) := by decide +kernel
theorem dX12_wantLine_235 : decode cX12_wantLine 235 = .ok (.iconst 1, 1) := by decide +kernel
theorem dX12_wantLine_236 : decode cX12_wantLine 236 = .ok (.iadd, 1) := by decide +kernel
theorem dX12_wantLine_237 : decode cX12_wantLine 237 = .ok (.iload_n 2, 1) := by decide +kernel
theorem dX12_wantLine_238 : decode cX12_wantLine 238 = .ok (.bipush 6, 2) := by decide +kernel
theorem dX12_wantLine_240 : decode cX12_wantLine 240 = .ok (.if_icmp .ne 7, 3) := by decide +kernel
theorem dX12_wantLine_243 : decode cX12_wantLine 243 = .ok (.iconst 0, 1) := by decide +kernel
theorem dX12_wantLine_244 : decode cX12_wantLine 244 = .ok (.goto 9, 3) := by decide +kernel
theorem dX12_wantLine_247 : decode cX12_wantLine 247 = .ok (.aload_n 0, 1) := by decide +kernel
theorem dX12_wantLine_248 : decode cX12_wantLine 248 = .ok (.iconst 0, 1) := by decide +kernel
theorem dX12_wantLine_249 : decode cX12_wantLine 249 = .ok (.iconst 4, 1) := by decide +kernel
theorem dX12_wantLine_250 : decode cX12_wantLine 250 = .ok (.invokevirtual 202, 3) := by decide +kernel
theorem dX12_wantLine_253 : decode cX12_wantLine 253 = .ok (.iastore, 1) := by decide +kernel
theorem dX12_wantLine_254 : decode cX12_wantLine 254 = .ok (.aload_n 0, 1) := by decide +kernel
theorem dX12_wantLine_255 : decode cX12_wantLine 255 = .ok (.aload_n 0, 1) := by decide +kernel
theorem dX12_wantLine_256 : decode cX12_wantLine 256 = .ok (.sipush 249, 3) := by decide +kernel
theorem dX12_wantLine_259 : decode cX12_wantLine 259 = .ok (.invokevirtual 193, 3) := by decide +kernel
theorem dX12_wantLine_262 : decode cX12_wantLine 262 = .ok (.invokevirtual 218, 3) := by decide +kernel
theorem dX12_wantLine_265 : decode cX12_wantLine 265 = .ok (.aload_n 0, 1) := by decide +kernel
theorem dX12_wantLine_266 : decode cX12_wantLine 266 = .ok (.invokevirtual 239, 3) := by decide +kernel
theorem dX12_wantLine_269 : decode cX12_wantLine 269 = .ok (.aload_n 0, 1) := by decide +kernel
theorem dX12_wantLine_270 : decode cX12_wantLine 270 = .ok (.getfield 40, 3) := by decide +kernel
theorem dX12_wantLine_273 : decode cX12_wantLine 273 = .ok (.iload_n 3, 1) := by decide +kernel
theorem dX12_wantLine_274 : decode cX12_wantLine 274 = .ok (.bipush 6, 2) := by decide +kernel
theorem dX12_wantLine_276 : decode cX12_wantLine 276 = .ok (.iadd, 1) := by decide +kernel
theorem dX12_wantLine_277 : decode cX12_wantLine 277 = .ok (.aload_n 0, 1) := by decide +kernel
theorem dX12_wantLine_278 : decode cX12_wantLine 278 = .ok (.getfield 182, 3) := by decide +kernel
theorem dX12_wantLine_281 : decode cX12_wantLine 281 = .ok (.aload_n 0, 1) := by decide +kernel
theorem dX12_wantLine_282 : decode cX12_wantLine 282 = .ok (.getfield 40, 3) := by decide +kernel
theorem dX12_wantLine_285 : decode cX12_wantLine 285 = .ok (.iload_n 3, 1) := by decide +kernel
theorem dX12_wantLine_286 : decode cX12_wantLine 286 = .ok (.iconst 5, 1) := by decide +kernel
theorem dX12_wantLine_287 : decode cX12_wantLine 287 = .ok (.iadd, 1) := by decide +kernel
theorem dX12_wantLine_288 : decode cX12_wantLine 288 = .ok (.iaload, 1) := by decide +kernel
theorem dX12_wantLine_289 : decode cX12_wantLine 289 = .ok (.isub, 1) := by decide +kernel
theorem dX12_wantLine_290 : decode cX12_wantLine 290 = .ok (.iastore, 1) := by decide +kernel
theorem dX12_wantLine_291 : decode cX12_wantLine 291 = .ok (.aload_n 0, 1) := by decide +kernel
theorem dX12_wantLine_292 : decode cX12_wantLine 292 = .ok (.aload_n 0, 1) := by decide +kernel
theorem dX12_wantLine_293 : decode cX12_wantLine 293 = .ok (.bipush 59, 2) := by decide +kernel
theorem dX12_wantLine_295 : decode cX12_wantLine 295 = .ok (.invokevirtual 208, 3) := by decide +kernel
theorem dX12_wantLine_298 : decode cX12_wantLine 298 = .ok (.invokevirtual 218, 3) := by decide +kernel
theorem dX12_wantLine_301 : decode cX12_wantLine 301 = .ok (.return_, 1) := by decide +kernel
theorem dX12_read_0 : decode cX12_read 0 = .ok (.aload_n 0, 1) := by decide +kernel
theorem dX12_read_1 : decode cX12_read 1 = .ok (.iconst (-1), 1) := by decide +kernel
theorem dX12_read_2 : decode cX12_read 2 = .ok (.putfield 170, 3) := by decide +kernel
theorem dX12_read_5 : decode cX12_read 5 = .ok (.aload_n 0, 1) := by decide +kernel
theorem dX12_read_6 : decode cX12_read 6 = .ok (.iconst 0, 1) := by decide +kernel
theorem dX12_read_7 : decode cX12_read 7 = .ok (.putfield 148, 3) := by decide +kernel
theorem dX12_read_10 : decode cX12_read 10 = .ok (.aload_n 0, 1) := by decide +kernel
theorem dX12_read_11 : decode cX12_read 11 = .ok (.iconst 0, 1) := by decide +kernel
theorem dX12_read_12 : decode cX12_read 12 = .ok (.putfield 182, 3) := by decide +kernel
theorem dX12_read_15 : decode cX12_read 15 = .ok (.aload_n 0, 1) := by decide +kernel
theorem dX12_read_16 : decode cX12_read 16 = .ok (.invokevirtual 176, 3) := by decide +kernel
theorem dX12_read_19 : decode cX12_read 19 = .ok (.iconst 0, 1) := by decide +kernel
theorem dX12_read_20 : decode cX12_read 20 = .ok (.istore_n 1, 1) := by decide +kernel
theorem dX12_read_21 : decode cX12_read 21 = .ok (.aload_n 0, 1) := by decide +kernel
theorem dX12_read_22 : decode cX12_read 22 = .ok (.getfield 157, 3) := by decide +kernel
theorem dX12_read_25 : decode cX12_read 25 = .ok (.ifCond .eq 21, 3) := by decide +kernel
theorem dX12_read_28 : decode cX12_read 28 = .ok (.aload_n 0, 1) := by decide +kernel
theorem dX12_read_29 : decode cX12_read 29 = .ok (.invokevirtual 173, 3) := by decide +kernel
theorem dX12_read_32 : decode cX12_read 32 = .ok (.ifCond .eq 14, 3) := by decide +kernel
theorem dX12_read_35 : decode cX12_read 35 = .ok (.aload_n 0, 1) := by decide +kernel
theorem dX12_read_36 : decode cX12_read 36 = .ok (.iload_n 1, 1) := by decide +kernel
theorem dX12_read_37 : decode cX12_read 37 = .ok (.invokevirtual 242, 3) := by decide +kernel
theorem dX12_read_40 : decode cX12_read 40 = .ok (.iinc 1 1, 3) := by decide +kernel
theorem dX12_read_43 : decode cX12_read 43 = .ok (.goto (-22), 3) := by decide +kernel
theorem dX12_read_46 : decode cX12_read 46 = .ok (.aload_n 0, 1) := by decide +kernel
theorem dX12_read_47 : decode cX12_read 47 = .ok (.iconst 0, 1) := by decide +kernel
theorem dX12_read_48 : decode cX12_read 48 = .ok (.putfield 142, 3) := by decide +kernel
theorem dX12_read_51 : decode cX12_read 51 = .ok (.aload_n 0, 1) := by decide +kernel
theorem dX12_read_52 : decode cX12_read 52 = .ok (.invokevirtual 173, 3) := by decide +kernel
theorem dX12_read_55 : decode cX12_read 55 = .ok (.ifCond .ne 11, 3) := by decide +kernel
theorem dX12_read_58 : decode cX12_read 58 = .ok (.bipush (-100), 2) := by decide +kernel
theorem dX12_read_60 : decode cX12_read 60 = .ok (.aload_n 0, 1) := by decide +kernel
theorem dX12_read_61 : decode cX12_read 61 = .ok (.getfield 170, 3) := by decide +kernel
theorem dX12_read_64 : decode cX12_read 64 = .ok (.isub, 1) := by decide +kernel
theorem dX12_read_65 : decode cX12_read 65 = .ok (.ireturn, 1) := by decide +kernel
theorem dX12_read_66 : decode cX12_read 66 = .ok (.aload_n 0, 1) := by decide +kernel
theorem dX12_read_67 : decode cX12_read 67 = .ok (.getfield 7, 3) := by decide +kernel
theorem dX12_read_70 : decode cX12_read 70 = .ok (.iconst 4, 1) := by decide +kernel
theorem dX12_read_71 : decode cX12_read 71 = .ok (.iaload, 1) := by decide +kernel
theorem dX12_read_72 : decode cX12_read 72 = .ok (.istore_n 2, 1) := by decide +kernel
theorem dX12_read_73 : decode cX12_read 73 = .ok (.iload_n 2, 1) := by decide +kernel
theorem dX12_read_74 : decode cX12_read 74 = .ok (.bipush 6, 2) := by decide +kernel
theorem dX12_read_76 : decode cX12_read 76 = .ok (.if_icmp .ne 6, 3) := by decide +kernel
theorem dX12_read_79 : decode cX12_read 79 = .ok (.bipush (-2), 2) := by decide +kernel
theorem dX12_read_81 : decode cX12_read 81 = .ok (.ireturn, 1) := by decide +kernel
theorem dX12_read_82 : decode cX12_read 82 = .ok (.aload_n 0, 1) := by decide +kernel
theorem dX12_read_83 : decode cX12_read 83 = .ok (.getfield 22, 3) := by decide +kernel
theorem dX12_read_86 : decode cX12_read 86 = .ok (.iconst 2, 1) := by decide +kernel
theorem dX12_read_87 : decode cX12_read 87 = .ok (.iload_n 2, 1) := by decide +kernel
theorem dX12_read_88 : decode cX12_read 88 = .ok (.imul, 1) := by decide +kernel
theorem dX12_read_89 : decode cX12_read 89 = .ok (.iload_n 1, 1) := by decide +kernel
theorem dX12_read_90 : decode cX12_read 90 = .ok (.iastore, 1) := by decide +kernel
theorem dX12_read_91 : decode cX12_read 91 = .ok (.aload_n 0, 1) := by decide +kernel
theorem dX12_read_92 : decode cX12_read 92 = .ok (.getfield 22, 3) := by decide +kernel
theorem dX12_read_95 : decode cX12_read 95 = .ok (.iconst 2, 1) := by decide +kernel
theorem dX12_read_96 : decode cX12_read 96 = .ok (.iload_n 2, 1) := by decide +kernel
theorem dX12_read_97 : decode cX12_read 97 = .ok (.imul, 1) := by decide +kernel
theorem dX12_read_98 : decode cX12_read 98 = .ok (.iconst 1, 1) := by decide +kernel
theorem dX12_read_99 : decode cX12_read 99 = .ok (.iadd, 1) := by decide +kernel
theorem dX12_read_100 : decode cX12_read 100 = .ok (.aload_n 0, 1) := by decide +kernel
theorem dX12_read_101 : decode cX12_read 101 = .ok (.getfield 7, 3) := by decide +kernel
theorem dX12_read_104 : decode cX12_read 104 = .ok (.iconst 0, 1) := by decide +kernel
theorem dX12_read_105 : decode cX12_read 105 = .ok (.iaload, 1) := by decide +kernel
theorem dX12_read_106 : decode cX12_read 106 = .ok (.iastore, 1) := by decide +kernel
theorem dX12_read_107 : decode cX12_read 107 = .ok (.iconst 0, 1) := by decide +kernel
theorem dX12_read_108 : decode cX12_read 108 = .ok (.istore_n 3, 1) := by decide +kernel
theorem dX12_read_109 : decode cX12_read 109 = .ok (.iload_n 3, 1) := by decide +kernel
theorem dX12_read_110 : decode cX12_read 110 = .ok (.bipush 7, 2) := by decide +kernel
theorem dX12_read_112 : decode cX12_read 112 = .ok (.iload_n 1, 1) := by decide +kernel
theorem dX12_read_113 : decode cX12_read 113 = .ok (.imul, 1) := by decide +kernel
theorem dX12_read_114 : decode cX12_read 114 = .ok (.if_icmp .ge 26, 3) := by decide +kernel
theorem dX12_read_117 : decode cX12_read 117 = .ok (.aload_n 0, 1) := by decide +kernel
theorem dX12_read_118 : decode cX12_read 118 = .ok (.getfield 25, 3) := by decide +kernel
theorem dX12_read_121 : decode cX12_read 121 = .ok (.bipush 84, 2) := by decide +kernel
theorem dX12_read_123 : decode cX12_read 123 = .ok (.iload_n 2, 1) := by decide +kernel
theorem dX12_read_124 : decode cX12_read 124 = .ok (.imul, 1) := by decide +kernel
theorem dX12_read_125 : decode cX12_read 125 = .ok (.iload_n 3, 1) := by decide +kernel
theorem dX12_read_126 : decode cX12_read 126 = .ok (.iadd, 1) := by decide +kernel
theorem dX12_read_127 : decode cX12_read 127 = .ok (.aload_n 0, 1) := by decide +kernel
theorem dX12_read_128 : decode cX12_read 128 = .ok (.getfield 40, 3) := by decide +kernel
theorem dX12_read_131 : decode cX12_read 131 = .ok (.iload_n 3, 1) := by decide +kernel
theorem dX12_read_132 : decode cX12_read 132 = .ok (.iaload, 1) := by decide +kernel
theorem dX12_read_133 : decode cX12_read 133 = .ok (.iastore, 1) := by decide +kernel
theorem dX12_read_134 : decode cX12_read 134 = .ok (.iinc 3 1, 3) := by decide +kernel
theorem dX12_read_137 : decode cX12_read 137 = .ok (.goto (-28), 3) := by decide +kernel
theorem dX12_read_140 : decode cX12_read 140 = .ok (.iconst 0, 1) := by decide +kernel
theorem dX12_read_141 : decode cX12_read 141 = .ok (.istore_n 3, 1) := by decide +kernel
theorem dX12_read_142 : decode cX12_read 142 = .ok (.iload_n 3, 1) := by decide +kernel
theorem dX12_read_143 : decode cX12_read 143 = .ok (.aload_n 0, 1) := by decide +kernel
theorem dX12_read_144 : decode cX12_read 144 = .ok (.getfield 182, 3) := by decide +kernel
theorem dX12_read_147 : decode cX12_read 147 = .ok (.if_icmp .ge 27, 3) := by decide +kernel
theorem dX12_read_150 : decode cX12_read 150 = .ok (.aload_n 0, 1) := by decide +kernel
theorem dX12_read_151 : decode cX12_read 151 = .ok (.getfield 28, 3) := by decide +kernel
theorem dX12_read_154 : decode cX12_read 154 = .ok (.sipush 260, 3) := by decide +kernel
theorem dX12_read_157 : decode cX12_read 157 = .ok (.iload_n 2, 1) := by decide +kernel
theorem dX12_read_158 : decode cX12_read 158 = .ok (.imul, 1) := by decide +kernel
theorem dX12_read_159 : decode cX12_read 159 = .ok (.iload_n 3, 1) := by decide +kernel
theorem dX12_read_160 : decode cX12_read 160 = .ok (.iadd, 1) := by decide +kernel
theorem dX12_read_161 : decode cX12_read 161 = .ok (.aload_n 0, 1) := by decide +kernel
theorem dX12_read_162 : decode cX12_read 162 = .ok (.getfield 43, 3) := by decide +kernel
theorem dX12_read_165 : decode cX12_read 165 = .ok (.iload_n 3, 1) := by decide +kernel
theorem dX12_read_166 : decode cX12_read 166 = .ok (.iaload, 1) := by decide +kernel
theorem dX12_read_167 : decode cX12_read 167 = .ok (.iastore, 1) := by decide +kernel
theorem dX12_read_168 : decode cX12_read 168 = .ok (.iinc 3 1, 3) := by decide +kernel
theorem dX12_read_171 : decode cX12_read 171 = .ok (.goto (-29), 3) := by decide +kernel
theorem dX12_read_174 : decode cX12_read 174 = .ok (.aload_n 0, 1) := by decide +kernel
theorem dX12_read_175 : decode cX12_read 175 = .ok (.getfield 7, 3) := by decide +kernel
theorem dX12_read_178 : decode cX12_read 178 = .ok (.iconst 4, 1) := by decide +kernel
theorem dX12_read_179 : decode cX12_read 179 = .ok (.dup2, 1) := by decide +kernel
theorem dX12_read_180 : decode cX12_read 180 = .ok (.iaload, 1) := by decide +kernel
theorem dX12_read_181 : decode cX12_read 181 = .ok (.iconst 1, 1) := by decide +kernel
theorem dX12_read_182 : decode cX12_read 182 = .ok (.iadd, 1) := by decide +kernel
theorem dX12_read_183 : decode cX12_read 183 = .ok (.iastore, 1) := by decide +kernel
theorem dX12_read_184 : decode cX12_read 184 = .ok (.iload_n 2, 1) := by decide +kernel
theorem dX12_read_185 : decode cX12_read 185 = .ok (.ireturn, 1) := by decide +kernel
theorem dX12_ofLine_0 : decode cX12_ofLine 0 = .ok (.aload_n 0, 1) := by decide +kernel
theorem dX12_ofLine_1 : decode cX12_ofLine 1 = .ok (.getfield 25, 3) := by decide +kernel
theorem dX12_ofLine_4 : decode cX12_ofLine 4 = .ok (.bipush 84, 2) := by decide +kernel
theorem dX12_ofLine_6 : decode cX12_ofLine 6 = .ok (.iload_n 1, 1) := by decide +kernel
theorem dX12_ofLine_7 : decode cX12_ofLine 7 = .ok (.imul, 1) := by decide +kernel
theorem dX12_ofLine_8 : decode cX12_ofLine 8 = .ok (.bipush 7, 2) := by decide +kernel
theorem dX12_ofLine_10 : decode cX12_ofLine 10 = .ok (.iload_n 2, 1) := by decide +kernel
theorem dX12_ofLine_11 : decode cX12_ofLine 11 = .ok (.imul, 1) := by decide +kernel
theorem dX12_ofLine_12 : decode cX12_ofLine 12 = .ok (.iadd, 1) := by decide +kernel
theorem dX12_ofLine_13 : decode cX12_ofLine 13 = .ok (.iload_n 3, 1) := by decide +kernel
theorem dX12_ofLine_14 : decode cX12_ofLine 14 = .ok (.iadd, 1) := by decide +kernel
theorem dX12_ofLine_15 : decode cX12_ofLine 15 = .ok (.iaload, 1) := by decide +kernel
theorem dX12_ofLine_16 : decode cX12_ofLine 16 = .ok (.ireturn, 1) := by decide +kernel
theorem dX12_looksBack_0 : decode cX12_looksBack 0 = .ok (.iconst 0, 1) := by decide +kernel
theorem dX12_looksBack_1 : decode cX12_looksBack 1 = .ok (.istore_n 2, 1) := by decide +kernel
theorem dX12_looksBack_2 : decode cX12_looksBack 2 = .ok (.iconst 0, 1) := by decide +kernel
theorem dX12_looksBack_3 : decode cX12_looksBack 3 = .ok (.istore_n 3, 1) := by decide +kernel
theorem dX12_looksBack_4 : decode cX12_looksBack 4 = .ok (.iload_n 3, 1) := by decide +kernel
theorem dX12_looksBack_5 : decode cX12_looksBack 5 = .ok (.aload_n 0, 1) := by decide +kernel
theorem dX12_looksBack_6 : decode cX12_looksBack 6 = .ok (.getfield 22, 3) := by decide +kernel
theorem dX12_looksBack_9 : decode cX12_looksBack 9 = .ok (.iconst 2, 1) := by decide +kernel
theorem dX12_looksBack_10 : decode cX12_looksBack 10 = .ok (.iload_n 1, 1) := by decide +kernel
theorem dX12_looksBack_11 : decode cX12_looksBack 11 = .ok (.imul, 1) := by decide +kernel
theorem dX12_looksBack_12 : decode cX12_looksBack 12 = .ok (.iaload, 1) := by decide +kernel
theorem dX12_looksBack_13 : decode cX12_looksBack 13 = .ok (.if_icmp .ge 31, 3) := by decide +kernel
theorem dX12_looksBack_16 : decode cX12_looksBack 16 = .ok (.iload_n 2, 1) := by decide +kernel
theorem dX12_looksBack_17 : decode cX12_looksBack 17 = .ok (.ifCond .ne 15, 3) := by decide +kernel
theorem dX12_looksBack_20 : decode cX12_looksBack 20 = .ok (.aload_n 0, 1) := by decide +kernel
theorem dX12_looksBack_21 : decode cX12_looksBack 21 = .ok (.iload_n 1, 1) := by decide +kernel
theorem dX12_looksBack_22 : decode cX12_looksBack 22 = .ok (.iload_n 3, 1) := by decide +kernel
theorem dX12_looksBack_23 : decode cX12_looksBack 23 = .ok (.iconst 0, 1) := by decide +kernel
theorem dX12_looksBack_24 : decode cX12_looksBack 24 = .ok (.invokevirtual 245, 3) := by decide +kernel
theorem dX12_looksBack_27 : decode cX12_looksBack 27 = .ok (.bipush 7, 2) := by decide +kernel
theorem dX12_looksBack_29 : decode cX12_looksBack 29 = .ok (.if_icmp .ne 7, 3) := by decide +kernel
theorem dX12_looksBack_32 : decode cX12_looksBack 32 = .ok (.iconst 1, 1) := by decide +kernel
theorem dX12_looksBack_33 : decode cX12_looksBack 33 = .ok (.goto 4, 3) := by decide +kernel
theorem dX12_looksBack_36 : decode cX12_looksBack 36 = .ok (.iconst 0, 1) := by decide +kernel
theorem dX12_looksBack_37 : decode cX12_looksBack 37 = .ok (.istore_n 2, 1) := by decide +kernel
theorem dX12_looksBack_38 : decode cX12_looksBack 38 = .ok (.iinc 3 1, 3) := by decide +kernel
theorem dX12_looksBack_41 : decode cX12_looksBack 41 = .ok (.goto (-37), 3) := by decide +kernel
theorem dX12_looksBack_44 : decode cX12_looksBack 44 = .ok (.iload_n 2, 1) := by decide +kernel
theorem dX12_looksBack_45 : decode cX12_looksBack 45 = .ok (.ireturn, 1) := by decide +kernel
theorem dX12_version_0 : decode cX12_version 0 = .ok (.aload_n 0, 1) := by decide +kernel
theorem dX12_version_1 : decode cX12_version 1 = .ok (.iload_n 1, 1) := by decide +kernel
theorem dX12_version_2 : decode cX12_version 2 = .ok (.invokevirtual 249, 3) := by decide +kernel
theorem dX12_version_5 : decode cX12_version 5 = .ok (.ifCond .ne 5, 3) := by decide +kernel
theorem dX12_version_8 : decode cX12_version 8 = .ok (.iconst (-1), 1) := by decide +kernel
theorem dX12_version_9 : decode cX12_version 9 = .ok (.ireturn, 1) := by decide +kernel
theorem dX12_version_10 : decode cX12_version 10 = .ok (.iload_n 2, 1) := by decide +kernel
theorem dX12_version_11 : decode cX12_version 11 = .ok (.tableswitch 50 0 2 #[25, 25, 36], 25) := by decide +kernel
theorem dX12_version_36 : decode cX12_version 36 = .ok (.aload_n 0, 1) := by decide +kernel
theorem dX12_version_37 : decode cX12_version 37 = .ok (.getfield 22, 3) := by decide +kernel
theorem dX12_version_40 : decode cX12_version 40 = .ok (.iconst 2, 1) := by decide +kernel
theorem dX12_version_41 : decode cX12_version 41 = .ok (.iload_n 1, 1) := by decide +kernel
theorem dX12_version_42 : decode cX12_version 42 = .ok (.imul, 1) := by decide +kernel
theorem dX12_version_43 : decode cX12_version 43 = .ok (.iload_n 2, 1) := by decide +kernel
theorem dX12_version_44 : decode cX12_version 44 = .ok (.iadd, 1) := by decide +kernel
theorem dX12_version_45 : decode cX12_version 45 = .ok (.iaload, 1) := by decide +kernel
theorem dX12_version_46 : decode cX12_version 46 = .ok (.ireturn, 1) := by decide +kernel
theorem dX12_version_47 : decode cX12_version 47 = .ok (.aload_n 0, 1) := by decide +kernel
theorem dX12_version_48 : decode cX12_version 48 = .ok (.iload_n 1, 1) := by decide +kernel
theorem dX12_version_49 : decode cX12_version 49 = .ok (.invokevirtual 252, 3) := by decide +kernel
theorem dX12_version_52 : decode cX12_version 52 = .ok (.ifCond .eq 7, 3) := by decide +kernel
theorem dX12_version_55 : decode cX12_version 55 = .ok (.iconst 1, 1) := by decide +kernel
theorem dX12_version_56 : decode cX12_version 56 = .ok (.goto 4, 3) := by decide +kernel
theorem dX12_version_59 : decode cX12_version 59 = .ok (.iconst 0, 1) := by decide +kernel
theorem dX12_version_60 : decode cX12_version 60 = .ok (.ireturn, 1) := by decide +kernel
theorem dX12_version_61 : decode cX12_version 61 = .ok (.iload_n 2, 1) := by decide +kernel
theorem dX12_version_62 : decode cX12_version 62 = .ok (.bipush 10, 2) := by decide +kernel
theorem dX12_version_64 : decode cX12_version 64 = .ok (.bipush 9, 2) := by decide +kernel
theorem dX12_version_66 : decode cX12_version 66 = .ok (.aload_n 0, 1) := by decide +kernel
theorem dX12_version_67 : decode cX12_version 67 = .ok (.getfield 22, 3) := by decide +kernel
theorem dX12_version_70 : decode cX12_version 70 = .ok (.iconst 2, 1) := by decide +kernel
theorem dX12_version_71 : decode cX12_version 71 = .ok (.iload_n 1, 1) := by decide +kernel
theorem dX12_version_72 : decode cX12_version 72 = .ok (.imul, 1) := by decide +kernel
theorem dX12_version_73 : decode cX12_version 73 = .ok (.iaload, 1) := by decide +kernel
theorem dX12_version_74 : decode cX12_version 74 = .ok (.iadd, 1) := by decide +kernel
theorem dX12_version_75 : decode cX12_version 75 = .ok (.invokestatic 95, 3) := by decide +kernel
theorem dX12_version_78 : decode cX12_version 78 = .ok (.ifCond .eq 16, 3) := by decide +kernel
theorem dX12_version_81 : decode cX12_version 81 = .ok (.aload_n 0, 1) := by decide +kernel
theorem dX12_version_82 : decode cX12_version 82 = .ok (.iload_n 1, 1) := by decide +kernel
theorem dX12_version_83 : decode cX12_version 83 = .ok (.iload_n 2, 1) := by decide +kernel
theorem dX12_version_84 : decode cX12_version 84 = .ok (.bipush 10, 2) := by decide +kernel
theorem dX12_version_86 : decode cX12_version 86 = .ok (.isub, 1) := by decide +kernel
theorem dX12_version_87 : decode cX12_version 87 = .ok (.iconst 0, 1) := by decide +kernel
theorem dX12_version_88 : decode cX12_version 88 = .ok (.invokevirtual 245, 3) := by decide +kernel
theorem dX12_version_91 : decode cX12_version 91 = .ok (.goto 4, 3) := by decide +kernel
theorem dX12_version_94 : decode cX12_version 94 = .ok (.iconst (-1), 1) := by decide +kernel
theorem dX12_version_95 : decode cX12_version 95 = .ok (.ireturn, 1) := by decide +kernel
theorem dX12_lawOf_0 : decode cX12_lawOf 0 = .ok (.iconst (-1), 1) := by decide +kernel
theorem dX12_lawOf_1 : decode cX12_lawOf 1 = .ok (.istore_n 3, 1) := by decide +kernel
theorem dX12_lawOf_2 : decode cX12_lawOf 2 = .ok (.iconst (-1), 1) := by decide +kernel
theorem dX12_lawOf_3 : decode cX12_lawOf 3 = .ok (.istore 4, 2) := by decide +kernel
theorem dX12_lawOf_5 : decode cX12_lawOf 5 = .ok (.iconst 0, 1) := by decide +kernel
theorem dX12_lawOf_6 : decode cX12_lawOf 6 = .ok (.istore 5, 2) := by decide +kernel
theorem dX12_lawOf_8 : decode cX12_lawOf 8 = .ok (.iload 5, 2) := by decide +kernel
theorem dX12_lawOf_10 : decode cX12_lawOf 10 = .ok (.aload_n 0, 1) := by decide +kernel
theorem dX12_lawOf_11 : decode cX12_lawOf 11 = .ok (.getfield 7, 3) := by decide +kernel
theorem dX12_lawOf_14 : decode cX12_lawOf 14 = .ok (.iconst 4, 1) := by decide +kernel
theorem dX12_lawOf_15 : decode cX12_lawOf 15 = .ok (.iaload, 1) := by decide +kernel
theorem dX12_lawOf_16 : decode cX12_lawOf 16 = .ok (.if_icmp .ge 73, 3) := by decide +kernel
theorem dX12_lawOf_19 : decode cX12_lawOf 19 = .ok (.aload_n 0, 1) := by decide +kernel
theorem dX12_lawOf_20 : decode cX12_lawOf 20 = .ok (.getfield 22, 3) := by decide +kernel
theorem dX12_lawOf_23 : decode cX12_lawOf 23 = .ok (.iconst 2, 1) := by decide +kernel
theorem dX12_lawOf_24 : decode cX12_lawOf 24 = .ok (.iload 5, 2) := by decide +kernel
theorem dX12_lawOf_26 : decode cX12_lawOf 26 = .ok (.imul, 1) := by decide +kernel
theorem dX12_lawOf_27 : decode cX12_lawOf 27 = .ok (.iconst 1, 1) := by decide +kernel
theorem dX12_lawOf_28 : decode cX12_lawOf 28 = .ok (.iadd, 1) := by decide +kernel
theorem dX12_lawOf_29 : decode cX12_lawOf 29 = .ok (.iaload, 1) := by decide +kernel
theorem dX12_lawOf_30 : decode cX12_lawOf 30 = .ok (.istore 6, 2) := by decide +kernel
theorem dX12_lawOf_32 : decode cX12_lawOf 32 = .ok (.iload 6, 2) := by decide +kernel
theorem dX12_lawOf_34 : decode cX12_lawOf 34 = .ok (.aload_n 0, 1) := by decide +kernel
theorem dX12_lawOf_35 : decode cX12_lawOf 35 = .ok (.iload_n 1, 1) := by decide +kernel
theorem dX12_lawOf_36 : decode cX12_lawOf 36 = .ok (.invokevirtual 113, 3) := by decide +kernel
theorem dX12_lawOf_39 : decode cX12_lawOf 39 = .ok (.if_icmp .gt 8, 3) := by decide +kernel
theorem dX12_lawOf_42 : decode cX12_lawOf 42 = .ok (.iload 5, 2) := by decide +kernel
theorem dX12_lawOf_44 : decode cX12_lawOf 44 = .ok (.goto 4, 3) := by decide +kernel
theorem dX12_lawOf_47 : decode cX12_lawOf 47 = .ok (.iload_n 3, 1) := by decide +kernel
theorem dX12_lawOf_48 : decode cX12_lawOf 48 = .ok (.istore_n 3, 1) := by decide +kernel
theorem dX12_lawOf_49 : decode cX12_lawOf 49 = .ok (.iload 6, 2) := by decide +kernel
theorem dX12_lawOf_51 : decode cX12_lawOf 51 = .ok (.aload_n 0, 1) := by decide +kernel
theorem dX12_lawOf_52 : decode cX12_lawOf 52 = .ok (.iload_n 1, 1) := by decide +kernel
theorem dX12_lawOf_53 : decode cX12_lawOf 53 = .ok (.invokevirtual 113, 3) := by decide +kernel
theorem dX12_lawOf_56 : decode cX12_lawOf 56 = .ok (.if_icmp .le 23, 3) := by decide +kernel
theorem dX12_lawOf_59 : decode cX12_lawOf 59 = .ok (.iload 6, 2) := by decide +kernel
theorem dX12_lawOf_61 : decode cX12_lawOf 61 = .ok (.iload_n 2, 1) := by decide +kernel
theorem dX12_lawOf_62 : decode cX12_lawOf 62 = .ok (.if_icmp .gt 17, 3) := by decide +kernel
theorem dX12_lawOf_65 : decode cX12_lawOf 65 = .ok (.aload_n 0, 1) := by decide +kernel
theorem dX12_lawOf_66 : decode cX12_lawOf 66 = .ok (.iload 5, 2) := by decide +kernel
theorem dX12_lawOf_68 : decode cX12_lawOf 68 = .ok (.invokevirtual 252, 3) := by decide +kernel
theorem dX12_lawOf_71 : decode cX12_lawOf 71 = .ok (.ifCond .eq 8, 3) := by decide +kernel
theorem dX12_lawOf_74 : decode cX12_lawOf 74 = .ok (.iload 5, 2) := by decide +kernel
theorem dX12_lawOf_76 : decode cX12_lawOf 76 = .ok (.goto 5, 3) := by decide +kernel
theorem dX12_lawOf_79 : decode cX12_lawOf 79 = .ok (.iload 4, 2) := by decide +kernel
theorem dX12_lawOf_81 : decode cX12_lawOf 81 = .ok (.istore 4, 2) := by decide +kernel
theorem dX12_lawOf_83 : decode cX12_lawOf 83 = .ok (.iinc 5 1, 3) := by decide +kernel
theorem dX12_lawOf_86 : decode cX12_lawOf 86 = .ok (.goto (-78), 3) := by decide +kernel
theorem dX12_lawOf_89 : decode cX12_lawOf 89 = .ok (.iload 4, 2) := by decide +kernel
theorem dX12_lawOf_91 : decode cX12_lawOf 91 = .ok (.ifCond .lt 8, 3) := by decide +kernel
theorem dX12_lawOf_94 : decode cX12_lawOf 94 = .ok (.iload 4, 2) := by decide +kernel
theorem dX12_lawOf_96 : decode cX12_lawOf 96 = .ok (.goto 4, 3) := by decide +kernel
theorem dX12_lawOf_99 : decode cX12_lawOf 99 = .ok (.iload_n 3, 1) := by decide +kernel
theorem dX12_lawOf_100 : decode cX12_lawOf 100 = .ok (.ireturn, 1) := by decide +kernel
theorem dX12_law_0 : decode cX12_law 0 = .ok (.aload_n 0, 1) := by decide +kernel
theorem dX12_law_1 : decode cX12_law 1 = .ok (.iload_n 1, 1) := by decide +kernel
theorem dX12_law_2 : decode cX12_law 2 = .ok (.invokevirtual 120, 3) := by decide +kernel
theorem dX12_law_5 : decode cX12_law 5 = .ok (.ifCond .eq 31, 3) := by decide +kernel
theorem dX12_law_8 : decode cX12_law 8 = .ok (.iload_n 2, 1) := by decide +kernel
theorem dX12_law_9 : decode cX12_law 9 = .ok (.invokestatic 107, 3) := by decide +kernel
theorem dX12_law_12 : decode cX12_law 12 = .ok (.ifCond .eq 24, 3) := by decide +kernel
theorem dX12_law_15 : decode cX12_law 15 = .ok (.iload_n 2, 1) := by decide +kernel
theorem dX12_law_16 : decode cX12_law 16 = .ok (.aload_n 0, 1) := by decide +kernel
theorem dX12_law_17 : decode cX12_law 17 = .ok (.iload_n 1, 1) := by decide +kernel
theorem dX12_law_18 : decode cX12_law 18 = .ok (.invokevirtual 113, 3) := by decide +kernel
theorem dX12_law_21 : decode cX12_law 21 = .ok (.if_icmp .lt 15, 3) := by decide +kernel
theorem dX12_law_24 : decode cX12_law 24 = .ok (.aload_n 0, 1) := by decide +kernel
theorem dX12_law_25 : decode cX12_law 25 = .ok (.iload_n 1, 1) := by decide +kernel
theorem dX12_law_26 : decode cX12_law 26 = .ok (.iload_n 2, 1) := by decide +kernel
theorem dX12_law_27 : decode cX12_law 27 = .ok (.invokevirtual 255, 3) := by decide +kernel
theorem dX12_law_30 : decode cX12_law 30 = .ok (.invokestatic 139, 3) := by decide +kernel
theorem dX12_law_33 : decode cX12_law 33 = .ok (.goto 4, 3) := by decide +kernel
theorem dX12_law_36 : decode cX12_law 36 = .ok (.iconst (-1), 1) := by decide +kernel
theorem dX12_law_37 : decode cX12_law 37 = .ok (.ireturn, 1) := by decide +kernel
theorem dX12_toldOf_0 : decode cX12_toldOf 0 = .ok (.iconst 0, 1) := by decide +kernel
theorem dX12_toldOf_1 : decode cX12_toldOf 1 = .ok (.istore 4, 2) := by decide +kernel
theorem dX12_toldOf_3 : decode cX12_toldOf 3 = .ok (.iconst 0, 1) := by decide +kernel
theorem dX12_toldOf_4 : decode cX12_toldOf 4 = .ok (.istore 5, 2) := by decide +kernel
theorem dX12_toldOf_6 : decode cX12_toldOf 6 = .ok (.iload 5, 2) := by decide +kernel
theorem dX12_toldOf_8 : decode cX12_toldOf 8 = .ok (.aload_n 0, 1) := by decide +kernel
theorem dX12_toldOf_9 : decode cX12_toldOf 9 = .ok (.getfield 22, 3) := by decide +kernel
theorem dX12_toldOf_12 : decode cX12_toldOf 12 = .ok (.iconst 2, 1) := by decide +kernel
theorem dX12_toldOf_13 : decode cX12_toldOf 13 = .ok (.iload_n 1, 1) := by decide +kernel
theorem dX12_toldOf_14 : decode cX12_toldOf 14 = .ok (.imul, 1) := by decide +kernel
theorem dX12_toldOf_15 : decode cX12_toldOf 15 = .ok (.iaload, 1) := by decide +kernel
theorem dX12_toldOf_16 : decode cX12_toldOf 16 = .ok (.if_icmp .ge 48, 3) := by decide +kernel
theorem dX12_toldOf_19 : decode cX12_toldOf 19 = .ok (.aload_n 0, 1) := by decide +kernel
theorem dX12_toldOf_20 : decode cX12_toldOf 20 = .ok (.iload_n 1, 1) := by decide +kernel
theorem dX12_toldOf_21 : decode cX12_toldOf 21 = .ok (.iload 5, 2) := by decide +kernel
theorem dX12_toldOf_23 : decode cX12_toldOf 23 = .ok (.iconst 0, 1) := by decide +kernel
theorem dX12_toldOf_24 : decode cX12_toldOf 24 = .ok (.invokevirtual 245, 3) := by decide +kernel
theorem dX12_toldOf_27 : decode cX12_toldOf 27 = .ok (.iload_n 2, 1) := by decide +kernel
theorem dX12_toldOf_28 : decode cX12_toldOf 28 = .ok (.if_icmp .ne 26, 3) := by decide +kernel
theorem dX12_toldOf_31 : decode cX12_toldOf 31 = .ok (.aload_n 0, 1) := by decide +kernel
theorem dX12_toldOf_32 : decode cX12_toldOf 32 = .ok (.iload_n 1, 1) := by decide +kernel
theorem dX12_toldOf_33 : decode cX12_toldOf 33 = .ok (.iload 5, 2) := by decide +kernel
theorem dX12_toldOf_35 : decode cX12_toldOf 35 = .ok (.iconst 1, 1) := by decide +kernel
theorem dX12_toldOf_36 : decode cX12_toldOf 36 = .ok (.invokevirtual 245, 3) := by decide +kernel
theorem dX12_toldOf_39 : decode cX12_toldOf 39 = .ok (.iload_n 3, 1) := by decide +kernel
theorem dX12_toldOf_40 : decode cX12_toldOf 40 = .ok (.if_icmp .ne 14, 3) := by decide +kernel
theorem dX12_toldOf_43 : decode cX12_toldOf 43 = .ok (.aload_n 0, 1) := by decide +kernel
theorem dX12_toldOf_44 : decode cX12_toldOf 44 = .ok (.iload_n 1, 1) := by decide +kernel
theorem dX12_toldOf_45 : decode cX12_toldOf 45 = .ok (.iload 5, 2) := by decide +kernel
theorem dX12_toldOf_47 : decode cX12_toldOf 47 = .ok (.iconst 2, 1) := by decide +kernel
theorem dX12_toldOf_48 : decode cX12_toldOf 48 = .ok (.invokevirtual 245, 3) := by decide +kernel
theorem dX12_toldOf_51 : decode cX12_toldOf 51 = .ok (.goto 5, 3) := by decide +kernel
theorem dX12_toldOf_54 : decode cX12_toldOf 54 = .ok (.iload 4, 2) := by decide +kernel
theorem dX12_toldOf_56 : decode cX12_toldOf 56 = .ok (.istore 4, 2) := by decide +kernel
theorem dX12_toldOf_58 : decode cX12_toldOf 58 = .ok (.iinc 5 1, 3) := by decide +kernel
theorem dX12_toldOf_61 : decode cX12_toldOf 61 = .ok (.goto (-55), 3) := by decide +kernel
theorem dX12_toldOf_64 : decode cX12_toldOf 64 = .ok (.iload 4, 2) := by decide +kernel
theorem dX12_toldOf_66 : decode cX12_toldOf 66 = .ok (.ireturn, 1) := by decide +kernel
theorem dX12_oldOf_0 : decode cX12_oldOf 0 = .ok (.bipush 90, 2) := by decide +kernel
theorem dX12_oldOf_2 : decode cX12_oldOf 2 = .ok (.istore_n 2, 1) := by decide +kernel
theorem dX12_oldOf_3 : decode cX12_oldOf 3 = .ok (.iconst 0, 1) := by decide +kernel
theorem dX12_oldOf_4 : decode cX12_oldOf 4 = .ok (.istore_n 3, 1) := by decide +kernel
theorem dX12_oldOf_5 : decode cX12_oldOf 5 = .ok (.iload_n 3, 1) := by decide +kernel
theorem dX12_oldOf_6 : decode cX12_oldOf 6 = .ok (.aload_n 0, 1) := by decide +kernel
theorem dX12_oldOf_7 : decode cX12_oldOf 7 = .ok (.getfield 22, 3) := by decide +kernel
theorem dX12_oldOf_10 : decode cX12_oldOf 10 = .ok (.iconst 2, 1) := by decide +kernel
theorem dX12_oldOf_11 : decode cX12_oldOf 11 = .ok (.iload_n 1, 1) := by decide +kernel
theorem dX12_oldOf_12 : decode cX12_oldOf 12 = .ok (.imul, 1) := by decide +kernel
theorem dX12_oldOf_13 : decode cX12_oldOf 13 = .ok (.iaload, 1) := by decide +kernel
theorem dX12_oldOf_14 : decode cX12_oldOf 14 = .ok (.if_icmp .ge 32, 3) := by decide +kernel
theorem dX12_oldOf_17 : decode cX12_oldOf 17 = .ok (.aload_n 0, 1) := by decide +kernel
theorem dX12_oldOf_18 : decode cX12_oldOf 18 = .ok (.iload_n 1, 1) := by decide +kernel
theorem dX12_oldOf_19 : decode cX12_oldOf 19 = .ok (.iload_n 3, 1) := by decide +kernel
theorem dX12_oldOf_20 : decode cX12_oldOf 20 = .ok (.iconst 0, 1) := by decide +kernel
theorem dX12_oldOf_21 : decode cX12_oldOf 21 = .ok (.invokevirtual 245, 3) := by decide +kernel
theorem dX12_oldOf_24 : decode cX12_oldOf 24 = .ok (.iconst 2, 1) := by decide +kernel
theorem dX12_oldOf_25 : decode cX12_oldOf 25 = .ok (.if_icmp .ne 13, 3) := by decide +kernel
theorem dX12_oldOf_28 : decode cX12_oldOf 28 = .ok (.aload_n 0, 1) := by decide +kernel
theorem dX12_oldOf_29 : decode cX12_oldOf 29 = .ok (.iload_n 1, 1) := by decide +kernel
theorem dX12_oldOf_30 : decode cX12_oldOf 30 = .ok (.iload_n 3, 1) := by decide +kernel
theorem dX12_oldOf_31 : decode cX12_oldOf 31 = .ok (.iconst 1, 1) := by decide +kernel
theorem dX12_oldOf_32 : decode cX12_oldOf 32 = .ok (.invokevirtual 245, 3) := by decide +kernel
theorem dX12_oldOf_35 : decode cX12_oldOf 35 = .ok (.goto 4, 3) := by decide +kernel
theorem dX12_oldOf_38 : decode cX12_oldOf 38 = .ok (.iload_n 2, 1) := by decide +kernel
theorem dX12_oldOf_39 : decode cX12_oldOf 39 = .ok (.istore_n 2, 1) := by decide +kernel
theorem dX12_oldOf_40 : decode cX12_oldOf 40 = .ok (.iinc 3 1, 3) := by decide +kernel
theorem dX12_oldOf_43 : decode cX12_oldOf 43 = .ok (.goto (-38), 3) := by decide +kernel
theorem dX12_oldOf_46 : decode cX12_oldOf 46 = .ok (.iload_n 2, 1) := by decide +kernel
theorem dX12_oldOf_47 : decode cX12_oldOf 47 = .ok (.ireturn, 1) := by decide +kernel
theorem dX12_pointsOf_0 : decode cX12_pointsOf 0 = .ok (.iconst 0, 1) := by decide +kernel
theorem dX12_pointsOf_1 : decode cX12_pointsOf 1 = .ok (.istore 4, 2) := by decide +kernel
theorem dX12_pointsOf_3 : decode cX12_pointsOf 3 = .ok (.aload_n 0, 1) := by decide +kernel
theorem dX12_pointsOf_4 : decode cX12_pointsOf 4 = .ok (.iload_n 2, 1) := by decide +kernel
theorem dX12_pointsOf_5 : decode cX12_pointsOf 5 = .ok (.invokevirtual 258, 3) := by decide +kernel
theorem dX12_pointsOf_8 : decode cX12_pointsOf 8 = .ok (.istore 5, 2) := by decide +kernel
theorem dX12_pointsOf_10 : decode cX12_pointsOf 10 = .ok (.iconst 0, 1) := by decide +kernel
theorem dX12_pointsOf_11 : decode cX12_pointsOf 11 = .ok (.istore 6, 2) := by decide +kernel
theorem dX12_pointsOf_13 : decode cX12_pointsOf 13 = .ok (.iload 6, 2) := by decide +kernel
theorem dX12_pointsOf_15 : decode cX12_pointsOf 15 = .ok (.aload_n 0, 1) := by decide +kernel
theorem dX12_pointsOf_16 : decode cX12_pointsOf 16 = .ok (.getfield 7, 3) := by decide +kernel
theorem dX12_pointsOf_19 : decode cX12_pointsOf 19 = .ok (.iconst 2, 1) := by decide +kernel
theorem dX12_pointsOf_20 : decode cX12_pointsOf 20 = .ok (.iaload, 1) := by decide +kernel
theorem dX12_pointsOf_21 : decode cX12_pointsOf 21 = .ok (.if_icmp .ge 127, 3) := by decide +kernel
theorem dX12_pointsOf_24 : decode cX12_pointsOf 24 = .ok (.iload 6, 2) := by decide +kernel
theorem dX12_pointsOf_26 : decode cX12_pointsOf 26 = .ok (.iload_n 1, 1) := by decide +kernel
theorem dX12_pointsOf_27 : decode cX12_pointsOf 27 = .ok (.if_icmp .eq 33, 3) := by decide +kernel
theorem dX12_pointsOf_30 : decode cX12_pointsOf 30 = .ok (.aload_n 0, 1) := by decide +kernel
theorem dX12_pointsOf_31 : decode cX12_pointsOf 31 = .ok (.getfield 16, 3) := by decide +kernel
theorem dX12_pointsOf_34 : decode cX12_pointsOf 34 = .ok (.iconst 3, 1) := by decide +kernel
theorem dX12_pointsOf_35 : decode cX12_pointsOf 35 = .ok (.iload 6, 2) := by decide +kernel
theorem dX12_pointsOf_37 : decode cX12_pointsOf 37 = .ok (.imul, 1) := by decide +kernel
theorem dX12_pointsOf_38 : decode cX12_pointsOf 38 = .ok (.iaload, 1) := by decide +kernel
theorem dX12_pointsOf_39 : decode cX12_pointsOf 39 = .ok (.aload_n 0, 1) := by decide +kernel
theorem dX12_pointsOf_40 : decode cX12_pointsOf 40 = .ok (.getfield 16, 3) := by decide +kernel
theorem dX12_pointsOf_43 : decode cX12_pointsOf 43 = .ok (.iconst 3, 1) := by decide +kernel
theorem dX12_pointsOf_44 : decode cX12_pointsOf 44 = .ok (.iload_n 1, 1) := by decide +kernel
theorem dX12_pointsOf_45 : decode cX12_pointsOf 45 = .ok (.imul, 1) := by decide +kernel
theorem dX12_pointsOf_46 : decode cX12_pointsOf 46 = .ok (.iaload, 1) := by decide +kernel
theorem dX12_pointsOf_47 : decode cX12_pointsOf 47 = .ok (.if_icmp .ne 13, 3) := by decide +kernel
theorem dX12_pointsOf_50 : decode cX12_pointsOf 50 = .ok (.aload_n 0, 1) := by decide +kernel
theorem dX12_pointsOf_51 : decode cX12_pointsOf 51 = .ok (.iload 6, 2) := by decide +kernel
theorem dX12_pointsOf_53 : decode cX12_pointsOf 53 = .ok (.iload_n 3, 1) := by decide +kernel
theorem dX12_pointsOf_54 : decode cX12_pointsOf 54 = .ok (.invokevirtual 136, 3) := by decide +kernel
theorem dX12_pointsOf_57 : decode cX12_pointsOf 57 = .ok (.goto 4, 3) := by decide +kernel
theorem dX12_pointsOf_60 : decode cX12_pointsOf 60 = .ok (.iconst (-1), 1) := by decide +kernel
theorem dX12_pointsOf_61 : decode cX12_pointsOf 61 = .ok (.istore 7, 2) := by decide +kernel
theorem dX12_pointsOf_63 : decode cX12_pointsOf 63 = .ok (.iload 7, 2) := by decide +kernel
theorem dX12_pointsOf_65 : decode cX12_pointsOf 65 = .ok (.ifCond .lt 43, 3) := by decide +kernel
theorem dX12_pointsOf_68 : decode cX12_pointsOf 68 = .ok (.aload_n 0, 1) := by decide +kernel
theorem dX12_pointsOf_69 : decode cX12_pointsOf 69 = .ok (.iload 7, 2) := by decide +kernel
theorem dX12_pointsOf_71 : decode cX12_pointsOf 71 = .ok (.iconst 5, 1) := by decide +kernel
theorem dX12_pointsOf_72 : decode cX12_pointsOf 72 = .ok (.invokevirtual 99, 3) := by decide +kernel
theorem dX12_pointsOf_75 : decode cX12_pointsOf 75 = .ok (.aload_n 0, 1) := by decide +kernel
theorem dX12_pointsOf_76 : decode cX12_pointsOf 76 = .ok (.iload_n 1, 1) := by decide +kernel
theorem dX12_pointsOf_77 : decode cX12_pointsOf 77 = .ok (.invokevirtual 113, 3) := by decide +kernel
theorem dX12_pointsOf_80 : decode cX12_pointsOf 80 = .ok (.if_icmp .ge 28, 3) := by decide +kernel
theorem dX12_pointsOf_83 : decode cX12_pointsOf 83 = .ok (.aload_n 0, 1) := by decide +kernel
theorem dX12_pointsOf_84 : decode cX12_pointsOf 84 = .ok (.iload_n 1, 1) := by decide +kernel
theorem dX12_pointsOf_85 : decode cX12_pointsOf 85 = .ok (.invokevirtual 113, 3) := by decide +kernel
theorem dX12_pointsOf_88 : decode cX12_pointsOf 88 = .ok (.aload_n 0, 1) := by decide +kernel
theorem dX12_pointsOf_89 : decode cX12_pointsOf 89 = .ok (.iload 6, 2) := by decide +kernel
theorem dX12_pointsOf_91 : decode cX12_pointsOf 91 = .ok (.invokevirtual 113, 3) := by decide +kernel
theorem dX12_pointsOf_94 : decode cX12_pointsOf 94 = .ok (.isub, 1) := by decide +kernel
theorem dX12_pointsOf_95 : decode cX12_pointsOf 95 = .ok (.sipush 360, 3) := by decide +kernel
theorem dX12_pointsOf_98 : decode cX12_pointsOf 98 = .ok (.iload 5, 2) := by decide +kernel
theorem dX12_pointsOf_100 : decode cX12_pointsOf 100 = .ok (.imul, 1) := by decide +kernel
theorem dX12_pointsOf_101 : decode cX12_pointsOf 101 = .ok (.if_icmp .gt 7, 3) := by decide +kernel
theorem dX12_pointsOf_104 : decode cX12_pointsOf 104 = .ok (.iconst 1, 1) := by decide +kernel
theorem dX12_pointsOf_105 : decode cX12_pointsOf 105 = .ok (.goto 4, 3) := by decide +kernel
theorem dX12_pointsOf_108 : decode cX12_pointsOf 108 = .ok (.iconst 0, 1) := by decide +kernel
theorem dX12_pointsOf_109 : decode cX12_pointsOf 109 = .ok (.istore 8, 2) := by decide +kernel
theorem dX12_pointsOf_111 : decode cX12_pointsOf 111 = .ok (.iload 4, 2) := by decide +kernel
theorem dX12_pointsOf_113 : decode cX12_pointsOf 113 = .ok (.iload 8, 2) := by decide +kernel
theorem dX12_pointsOf_115 : decode cX12_pointsOf 115 = .ok (.ifCond .eq 23, 3) := by decide +kernel
theorem dX12_pointsOf_118 : decode cX12_pointsOf 118 = .ok (.aload_n 0, 1) := by decide +kernel
theorem dX12_pointsOf_119 : decode cX12_pointsOf 119 = .ok (.iload_n 2, 1) := by decide +kernel
theorem dX12_pointsOf_120 : decode cX12_pointsOf 120 = .ok (.iconst 1, 1) := by decide +kernel
theorem dX12_pointsOf_121 : decode cX12_pointsOf 121 = .ok (.aload_n 0, 1) := by decide +kernel
theorem dX12_pointsOf_122 : decode cX12_pointsOf 122 = .ok (.getfield 16, 3) := by decide +kernel
theorem dX12_pointsOf_125 : decode cX12_pointsOf 125 = .ok (.iconst 3, 1) := by decide +kernel
theorem dX12_pointsOf_126 : decode cX12_pointsOf 126 = .ok (.iload 6, 2) := by decide +kernel
theorem dX12_pointsOf_128 : decode cX12_pointsOf 128 = .ok (.imul, 1) := by decide +kernel
theorem dX12_pointsOf_129 : decode cX12_pointsOf 129 = .ok (.iconst 1, 1) := by decide +kernel
theorem dX12_pointsOf_130 : decode cX12_pointsOf 130 = .ok (.iadd, 1) := by decide +kernel
theorem dX12_pointsOf_131 : decode cX12_pointsOf 131 = .ok (.iaload, 1) := by decide +kernel
theorem dX12_pointsOf_132 : decode cX12_pointsOf 132 = .ok (.invokevirtual 261, 3) := by decide +kernel
theorem dX12_pointsOf_135 : decode cX12_pointsOf 135 = .ok (.goto 4, 3) := by decide +kernel
theorem dX12_pointsOf_138 : decode cX12_pointsOf 138 = .ok (.iconst 0, 1) := by decide +kernel
theorem dX12_pointsOf_139 : decode cX12_pointsOf 139 = .ok (.iadd, 1) := by decide +kernel
theorem dX12_pointsOf_140 : decode cX12_pointsOf 140 = .ok (.istore 4, 2) := by decide +kernel
theorem dX12_pointsOf_142 : decode cX12_pointsOf 142 = .ok (.iinc 6 1, 3) := by decide +kernel
theorem dX12_pointsOf_145 : decode cX12_pointsOf 145 = .ok (.goto (-132), 3) := by decide +kernel
theorem dX12_pointsOf_148 : decode cX12_pointsOf 148 = .ok (.iload 4, 2) := by decide +kernel
theorem dX12_pointsOf_150 : decode cX12_pointsOf 150 = .ok (.ireturn, 1) := by decide +kernel
theorem dX12_valueOf_0 : decode cX12_valueOf 0 = .ok (.iload_n 1, 1) := by decide +kernel
theorem dX12_valueOf_1 : decode cX12_valueOf 1 = .ok (.tableswitch 100 5 13 #[51, 65, 100, 100, 100, 100, 80, 83, 94], 51) := by decide +kernel
theorem dX12_valueOf_52 : decode cX12_valueOf 52 = .ok (.aload_n 0, 1) := by decide +kernel
theorem dX12_valueOf_53 : decode cX12_valueOf 53 = .ok (.iload_n 2, 1) := by decide +kernel
theorem dX12_valueOf_54 : decode cX12_valueOf 54 = .ok (.invokevirtual 264, 3) := by decide +kernel
theorem dX12_valueOf_57 : decode cX12_valueOf 57 = .ok (.ifCond .eq 7, 3) := by decide +kernel
theorem dX12_valueOf_60 : decode cX12_valueOf 60 = .ok (.iconst 1, 1) := by decide +kernel
theorem dX12_valueOf_61 : decode cX12_valueOf 61 = .ok (.goto 4, 3) := by decide +kernel
theorem dX12_valueOf_64 : decode cX12_valueOf 64 = .ok (.iconst 0, 1) := by decide +kernel
theorem dX12_valueOf_65 : decode cX12_valueOf 65 = .ok (.ireturn, 1) := by decide +kernel
theorem dX12_valueOf_66 : decode cX12_valueOf 66 = .ok (.aload_n 0, 1) := by decide +kernel
theorem dX12_valueOf_67 : decode cX12_valueOf 67 = .ok (.iload_n 2, 1) := by decide +kernel
theorem dX12_valueOf_68 : decode cX12_valueOf 68 = .ok (.iload_n 3, 1) := by decide +kernel
theorem dX12_valueOf_69 : decode cX12_valueOf 69 = .ok (.invokevirtual 133, 3) := by decide +kernel
theorem dX12_valueOf_72 : decode cX12_valueOf 72 = .ok (.ifCond .eq 7, 3) := by decide +kernel
theorem dX12_valueOf_75 : decode cX12_valueOf 75 = .ok (.iconst 1, 1) := by decide +kernel
theorem dX12_valueOf_76 : decode cX12_valueOf 76 = .ok (.goto 4, 3) := by decide +kernel
theorem dX12_valueOf_79 : decode cX12_valueOf 79 = .ok (.iconst 0, 1) := by decide +kernel
theorem dX12_valueOf_80 : decode cX12_valueOf 80 = .ok (.ireturn, 1) := by decide +kernel
theorem dX12_valueOf_81 : decode cX12_valueOf 81 = .ok (.iload 4, 2) := by decide +kernel
theorem dX12_valueOf_83 : decode cX12_valueOf 83 = .ok (.ireturn, 1) := by decide +kernel
theorem dX12_valueOf_84 : decode cX12_valueOf 84 = .ok (.aload_n 0, 1) := by decide +kernel
theorem dX12_valueOf_85 : decode cX12_valueOf 85 = .ok (.getfield 16, 3) := by decide +kernel
theorem dX12_valueOf_88 : decode cX12_valueOf 88 = .ok (.iconst 3, 1) := by decide +kernel
theorem dX12_valueOf_89 : decode cX12_valueOf 89 = .ok (.iload_n 2, 1) := by decide +kernel
theorem dX12_valueOf_90 : decode cX12_valueOf 90 = .ok (.imul, 1) := by decide +kernel
theorem dX12_valueOf_91 : decode cX12_valueOf 91 = .ok (.iconst 1, 1) := by decide +kernel
theorem dX12_valueOf_92 : decode cX12_valueOf 92 = .ok (.iadd, 1) := by decide +kernel
theorem dX12_valueOf_93 : decode cX12_valueOf 93 = .ok (.iaload, 1) := by decide +kernel
theorem dX12_valueOf_94 : decode cX12_valueOf 94 = .ok (.ireturn, 1) := by decide +kernel
theorem dX12_valueOf_95 : decode cX12_valueOf 95 = .ok (.aload_n 0, 1) := by decide +kernel
theorem dX12_valueOf_96 : decode cX12_valueOf 96 = .ok (.iload_n 2, 1) := by decide +kernel
theorem dX12_valueOf_97 : decode cX12_valueOf 97 = .ok (.invokevirtual 117, 3) := by decide +kernel
theorem dX12_valueOf_100 : decode cX12_valueOf 100 = .ok (.ireturn, 1) := by decide +kernel
theorem dX12_valueOf_101 : decode cX12_valueOf 101 = .ok (.iload_n 1, 1) := by decide +kernel
theorem dX12_valueOf_102 : decode cX12_valueOf 102 = .ok (.sipush 1000, 3) := by decide +kernel
theorem dX12_valueOf_105 : decode cX12_valueOf 105 = .ok (.if_icmp .lt 11, 3) := by decide +kernel
theorem dX12_valueOf_108 : decode cX12_valueOf 108 = .ok (.iload_n 1, 1) := by decide +kernel
theorem dX12_valueOf_109 : decode cX12_valueOf 109 = .ok (.sipush 1000, 3) := by decide +kernel
theorem dX12_valueOf_112 : decode cX12_valueOf 112 = .ok (.isub, 1) := by decide +kernel
theorem dX12_valueOf_113 : decode cX12_valueOf 113 = .ok (.goto 15, 3) := by decide +kernel
theorem dX12_valueOf_116 : decode cX12_valueOf 116 = .ok (.aload_n 0, 1) := by decide +kernel
theorem dX12_valueOf_117 : decode cX12_valueOf 117 = .ok (.iload_n 2, 1) := by decide +kernel
theorem dX12_valueOf_118 : decode cX12_valueOf 118 = .ok (.iload_n 3, 1) := by decide +kernel
theorem dX12_valueOf_119 : decode cX12_valueOf 119 = .ok (.invokevirtual 130, 3) := by decide +kernel
theorem dX12_valueOf_122 : decode cX12_valueOf 122 = .ok (.iload_n 1, 1) := by decide +kernel
theorem dX12_valueOf_123 : decode cX12_valueOf 123 = .ok (.iconst 1, 1) := by decide +kernel
theorem dX12_valueOf_124 : decode cX12_valueOf 124 = .ok (.isub, 1) := by decide +kernel
theorem dX12_valueOf_125 : decode cX12_valueOf 125 = .ok (.ishr, 1) := by decide +kernel
theorem dX12_valueOf_126 : decode cX12_valueOf 126 = .ok (.iconst 1, 1) := by decide +kernel
theorem dX12_valueOf_127 : decode cX12_valueOf 127 = .ok (.iand, 1) := by decide +kernel
theorem dX12_valueOf_128 : decode cX12_valueOf 128 = .ok (.ireturn, 1) := by decide +kernel
theorem dX12_joined_0 : decode cX12_joined 0 = .ok (.iload_n 0, 1) := by decide +kernel
theorem dX12_joined_1 : decode cX12_joined 1 = .ok (.tableswitch 85 8 16 #[51, 55, 85, 85, 85, 85, 59, 63, 74], 51) := by decide +kernel
theorem dX12_joined_52 : decode cX12_joined 52 = .ok (.iload_n 1, 1) := by decide +kernel
theorem dX12_joined_53 : decode cX12_joined 53 = .ok (.iload_n 2, 1) := by decide +kernel
theorem dX12_joined_54 : decode cX12_joined 54 = .ok (.iand, 1) := by decide +kernel
theorem dX12_joined_55 : decode cX12_joined 55 = .ok (.ireturn, 1) := by decide +kernel
theorem dX12_joined_56 : decode cX12_joined 56 = .ok (.iload_n 1, 1) := by decide +kernel
theorem dX12_joined_57 : decode cX12_joined 57 = .ok (.iload_n 2, 1) := by decide +kernel
theorem dX12_joined_58 : decode cX12_joined 58 = .ok (.ior, 1) := by decide +kernel
theorem dX12_joined_59 : decode cX12_joined 59 = .ok (.ireturn, 1) := by decide +kernel
theorem dX12_joined_60 : decode cX12_joined 60 = .ok (.iload_n 1, 1) := by decide +kernel
theorem dX12_joined_61 : decode cX12_joined 61 = .ok (.iload_n 2, 1) := by decide +kernel
theorem dX12_joined_62 : decode cX12_joined 62 = .ok (.iadd, 1) := by decide +kernel
theorem dX12_joined_63 : decode cX12_joined 63 = .ok (.ireturn, 1) := by decide +kernel
theorem dX12_joined_64 : decode cX12_joined 64 = .ok (.iload_n 1, 1) := by decide +kernel
theorem dX12_joined_65 : decode cX12_joined 65 = .ok (.iload_n 2, 1) := by decide +kernel
theorem dX12_joined_66 : decode cX12_joined 66 = .ok (.if_icmp .ge 7, 3) := by decide +kernel
theorem dX12_joined_69 : decode cX12_joined 69 = .ok (.iconst 1, 1) := by decide +kernel
theorem dX12_joined_70 : decode cX12_joined 70 = .ok (.goto 4, 3) := by decide +kernel
theorem dX12_joined_73 : decode cX12_joined 73 = .ok (.iconst 0, 1) := by decide +kernel
theorem dX12_joined_74 : decode cX12_joined 74 = .ok (.ireturn, 1) := by decide +kernel
theorem dX12_joined_75 : decode cX12_joined 75 = .ok (.iload_n 1, 1) := by decide +kernel
theorem dX12_joined_76 : decode cX12_joined 76 = .ok (.iload_n 2, 1) := by decide +kernel
theorem dX12_joined_77 : decode cX12_joined 77 = .ok (.if_icmp .ne 7, 3) := by decide +kernel
theorem dX12_joined_80 : decode cX12_joined 80 = .ok (.iconst 1, 1) := by decide +kernel
theorem dX12_joined_81 : decode cX12_joined 81 = .ok (.goto 4, 3) := by decide +kernel
theorem dX12_joined_84 : decode cX12_joined 84 = .ok (.iconst 0, 1) := by decide +kernel
theorem dX12_joined_85 : decode cX12_joined 85 = .ok (.ireturn, 1) := by decide +kernel
theorem dX12_joined_86 : decode cX12_joined 86 = .ok (.iload_n 1, 1) := by decide +kernel
theorem dX12_joined_87 : decode cX12_joined 87 = .ok (.iload_n 2, 1) := by decide +kernel
theorem dX12_joined_88 : decode cX12_joined 88 = .ok (.if_icmp .le 7, 3) := by decide +kernel
theorem dX12_joined_91 : decode cX12_joined 91 = .ok (.iconst 1, 1) := by decide +kernel
theorem dX12_joined_92 : decode cX12_joined 92 = .ok (.goto 4, 3) := by decide +kernel
theorem dX12_joined_95 : decode cX12_joined 95 = .ok (.iconst 0, 1) := by decide +kernel
theorem dX12_joined_96 : decode cX12_joined 96 = .ok (.ireturn, 1) := by decide +kernel
theorem dX12_joins_0 : decode cX12_joins 0 = .ok (.iload_n 0, 1) := by decide +kernel
theorem dX12_joins_1 : decode cX12_joins 1 = .ok (.bipush 8, 2) := by decide +kernel
theorem dX12_joins_3 : decode cX12_joins 3 = .ok (.if_icmp .eq 20, 3) := by decide +kernel
theorem dX12_joins_6 : decode cX12_joins 6 = .ok (.iload_n 0, 1) := by decide +kernel
theorem dX12_joins_7 : decode cX12_joins 7 = .ok (.bipush 9, 2) := by decide +kernel
theorem dX12_joins_9 : decode cX12_joins 9 = .ok (.if_icmp .eq 14, 3) := by decide +kernel
theorem dX12_joins_12 : decode cX12_joins 12 = .ok (.iload_n 0, 1) := by decide +kernel
theorem dX12_joins_13 : decode cX12_joins 13 = .ok (.bipush 14, 2) := by decide +kernel
theorem dX12_joins_15 : decode cX12_joins 15 = .ok (.bipush 17, 2) := by decide +kernel
theorem dX12_joins_17 : decode cX12_joins 17 = .ok (.invokestatic 95, 3) := by decide +kernel
theorem dX12_joins_20 : decode cX12_joins 20 = .ok (.ifCond .eq 7, 3) := by decide +kernel
theorem dX12_joins_23 : decode cX12_joins 23 = .ok (.iconst 1, 1) := by decide +kernel
theorem dX12_joins_24 : decode cX12_joins 24 = .ok (.goto 4, 3) := by decide +kernel
theorem dX12_joins_27 : decode cX12_joins 27 = .ok (.iconst 0, 1) := by decide +kernel
theorem dX12_joins_28 : decode cX12_joins 28 = .ok (.ireturn, 1) := by decide +kernel
theorem dX12_holds_0 : decode cX12_holds 0 = .ok (.sipush 260, 3) := by decide +kernel
theorem dX12_holds_3 : decode cX12_holds 3 = .ok (.iload_n 1, 1) := by decide +kernel
theorem dX12_holds_4 : decode cX12_holds 4 = .ok (.imul, 1) := by decide +kernel
theorem dX12_holds_5 : decode cX12_holds 5 = .ok (.aload_n 0, 1) := by decide +kernel
theorem dX12_holds_6 : decode cX12_holds 6 = .ok (.iload_n 1, 1) := by decide +kernel
theorem dX12_holds_7 : decode cX12_holds 7 = .ok (.iload_n 2, 1) := by decide +kernel
theorem dX12_holds_8 : decode cX12_holds 8 = .ok (.iconst 5, 1) := by decide +kernel
theorem dX12_holds_9 : decode cX12_holds 9 = .ok (.invokevirtual 245, 3) := by decide +kernel
theorem dX12_holds_12 : decode cX12_holds 12 = .ok (.iadd, 1) := by decide +kernel
theorem dX12_holds_13 : decode cX12_holds 13 = .ok (.istore 6, 2) := by decide +kernel
theorem dX12_holds_15 : decode cX12_holds 15 = .ok (.iconst 0, 1) := by decide +kernel
theorem dX12_holds_16 : decode cX12_holds 16 = .ok (.istore 7, 2) := by decide +kernel
theorem dX12_holds_18 : decode cX12_holds 18 = .ok (.iload 6, 2) := by decide +kernel
theorem dX12_holds_20 : decode cX12_holds 20 = .ok (.istore 8, 2) := by decide +kernel
theorem dX12_holds_22 : decode cX12_holds 22 = .ok (.iload 8, 2) := by decide +kernel
theorem dX12_holds_24 : decode cX12_holds 24 = .ok (.iload 6, 2) := by decide +kernel
theorem dX12_holds_26 : decode cX12_holds 26 = .ok (.aload_n 0, 1) := by decide +kernel
theorem dX12_holds_27 : decode cX12_holds 27 = .ok (.iload_n 1, 1) := by decide +kernel
theorem dX12_holds_28 : decode cX12_holds 28 = .ok (.iload_n 2, 1) := by decide +kernel
theorem dX12_holds_29 : decode cX12_holds 29 = .ok (.bipush 6, 2) := by decide +kernel
theorem dX12_holds_31 : decode cX12_holds 31 = .ok (.invokevirtual 245, 3) := by decide +kernel
theorem dX12_holds_34 : decode cX12_holds 34 = .ok (.iadd, 1) := by decide +kernel
theorem dX12_holds_35 : decode cX12_holds 35 = .ok (.if_icmp .ge 113, 3) := by decide +kernel
theorem dX12_holds_38 : decode cX12_holds 38 = .ok (.aload_n 0, 1) := by decide +kernel
theorem dX12_holds_39 : decode cX12_holds 39 = .ok (.getfield 28, 3) := by decide +kernel
theorem dX12_holds_42 : decode cX12_holds 42 = .ok (.iload 8, 2) := by decide +kernel
theorem dX12_holds_44 : decode cX12_holds 44 = .ok (.iaload, 1) := by decide +kernel
theorem dX12_holds_45 : decode cX12_holds 45 = .ok (.istore 9, 2) := by decide +kernel
theorem dX12_holds_47 : decode cX12_holds 47 = .ok (.iload 9, 2) := by decide +kernel
theorem dX12_holds_49 : decode cX12_holds 49 = .ok (.bipush 7, 2) := by decide +kernel
theorem dX12_holds_51 : decode cX12_holds 51 = .ok (.if_icmp .ne 26, 3) := by decide +kernel
theorem dX12_holds_54 : decode cX12_holds 54 = .ok (.aload_n 0, 1) := by decide +kernel
theorem dX12_holds_55 : decode cX12_holds 55 = .ok (.getfield 52, 3) := by decide +kernel
theorem dX12_holds_58 : decode cX12_holds 58 = .ok (.iload 7, 2) := by decide +kernel
theorem dX12_holds_60 : decode cX12_holds 60 = .ok (.iconst 1, 1) := by decide +kernel
theorem dX12_holds_61 : decode cX12_holds 61 = .ok (.isub, 1) := by decide +kernel
theorem dX12_holds_62 : decode cX12_holds 62 = .ok (.iconst 1, 1) := by decide +kernel
theorem dX12_holds_63 : decode cX12_holds 63 = .ok (.aload_n 0, 1) := by decide +kernel
theorem dX12_holds_64 : decode cX12_holds 64 = .ok (.getfield 52, 3) := by decide +kernel
theorem dX12_holds_67 : decode cX12_holds 67 = .ok (.iload 7, 2) := by decide +kernel
theorem dX12_holds_69 : decode cX12_holds 69 = .ok (.iconst 1, 1) := by decide +kernel
theorem dX12_holds_70 : decode cX12_holds 70 = .ok (.isub, 1) := by decide +kernel
theorem dX12_holds_71 : decode cX12_holds 71 = .ok (.iaload, 1) := by decide +kernel
theorem dX12_holds_72 : decode cX12_holds 72 = .ok (.isub, 1) := by decide +kernel
theorem dX12_holds_73 : decode cX12_holds 73 = .ok (.iastore, 1) := by decide +kernel
theorem dX12_holds_74 : decode cX12_holds 74 = .ok (.goto 68, 3) := by decide +kernel
theorem dX12_holds_77 : decode cX12_holds 77 = .ok (.iload 9, 2) := by decide +kernel
theorem dX12_holds_79 : decode cX12_holds 79 = .ok (.invokestatic 267, 3) := by decide +kernel
theorem dX12_holds_82 : decode cX12_holds 82 = .ok (.ifCond .eq 39, 3) := by decide +kernel
theorem dX12_holds_85 : decode cX12_holds 85 = .ok (.iinc 7 (-1), 3) := by decide +kernel
theorem dX12_holds_88 : decode cX12_holds 88 = .ok (.aload_n 0, 1) := by decide +kernel
theorem dX12_holds_89 : decode cX12_holds 89 = .ok (.getfield 52, 3) := by decide +kernel
theorem dX12_holds_92 : decode cX12_holds 92 = .ok (.iload 7, 2) := by decide +kernel
theorem dX12_holds_94 : decode cX12_holds 94 = .ok (.iconst 1, 1) := by decide +kernel
theorem dX12_holds_95 : decode cX12_holds 95 = .ok (.isub, 1) := by decide +kernel
theorem dX12_holds_96 : decode cX12_holds 96 = .ok (.iload 9, 2) := by decide +kernel
theorem dX12_holds_98 : decode cX12_holds 98 = .ok (.aload_n 0, 1) := by decide +kernel
theorem dX12_holds_99 : decode cX12_holds 99 = .ok (.getfield 52, 3) := by decide +kernel
theorem dX12_holds_102 : decode cX12_holds 102 = .ok (.iload 7, 2) := by decide +kernel
theorem dX12_holds_104 : decode cX12_holds 104 = .ok (.iconst 1, 1) := by decide +kernel
theorem dX12_holds_105 : decode cX12_holds 105 = .ok (.isub, 1) := by decide +kernel
theorem dX12_holds_106 : decode cX12_holds 106 = .ok (.iaload, 1) := by decide +kernel
theorem dX12_holds_107 : decode cX12_holds 107 = .ok (.aload_n 0, 1) := by decide +kernel
theorem dX12_holds_108 : decode cX12_holds 108 = .ok (.getfield 52, 3) := by decide +kernel
theorem dX12_holds_111 : decode cX12_holds 111 = .ok (.iload 7, 2) := by decide +kernel
theorem dX12_holds_113 : decode cX12_holds 113 = .ok (.iaload, 1) := by decide +kernel
theorem dX12_holds_114 : decode cX12_holds 114 = .ok (.invokestatic 270, 3) := by decide +kernel
theorem dX12_holds_117 : decode cX12_holds 117 = .ok (.iastore, 1) := by decide +kernel
theorem dX12_holds_118 : decode cX12_holds 118 = .ok (.goto 24, 3) := by decide +kernel
theorem dX12_holds_121 : decode cX12_holds 121 = .ok (.aload_n 0, 1) := by decide +kernel
theorem dX12_holds_122 : decode cX12_holds 122 = .ok (.getfield 52, 3) := by decide +kernel
theorem dX12_holds_125 : decode cX12_holds 125 = .ok (.iload 7, 2) := by decide +kernel
theorem dX12_holds_127 : decode cX12_holds 127 = .ok (.aload_n 0, 1) := by decide +kernel
theorem dX12_holds_128 : decode cX12_holds 128 = .ok (.iload 9, 2) := by decide +kernel
theorem dX12_holds_130 : decode cX12_holds 130 = .ok (.iload_n 3, 1) := by decide +kernel
theorem dX12_holds_131 : decode cX12_holds 131 = .ok (.iload 4, 2) := by decide +kernel
theorem dX12_holds_133 : decode cX12_holds 133 = .ok (.iload 5, 2) := by decide +kernel
theorem dX12_holds_135 : decode cX12_holds 135 = .ok (.invokevirtual 273, 3) := by decide +kernel
theorem dX12_holds_138 : decode cX12_holds 138 = .ok (.iastore, 1) := by decide +kernel
theorem dX12_holds_139 : decode cX12_holds 139 = .ok (.iinc 7 1, 3) := by decide +kernel
theorem dX12_holds_142 : decode cX12_holds 142 = .ok (.iinc 8 1, 3) := by decide +kernel
theorem dX12_holds_145 : decode cX12_holds 145 = .ok (.goto (-123), 3) := by decide +kernel
theorem dX12_holds_148 : decode cX12_holds 148 = .ok (.aload_n 0, 1) := by decide +kernel
theorem dX12_holds_149 : decode cX12_holds 149 = .ok (.getfield 52, 3) := by decide +kernel
theorem dX12_holds_152 : decode cX12_holds 152 = .ok (.iconst 0, 1) := by decide +kernel
theorem dX12_holds_153 : decode cX12_holds 153 = .ok (.iaload, 1) := by decide +kernel
theorem dX12_holds_154 : decode cX12_holds 154 = .ok (.iconst 1, 1) := by decide +kernel
theorem dX12_holds_155 : decode cX12_holds 155 = .ok (.if_icmp .ne 7, 3) := by decide +kernel
theorem dX12_holds_158 : decode cX12_holds 158 = .ok (.iconst 1, 1) := by decide +kernel
theorem dX12_holds_159 : decode cX12_holds 159 = .ok (.goto 4, 3) := by decide +kernel
theorem dX12_holds_162 : decode cX12_holds 162 = .ok (.iconst 0, 1) := by decide +kernel
theorem dX12_holds_163 : decode cX12_holds 163 = .ok (.ireturn, 1) := by decide +kernel
theorem dX12_graveOf_0 : decode cX12_graveOf 0 = .ok (.aload_n 0, 1) := by decide +kernel
theorem dX12_graveOf_1 : decode cX12_graveOf 1 = .ok (.iload_n 1, 1) := by decide +kernel
theorem dX12_graveOf_2 : decode cX12_graveOf 2 = .ok (.iload_n 2, 1) := by decide +kernel
theorem dX12_graveOf_3 : decode cX12_graveOf 3 = .ok (.iload_n 3, 1) := by decide +kernel
theorem dX12_graveOf_4 : decode cX12_graveOf 4 = .ok (.invokevirtual 277, 3) := by decide +kernel
theorem dX12_graveOf_7 : decode cX12_graveOf 7 = .ok (.istore 4, 2) := by decide +kernel
theorem dX12_graveOf_9 : decode cX12_graveOf 9 = .ok (.aload_n 0, 1) := by decide +kernel
theorem dX12_graveOf_10 : decode cX12_graveOf 10 = .ok (.iload_n 2, 1) := by decide +kernel
theorem dX12_graveOf_11 : decode cX12_graveOf 11 = .ok (.iconst 0, 1) := by decide +kernel
theorem dX12_graveOf_12 : decode cX12_graveOf 12 = .ok (.aload_n 0, 1) := by decide +kernel
theorem dX12_graveOf_13 : decode cX12_graveOf 13 = .ok (.getfield 16, 3) := by decide +kernel
theorem dX12_graveOf_16 : decode cX12_graveOf 16 = .ok (.iconst 3, 1) := by decide +kernel
theorem dX12_graveOf_17 : decode cX12_graveOf 17 = .ok (.iload_n 1, 1) := by decide +kernel
theorem dX12_graveOf_18 : decode cX12_graveOf 18 = .ok (.imul, 1) := by decide +kernel
theorem dX12_graveOf_19 : decode cX12_graveOf 19 = .ok (.iconst 1, 1) := by decide +kernel
theorem dX12_graveOf_20 : decode cX12_graveOf 20 = .ok (.iadd, 1) := by decide +kernel
theorem dX12_graveOf_21 : decode cX12_graveOf 21 = .ok (.iaload, 1) := by decide +kernel
theorem dX12_graveOf_22 : decode cX12_graveOf 22 = .ok (.invokevirtual 261, 3) := by decide +kernel
theorem dX12_graveOf_25 : decode cX12_graveOf 25 = .ok (.istore 5, 2) := by decide +kernel
theorem dX12_graveOf_27 : decode cX12_graveOf 27 = .ok (.iconst 0, 1) := by decide +kernel
theorem dX12_graveOf_28 : decode cX12_graveOf 28 = .ok (.istore 6, 2) := by decide +kernel
theorem dX12_graveOf_30 : decode cX12_graveOf 30 = .ok (.iload 6, 2) := by decide +kernel
theorem dX12_graveOf_32 : decode cX12_graveOf 32 = .ok (.aload_n 0, 1) := by decide +kernel
theorem dX12_graveOf_33 : decode cX12_graveOf 33 = .ok (.getfield 22, 3) := by decide +kernel
theorem dX12_graveOf_36 : decode cX12_graveOf 36 = .ok (.iconst 2, 1) := by decide +kernel
theorem dX12_graveOf_37 : decode cX12_graveOf 37 = .ok (.iload_n 2, 1) := by decide +kernel
theorem dX12_graveOf_38 : decode cX12_graveOf 38 = .ok (.imul, 1) := by decide +kernel
theorem dX12_graveOf_39 : decode cX12_graveOf 39 = .ok (.iaload, 1) := by decide +kernel
theorem dX12_graveOf_40 : decode cX12_graveOf 40 = .ok (.if_icmp .ge 76, 3) := by decide +kernel
theorem dX12_graveOf_43 : decode cX12_graveOf 43 = .ok (.aload_n 0, 1) := by decide +kernel
theorem dX12_graveOf_44 : decode cX12_graveOf 44 = .ok (.iload_n 2, 1) := by decide +kernel
theorem dX12_graveOf_45 : decode cX12_graveOf 45 = .ok (.iload 6, 2) := by decide +kernel
theorem dX12_graveOf_47 : decode cX12_graveOf 47 = .ok (.iconst 0, 1) := by decide +kernel
theorem dX12_graveOf_48 : decode cX12_graveOf 48 = .ok (.invokevirtual 245, 3) := by decide +kernel
theorem dX12_graveOf_51 : decode cX12_graveOf 51 = .ok (.istore 7, 2) := by decide +kernel
theorem dX12_graveOf_53 : decode cX12_graveOf 53 = .ok (.iload 7, 2) := by decide +kernel
theorem dX12_graveOf_55 : decode cX12_graveOf 55 = .ok (.iconst 4, 1) := by decide +kernel
theorem dX12_graveOf_56 : decode cX12_graveOf 56 = .ok (.if_icmp .eq 9, 3) := by decide +kernel
theorem dX12_graveOf_59 : decode cX12_graveOf 59 = .ok (.iload 7, 2) := by decide +kernel
theorem dX12_graveOf_61 : decode cX12_graveOf 61 = .ok (.iconst 5, 1) := by decide +kernel
theorem dX12_graveOf_62 : decode cX12_graveOf 62 = .ok (.if_icmp .ne 48, 3) := by decide +kernel
theorem dX12_graveOf_65 : decode cX12_graveOf 65 = .ok (.aload_n 0, 1) := by decide +kernel
theorem dX12_graveOf_66 : decode cX12_graveOf 66 = .ok (.iload_n 2, 1) := by decide +kernel
theorem dX12_graveOf_67 : decode cX12_graveOf 67 = .ok (.iload 6, 2) := by decide +kernel
theorem dX12_graveOf_69 : decode cX12_graveOf 69 = .ok (.iload_n 1, 1) := by decide +kernel
theorem dX12_graveOf_70 : decode cX12_graveOf 70 = .ok (.iload_n 3, 1) := by decide +kernel
theorem dX12_graveOf_71 : decode cX12_graveOf 71 = .ok (.iload 4, 2) := by decide +kernel
theorem dX12_graveOf_73 : decode cX12_graveOf 73 = .ok (.invokevirtual 280, 3) := by decide +kernel
theorem dX12_graveOf_76 : decode cX12_graveOf 76 = .ok (.ifCond .eq 34, 3) := by decide +kernel
theorem dX12_graveOf_79 : decode cX12_graveOf 79 = .ok (.iload 5, 2) := by decide +kernel
theorem dX12_graveOf_81 : decode cX12_graveOf 81 = .ok (.iload 7, 2) := by decide +kernel
theorem dX12_graveOf_83 : decode cX12_graveOf 83 = .ok (.iconst 4, 1) := by decide +kernel
theorem dX12_graveOf_84 : decode cX12_graveOf 84 = .ok (.if_icmp .ne 14, 3) := by decide +kernel
theorem dX12_graveOf_87 : decode cX12_graveOf 87 = .ok (.aload_n 0, 1) := by decide +kernel
theorem dX12_graveOf_88 : decode cX12_graveOf 88 = .ok (.iload_n 2, 1) := by decide +kernel
theorem dX12_graveOf_89 : decode cX12_graveOf 89 = .ok (.iload 6, 2) := by decide +kernel
theorem dX12_graveOf_91 : decode cX12_graveOf 91 = .ok (.iconst 1, 1) := by decide +kernel
theorem dX12_graveOf_92 : decode cX12_graveOf 92 = .ok (.invokevirtual 245, 3) := by decide +kernel
theorem dX12_graveOf_95 : decode cX12_graveOf 95 = .ok (.goto 12, 3) := by decide +kernel
theorem dX12_graveOf_98 : decode cX12_graveOf 98 = .ok (.aload_n 0, 1) := by decide +kernel
theorem dX12_graveOf_99 : decode cX12_graveOf 99 = .ok (.iload_n 2, 1) := by decide +kernel
theorem dX12_graveOf_100 : decode cX12_graveOf 100 = .ok (.iload 6, 2) := by decide +kernel
theorem dX12_graveOf_102 : decode cX12_graveOf 102 = .ok (.iconst 1, 1) := by decide +kernel
theorem dX12_graveOf_103 : decode cX12_graveOf 103 = .ok (.invokevirtual 245, 3) := by decide +kernel
theorem dX12_graveOf_106 : decode cX12_graveOf 106 = .ok (.ineg, 1) := by decide +kernel
theorem dX12_graveOf_107 : decode cX12_graveOf 107 = .ok (.iadd, 1) := by decide +kernel
theorem dX12_graveOf_108 : decode cX12_graveOf 108 = .ok (.istore 5, 2) := by decide +kernel
theorem dX12_graveOf_110 : decode cX12_graveOf 110 = .ok (.iinc 6 1, 3) := by decide +kernel
theorem dX12_graveOf_113 : decode cX12_graveOf 113 = .ok (.goto (-83), 3) := by decide +kernel
theorem dX12_graveOf_116 : decode cX12_graveOf 116 = .ok (.iload 5, 2) := by decide +kernel
theorem dX12_graveOf_118 : decode cX12_graveOf 118 = .ok (.ifCond .ge 7, 3) := by decide +kernel
theorem dX12_graveOf_121 : decode cX12_graveOf 121 = .ok (.iconst 0, 1) := by decide +kernel
theorem dX12_graveOf_122 : decode cX12_graveOf 122 = .ok (.goto 15, 3) := by decide +kernel
theorem dX12_graveOf_125 : decode cX12_graveOf 125 = .ok (.iload 5, 2) := by decide +kernel
theorem dX12_graveOf_127 : decode cX12_graveOf 127 = .ok (.iconst 4, 1) := by decide +kernel
theorem dX12_graveOf_128 : decode cX12_graveOf 128 = .ok (.if_icmp .le 7, 3) := by decide +kernel
theorem dX12_graveOf_131 : decode cX12_graveOf 131 = .ok (.iconst 4, 1) := by decide +kernel
theorem dX12_graveOf_132 : decode cX12_graveOf 132 = .ok (.goto 5, 3) := by decide +kernel
theorem dX12_graveOf_135 : decode cX12_graveOf 135 = .ok (.iload 5, 2) := by decide +kernel
theorem dX12_graveOf_137 : decode cX12_graveOf 137 = .ok (.ireturn, 1) := by decide +kernel
theorem dX12_rangeOf_0 : decode cX12_rangeOf 0 = .ok (.iconst (-1), 1) := by decide +kernel
theorem dX12_rangeOf_1 : decode cX12_rangeOf 1 = .ok (.istore 4, 2) := by decide +kernel
theorem dX12_rangeOf_3 : decode cX12_rangeOf 3 = .ok (.iload_n 2, 1) := by decide +kernel
theorem dX12_rangeOf_4 : decode cX12_rangeOf 4 = .ok (.ifCond .ge 6, 3) := by decide +kernel
theorem dX12_rangeOf_7 : decode cX12_rangeOf 7 = .ok (.iload 4, 2) := by decide +kernel
theorem dX12_rangeOf_9 : decode cX12_rangeOf 9 = .ok (.ireturn, 1) := by decide +kernel
theorem dX12_rangeOf_10 : decode cX12_rangeOf 10 = .ok (.aload_n 0, 1) := by decide +kernel
theorem dX12_rangeOf_11 : decode cX12_rangeOf 11 = .ok (.iload_n 1, 1) := by decide +kernel
theorem dX12_rangeOf_12 : decode cX12_rangeOf 12 = .ok (.iload_n 2, 1) := by decide +kernel
theorem dX12_rangeOf_13 : decode cX12_rangeOf 13 = .ok (.iload_n 3, 1) := by decide +kernel
theorem dX12_rangeOf_14 : decode cX12_rangeOf 14 = .ok (.invokevirtual 284, 3) := by decide +kernel
theorem dX12_rangeOf_17 : decode cX12_rangeOf 17 = .ok (.istore 5, 2) := by decide +kernel
theorem dX12_rangeOf_19 : decode cX12_rangeOf 19 = .ok (.aload_n 0, 1) := by decide +kernel
theorem dX12_rangeOf_20 : decode cX12_rangeOf 20 = .ok (.iload_n 1, 1) := by decide +kernel
theorem dX12_rangeOf_21 : decode cX12_rangeOf 21 = .ok (.iload_n 2, 1) := by decide +kernel
theorem dX12_rangeOf_22 : decode cX12_rangeOf 22 = .ok (.iload_n 3, 1) := by decide +kernel
theorem dX12_rangeOf_23 : decode cX12_rangeOf 23 = .ok (.invokevirtual 277, 3) := by decide +kernel
theorem dX12_rangeOf_26 : decode cX12_rangeOf 26 = .ok (.iconst 3, 1) := by decide +kernel
theorem dX12_rangeOf_27 : decode cX12_rangeOf 27 = .ok (.idiv, 1) := by decide +kernel
theorem dX12_rangeOf_28 : decode cX12_rangeOf 28 = .ok (.istore 6, 2) := by decide +kernel
theorem dX12_rangeOf_30 : decode cX12_rangeOf 30 = .ok (.iload 6, 2) := by decide +kernel
theorem dX12_rangeOf_32 : decode cX12_rangeOf 32 = .ok (.iconst 3, 1) := by decide +kernel
theorem dX12_rangeOf_33 : decode cX12_rangeOf 33 = .ok (.if_icmp .le 7, 3) := by decide +kernel
theorem dX12_rangeOf_36 : decode cX12_rangeOf 36 = .ok (.iconst 3, 1) := by decide +kernel
theorem dX12_rangeOf_37 : decode cX12_rangeOf 37 = .ok (.goto 5, 3) := by decide +kernel
theorem dX12_rangeOf_40 : decode cX12_rangeOf 40 = .ok (.iload 6, 2) := by decide +kernel
theorem dX12_rangeOf_42 : decode cX12_rangeOf 42 = .ok (.istore 6, 2) := by decide +kernel
theorem dX12_rangeOf_44 : decode cX12_rangeOf 44 = .ok (.iconst 0, 1) := by decide +kernel
theorem dX12_rangeOf_45 : decode cX12_rangeOf 45 = .ok (.istore 7, 2) := by decide +kernel
theorem dX12_rangeOf_47 : decode cX12_rangeOf 47 = .ok (.iload 7, 2) := by decide +kernel
theorem dX12_rangeOf_49 : decode cX12_rangeOf 49 = .ok (.aload_n 0, 1) := by decide +kernel
theorem dX12_rangeOf_50 : decode cX12_rangeOf 50 = .ok (.getfield 22, 3) := by decide +kernel
theorem dX12_rangeOf_53 : decode cX12_rangeOf 53 = .ok (.iconst 2, 1) := by decide +kernel
theorem dX12_rangeOf_54 : decode cX12_rangeOf 54 = .ok (.iload_n 2, 1) := by decide +kernel
theorem dX12_rangeOf_55 : decode cX12_rangeOf 55 = .ok (.imul, 1) := by decide +kernel
theorem dX12_rangeOf_56 : decode cX12_rangeOf 56 = .ok (.iaload, 1) := by decide +kernel
theorem dX12_rangeOf_57 : decode cX12_rangeOf 57 = .ok (.if_icmp .ge 87, 3) := by decide +kernel
theorem dX12_rangeOf_60 : decode cX12_rangeOf 60 = .ok (.aload_n 0, 1) := by decide +kernel
theorem dX12_rangeOf_61 : decode cX12_rangeOf 61 = .ok (.iload_n 2, 1) := by decide +kernel
theorem dX12_rangeOf_62 : decode cX12_rangeOf 62 = .ok (.iload 7, 2) := by decide +kernel
theorem dX12_rangeOf_64 : decode cX12_rangeOf 64 = .ok (.iconst 0, 1) := by decide +kernel
theorem dX12_rangeOf_65 : decode cX12_rangeOf 65 = .ok (.invokevirtual 245, 3) := by decide +kernel
theorem dX12_rangeOf_68 : decode cX12_rangeOf 68 = .ok (.iconst 3, 1) := by decide +kernel
theorem dX12_rangeOf_69 : decode cX12_rangeOf 69 = .ok (.if_icmp .ne 33, 3) := by decide +kernel
theorem dX12_rangeOf_72 : decode cX12_rangeOf 72 = .ok (.aload_n 0, 1) := by decide +kernel
theorem dX12_rangeOf_73 : decode cX12_rangeOf 73 = .ok (.iload_n 2, 1) := by decide +kernel
theorem dX12_rangeOf_74 : decode cX12_rangeOf 74 = .ok (.iload 7, 2) := by decide +kernel
theorem dX12_rangeOf_76 : decode cX12_rangeOf 76 = .ok (.iconst 1, 1) := by decide +kernel
theorem dX12_rangeOf_77 : decode cX12_rangeOf 77 = .ok (.invokevirtual 245, 3) := by decide +kernel
theorem dX12_rangeOf_80 : decode cX12_rangeOf 80 = .ok (.iload 5, 2) := by decide +kernel
theorem dX12_rangeOf_82 : decode cX12_rangeOf 82 = .ok (.if_icmp .ne 20, 3) := by decide +kernel
theorem dX12_rangeOf_85 : decode cX12_rangeOf 85 = .ok (.aload_n 0, 1) := by decide +kernel
theorem dX12_rangeOf_86 : decode cX12_rangeOf 86 = .ok (.iload_n 2, 1) := by decide +kernel
theorem dX12_rangeOf_87 : decode cX12_rangeOf 87 = .ok (.iload 7, 2) := by decide +kernel
theorem dX12_rangeOf_89 : decode cX12_rangeOf 89 = .ok (.iconst 2, 1) := by decide +kernel
theorem dX12_rangeOf_90 : decode cX12_rangeOf 90 = .ok (.invokevirtual 245, 3) := by decide +kernel
theorem dX12_rangeOf_93 : decode cX12_rangeOf 93 = .ok (.iload 6, 2) := by decide +kernel
theorem dX12_rangeOf_95 : decode cX12_rangeOf 95 = .ok (.if_icmp .ne 7, 3) := by decide +kernel
theorem dX12_rangeOf_98 : decode cX12_rangeOf 98 = .ok (.iconst 1, 1) := by decide +kernel
theorem dX12_rangeOf_99 : decode cX12_rangeOf 99 = .ok (.goto 4, 3) := by decide +kernel
theorem dX12_rangeOf_102 : decode cX12_rangeOf 102 = .ok (.iconst 0, 1) := by decide +kernel
theorem dX12_rangeOf_103 : decode cX12_rangeOf 103 = .ok (.istore 8, 2) := by decide +kernel
theorem dX12_rangeOf_105 : decode cX12_rangeOf 105 = .ok (.iload 8, 2) := by decide +kernel
theorem dX12_rangeOf_107 : decode cX12_rangeOf 107 = .ok (.ifCond .eq 27, 3) := by decide +kernel
theorem dX12_rangeOf_110 : decode cX12_rangeOf 110 = .ok (.sipush 1000, 3) := by decide +kernel
theorem dX12_rangeOf_113 : decode cX12_rangeOf 113 = .ok (.aload_n 0, 1) := by decide +kernel
theorem dX12_rangeOf_114 : decode cX12_rangeOf 114 = .ok (.iload_n 2, 1) := by decide +kernel
theorem dX12_rangeOf_115 : decode cX12_rangeOf 115 = .ok (.iload 7, 2) := by decide +kernel
theorem dX12_rangeOf_117 : decode cX12_rangeOf 117 = .ok (.iconst 3, 1) := by decide +kernel
theorem dX12_rangeOf_118 : decode cX12_rangeOf 118 = .ok (.invokevirtual 245, 3) := by decide +kernel
theorem dX12_rangeOf_121 : decode cX12_rangeOf 121 = .ok (.imul, 1) := by decide +kernel
theorem dX12_rangeOf_122 : decode cX12_rangeOf 122 = .ok (.aload_n 0, 1) := by decide +kernel
theorem dX12_rangeOf_123 : decode cX12_rangeOf 123 = .ok (.iload_n 2, 1) := by decide +kernel
theorem dX12_rangeOf_124 : decode cX12_rangeOf 124 = .ok (.iload 7, 2) := by decide +kernel
theorem dX12_rangeOf_126 : decode cX12_rangeOf 126 = .ok (.iconst 4, 1) := by decide +kernel
theorem dX12_rangeOf_127 : decode cX12_rangeOf 127 = .ok (.invokevirtual 245, 3) := by decide +kernel
theorem dX12_rangeOf_130 : decode cX12_rangeOf 130 = .ok (.iadd, 1) := by decide +kernel
theorem dX12_rangeOf_131 : decode cX12_rangeOf 131 = .ok (.goto 5, 3) := by decide +kernel
theorem dX12_rangeOf_134 : decode cX12_rangeOf 134 = .ok (.iload 4, 2) := by decide +kernel
theorem dX12_rangeOf_136 : decode cX12_rangeOf 136 = .ok (.istore 4, 2) := by decide +kernel
theorem dX12_rangeOf_138 : decode cX12_rangeOf 138 = .ok (.iinc 7 1, 3) := by decide +kernel
theorem dX12_rangeOf_141 : decode cX12_rangeOf 141 = .ok (.goto (-94), 3) := by decide +kernel
theorem dX12_rangeOf_144 : decode cX12_rangeOf 144 = .ok (.iload 4, 2) := by decide +kernel
theorem dX12_rangeOf_146 : decode cX12_rangeOf 146 = .ok (.ireturn, 1) := by decide +kernel
theorem dX12_canAsk_0 : decode cX12_canAsk 0 = .ok (.aload_n 0, 1) := by decide +kernel
theorem dX12_canAsk_1 : decode cX12_canAsk 1 = .ok (.iload_n 1, 1) := by decide +kernel
theorem dX12_canAsk_2 : decode cX12_canAsk 2 = .ok (.invokevirtual 120, 3) := by decide +kernel
theorem dX12_canAsk_5 : decode cX12_canAsk 5 = .ok (.ifCond .eq 22, 3) := by decide +kernel
theorem dX12_canAsk_8 : decode cX12_canAsk 8 = .ok (.aload_n 0, 1) := by decide +kernel
theorem dX12_canAsk_9 : decode cX12_canAsk 9 = .ok (.iload_n 2, 1) := by decide +kernel
theorem dX12_canAsk_10 : decode cX12_canAsk 10 = .ok (.invokevirtual 249, 3) := by decide +kernel
theorem dX12_canAsk_13 : decode cX12_canAsk 13 = .ok (.ifCond .eq 14, 3) := by decide +kernel
theorem dX12_canAsk_16 : decode cX12_canAsk 16 = .ok (.iload_n 3, 1) := by decide +kernel
theorem dX12_canAsk_17 : decode cX12_canAsk 17 = .ok (.invokestatic 107, 3) := by decide +kernel
theorem dX12_canAsk_20 : decode cX12_canAsk 20 = .ok (.ifCond .eq 7, 3) := by decide +kernel
theorem dX12_canAsk_23 : decode cX12_canAsk 23 = .ok (.iconst 1, 1) := by decide +kernel
theorem dX12_canAsk_24 : decode cX12_canAsk 24 = .ok (.goto 4, 3) := by decide +kernel
theorem dX12_canAsk_27 : decode cX12_canAsk 27 = .ok (.iconst 0, 1) := by decide +kernel
theorem dX12_canAsk_28 : decode cX12_canAsk 28 = .ok (.ireturn, 1) := by decide +kernel
theorem dX12_points_0 : decode cX12_points 0 = .ok (.aload_n 0, 1) := by decide +kernel
theorem dX12_points_1 : decode cX12_points 1 = .ok (.iload_n 1, 1) := by decide +kernel
theorem dX12_points_2 : decode cX12_points 2 = .ok (.iload_n 2, 1) := by decide +kernel
theorem dX12_points_3 : decode cX12_points 3 = .ok (.iload_n 3, 1) := by decide +kernel
theorem dX12_points_4 : decode cX12_points 4 = .ok (.invokevirtual 287, 3) := by decide +kernel
theorem dX12_points_7 : decode cX12_points 7 = .ok (.ifCond .eq 13, 3) := by decide +kernel
theorem dX12_points_10 : decode cX12_points 10 = .ok (.aload_n 0, 1) := by decide +kernel
theorem dX12_points_11 : decode cX12_points 11 = .ok (.iload_n 1, 1) := by decide +kernel
theorem dX12_points_12 : decode cX12_points 12 = .ok (.iload_n 2, 1) := by decide +kernel
theorem dX12_points_13 : decode cX12_points 13 = .ok (.iload_n 3, 1) := by decide +kernel
theorem dX12_points_14 : decode cX12_points 14 = .ok (.invokevirtual 277, 3) := by decide +kernel
theorem dX12_points_17 : decode cX12_points 17 = .ok (.goto 4, 3) := by decide +kernel
theorem dX12_points_20 : decode cX12_points 20 = .ok (.iconst (-1), 1) := by decide +kernel
theorem dX12_points_21 : decode cX12_points 21 = .ok (.ireturn, 1) := by decide +kernel
theorem dX12_grave_0 : decode cX12_grave 0 = .ok (.aload_n 0, 1) := by decide +kernel
theorem dX12_grave_1 : decode cX12_grave 1 = .ok (.iload_n 1, 1) := by decide +kernel
theorem dX12_grave_2 : decode cX12_grave 2 = .ok (.iload_n 2, 1) := by decide +kernel
theorem dX12_grave_3 : decode cX12_grave 3 = .ok (.iload_n 3, 1) := by decide +kernel
theorem dX12_grave_4 : decode cX12_grave 4 = .ok (.invokevirtual 287, 3) := by decide +kernel
theorem dX12_grave_7 : decode cX12_grave 7 = .ok (.ifCond .eq 13, 3) := by decide +kernel
theorem dX12_grave_10 : decode cX12_grave 10 = .ok (.aload_n 0, 1) := by decide +kernel
theorem dX12_grave_11 : decode cX12_grave 11 = .ok (.iload_n 1, 1) := by decide +kernel
theorem dX12_grave_12 : decode cX12_grave 12 = .ok (.iload_n 2, 1) := by decide +kernel
theorem dX12_grave_13 : decode cX12_grave 13 = .ok (.iload_n 3, 1) := by decide +kernel
theorem dX12_grave_14 : decode cX12_grave 14 = .ok (.invokevirtual 284, 3) := by decide +kernel
theorem dX12_grave_17 : decode cX12_grave 17 = .ok (.goto 4, 3) := by decide +kernel
theorem dX12_grave_20 : decode cX12_grave 20 = .ok (.iconst (-1), 1) := by decide +kernel
theorem dX12_grave_21 : decode cX12_grave 21 = .ok (.ireturn, 1) := by decide +kernel
theorem dX12_range_0 : decode cX12_range 0 = .ok (.aload_n 0, 1) := by decide +kernel
theorem dX12_range_1 : decode cX12_range 1 = .ok (.iload_n 1, 1) := by decide +kernel
theorem dX12_range_2 : decode cX12_range 2 = .ok (.iload_n 2, 1) := by decide +kernel
theorem dX12_range_3 : decode cX12_range 3 = .ok (.iload_n 3, 1) := by decide +kernel
theorem dX12_range_4 : decode cX12_range 4 = .ok (.invokevirtual 287, 3) := by decide +kernel
theorem dX12_range_7 : decode cX12_range 7 = .ok (.ifCond .eq 16, 3) := by decide +kernel
theorem dX12_range_10 : decode cX12_range 10 = .ok (.aload_n 0, 1) := by decide +kernel
theorem dX12_range_11 : decode cX12_range 11 = .ok (.iload_n 1, 1) := by decide +kernel
theorem dX12_range_12 : decode cX12_range 12 = .ok (.iload_n 2, 1) := by decide +kernel
theorem dX12_range_13 : decode cX12_range 13 = .ok (.iload_n 3, 1) := by decide +kernel
theorem dX12_range_14 : decode cX12_range 14 = .ok (.invokevirtual 290, 3) := by decide +kernel
theorem dX12_range_17 : decode cX12_range 17 = .ok (.invokestatic 139, 3) := by decide +kernel
theorem dX12_range_20 : decode cX12_range 20 = .ok (.goto 4, 3) := by decide +kernel
theorem dX12_range_23 : decode cX12_range 23 = .ok (.iconst (-1), 1) := by decide +kernel
theorem dX12_range_24 : decode cX12_range 24 = .ok (.ireturn, 1) := by decide +kernel
theorem dX12_standing_0 : decode cX12_standing 0 = .ok (.iconst 0, 1) := by decide +kernel
theorem dX12_standing_1 : decode cX12_standing 1 = .ok (.istore_n 2, 1) := by decide +kernel
theorem dX12_standing_2 : decode cX12_standing 2 = .ok (.iconst 0, 1) := by decide +kernel
theorem dX12_standing_3 : decode cX12_standing 3 = .ok (.istore_n 3, 1) := by decide +kernel
theorem dX12_standing_4 : decode cX12_standing 4 = .ok (.iload_n 3, 1) := by decide +kernel
theorem dX12_standing_5 : decode cX12_standing 5 = .ok (.aload_n 0, 1) := by decide +kernel
theorem dX12_standing_6 : decode cX12_standing 6 = .ok (.getfield 7, 3) := by decide +kernel
theorem dX12_standing_9 : decode cX12_standing 9 = .ok (.iconst 5, 1) := by decide +kernel
theorem dX12_standing_10 : decode cX12_standing 10 = .ok (.iaload, 1) := by decide +kernel
theorem dX12_standing_11 : decode cX12_standing 11 = .ok (.if_icmp .ge 26, 3) := by decide +kernel
theorem dX12_standing_14 : decode cX12_standing 14 = .ok (.iload_n 2, 1) := by decide +kernel
theorem dX12_standing_15 : decode cX12_standing 15 = .ok (.aload_n 0, 1) := by decide +kernel
theorem dX12_standing_16 : decode cX12_standing 16 = .ok (.iload_n 3, 1) := by decide +kernel
theorem dX12_standing_17 : decode cX12_standing 17 = .ok (.iload_n 1, 1) := by decide +kernel
theorem dX12_standing_18 : decode cX12_standing 18 = .ok (.invokevirtual 126, 3) := by decide +kernel
theorem dX12_standing_21 : decode cX12_standing 21 = .ok (.ifCond .eq 7, 3) := by decide +kernel
theorem dX12_standing_24 : decode cX12_standing 24 = .ok (.iconst 1, 1) := by decide +kernel
theorem dX12_standing_25 : decode cX12_standing 25 = .ok (.goto 4, 3) := by decide +kernel
theorem dX12_standing_28 : decode cX12_standing 28 = .ok (.iconst 0, 1) := by decide +kernel
theorem dX12_standing_29 : decode cX12_standing 29 = .ok (.iadd, 1) := by decide +kernel
theorem dX12_standing_30 : decode cX12_standing 30 = .ok (.istore_n 2, 1) := by decide +kernel
theorem dX12_standing_31 : decode cX12_standing 31 = .ok (.iinc 3 1, 3) := by decide +kernel
theorem dX12_standing_34 : decode cX12_standing 34 = .ok (.goto (-30), 3) := by decide +kernel
theorem dX12_standing_37 : decode cX12_standing 37 = .ok (.iload_n 2, 1) := by decide +kernel
theorem dX12_standing_38 : decode cX12_standing 38 = .ok (.ireturn, 1) := by decide +kernel
theorem dX12_term_0 : decode cX12_term 0 = .ok (.aload_n 0, 1) := by decide +kernel
theorem dX12_term_1 : decode cX12_term 1 = .ok (.iload_n 1, 1) := by decide +kernel
theorem dX12_term_2 : decode cX12_term 2 = .ok (.invokevirtual 120, 3) := by decide +kernel
theorem dX12_term_5 : decode cX12_term 5 = .ok (.ifCond .eq 46, 3) := by decide +kernel
theorem dX12_term_8 : decode cX12_term 8 = .ok (.iload_n 2, 1) := by decide +kernel
theorem dX12_term_9 : decode cX12_term 9 = .ok (.iconst 0, 1) := by decide +kernel
theorem dX12_term_10 : decode cX12_term 10 = .ok (.iconst 4, 1) := by decide +kernel
theorem dX12_term_11 : decode cX12_term 11 = .ok (.invokestatic 95, 3) := by decide +kernel
theorem dX12_term_14 : decode cX12_term 14 = .ok (.ifCond .eq 37, 3) := by decide +kernel
theorem dX12_term_17 : decode cX12_term 17 = .ok (.iload_n 3, 1) := by decide +kernel
theorem dX12_term_18 : decode cX12_term 18 = .ok (.iconst 0, 1) := by decide +kernel
theorem dX12_term_19 : decode cX12_term 19 = .ok (.sipush 240, 3) := by decide +kernel
theorem dX12_term_22 : decode cX12_term 22 = .ok (.invokestatic 95, 3) := by decide +kernel
theorem dX12_term_25 : decode cX12_term 25 = .ok (.ifCond .eq 26, 3) := by decide +kernel
theorem dX12_term_28 : decode cX12_term 28 = .ok (.iload 4, 2) := by decide +kernel
theorem dX12_term_30 : decode cX12_term 30 = .ok (.ifCond .lt 21, 3) := by decide +kernel
theorem dX12_term_33 : decode cX12_term 33 = .ok (.iload 4, 2) := by decide +kernel
theorem dX12_term_35 : decode cX12_term 35 = .ok (.bipush 10, 2) := by decide +kernel
theorem dX12_term_37 : decode cX12_term 37 = .ok (.idiv, 1) := by decide +kernel
theorem dX12_term_38 : decode cX12_term 38 = .ok (.iconst 3, 1) := by decide +kernel
theorem dX12_term_39 : decode cX12_term 39 = .ok (.if_icmp .gt 12, 3) := by decide +kernel
theorem dX12_term_42 : decode cX12_term 42 = .ok (.iload 4, 2) := by decide +kernel
theorem dX12_term_44 : decode cX12_term 44 = .ok (.bipush 10, 2) := by decide +kernel
theorem dX12_term_46 : decode cX12_term 46 = .ok (.irem, 1) := by decide +kernel
theorem dX12_term_47 : decode cX12_term 47 = .ok (.iconst 1, 1) := by decide +kernel
theorem dX12_term_48 : decode cX12_term 48 = .ok (.if_icmp .le 5, 3) := by decide +kernel
theorem dX12_term_51 : decode cX12_term 51 = .ok (.iconst (-1), 1) := by decide +kernel
theorem dX12_term_52 : decode cX12_term 52 = .ok (.ireturn, 1) := by decide +kernel
theorem dX12_term_53 : decode cX12_term 53 = .ok (.aload_n 0, 1) := by decide +kernel
theorem dX12_term_54 : decode cX12_term 54 = .ok (.iload_n 1, 1) := by decide +kernel
theorem dX12_term_55 : decode cX12_term 55 = .ok (.aload_n 0, 1) := by decide +kernel
theorem dX12_term_56 : decode cX12_term 56 = .ok (.getfield 7, 3) := by decide +kernel
theorem dX12_term_59 : decode cX12_term 59 = .ok (.iconst 0, 1) := by decide +kernel
theorem dX12_term_60 : decode cX12_term 60 = .ok (.iaload, 1) := by decide +kernel
theorem dX12_term_61 : decode cX12_term 61 = .ok (.invokevirtual 136, 3) := by decide +kernel
theorem dX12_term_64 : decode cX12_term 64 = .ok (.ifCond .lt 6, 3) := by decide +kernel
theorem dX12_term_67 : decode cX12_term 67 = .ok (.bipush (-4), 2) := by decide +kernel
theorem dX12_term_69 : decode cX12_term 69 = .ok (.ireturn, 1) := by decide +kernel
theorem dX12_term_70 : decode cX12_term 70 = .ok (.aload_n 0, 1) := by decide +kernel
theorem dX12_term_71 : decode cX12_term 71 = .ok (.getfield 7, 3) := by decide +kernel
theorem dX12_term_74 : decode cX12_term 74 = .ok (.iconst 5, 1) := by decide +kernel
theorem dX12_term_75 : decode cX12_term 75 = .ok (.iaload, 1) := by decide +kernel
theorem dX12_term_76 : decode cX12_term 76 = .ok (.istore 5, 2) := by decide +kernel
theorem dX12_term_78 : decode cX12_term 78 = .ok (.iload 5, 2) := by decide +kernel
theorem dX12_term_80 : decode cX12_term 80 = .ok (.bipush 16, 2) := by decide +kernel
theorem dX12_term_82 : decode cX12_term 82 = .ok (.if_icmp .ne 6, 3) := by decide +kernel
theorem dX12_term_85 : decode cX12_term 85 = .ok (.bipush (-2), 2) := by decide +kernel
theorem dX12_term_87 : decode cX12_term 87 = .ok (.ireturn, 1) := by decide +kernel
theorem dX12_term_88 : decode cX12_term 88 = .ok (.bipush 7, 2) := by decide +kernel
theorem dX12_term_90 : decode cX12_term 90 = .ok (.iload 5, 2) := by decide +kernel
theorem dX12_term_92 : decode cX12_term 92 = .ok (.imul, 1) := by decide +kernel
theorem dX12_term_93 : decode cX12_term 93 = .ok (.istore 6, 2) := by decide +kernel
theorem dX12_term_95 : decode cX12_term 95 = .ok (.aload_n 0, 1) := by decide +kernel
theorem dX12_term_96 : decode cX12_term 96 = .ok (.getfield 31, 3) := by decide +kernel
theorem dX12_term_99 : decode cX12_term 99 = .ok (.iload 6, 2) := by decide +kernel
theorem dX12_term_101 : decode cX12_term 101 = .ok (.iconst 0, 1) := by decide +kernel
theorem dX12_term_102 : decode cX12_term 102 = .ok (.iadd, 1) := by decide +kernel
theorem dX12_term_103 : decode cX12_term 103 = .ok (.iload_n 1, 1) := by decide +kernel
theorem dX12_term_104 : decode cX12_term 104 = .ok (.iastore, 1) := by decide +kernel
theorem dX12_term_105 : decode cX12_term 105 = .ok (.aload_n 0, 1) := by decide +kernel
theorem dX12_term_106 : decode cX12_term 106 = .ok (.getfield 31, 3) := by decide +kernel
theorem dX12_term_109 : decode cX12_term 109 = .ok (.iload 6, 2) := by decide +kernel
theorem dX12_term_111 : decode cX12_term 111 = .ok (.iconst 1, 1) := by decide +kernel
theorem dX12_term_112 : decode cX12_term 112 = .ok (.iadd, 1) := by decide +kernel
theorem dX12_term_113 : decode cX12_term 113 = .ok (.iload_n 2, 1) := by decide +kernel
theorem dX12_term_114 : decode cX12_term 114 = .ok (.iastore, 1) := by decide +kernel
theorem dX12_term_115 : decode cX12_term 115 = .ok (.aload_n 0, 1) := by decide +kernel
theorem dX12_term_116 : decode cX12_term 116 = .ok (.getfield 31, 3) := by decide +kernel
theorem dX12_term_119 : decode cX12_term 119 = .ok (.iload 6, 2) := by decide +kernel
theorem dX12_term_121 : decode cX12_term 121 = .ok (.iconst 2, 1) := by decide +kernel
theorem dX12_term_122 : decode cX12_term 122 = .ok (.iadd, 1) := by decide +kernel
theorem dX12_term_123 : decode cX12_term 123 = .ok (.iload_n 3, 1) := by decide +kernel
theorem dX12_term_124 : decode cX12_term 124 = .ok (.iastore, 1) := by decide +kernel
theorem dX12_term_125 : decode cX12_term 125 = .ok (.aload_n 0, 1) := by decide +kernel
theorem dX12_term_126 : decode cX12_term 126 = .ok (.getfield 31, 3) := by decide +kernel
theorem dX12_term_129 : decode cX12_term 129 = .ok (.iload 6, 2) := by decide +kernel
theorem dX12_term_131 : decode cX12_term 131 = .ok (.iconst 3, 1) := by decide +kernel
theorem dX12_term_132 : decode cX12_term 132 = .ok (.iadd, 1) := by decide +kernel
theorem dX12_term_133 : decode cX12_term 133 = .ok (.iload 4, 2) := by decide +kernel
theorem dX12_term_135 : decode cX12_term 135 = .ok (.bipush 10, 2) := by decide +kernel
theorem dX12_term_137 : decode cX12_term 137 = .ok (.idiv, 1) := by decide +kernel
theorem dX12_term_138 : decode cX12_term 138 = .ok (.iastore, 1) := by decide +kernel
theorem dX12_term_139 : decode cX12_term 139 = .ok (.aload_n 0, 1) := by decide +kernel
theorem dX12_term_140 : decode cX12_term 140 = .ok (.getfield 31, 3) := by decide +kernel
theorem dX12_term_143 : decode cX12_term 143 = .ok (.iload 6, 2) := by decide +kernel
theorem dX12_term_145 : decode cX12_term 145 = .ok (.iconst 4, 1) := by decide +kernel
theorem dX12_term_146 : decode cX12_term 146 = .ok (.iadd, 1) := by decide +kernel
theorem dX12_term_147 : decode cX12_term 147 = .ok (.iload 4, 2) := by decide +kernel
theorem dX12_term_149 : decode cX12_term 149 = .ok (.bipush 10, 2) := by decide +kernel
theorem dX12_term_151 : decode cX12_term 151 = .ok (.irem, 1) := by decide +kernel
theorem dX12_term_152 : decode cX12_term 152 = .ok (.iastore, 1) := by decide +kernel
theorem dX12_term_153 : decode cX12_term 153 = .ok (.aload_n 0, 1) := by decide +kernel
theorem dX12_term_154 : decode cX12_term 154 = .ok (.getfield 31, 3) := by decide +kernel
theorem dX12_term_157 : decode cX12_term 157 = .ok (.iload 6, 2) := by decide +kernel
theorem dX12_term_159 : decode cX12_term 159 = .ok (.iconst 5, 1) := by decide +kernel
theorem dX12_term_160 : decode cX12_term 160 = .ok (.iadd, 1) := by decide +kernel
theorem dX12_term_161 : decode cX12_term 161 = .ok (.aload_n 0, 1) := by decide +kernel
theorem dX12_term_162 : decode cX12_term 162 = .ok (.getfield 7, 3) := by decide +kernel
theorem dX12_term_165 : decode cX12_term 165 = .ok (.iconst 0, 1) := by decide +kernel
theorem dX12_term_166 : decode cX12_term 166 = .ok (.iaload, 1) := by decide +kernel
theorem dX12_term_167 : decode cX12_term 167 = .ok (.iastore, 1) := by decide +kernel
theorem dX12_term_168 : decode cX12_term 168 = .ok (.aload_n 0, 1) := by decide +kernel
theorem dX12_term_169 : decode cX12_term 169 = .ok (.getfield 31, 3) := by decide +kernel
theorem dX12_term_172 : decode cX12_term 172 = .ok (.iload 6, 2) := by decide +kernel
theorem dX12_term_174 : decode cX12_term 174 = .ok (.bipush 6, 2) := by decide +kernel
theorem dX12_term_176 : decode cX12_term 176 = .ok (.iadd, 1) := by decide +kernel
theorem dX12_term_177 : decode cX12_term 177 = .ok (.ldc_w 293, 3) := by decide +kernel
theorem dX12_term_180 : decode cX12_term 180 = .ok (.iastore, 1) := by decide +kernel
theorem dX12_term_181 : decode cX12_term 181 = .ok (.aload_n 0, 1) := by decide +kernel
theorem dX12_term_182 : decode cX12_term 182 = .ok (.getfield 7, 3) := by decide +kernel
theorem dX12_term_185 : decode cX12_term 185 = .ok (.iconst 5, 1) := by decide +kernel
theorem dX12_term_186 : decode cX12_term 186 = .ok (.dup2, 1) := by decide +kernel
theorem dX12_term_187 : decode cX12_term 187 = .ok (.iaload, 1) := by decide +kernel
theorem dX12_term_188 : decode cX12_term 188 = .ok (.iconst 1, 1) := by decide +kernel
theorem dX12_term_189 : decode cX12_term 189 = .ok (.iadd, 1) := by decide +kernel
theorem dX12_term_190 : decode cX12_term 190 = .ok (.iastore, 1) := by decide +kernel
theorem dX12_term_191 : decode cX12_term 191 = .ok (.iload 5, 2) := by decide +kernel
theorem dX12_term_193 : decode cX12_term 193 = .ok (.ireturn, 1) := by decide +kernel
theorem dX12_appeal_0 : decode cX12_appeal 0 = .ok (.aload_n 0, 1) := by decide +kernel
theorem dX12_appeal_1 : decode cX12_appeal 1 = .ok (.iload_n 1, 1) := by decide +kernel
theorem dX12_appeal_2 : decode cX12_appeal 2 = .ok (.invokevirtual 294, 3) := by decide +kernel
theorem dX12_appeal_5 : decode cX12_appeal 5 = .ok (.ifCond .ne 5, 3) := by decide +kernel
theorem dX12_appeal_8 : decode cX12_appeal 8 = .ok (.iconst (-1), 1) := by decide +kernel
theorem dX12_appeal_9 : decode cX12_appeal 9 = .ok (.ireturn, 1) := by decide +kernel
theorem dX12_appeal_10 : decode cX12_appeal 10 = .ok (.aload_n 0, 1) := by decide +kernel
theorem dX12_appeal_11 : decode cX12_appeal 11 = .ok (.iload_n 1, 1) := by decide +kernel
theorem dX12_appeal_12 : decode cX12_appeal 12 = .ok (.aload_n 0, 1) := by decide +kernel
theorem dX12_appeal_13 : decode cX12_appeal 13 = .ok (.getfield 7, 3) := by decide +kernel
theorem dX12_appeal_16 : decode cX12_appeal 16 = .ok (.iconst 0, 1) := by decide +kernel
theorem dX12_appeal_17 : decode cX12_appeal 17 = .ok (.iaload, 1) := by decide +kernel
theorem dX12_appeal_18 : decode cX12_appeal 18 = .ok (.invokevirtual 126, 3) := by decide +kernel
theorem dX12_appeal_21 : decode cX12_appeal 21 = .ok (.ifCond .ne 6, 3) := by decide +kernel
theorem dX12_appeal_24 : decode cX12_appeal 24 = .ok (.bipush (-4), 2) := by decide +kernel
theorem dX12_appeal_26 : decode cX12_appeal 26 = .ok (.ireturn, 1) := by decide +kernel
theorem dX12_appeal_27 : decode cX12_appeal 27 = .ok (.aload_n 0, 1) := by decide +kernel
theorem dX12_appeal_28 : decode cX12_appeal 28 = .ok (.getfield 31, 3) := by decide +kernel
theorem dX12_appeal_31 : decode cX12_appeal 31 = .ok (.bipush 7, 2) := by decide +kernel
theorem dX12_appeal_33 : decode cX12_appeal 33 = .ok (.iload_n 1, 1) := by decide +kernel
theorem dX12_appeal_34 : decode cX12_appeal 34 = .ok (.imul, 1) := by decide +kernel
theorem dX12_appeal_35 : decode cX12_appeal 35 = .ok (.bipush 6, 2) := by decide +kernel
theorem dX12_appeal_37 : decode cX12_appeal 37 = .ok (.iadd, 1) := by decide +kernel
theorem dX12_appeal_38 : decode cX12_appeal 38 = .ok (.aload_n 0, 1) := by decide +kernel
theorem dX12_appeal_39 : decode cX12_appeal 39 = .ok (.getfield 7, 3) := by decide +kernel
theorem dX12_appeal_42 : decode cX12_appeal 42 = .ok (.iconst 0, 1) := by decide +kernel
theorem dX12_appeal_43 : decode cX12_appeal 43 = .ok (.iaload, 1) := by decide +kernel
theorem dX12_appeal_44 : decode cX12_appeal 44 = .ok (.iastore, 1) := by decide +kernel
theorem dX12_appeal_45 : decode cX12_appeal 45 = .ok (.aload_n 0, 1) := by decide +kernel
theorem dX12_appeal_46 : decode cX12_appeal 46 = .ok (.aload_n 0, 1) := by decide +kernel
theorem dX12_appeal_47 : decode cX12_appeal 47 = .ok (.getfield 7, 3) := by decide +kernel
theorem dX12_appeal_50 : decode cX12_appeal 50 = .ok (.iconst 0, 1) := by decide +kernel
theorem dX12_appeal_51 : decode cX12_appeal 51 = .ok (.iaload, 1) := by decide +kernel
theorem dX12_appeal_52 : decode cX12_appeal 52 = .ok (.invokevirtual 297, 3) := by decide +kernel
theorem dX12_appeal_55 : decode cX12_appeal 55 = .ok (.ireturn, 1) := by decide +kernel
theorem dX12_isAmiss_0 : decode cX12_isAmiss 0 = .ok (.aload_n 0, 1) := by decide +kernel
theorem dX12_isAmiss_1 : decode cX12_isAmiss 1 = .ok (.aload_n 0, 1) := by decide +kernel
theorem dX12_isAmiss_2 : decode cX12_isAmiss 2 = .ok (.iload_n 1, 1) := by decide +kernel
theorem dX12_isAmiss_3 : decode cX12_isAmiss 3 = .ok (.iconst 0, 1) := by decide +kernel
theorem dX12_isAmiss_4 : decode cX12_isAmiss 4 = .ok (.invokevirtual 99, 3) := by decide +kernel
theorem dX12_isAmiss_7 : decode cX12_isAmiss 7 = .ok (.aload_n 0, 1) := by decide +kernel
theorem dX12_isAmiss_8 : decode cX12_isAmiss 8 = .ok (.aload_n 0, 1) := by decide +kernel
theorem dX12_isAmiss_9 : decode cX12_isAmiss 9 = .ok (.iload_n 1, 1) := by decide +kernel
theorem dX12_isAmiss_10 : decode cX12_isAmiss 10 = .ok (.iconst 0, 1) := by decide +kernel
theorem dX12_isAmiss_11 : decode cX12_isAmiss 11 = .ok (.invokevirtual 99, 3) := by decide +kernel
theorem dX12_isAmiss_14 : decode cX12_isAmiss 14 = .ok (.aload_n 0, 1) := by decide +kernel
theorem dX12_isAmiss_15 : decode cX12_isAmiss 15 = .ok (.iload_n 1, 1) := by decide +kernel
theorem dX12_isAmiss_16 : decode cX12_isAmiss 16 = .ok (.iconst 5, 1) := by decide +kernel
theorem dX12_isAmiss_17 : decode cX12_isAmiss 17 = .ok (.invokevirtual 99, 3) := by decide +kernel
theorem dX12_isAmiss_20 : decode cX12_isAmiss 20 = .ok (.invokevirtual 255, 3) := by decide +kernel
theorem dX12_isAmiss_23 : decode cX12_isAmiss 23 = .ok (.iload_n 2, 1) := by decide +kernel
theorem dX12_isAmiss_24 : decode cX12_isAmiss 24 = .ok (.invokevirtual 290, 3) := by decide +kernel
theorem dX12_isAmiss_27 : decode cX12_isAmiss 27 = .ok (.istore_n 3, 1) := by decide +kernel
theorem dX12_isAmiss_28 : decode cX12_isAmiss 28 = .ok (.iload_n 3, 1) := by decide +kernel
theorem dX12_isAmiss_29 : decode cX12_isAmiss 29 = .ok (.ifCond .lt 34, 3) := by decide +kernel
theorem dX12_isAmiss_32 : decode cX12_isAmiss 32 = .ok (.aload_n 0, 1) := by decide +kernel
theorem dX12_isAmiss_33 : decode cX12_isAmiss 33 = .ok (.iload_n 1, 1) := by decide +kernel
theorem dX12_isAmiss_34 : decode cX12_isAmiss 34 = .ok (.iconst 3, 1) := by decide +kernel
theorem dX12_isAmiss_35 : decode cX12_isAmiss 35 = .ok (.invokevirtual 99, 3) := by decide +kernel
theorem dX12_isAmiss_38 : decode cX12_isAmiss 38 = .ok (.ifCond .ne 29, 3) := by decide +kernel
theorem dX12_isAmiss_41 : decode cX12_isAmiss 41 = .ok (.aload_n 0, 1) := by decide +kernel
theorem dX12_isAmiss_42 : decode cX12_isAmiss 42 = .ok (.iload_n 1, 1) := by decide +kernel
theorem dX12_isAmiss_43 : decode cX12_isAmiss 43 = .ok (.iconst 2, 1) := by decide +kernel
theorem dX12_isAmiss_44 : decode cX12_isAmiss 44 = .ok (.invokevirtual 99, 3) := by decide +kernel
theorem dX12_isAmiss_47 : decode cX12_isAmiss 47 = .ok (.iload_n 3, 1) := by decide +kernel
theorem dX12_isAmiss_48 : decode cX12_isAmiss 48 = .ok (.sipush 1000, 3) := by decide +kernel
theorem dX12_isAmiss_51 : decode cX12_isAmiss 51 = .ok (.idiv, 1) := by decide +kernel
theorem dX12_isAmiss_52 : decode cX12_isAmiss 52 = .ok (.iload_n 3, 1) := by decide +kernel
theorem dX12_isAmiss_53 : decode cX12_isAmiss 53 = .ok (.sipush 1000, 3) := by decide +kernel
theorem dX12_isAmiss_56 : decode cX12_isAmiss 56 = .ok (.irem, 1) := by decide +kernel
theorem dX12_isAmiss_57 : decode cX12_isAmiss 57 = .ok (.invokestatic 95, 3) := by decide +kernel
theorem dX12_isAmiss_60 : decode cX12_isAmiss 60 = .ok (.ifCond .ne 7, 3) := by decide +kernel
theorem dX12_isAmiss_63 : decode cX12_isAmiss 63 = .ok (.iconst 1, 1) := by decide +kernel
theorem dX12_isAmiss_64 : decode cX12_isAmiss 64 = .ok (.goto 4, 3) := by decide +kernel
theorem dX12_isAmiss_67 : decode cX12_isAmiss 67 = .ok (.iconst 0, 1) := by decide +kernel
theorem dX12_isAmiss_68 : decode cX12_isAmiss 68 = .ok (.ireturn, 1) := by decide +kernel
theorem dX12_amiss_0 : decode cX12_amiss 0 = .ok (.iload_n 1, 1) := by decide +kernel
theorem dX12_amiss_1 : decode cX12_amiss 1 = .ok (.invokestatic 107, 3) := by decide +kernel
theorem dX12_amiss_4 : decode cX12_amiss 4 = .ok (.ifCond .ne 5, 3) := by decide +kernel
theorem dX12_amiss_7 : decode cX12_amiss 7 = .ok (.iconst (-1), 1) := by decide +kernel
theorem dX12_amiss_8 : decode cX12_amiss 8 = .ok (.ireturn, 1) := by decide +kernel
theorem dX12_amiss_9 : decode cX12_amiss 9 = .ok (.iconst 0, 1) := by decide +kernel
theorem dX12_amiss_10 : decode cX12_amiss 10 = .ok (.istore_n 2, 1) := by decide +kernel
theorem dX12_amiss_11 : decode cX12_amiss 11 = .ok (.iconst 0, 1) := by decide +kernel
theorem dX12_amiss_12 : decode cX12_amiss 12 = .ok (.istore_n 3, 1) := by decide +kernel
theorem dX12_amiss_13 : decode cX12_amiss 13 = .ok (.iload_n 3, 1) := by decide +kernel
theorem dX12_amiss_14 : decode cX12_amiss 14 = .ok (.aload_n 0, 1) := by decide +kernel
theorem dX12_amiss_15 : decode cX12_amiss 15 = .ok (.getfield 7, 3) := by decide +kernel
theorem dX12_amiss_18 : decode cX12_amiss 18 = .ok (.iconst 5, 1) := by decide +kernel
theorem dX12_amiss_19 : decode cX12_amiss 19 = .ok (.iaload, 1) := by decide +kernel
theorem dX12_amiss_20 : decode cX12_amiss 20 = .ok (.if_icmp .ge 37, 3) := by decide +kernel
theorem dX12_amiss_23 : decode cX12_amiss 23 = .ok (.iload_n 2, 1) := by decide +kernel
theorem dX12_amiss_24 : decode cX12_amiss 24 = .ok (.aload_n 0, 1) := by decide +kernel
theorem dX12_amiss_25 : decode cX12_amiss 25 = .ok (.iload_n 3, 1) := by decide +kernel
theorem dX12_amiss_26 : decode cX12_amiss 26 = .ok (.iload_n 1, 1) := by decide +kernel
theorem dX12_amiss_27 : decode cX12_amiss 27 = .ok (.invokevirtual 126, 3) := by decide +kernel
theorem dX12_amiss_30 : decode cX12_amiss 30 = .ok (.ifCond .eq 18, 3) := by decide +kernel
theorem dX12_amiss_33 : decode cX12_amiss 33 = .ok (.aload_n 0, 1) := by decide +kernel
theorem dX12_amiss_34 : decode cX12_amiss 34 = .ok (.iload_n 3, 1) := by decide +kernel
theorem dX12_amiss_35 : decode cX12_amiss 35 = .ok (.iload_n 1, 1) := by decide +kernel
theorem dX12_amiss_36 : decode cX12_amiss 36 = .ok (.invokevirtual 300, 3) := by decide +kernel
theorem dX12_amiss_39 : decode cX12_amiss 39 = .ok (.ifCond .eq 9, 3) := by decide +kernel
theorem dX12_amiss_42 : decode cX12_amiss 42 = .ok (.iconst 1, 1) := by decide +kernel
theorem dX12_amiss_43 : decode cX12_amiss 43 = .ok (.iload_n 3, 1) := by decide +kernel
theorem dX12_amiss_44 : decode cX12_amiss 44 = .ok (.ishl, 1) := by decide +kernel
theorem dX12_amiss_45 : decode cX12_amiss 45 = .ok (.goto 4, 3) := by decide +kernel
theorem dX12_amiss_48 : decode cX12_amiss 48 = .ok (.iconst 0, 1) := by decide +kernel
theorem dX12_amiss_49 : decode cX12_amiss 49 = .ok (.ior, 1) := by decide +kernel
theorem dX12_amiss_50 : decode cX12_amiss 50 = .ok (.istore_n 2, 1) := by decide +kernel
theorem dX12_amiss_51 : decode cX12_amiss 51 = .ok (.iinc 3 1, 3) := by decide +kernel
theorem dX12_amiss_54 : decode cX12_amiss 54 = .ok (.goto (-41), 3) := by decide +kernel
theorem dX12_amiss_57 : decode cX12_amiss 57 = .ok (.iload_n 2, 1) := by decide +kernel
theorem dX12_amiss_58 : decode cX12_amiss 58 = .ok (.ireturn, 1) := by decide +kernel
theorem dX12_runsBeside_0 : decode cX12_runsBeside 0 = .ok (.aload_n 0, 1) := by decide +kernel
theorem dX12_runsBeside_1 : decode cX12_runsBeside 1 = .ok (.iload_n 1, 1) := by decide +kernel
theorem dX12_runsBeside_2 : decode cX12_runsBeside 2 = .ok (.iconst 0, 1) := by decide +kernel
theorem dX12_runsBeside_3 : decode cX12_runsBeside 3 = .ok (.invokevirtual 99, 3) := by decide +kernel
theorem dX12_runsBeside_6 : decode cX12_runsBeside 6 = .ok (.istore_n 3, 1) := by decide +kernel
theorem dX12_runsBeside_7 : decode cX12_runsBeside 7 = .ok (.aload_n 0, 1) := by decide +kernel
theorem dX12_runsBeside_8 : decode cX12_runsBeside 8 = .ok (.iload_n 3, 1) := by decide +kernel
theorem dX12_runsBeside_9 : decode cX12_runsBeside 9 = .ok (.aload_n 0, 1) := by decide +kernel
theorem dX12_runsBeside_10 : decode cX12_runsBeside 10 = .ok (.iload_n 1, 1) := by decide +kernel
theorem dX12_runsBeside_11 : decode cX12_runsBeside 11 = .ok (.iconst 5, 1) := by decide +kernel
theorem dX12_runsBeside_12 : decode cX12_runsBeside 12 = .ok (.invokevirtual 99, 3) := by decide +kernel
theorem dX12_runsBeside_15 : decode cX12_runsBeside 15 = .ok (.invokevirtual 255, 3) := by decide +kernel
theorem dX12_runsBeside_18 : decode cX12_runsBeside 18 = .ok (.istore 4, 2) := by decide +kernel
theorem dX12_runsBeside_20 : decode cX12_runsBeside 20 = .ok (.iload 4, 2) := by decide +kernel
theorem dX12_runsBeside_22 : decode cX12_runsBeside 22 = .ok (.ifCond .ge 5, 3) := by decide +kernel
theorem dX12_runsBeside_25 : decode cX12_runsBeside 25 = .ok (.iconst 0, 1) := by decide +kernel
theorem dX12_runsBeside_26 : decode cX12_runsBeside 26 = .ok (.ireturn, 1) := by decide +kernel
theorem dX12_runsBeside_27 : decode cX12_runsBeside 27 = .ok (.aload_n 0, 1) := by decide +kernel
theorem dX12_runsBeside_28 : decode cX12_runsBeside 28 = .ok (.iload_n 3, 1) := by decide +kernel
theorem dX12_runsBeside_29 : decode cX12_runsBeside 29 = .ok (.iload 4, 2) := by decide +kernel
theorem dX12_runsBeside_31 : decode cX12_runsBeside 31 = .ok (.iload_n 2, 1) := by decide +kernel
theorem dX12_runsBeside_32 : decode cX12_runsBeside 32 = .ok (.invokevirtual 277, 3) := by decide +kernel
theorem dX12_runsBeside_35 : decode cX12_runsBeside 35 = .ok (.istore 5, 2) := by decide +kernel
theorem dX12_runsBeside_37 : decode cX12_runsBeside 37 = .ok (.iconst 0, 1) := by decide +kernel
theorem dX12_runsBeside_38 : decode cX12_runsBeside 38 = .ok (.istore 6, 2) := by decide +kernel
theorem dX12_runsBeside_40 : decode cX12_runsBeside 40 = .ok (.iconst 0, 1) := by decide +kernel
theorem dX12_runsBeside_41 : decode cX12_runsBeside 41 = .ok (.istore 7, 2) := by decide +kernel
theorem dX12_runsBeside_43 : decode cX12_runsBeside 43 = .ok (.iload 7, 2) := by decide +kernel
theorem dX12_runsBeside_45 : decode cX12_runsBeside 45 = .ok (.aload_n 0, 1) := by decide +kernel
theorem dX12_runsBeside_46 : decode cX12_runsBeside 46 = .ok (.getfield 22, 3) := by decide +kernel
theorem dX12_runsBeside_49 : decode cX12_runsBeside 49 = .ok (.iconst 2, 1) := by decide +kernel
theorem dX12_runsBeside_50 : decode cX12_runsBeside 50 = .ok (.iload 4, 2) := by decide +kernel
theorem dX12_runsBeside_52 : decode cX12_runsBeside 52 = .ok (.imul, 1) := by decide +kernel
theorem dX12_runsBeside_53 : decode cX12_runsBeside 53 = .ok (.iaload, 1) := by decide +kernel
theorem dX12_runsBeside_54 : decode cX12_runsBeside 54 = .ok (.if_icmp .ge 50, 3) := by decide +kernel
theorem dX12_runsBeside_57 : decode cX12_runsBeside 57 = .ok (.iload 6, 2) := by decide +kernel
theorem dX12_runsBeside_59 : decode cX12_runsBeside 59 = .ok (.ifCond .ne 32, 3) := by decide +kernel
theorem dX12_runsBeside_62 : decode cX12_runsBeside 62 = .ok (.aload_n 0, 1) := by decide +kernel
theorem dX12_runsBeside_63 : decode cX12_runsBeside 63 = .ok (.iload 4, 2) := by decide +kernel
theorem dX12_runsBeside_65 : decode cX12_runsBeside 65 = .ok (.iload 7, 2) := by decide +kernel
theorem dX12_runsBeside_67 : decode cX12_runsBeside 67 = .ok (.iconst 0, 1) := by decide +kernel
theorem dX12_runsBeside_68 : decode cX12_runsBeside 68 = .ok (.invokevirtual 245, 3) := by decide +kernel
theorem dX12_runsBeside_71 : decode cX12_runsBeside 71 = .ok (.bipush 6, 2) := by decide +kernel
theorem dX12_runsBeside_73 : decode cX12_runsBeside 73 = .ok (.if_icmp .ne 22, 3) := by decide +kernel
theorem dX12_runsBeside_76 : decode cX12_runsBeside 76 = .ok (.aload_n 0, 1) := by decide +kernel
theorem dX12_runsBeside_77 : decode cX12_runsBeside 77 = .ok (.iload 4, 2) := by decide +kernel
theorem dX12_runsBeside_79 : decode cX12_runsBeside 79 = .ok (.iload 7, 2) := by decide +kernel
theorem dX12_runsBeside_81 : decode cX12_runsBeside 81 = .ok (.iload_n 3, 1) := by decide +kernel
theorem dX12_runsBeside_82 : decode cX12_runsBeside 82 = .ok (.iload_n 2, 1) := by decide +kernel
theorem dX12_runsBeside_83 : decode cX12_runsBeside 83 = .ok (.iload 5, 2) := by decide +kernel
theorem dX12_runsBeside_85 : decode cX12_runsBeside 85 = .ok (.invokevirtual 280, 3) := by decide +kernel
theorem dX12_runsBeside_88 : decode cX12_runsBeside 88 = .ok (.ifCond .eq 7, 3) := by decide +kernel
theorem dX12_runsBeside_91 : decode cX12_runsBeside 91 = .ok (.iconst 1, 1) := by decide +kernel
theorem dX12_runsBeside_92 : decode cX12_runsBeside 92 = .ok (.goto 4, 3) := by decide +kernel
theorem dX12_runsBeside_95 : decode cX12_runsBeside 95 = .ok (.iconst 0, 1) := by decide +kernel
theorem dX12_runsBeside_96 : decode cX12_runsBeside 96 = .ok (.istore 6, 2) := by decide +kernel
theorem dX12_runsBeside_98 : decode cX12_runsBeside 98 = .ok (.iinc 7 1, 3) := by decide +kernel
theorem dX12_runsBeside_101 : decode cX12_runsBeside 101 = .ok (.goto (-58), 3) := by decide +kernel
theorem dX12_runsBeside_104 : decode cX12_runsBeside 104 = .ok (.iload 6, 2) := by decide +kernel
theorem dX12_runsBeside_106 : decode cX12_runsBeside 106 = .ok (.ireturn, 1) := by decide +kernel
theorem dX12_beginOf_0 : decode cX12_beginOf 0 = .ok (.iload_n 2, 1) := by decide +kernel
theorem dX12_beginOf_1 : decode cX12_beginOf 1 = .ok (.aload_n 0, 1) := by decide +kernel
theorem dX12_beginOf_2 : decode cX12_beginOf 2 = .ok (.iload_n 1, 1) := by decide +kernel
theorem dX12_beginOf_3 : decode cX12_beginOf 3 = .ok (.iconst 5, 1) := by decide +kernel
theorem dX12_beginOf_4 : decode cX12_beginOf 4 = .ok (.invokevirtual 99, 3) := by decide +kernel
theorem dX12_beginOf_7 : decode cX12_beginOf 7 = .ok (.if_icmp .le 16, 3) := by decide +kernel
theorem dX12_beginOf_10 : decode cX12_beginOf 10 = .ok (.aload_n 0, 1) := by decide +kernel
theorem dX12_beginOf_11 : decode cX12_beginOf 11 = .ok (.iload_n 1, 1) := by decide +kernel
theorem dX12_beginOf_12 : decode cX12_beginOf 12 = .ok (.iload_n 3, 1) := by decide +kernel
theorem dX12_beginOf_13 : decode cX12_beginOf 13 = .ok (.invokevirtual 303, 3) := by decide +kernel
theorem dX12_beginOf_16 : decode cX12_beginOf 16 = .ok (.ifCond .ne 7, 3) := by decide +kernel
theorem dX12_beginOf_19 : decode cX12_beginOf 19 = .ok (.iload_n 2, 1) := by decide +kernel
theorem dX12_beginOf_20 : decode cX12_beginOf 20 = .ok (.goto 9, 3) := by decide +kernel
theorem dX12_beginOf_23 : decode cX12_beginOf 23 = .ok (.aload_n 0, 1) := by decide +kernel
theorem dX12_beginOf_24 : decode cX12_beginOf 24 = .ok (.iload_n 1, 1) := by decide +kernel
theorem dX12_beginOf_25 : decode cX12_beginOf 25 = .ok (.iconst 5, 1) := by decide +kernel
theorem dX12_beginOf_26 : decode cX12_beginOf 26 = .ok (.invokevirtual 99, 3) := by decide +kernel
theorem dX12_beginOf_29 : decode cX12_beginOf 29 = .ok (.ireturn, 1) := by decide +kernel
theorem dX12_lastEnd_0 : decode cX12_lastEnd 0 = .ok (.iconst 0, 1) := by decide +kernel
theorem dX12_lastEnd_1 : decode cX12_lastEnd 1 = .ok (.istore_n 1, 1) := by decide +kernel
theorem dX12_lastEnd_2 : decode cX12_lastEnd 2 = .ok (.iconst 0, 1) := by decide +kernel
theorem dX12_lastEnd_3 : decode cX12_lastEnd 3 = .ok (.istore_n 2, 1) := by decide +kernel
theorem dX12_lastEnd_4 : decode cX12_lastEnd 4 = .ok (.iload_n 2, 1) := by decide +kernel
theorem dX12_lastEnd_5 : decode cX12_lastEnd 5 = .ok (.aload_n 0, 1) := by decide +kernel
theorem dX12_lastEnd_6 : decode cX12_lastEnd 6 = .ok (.getfield 306, 3) := by decide +kernel
theorem dX12_lastEnd_9 : decode cX12_lastEnd 9 = .ok (.if_icmp .ge 30, 3) := by decide +kernel
theorem dX12_lastEnd_12 : decode cX12_lastEnd 12 = .ok (.aload_n 0, 1) := by decide +kernel
theorem dX12_lastEnd_13 : decode cX12_lastEnd 13 = .ok (.getfield 61, 3) := by decide +kernel
theorem dX12_lastEnd_16 : decode cX12_lastEnd 16 = .ok (.iload_n 2, 1) := by decide +kernel
theorem dX12_lastEnd_17 : decode cX12_lastEnd 17 = .ok (.iaload, 1) := by decide +kernel
theorem dX12_lastEnd_18 : decode cX12_lastEnd 18 = .ok (.iload_n 1, 1) := by decide +kernel
theorem dX12_lastEnd_19 : decode cX12_lastEnd 19 = .ok (.if_icmp .le 12, 3) := by decide +kernel
theorem dX12_lastEnd_22 : decode cX12_lastEnd 22 = .ok (.aload_n 0, 1) := by decide +kernel
theorem dX12_lastEnd_23 : decode cX12_lastEnd 23 = .ok (.getfield 61, 3) := by decide +kernel
theorem dX12_lastEnd_26 : decode cX12_lastEnd 26 = .ok (.iload_n 2, 1) := by decide +kernel
theorem dX12_lastEnd_27 : decode cX12_lastEnd 27 = .ok (.iaload, 1) := by decide +kernel
theorem dX12_lastEnd_28 : decode cX12_lastEnd 28 = .ok (.goto 4, 3) := by decide +kernel
theorem dX12_lastEnd_31 : decode cX12_lastEnd 31 = .ok (.iload_n 1, 1) := by decide +kernel
theorem dX12_lastEnd_32 : decode cX12_lastEnd 32 = .ok (.istore_n 1, 1) := by decide +kernel
theorem dX12_lastEnd_33 : decode cX12_lastEnd 33 = .ok (.iinc 2 1, 3) := by decide +kernel
theorem dX12_lastEnd_36 : decode cX12_lastEnd 36 = .ok (.goto (-32), 3) := by decide +kernel
theorem dX12_lastEnd_39 : decode cX12_lastEnd 39 = .ok (.iload_n 1, 1) := by decide +kernel
theorem dX12_lastEnd_40 : decode cX12_lastEnd 40 = .ok (.ireturn, 1) := by decide +kernel
theorem dX12_findTime_0 : decode cX12_findTime 0 = .ok (.aload_n 0, 1) := by decide +kernel
theorem dX12_findTime_1 : decode cX12_findTime 1 = .ok (.iconst 0, 1) := by decide +kernel
theorem dX12_findTime_2 : decode cX12_findTime 2 = .ok (.putfield 306, 3) := by decide +kernel
theorem dX12_findTime_5 : decode cX12_findTime 5 = .ok (.iconst 0, 1) := by decide +kernel
theorem dX12_findTime_6 : decode cX12_findTime 6 = .ok (.istore_n 3, 1) := by decide +kernel
theorem dX12_findTime_7 : decode cX12_findTime 7 = .ok (.iload_n 3, 1) := by decide +kernel
theorem dX12_findTime_8 : decode cX12_findTime 8 = .ok (.aload_n 0, 1) := by decide +kernel
theorem dX12_findTime_9 : decode cX12_findTime 9 = .ok (.getfield 7, 3) := by decide +kernel
theorem dX12_findTime_12 : decode cX12_findTime 12 = .ok (.iconst 5, 1) := by decide +kernel
theorem dX12_findTime_13 : decode cX12_findTime 13 = .ok (.iaload, 1) := by decide +kernel
theorem dX12_findTime_14 : decode cX12_findTime 14 = .ok (.if_icmp .ge 94, 3) := by decide +kernel
theorem dX12_findTime_17 : decode cX12_findTime 17 = .ok (.aload_n 0, 1) := by decide +kernel
theorem dX12_findTime_18 : decode cX12_findTime 18 = .ok (.iload_n 3, 1) := by decide +kernel
theorem dX12_findTime_19 : decode cX12_findTime 19 = .ok (.invokevirtual 309, 3) := by decide +kernel
theorem dX12_findTime_22 : decode cX12_findTime 22 = .ok (.iload_n 1, 1) := by decide +kernel
theorem dX12_findTime_23 : decode cX12_findTime 23 = .ok (.if_icmp .ne 79, 3) := by decide +kernel
theorem dX12_findTime_26 : decode cX12_findTime 26 = .ok (.aload_n 0, 1) := by decide +kernel
theorem dX12_findTime_27 : decode cX12_findTime 27 = .ok (.iload_n 3, 1) := by decide +kernel
theorem dX12_findTime_28 : decode cX12_findTime 28 = .ok (.iload_n 2, 1) := by decide +kernel
theorem dX12_findTime_29 : decode cX12_findTime 29 = .ok (.invokevirtual 126, 3) := by decide +kernel
theorem dX12_findTime_32 : decode cX12_findTime 32 = .ok (.ifCond .eq 70, 3) := by decide +kernel
theorem dX12_findTime_35 : decode cX12_findTime 35 = .ok (.aload_n 0, 1) := by decide +kernel
theorem dX12_findTime_36 : decode cX12_findTime 36 = .ok (.getfield 55, 3) := by decide +kernel
theorem dX12_findTime_39 : decode cX12_findTime 39 = .ok (.aload_n 0, 1) := by decide +kernel
theorem dX12_findTime_40 : decode cX12_findTime 40 = .ok (.getfield 306, 3) := by decide +kernel
theorem dX12_findTime_43 : decode cX12_findTime 43 = .ok (.iload_n 3, 1) := by decide +kernel
theorem dX12_findTime_44 : decode cX12_findTime 44 = .ok (.iastore, 1) := by decide +kernel
theorem dX12_findTime_45 : decode cX12_findTime 45 = .ok (.aload_n 0, 1) := by decide +kernel
theorem dX12_findTime_46 : decode cX12_findTime 46 = .ok (.getfield 58, 3) := by decide +kernel
theorem dX12_findTime_49 : decode cX12_findTime 49 = .ok (.aload_n 0, 1) := by decide +kernel
theorem dX12_findTime_50 : decode cX12_findTime 50 = .ok (.getfield 306, 3) := by decide +kernel
theorem dX12_findTime_53 : decode cX12_findTime 53 = .ok (.aload_n 0, 1) := by decide +kernel
theorem dX12_findTime_54 : decode cX12_findTime 54 = .ok (.iload_n 3, 1) := by decide +kernel
theorem dX12_findTime_55 : decode cX12_findTime 55 = .ok (.aload_n 0, 1) := by decide +kernel
theorem dX12_findTime_56 : decode cX12_findTime 56 = .ok (.invokevirtual 312, 3) := by decide +kernel
theorem dX12_findTime_59 : decode cX12_findTime 59 = .ok (.iload_n 2, 1) := by decide +kernel
theorem dX12_findTime_60 : decode cX12_findTime 60 = .ok (.invokevirtual 315, 3) := by decide +kernel
theorem dX12_findTime_63 : decode cX12_findTime 63 = .ok (.iastore, 1) := by decide +kernel
theorem dX12_findTime_64 : decode cX12_findTime 64 = .ok (.aload_n 0, 1) := by decide +kernel
theorem dX12_findTime_65 : decode cX12_findTime 65 = .ok (.getfield 61, 3) := by decide +kernel
theorem dX12_findTime_68 : decode cX12_findTime 68 = .ok (.aload_n 0, 1) := by decide +kernel
theorem dX12_findTime_69 : decode cX12_findTime 69 = .ok (.getfield 306, 3) := by decide +kernel
theorem dX12_findTime_72 : decode cX12_findTime 72 = .ok (.aload_n 0, 1) := by decide +kernel
theorem dX12_findTime_73 : decode cX12_findTime 73 = .ok (.getfield 58, 3) := by decide +kernel
theorem dX12_findTime_76 : decode cX12_findTime 76 = .ok (.aload_n 0, 1) := by decide +kernel
theorem dX12_findTime_77 : decode cX12_findTime 77 = .ok (.getfield 306, 3) := by decide +kernel
theorem dX12_findTime_80 : decode cX12_findTime 80 = .ok (.iaload, 1) := by decide +kernel
theorem dX12_findTime_81 : decode cX12_findTime 81 = .ok (.bipush 30, 2) := by decide +kernel
theorem dX12_findTime_83 : decode cX12_findTime 83 = .ok (.aload_n 0, 1) := by decide +kernel
theorem dX12_findTime_84 : decode cX12_findTime 84 = .ok (.iload_n 3, 1) := by decide +kernel
theorem dX12_findTime_85 : decode cX12_findTime 85 = .ok (.iconst 2, 1) := by decide +kernel
theorem dX12_findTime_86 : decode cX12_findTime 86 = .ok (.invokevirtual 99, 3) := by decide +kernel
theorem dX12_findTime_89 : decode cX12_findTime 89 = .ok (.imul, 1) := by decide +kernel
theorem dX12_findTime_90 : decode cX12_findTime 90 = .ok (.iadd, 1) := by decide +kernel
theorem dX12_findTime_91 : decode cX12_findTime 91 = .ok (.iastore, 1) := by decide +kernel
theorem dX12_findTime_92 : decode cX12_findTime 92 = .ok (.aload_n 0, 1) := by decide +kernel
theorem dX12_findTime_93 : decode cX12_findTime 93 = .ok (.dup, 1) := by decide +kernel
theorem dX12_findTime_94 : decode cX12_findTime 94 = .ok (.getfield 306, 3) := by decide +kernel
theorem dX12_findTime_97 : decode cX12_findTime 97 = .ok (.iconst 1, 1) := by decide +kernel
theorem dX12_findTime_98 : decode cX12_findTime 98 = .ok (.iadd, 1) := by decide +kernel
theorem dX12_findTime_99 : decode cX12_findTime 99 = .ok (.putfield 306, 3) := by decide +kernel
theorem dX12_findTime_102 : decode cX12_findTime 102 = .ok (.iinc 3 1, 3) := by decide +kernel
theorem dX12_findTime_105 : decode cX12_findTime 105 = .ok (.goto (-98), 3) := by decide +kernel
theorem dX12_findTime_108 : decode cX12_findTime 108 = .ok (.return_, 1) := by decide +kernel
theorem dX12_held_0 : decode cX12_held 0 = .ok (.aload_n 0, 1) := by decide +kernel
theorem dX12_held_1 : decode cX12_held 1 = .ok (.iload_n 1, 1) := by decide +kernel
theorem dX12_held_2 : decode cX12_held 2 = .ok (.invokevirtual 103, 3) := by decide +kernel
theorem dX12_held_5 : decode cX12_held 5 = .ok (.ifCond .eq 25, 3) := by decide +kernel
theorem dX12_held_8 : decode cX12_held 8 = .ok (.iload_n 2, 1) := by decide +kernel
theorem dX12_held_9 : decode cX12_held 9 = .ok (.invokestatic 107, 3) := by decide +kernel
theorem dX12_held_12 : decode cX12_held 12 = .ok (.ifCond .eq 18, 3) := by decide +kernel
theorem dX12_held_15 : decode cX12_held 15 = .ok (.iload_n 3, 1) := by decide +kernel
theorem dX12_held_16 : decode cX12_held 16 = .ok (.iload_n 2, 1) := by decide +kernel
theorem dX12_held_17 : decode cX12_held 17 = .ok (.if_icmp .lt 13, 3) := by decide +kernel
theorem dX12_held_20 : decode cX12_held 20 = .ok (.iload_n 3, 1) := by decide +kernel
theorem dX12_held_21 : decode cX12_held 21 = .ok (.aload_n 0, 1) := by decide +kernel
theorem dX12_held_22 : decode cX12_held 22 = .ok (.getfield 7, 3) := by decide +kernel
theorem dX12_held_25 : decode cX12_held 25 = .ok (.iconst 0, 1) := by decide +kernel
theorem dX12_held_26 : decode cX12_held 26 = .ok (.iaload, 1) := by decide +kernel
theorem dX12_held_27 : decode cX12_held 27 = .ok (.if_icmp .le 5, 3) := by decide +kernel
theorem dX12_held_30 : decode cX12_held 30 = .ok (.iconst (-1), 1) := by decide +kernel
theorem dX12_held_31 : decode cX12_held 31 = .ok (.ireturn, 1) := by decide +kernel
theorem dX12_held_32 : decode cX12_held 32 = .ok (.aload_n 0, 1) := by decide +kernel
theorem dX12_held_33 : decode cX12_held 33 = .ok (.getfield 7, 3) := by decide +kernel
theorem dX12_held_36 : decode cX12_held 36 = .ok (.bipush 6, 2) := by decide +kernel
theorem dX12_held_38 : decode cX12_held 38 = .ok (.iaload, 1) := by decide +kernel
theorem dX12_held_39 : decode cX12_held 39 = .ok (.istore 4, 2) := by decide +kernel
theorem dX12_held_41 : decode cX12_held 41 = .ok (.iload 4, 2) := by decide +kernel
theorem dX12_held_43 : decode cX12_held 43 = .ok (.bipush 12, 2) := by decide +kernel
theorem dX12_held_45 : decode cX12_held 45 = .ok (.if_icmp .ne 6, 3) := by decide +kernel
theorem dX12_held_48 : decode cX12_held 48 = .ok (.bipush (-2), 2) := by decide +kernel
theorem dX12_held_50 : decode cX12_held 50 = .ok (.ireturn, 1) := by decide +kernel
theorem dX12_held_51 : decode cX12_held 51 = .ok (.aload_n 0, 1) := by decide +kernel
theorem dX12_held_52 : decode cX12_held 52 = .ok (.getfield 34, 3) := by decide +kernel
theorem dX12_held_55 : decode cX12_held 55 = .ok (.iconst 3, 1) := by decide +kernel
theorem dX12_held_56 : decode cX12_held 56 = .ok (.iload 4, 2) := by decide +kernel
theorem dX12_held_58 : decode cX12_held 58 = .ok (.imul, 1) := by decide +kernel
theorem dX12_held_59 : decode cX12_held 59 = .ok (.iload_n 1, 1) := by decide +kernel
theorem dX12_held_60 : decode cX12_held 60 = .ok (.iastore, 1) := by decide +kernel
theorem dX12_held_61 : decode cX12_held 61 = .ok (.aload_n 0, 1) := by decide +kernel
theorem dX12_held_62 : decode cX12_held 62 = .ok (.getfield 34, 3) := by decide +kernel
theorem dX12_held_65 : decode cX12_held 65 = .ok (.iconst 3, 1) := by decide +kernel
theorem dX12_held_66 : decode cX12_held 66 = .ok (.iload 4, 2) := by decide +kernel
theorem dX12_held_68 : decode cX12_held 68 = .ok (.imul, 1) := by decide +kernel
theorem dX12_held_69 : decode cX12_held 69 = .ok (.iconst 1, 1) := by decide +kernel
theorem dX12_held_70 : decode cX12_held 70 = .ok (.iadd, 1) := by decide +kernel
theorem dX12_held_71 : decode cX12_held 71 = .ok (.iload_n 2, 1) := by decide +kernel
theorem dX12_held_72 : decode cX12_held 72 = .ok (.iastore, 1) := by decide +kernel
theorem dX12_held_73 : decode cX12_held 73 = .ok (.aload_n 0, 1) := by decide +kernel
theorem dX12_held_74 : decode cX12_held 74 = .ok (.getfield 34, 3) := by decide +kernel
theorem dX12_held_77 : decode cX12_held 77 = .ok (.iconst 3, 1) := by decide +kernel
theorem dX12_held_78 : decode cX12_held 78 = .ok (.iload 4, 2) := by decide +kernel
theorem dX12_held_80 : decode cX12_held 80 = .ok (.imul, 1) := by decide +kernel
theorem dX12_held_81 : decode cX12_held 81 = .ok (.iconst 2, 1) := by decide +kernel
theorem dX12_held_82 : decode cX12_held 82 = .ok (.iadd, 1) := by decide +kernel
theorem dX12_held_83 : decode cX12_held 83 = .ok (.iload_n 3, 1) := by decide +kernel
theorem dX12_held_84 : decode cX12_held 84 = .ok (.iastore, 1) := by decide +kernel
theorem dX12_held_85 : decode cX12_held 85 = .ok (.aload_n 0, 1) := by decide +kernel
theorem dX12_held_86 : decode cX12_held 86 = .ok (.getfield 7, 3) := by decide +kernel
theorem dX12_held_89 : decode cX12_held 89 = .ok (.bipush 6, 2) := by decide +kernel
theorem dX12_held_91 : decode cX12_held 91 = .ok (.dup2, 1) := by decide +kernel
theorem dX12_held_92 : decode cX12_held 92 = .ok (.iaload, 1) := by decide +kernel
theorem dX12_held_93 : decode cX12_held 93 = .ok (.iconst 1, 1) := by decide +kernel
theorem dX12_held_94 : decode cX12_held 94 = .ok (.iadd, 1) := by decide +kernel
theorem dX12_held_95 : decode cX12_held 95 = .ok (.iastore, 1) := by decide +kernel
theorem dX12_held_96 : decode cX12_held 96 = .ok (.iload 4, 2) := by decide +kernel
theorem dX12_held_98 : decode cX12_held 98 = .ok (.iconst 1, 1) := by decide +kernel
theorem dX12_held_99 : decode cX12_held 99 = .ok (.iadd, 1) := by decide +kernel
theorem dX12_held_100 : decode cX12_held 100 = .ok (.ireturn, 1) := by decide +kernel
theorem dX12_heldAhead_0 : decode cX12_heldAhead 0 = .ok (.iconst 0, 1) := by decide +kernel
theorem dX12_heldAhead_1 : decode cX12_heldAhead 1 = .ok (.istore_n 3, 1) := by decide +kernel
theorem dX12_heldAhead_2 : decode cX12_heldAhead 2 = .ok (.iconst 0, 1) := by decide +kernel
theorem dX12_heldAhead_3 : decode cX12_heldAhead 3 = .ok (.istore 4, 2) := by decide +kernel
theorem dX12_heldAhead_5 : decode cX12_heldAhead 5 = .ok (.iload 4, 2) := by decide +kernel
theorem dX12_heldAhead_7 : decode cX12_heldAhead 7 = .ok (.iload_n 2, 1) := by decide +kernel
theorem dX12_heldAhead_8 : decode cX12_heldAhead 8 = .ok (.if_icmp .ge 101, 3) := by decide +kernel
theorem dX12_heldAhead_11 : decode cX12_heldAhead 11 = .ok (.iconst 0, 1) := by decide +kernel
theorem dX12_heldAhead_12 : decode cX12_heldAhead 12 = .ok (.istore 5, 2) := by decide +kernel
theorem dX12_heldAhead_14 : decode cX12_heldAhead 14 = .ok (.iconst 0, 1) := by decide +kernel
theorem dX12_heldAhead_15 : decode cX12_heldAhead 15 = .ok (.istore 6, 2) := by decide +kernel
theorem dX12_heldAhead_17 : decode cX12_heldAhead 17 = .ok (.iload 6, 2) := by decide +kernel
theorem dX12_heldAhead_19 : decode cX12_heldAhead 19 = .ok (.aload_n 0, 1) := by decide +kernel
theorem dX12_heldAhead_20 : decode cX12_heldAhead 20 = .ok (.getfield 7, 3) := by decide +kernel
theorem dX12_heldAhead_23 : decode cX12_heldAhead 23 = .ok (.bipush 6, 2) := by decide +kernel
theorem dX12_heldAhead_25 : decode cX12_heldAhead 25 = .ok (.iaload, 1) := by decide +kernel
theorem dX12_heldAhead_26 : decode cX12_heldAhead 26 = .ok (.if_icmp .ge 64, 3) := by decide +kernel
theorem dX12_heldAhead_29 : decode cX12_heldAhead 29 = .ok (.iload 5, 2) := by decide +kernel
theorem dX12_heldAhead_31 : decode cX12_heldAhead 31 = .ok (.ifCond .ne 59, 3) := by decide +kernel
theorem dX12_heldAhead_34 : decode cX12_heldAhead 34 = .ok (.aload_n 0, 1) := by decide +kernel
theorem dX12_heldAhead_35 : decode cX12_heldAhead 35 = .ok (.getfield 34, 3) := by decide +kernel
theorem dX12_heldAhead_38 : decode cX12_heldAhead 38 = .ok (.iconst 3, 1) := by decide +kernel
theorem dX12_heldAhead_39 : decode cX12_heldAhead 39 = .ok (.iload 6, 2) := by decide +kernel
theorem dX12_heldAhead_41 : decode cX12_heldAhead 41 = .ok (.imul, 1) := by decide +kernel
theorem dX12_heldAhead_42 : decode cX12_heldAhead 42 = .ok (.iaload, 1) := by decide +kernel
theorem dX12_heldAhead_43 : decode cX12_heldAhead 43 = .ok (.iload_n 1, 1) := by decide +kernel
theorem dX12_heldAhead_44 : decode cX12_heldAhead 44 = .ok (.if_icmp .ne 37, 3) := by decide +kernel
theorem dX12_heldAhead_47 : decode cX12_heldAhead 47 = .ok (.iload 4, 2) := by decide +kernel
theorem dX12_heldAhead_49 : decode cX12_heldAhead 49 = .ok (.aload_n 0, 1) := by decide +kernel
theorem dX12_heldAhead_50 : decode cX12_heldAhead 50 = .ok (.getfield 34, 3) := by decide +kernel
theorem dX12_heldAhead_53 : decode cX12_heldAhead 53 = .ok (.iconst 3, 1) := by decide +kernel
theorem dX12_heldAhead_54 : decode cX12_heldAhead 54 = .ok (.iload 6, 2) := by decide +kernel
theorem dX12_heldAhead_56 : decode cX12_heldAhead 56 = .ok (.imul, 1) := by decide +kernel
theorem dX12_heldAhead_57 : decode cX12_heldAhead 57 = .ok (.iconst 1, 1) := by decide +kernel
theorem dX12_heldAhead_58 : decode cX12_heldAhead 58 = .ok (.iadd, 1) := by decide +kernel
theorem dX12_heldAhead_59 : decode cX12_heldAhead 59 = .ok (.iaload, 1) := by decide +kernel
theorem dX12_heldAhead_60 : decode cX12_heldAhead 60 = .ok (.aload_n 0, 1) := by decide +kernel
theorem dX12_heldAhead_61 : decode cX12_heldAhead 61 = .ok (.getfield 34, 3) := by decide +kernel
theorem dX12_heldAhead_64 : decode cX12_heldAhead 64 = .ok (.iconst 3, 1) := by decide +kernel
theorem dX12_heldAhead_65 : decode cX12_heldAhead 65 = .ok (.iload 6, 2) := by decide +kernel
theorem dX12_heldAhead_67 : decode cX12_heldAhead 67 = .ok (.imul, 1) := by decide +kernel
theorem dX12_heldAhead_68 : decode cX12_heldAhead 68 = .ok (.iconst 2, 1) := by decide +kernel
theorem dX12_heldAhead_69 : decode cX12_heldAhead 69 = .ok (.iadd, 1) := by decide +kernel
theorem dX12_heldAhead_70 : decode cX12_heldAhead 70 = .ok (.iaload, 1) := by decide +kernel
theorem dX12_heldAhead_71 : decode cX12_heldAhead 71 = .ok (.invokestatic 95, 3) := by decide +kernel
theorem dX12_heldAhead_74 : decode cX12_heldAhead 74 = .ok (.ifCond .eq 7, 3) := by decide +kernel
theorem dX12_heldAhead_77 : decode cX12_heldAhead 77 = .ok (.iconst 1, 1) := by decide +kernel
theorem dX12_heldAhead_78 : decode cX12_heldAhead 78 = .ok (.goto 4, 3) := by decide +kernel
theorem dX12_heldAhead_81 : decode cX12_heldAhead 81 = .ok (.iconst 0, 1) := by decide +kernel
theorem dX12_heldAhead_82 : decode cX12_heldAhead 82 = .ok (.istore 5, 2) := by decide +kernel
theorem dX12_heldAhead_84 : decode cX12_heldAhead 84 = .ok (.iinc 6 1, 3) := by decide +kernel
theorem dX12_heldAhead_87 : decode cX12_heldAhead 87 = .ok (.goto (-70), 3) := by decide +kernel
theorem dX12_heldAhead_90 : decode cX12_heldAhead 90 = .ok (.iload_n 3, 1) := by decide +kernel
theorem dX12_heldAhead_91 : decode cX12_heldAhead 91 = .ok (.iload 5, 2) := by decide +kernel
theorem dX12_heldAhead_93 : decode cX12_heldAhead 93 = .ok (.ifCond .eq 7, 3) := by decide +kernel
theorem dX12_heldAhead_96 : decode cX12_heldAhead 96 = .ok (.iconst 1, 1) := by decide +kernel
theorem dX12_heldAhead_97 : decode cX12_heldAhead 97 = .ok (.goto 4, 3) := by decide +kernel
theorem dX12_heldAhead_100 : decode cX12_heldAhead 100 = .ok (.iconst 0, 1) := by decide +kernel
theorem dX12_heldAhead_101 : decode cX12_heldAhead 101 = .ok (.iadd, 1) := by decide +kernel
theorem dX12_heldAhead_102 : decode cX12_heldAhead 102 = .ok (.istore_n 3, 1) := by decide +kernel
theorem dX12_heldAhead_103 : decode cX12_heldAhead 103 = .ok (.iinc 4 1, 3) := by decide +kernel
theorem dX12_heldAhead_106 : decode cX12_heldAhead 106 = .ok (.goto (-101), 3) := by decide +kernel
theorem dX12_heldAhead_109 : decode cX12_heldAhead 109 = .ok (.iload_n 3, 1) := by decide +kernel
theorem dX12_heldAhead_110 : decode cX12_heldAhead 110 = .ok (.ireturn, 1) := by decide +kernel
theorem dX12_creditOf_0 : decode cX12_creditOf 0 = .ok (.aload_n 0, 1) := by decide +kernel
theorem dX12_creditOf_1 : decode cX12_creditOf 1 = .ok (.getfield 306, 3) := by decide +kernel
theorem dX12_creditOf_4 : decode cX12_creditOf 4 = .ok (.ifCond .ne 7, 3) := by decide +kernel
theorem dX12_creditOf_7 : decode cX12_creditOf 7 = .ok (.iconst 0, 1) := by decide +kernel
theorem dX12_creditOf_8 : decode cX12_creditOf 8 = .ok (.goto 19, 3) := by decide +kernel
theorem dX12_creditOf_11 : decode cX12_creditOf 11 = .ok (.aload_n 0, 1) := by decide +kernel
theorem dX12_creditOf_12 : decode cX12_creditOf 12 = .ok (.iload_n 1, 1) := by decide +kernel
theorem dX12_creditOf_13 : decode cX12_creditOf 13 = .ok (.aload_n 0, 1) := by decide +kernel
theorem dX12_creditOf_14 : decode cX12_creditOf 14 = .ok (.aload_n 0, 1) := by decide +kernel
theorem dX12_creditOf_15 : decode cX12_creditOf 15 = .ok (.getfield 55, 3) := by decide +kernel
theorem dX12_creditOf_18 : decode cX12_creditOf 18 = .ok (.iconst 0, 1) := by decide +kernel
theorem dX12_creditOf_19 : decode cX12_creditOf 19 = .ok (.iaload, 1) := by decide +kernel
theorem dX12_creditOf_20 : decode cX12_creditOf 20 = .ok (.iconst 5, 1) := by decide +kernel
theorem dX12_creditOf_21 : decode cX12_creditOf 21 = .ok (.invokevirtual 99, 3) := by decide +kernel
theorem dX12_creditOf_24 : decode cX12_creditOf 24 = .ok (.invokevirtual 318, 3) := by decide +kernel
theorem dX12_creditOf_27 : decode cX12_creditOf 27 = .ok (.ireturn, 1) := by decide +kernel
theorem dX12_credit_0 : decode cX12_credit 0 = .ok (.aload_n 0, 1) := by decide +kernel
theorem dX12_credit_1 : decode cX12_credit 1 = .ok (.iload_n 1, 1) := by decide +kernel
theorem dX12_credit_2 : decode cX12_credit 2 = .ok (.invokevirtual 103, 3) := by decide +kernel
theorem dX12_credit_5 : decode cX12_credit 5 = .ok (.ifCond .eq 10, 3) := by decide +kernel
theorem dX12_credit_8 : decode cX12_credit 8 = .ok (.iload_n 2, 1) := by decide +kernel
theorem dX12_credit_9 : decode cX12_credit 9 = .ok (.invokestatic 107, 3) := by decide +kernel
theorem dX12_credit_12 : decode cX12_credit 12 = .ok (.ifCond .ne 5, 3) := by decide +kernel
theorem dX12_credit_15 : decode cX12_credit 15 = .ok (.iconst (-1), 1) := by decide +kernel
theorem dX12_credit_16 : decode cX12_credit 16 = .ok (.ireturn, 1) := by decide +kernel
theorem dX12_credit_17 : decode cX12_credit 17 = .ok (.aload_n 0, 1) := by decide +kernel
theorem dX12_credit_18 : decode cX12_credit 18 = .ok (.iload_n 1, 1) := by decide +kernel
theorem dX12_credit_19 : decode cX12_credit 19 = .ok (.iload_n 2, 1) := by decide +kernel
theorem dX12_credit_20 : decode cX12_credit 20 = .ok (.invokevirtual 321, 3) := by decide +kernel
theorem dX12_credit_23 : decode cX12_credit 23 = .ok (.aload_n 0, 1) := by decide +kernel
theorem dX12_credit_24 : decode cX12_credit 24 = .ok (.iload_n 1, 1) := by decide +kernel
theorem dX12_credit_25 : decode cX12_credit 25 = .ok (.invokevirtual 325, 3) := by decide +kernel
theorem dX12_credit_28 : decode cX12_credit 28 = .ok (.ireturn, 1) := by decide +kernel
theorem dX12_good_0 : decode cX12_good 0 = .ok (.aload_n 0, 1) := by decide +kernel
theorem dX12_good_1 : decode cX12_good 1 = .ok (.iload_n 1, 1) := by decide +kernel
theorem dX12_good_2 : decode cX12_good 2 = .ok (.invokevirtual 103, 3) := by decide +kernel
theorem dX12_good_5 : decode cX12_good 5 = .ok (.ifCond .eq 13, 3) := by decide +kernel
theorem dX12_good_8 : decode cX12_good 8 = .ok (.iload_n 2, 1) := by decide +kernel
theorem dX12_good_9 : decode cX12_good 9 = .ok (.iconst 1, 1) := by decide +kernel
theorem dX12_good_10 : decode cX12_good 10 = .ok (.bipush 99, 2) := by decide +kernel
theorem dX12_good_12 : decode cX12_good 12 = .ok (.invokestatic 95, 3) := by decide +kernel
theorem dX12_good_15 : decode cX12_good 15 = .ok (.ifCond .ne 5, 3) := by decide +kernel
theorem dX12_good_18 : decode cX12_good 18 = .ok (.iconst (-1), 1) := by decide +kernel
theorem dX12_good_19 : decode cX12_good 19 = .ok (.ireturn, 1) := by decide +kernel
theorem dX12_good_20 : decode cX12_good 20 = .ok (.aload_n 0, 1) := by decide +kernel
theorem dX12_good_21 : decode cX12_good 21 = .ok (.getfield 13, 3) := by decide +kernel
theorem dX12_good_24 : decode cX12_good 24 = .ok (.iconst 2, 1) := by decide +kernel
theorem dX12_good_25 : decode cX12_good 25 = .ok (.iload_n 1, 1) := by decide +kernel
theorem dX12_good_26 : decode cX12_good 26 = .ok (.imul, 1) := by decide +kernel
theorem dX12_good_27 : decode cX12_good 27 = .ok (.iconst 1, 1) := by decide +kernel
theorem dX12_good_28 : decode cX12_good 28 = .ok (.iadd, 1) := by decide +kernel
theorem dX12_good_29 : decode cX12_good 29 = .ok (.iaload, 1) := by decide +kernel
theorem dX12_good_30 : decode cX12_good 30 = .ok (.iload_n 2, 1) := by decide +kernel
theorem dX12_good_31 : decode cX12_good 31 = .ok (.iadd, 1) := by decide +kernel
theorem dX12_good_32 : decode cX12_good 32 = .ok (.sipush 999, 3) := by decide +kernel
theorem dX12_good_35 : decode cX12_good 35 = .ok (.if_icmp .le 6, 3) := by decide +kernel
theorem dX12_good_38 : decode cX12_good 38 = .ok (.bipush (-4), 2) := by decide +kernel
theorem dX12_good_40 : decode cX12_good 40 = .ok (.ireturn, 1) := by decide +kernel
theorem dX12_good_41 : decode cX12_good 41 = .ok (.aload_n 0, 1) := by decide +kernel
theorem dX12_good_42 : decode cX12_good 42 = .ok (.getfield 13, 3) := by decide +kernel
theorem dX12_good_45 : decode cX12_good 45 = .ok (.iconst 2, 1) := by decide +kernel
theorem dX12_good_46 : decode cX12_good 46 = .ok (.iload_n 1, 1) := by decide +kernel
theorem dX12_good_47 : decode cX12_good 47 = .ok (.imul, 1) := by decide +kernel
theorem dX12_good_48 : decode cX12_good 48 = .ok (.iconst 1, 1) := by decide +kernel
theorem dX12_good_49 : decode cX12_good 49 = .ok (.iadd, 1) := by decide +kernel
theorem dX12_good_50 : decode cX12_good 50 = .ok (.dup2, 1) := by decide +kernel
theorem dX12_good_51 : decode cX12_good 51 = .ok (.iaload, 1) := by decide +kernel
theorem dX12_good_52 : decode cX12_good 52 = .ok (.iload_n 2, 1) := by decide +kernel
theorem dX12_good_53 : decode cX12_good 53 = .ok (.iadd, 1) := by decide +kernel
theorem dX12_good_54 : decode cX12_good 54 = .ok (.iastore, 1) := by decide +kernel
theorem dX12_good_55 : decode cX12_good 55 = .ok (.aload_n 0, 1) := by decide +kernel
theorem dX12_good_56 : decode cX12_good 56 = .ok (.getfield 13, 3) := by decide +kernel
theorem dX12_good_59 : decode cX12_good 59 = .ok (.iconst 2, 1) := by decide +kernel
theorem dX12_good_60 : decode cX12_good 60 = .ok (.iload_n 1, 1) := by decide +kernel
theorem dX12_good_61 : decode cX12_good 61 = .ok (.imul, 1) := by decide +kernel
theorem dX12_good_62 : decode cX12_good 62 = .ok (.iconst 1, 1) := by decide +kernel
theorem dX12_good_63 : decode cX12_good 63 = .ok (.iadd, 1) := by decide +kernel
theorem dX12_good_64 : decode cX12_good 64 = .ok (.iaload, 1) := by decide +kernel
theorem dX12_good_65 : decode cX12_good 65 = .ok (.ireturn, 1) := by decide +kernel
theorem dX12_releaseOf_0 : decode cX12_releaseOf 0 = .ok (.aload_n 0, 1) := by decide +kernel
theorem dX12_releaseOf_1 : decode cX12_releaseOf 1 = .ok (.iload_n 1, 1) := by decide +kernel
theorem dX12_releaseOf_2 : decode cX12_releaseOf 2 = .ok (.iload_n 2, 1) := by decide +kernel
theorem dX12_releaseOf_3 : decode cX12_releaseOf 3 = .ok (.invokevirtual 321, 3) := by decide +kernel
theorem dX12_releaseOf_6 : decode cX12_releaseOf 6 = .ok (.aload_n 0, 1) := by decide +kernel
theorem dX12_releaseOf_7 : decode cX12_releaseOf 7 = .ok (.getfield 306, 3) := by decide +kernel
theorem dX12_releaseOf_10 : decode cX12_releaseOf 10 = .ok (.ifCond .ne 5, 3) := by decide +kernel
theorem dX12_releaseOf_13 : decode cX12_releaseOf 13 = .ok (.iconst (-1), 1) := by decide +kernel
theorem dX12_releaseOf_14 : decode cX12_releaseOf 14 = .ok (.ireturn, 1) := by decide +kernel
theorem dX12_releaseOf_15 : decode cX12_releaseOf 15 = .ok (.aload_n 0, 1) := by decide +kernel
theorem dX12_releaseOf_16 : decode cX12_releaseOf 16 = .ok (.invokevirtual 312, 3) := by decide +kernel
theorem dX12_releaseOf_19 : decode cX12_releaseOf 19 = .ok (.aload_n 0, 1) := by decide +kernel
theorem dX12_releaseOf_20 : decode cX12_releaseOf 20 = .ok (.iload_n 1, 1) := by decide +kernel
theorem dX12_releaseOf_21 : decode cX12_releaseOf 21 = .ok (.invokevirtual 325, 3) := by decide +kernel
theorem dX12_releaseOf_24 : decode cX12_releaseOf 24 = .ok (.isub, 1) := by decide +kernel
theorem dX12_releaseOf_25 : decode cX12_releaseOf 25 = .ok (.aload_n 0, 1) := by decide +kernel
theorem dX12_releaseOf_26 : decode cX12_releaseOf 26 = .ok (.getfield 13, 3) := by decide +kernel
theorem dX12_releaseOf_29 : decode cX12_releaseOf 29 = .ok (.iconst 2, 1) := by decide +kernel
theorem dX12_releaseOf_30 : decode cX12_releaseOf 30 = .ok (.iload_n 1, 1) := by decide +kernel
theorem dX12_releaseOf_31 : decode cX12_releaseOf 31 = .ok (.imul, 1) := by decide +kernel
theorem dX12_releaseOf_32 : decode cX12_releaseOf 32 = .ok (.iconst 1, 1) := by decide +kernel
theorem dX12_releaseOf_33 : decode cX12_releaseOf 33 = .ok (.iadd, 1) := by decide +kernel
theorem dX12_releaseOf_34 : decode cX12_releaseOf 34 = .ok (.iaload, 1) := by decide +kernel
theorem dX12_releaseOf_35 : decode cX12_releaseOf 35 = .ok (.isub, 1) := by decide +kernel
theorem dX12_releaseOf_36 : decode cX12_releaseOf 36 = .ok (.istore_n 3, 1) := by decide +kernel
theorem dX12_releaseOf_37 : decode cX12_releaseOf 37 = .ok (.aload_n 0, 1) := by decide +kernel
theorem dX12_releaseOf_38 : decode cX12_releaseOf 38 = .ok (.aload_n 0, 1) := by decide +kernel
theorem dX12_releaseOf_39 : decode cX12_releaseOf 39 = .ok (.getfield 55, 3) := by decide +kernel
theorem dX12_releaseOf_42 : decode cX12_releaseOf 42 = .ok (.aload_n 0, 1) := by decide +kernel
theorem dX12_releaseOf_43 : decode cX12_releaseOf 43 = .ok (.getfield 306, 3) := by decide +kernel
theorem dX12_releaseOf_46 : decode cX12_releaseOf 46 = .ok (.iconst 1, 1) := by decide +kernel
theorem dX12_releaseOf_47 : decode cX12_releaseOf 47 = .ok (.isub, 1) := by decide +kernel
theorem dX12_releaseOf_48 : decode cX12_releaseOf 48 = .ok (.iaload, 1) := by decide +kernel
theorem dX12_releaseOf_49 : decode cX12_releaseOf 49 = .ok (.iconst 5, 1) := by decide +kernel
theorem dX12_releaseOf_50 : decode cX12_releaseOf 50 = .ok (.invokevirtual 99, 3) := by decide +kernel
theorem dX12_releaseOf_53 : decode cX12_releaseOf 53 = .ok (.istore 4, 2) := by decide +kernel
theorem dX12_releaseOf_55 : decode cX12_releaseOf 55 = .ok (.iload_n 3, 1) := by decide +kernel
theorem dX12_releaseOf_56 : decode cX12_releaseOf 56 = .ok (.iload 4, 2) := by decide +kernel
theorem dX12_releaseOf_58 : decode cX12_releaseOf 58 = .ok (.if_icmp .ge 8, 3) := by decide +kernel
theorem dX12_releaseOf_61 : decode cX12_releaseOf 61 = .ok (.iload 4, 2) := by decide +kernel
theorem dX12_releaseOf_63 : decode cX12_releaseOf 63 = .ok (.goto 4, 3) := by decide +kernel
theorem dX12_releaseOf_66 : decode cX12_releaseOf 66 = .ok (.iload_n 3, 1) := by decide +kernel
theorem dX12_releaseOf_67 : decode cX12_releaseOf 67 = .ok (.ireturn, 1) := by decide +kernel
theorem dX12_release_0 : decode cX12_release 0 = .ok (.aload_n 0, 1) := by decide +kernel
theorem dX12_release_1 : decode cX12_release 1 = .ok (.iload_n 1, 1) := by decide +kernel
theorem dX12_release_2 : decode cX12_release 2 = .ok (.invokevirtual 103, 3) := by decide +kernel
theorem dX12_release_5 : decode cX12_release 5 = .ok (.ifCond .eq 22, 3) := by decide +kernel
theorem dX12_release_8 : decode cX12_release 8 = .ok (.iload_n 2, 1) := by decide +kernel
theorem dX12_release_9 : decode cX12_release 9 = .ok (.invokestatic 107, 3) := by decide +kernel
theorem dX12_release_12 : decode cX12_release 12 = .ok (.ifCond .eq 15, 3) := by decide +kernel
theorem dX12_release_15 : decode cX12_release 15 = .ok (.aload_n 0, 1) := by decide +kernel
theorem dX12_release_16 : decode cX12_release 16 = .ok (.iload_n 1, 1) := by decide +kernel
theorem dX12_release_17 : decode cX12_release 17 = .ok (.iload_n 2, 1) := by decide +kernel
theorem dX12_release_18 : decode cX12_release 18 = .ok (.invokevirtual 328, 3) := by decide +kernel
theorem dX12_release_21 : decode cX12_release 21 = .ok (.invokestatic 139, 3) := by decide +kernel
theorem dX12_release_24 : decode cX12_release 24 = .ok (.goto 4, 3) := by decide +kernel
theorem dX12_release_27 : decode cX12_release 27 = .ok (.iconst (-1), 1) := by decide +kernel
theorem dX12_release_28 : decode cX12_release 28 = .ok (.ireturn, 1) := by decide +kernel
theorem dX12_beds_0 : decode cX12_beds 0 = .ok (.iload_n 1, 1) := by decide +kernel
theorem dX12_beds_1 : decode cX12_beds 1 = .ok (.invokestatic 107, 3) := by decide +kernel
theorem dX12_beds_4 : decode cX12_beds 4 = .ok (.ifCond .eq 10, 3) := by decide +kernel
theorem dX12_beds_7 : decode cX12_beds 7 = .ok (.iload_n 2, 1) := by decide +kernel
theorem dX12_beds_8 : decode cX12_beds 8 = .ok (.invokestatic 107, 3) := by decide +kernel
theorem dX12_beds_11 : decode cX12_beds 11 = .ok (.ifCond .ne 5, 3) := by decide +kernel
theorem dX12_beds_14 : decode cX12_beds 14 = .ok (.iconst (-1), 1) := by decide +kernel
theorem dX12_beds_15 : decode cX12_beds 15 = .ok (.ireturn, 1) := by decide +kernel
theorem dX12_beds_16 : decode cX12_beds 16 = .ok (.iconst 0, 1) := by decide +kernel
theorem dX12_beds_17 : decode cX12_beds 17 = .ok (.istore_n 3, 1) := by decide +kernel
theorem dX12_beds_18 : decode cX12_beds 18 = .ok (.iconst 0, 1) := by decide +kernel
theorem dX12_beds_19 : decode cX12_beds 19 = .ok (.istore 4, 2) := by decide +kernel
theorem dX12_beds_21 : decode cX12_beds 21 = .ok (.iload 4, 2) := by decide +kernel
theorem dX12_beds_23 : decode cX12_beds 23 = .ok (.aload_n 0, 1) := by decide +kernel
theorem dX12_beds_24 : decode cX12_beds 24 = .ok (.getfield 7, 3) := by decide +kernel
theorem dX12_beds_27 : decode cX12_beds 27 = .ok (.iconst 1, 1) := by decide +kernel
theorem dX12_beds_28 : decode cX12_beds 28 = .ok (.iaload, 1) := by decide +kernel
theorem dX12_beds_29 : decode cX12_beds 29 = .ok (.if_icmp .ge 47, 3) := by decide +kernel
theorem dX12_beds_32 : decode cX12_beds 32 = .ok (.aload_n 0, 1) := by decide +kernel
theorem dX12_beds_33 : decode cX12_beds 33 = .ok (.iload 4, 2) := by decide +kernel
theorem dX12_beds_35 : decode cX12_beds 35 = .ok (.iload_n 2, 1) := by decide +kernel
theorem dX12_beds_36 : decode cX12_beds 36 = .ok (.invokevirtual 328, 3) := by decide +kernel
theorem dX12_beds_39 : decode cX12_beds 39 = .ok (.istore 5, 2) := by decide +kernel
theorem dX12_beds_41 : decode cX12_beds 41 = .ok (.iload_n 3, 1) := by decide +kernel
theorem dX12_beds_42 : decode cX12_beds 42 = .ok (.iload 5, 2) := by decide +kernel
theorem dX12_beds_44 : decode cX12_beds 44 = .ok (.iload_n 1, 1) := by decide +kernel
theorem dX12_beds_45 : decode cX12_beds 45 = .ok (.if_icmp .le 22, 3) := by decide +kernel
theorem dX12_beds_48 : decode cX12_beds 48 = .ok (.aload_n 0, 1) := by decide +kernel
theorem dX12_beds_49 : decode cX12_beds 49 = .ok (.aload_n 0, 1) := by decide +kernel
theorem dX12_beds_50 : decode cX12_beds 50 = .ok (.getfield 55, 3) := by decide +kernel
theorem dX12_beds_53 : decode cX12_beds 53 = .ok (.iconst 0, 1) := by decide +kernel
theorem dX12_beds_54 : decode cX12_beds 54 = .ok (.iaload, 1) := by decide +kernel
theorem dX12_beds_55 : decode cX12_beds 55 = .ok (.iconst 5, 1) := by decide +kernel
theorem dX12_beds_56 : decode cX12_beds 56 = .ok (.invokevirtual 99, 3) := by decide +kernel
theorem dX12_beds_59 : decode cX12_beds 59 = .ok (.iload_n 1, 1) := by decide +kernel
theorem dX12_beds_60 : decode cX12_beds 60 = .ok (.if_icmp .gt 7, 3) := by decide +kernel
theorem dX12_beds_63 : decode cX12_beds 63 = .ok (.iconst 1, 1) := by decide +kernel
theorem dX12_beds_64 : decode cX12_beds 64 = .ok (.goto 4, 3) := by decide +kernel
theorem dX12_beds_67 : decode cX12_beds 67 = .ok (.iconst 0, 1) := by decide +kernel
theorem dX12_beds_68 : decode cX12_beds 68 = .ok (.iadd, 1) := by decide +kernel
theorem dX12_beds_69 : decode cX12_beds 69 = .ok (.istore_n 3, 1) := by decide +kernel
theorem dX12_beds_70 : decode cX12_beds 70 = .ok (.iinc 4 1, 3) := by decide +kernel
theorem dX12_beds_73 : decode cX12_beds 73 = .ok (.goto (-52), 3) := by decide +kernel
theorem dX12_beds_76 : decode cX12_beds 76 = .ok (.iload_n 3, 1) := by decide +kernel
theorem dX12_beds_77 : decode cX12_beds 77 = .ok (.ireturn, 1) := by decide +kernel
theorem dX12_prove_0 : decode cX12_prove 0 = .ok (.aload_n 0, 1) := by decide +kernel
theorem dX12_prove_1 : decode cX12_prove 1 = .ok (.iload_n 1, 1) := by decide +kernel
theorem dX12_prove_2 : decode cX12_prove 2 = .ok (.invokevirtual 103, 3) := by decide +kernel
theorem dX12_prove_5 : decode cX12_prove 5 = .ok (.ifCond .ne 5, 3) := by decide +kernel
theorem dX12_prove_8 : decode cX12_prove 8 = .ok (.iconst (-1), 1) := by decide +kernel
theorem dX12_prove_9 : decode cX12_prove 9 = .ok (.ireturn, 1) := by decide +kernel
theorem dX12_prove_10 : decode cX12_prove 10 = .ok (.aload_n 0, 1) := by decide +kernel
theorem dX12_prove_11 : decode cX12_prove 11 = .ok (.iload_n 1, 1) := by decide +kernel
theorem dX12_prove_12 : decode cX12_prove 12 = .ok (.aload_n 0, 1) := by decide +kernel
theorem dX12_prove_13 : decode cX12_prove 13 = .ok (.getfield 7, 3) := by decide +kernel
theorem dX12_prove_16 : decode cX12_prove 16 = .ok (.iconst 0, 1) := by decide +kernel
theorem dX12_prove_17 : decode cX12_prove 17 = .ok (.iaload, 1) := by decide +kernel
theorem dX12_prove_18 : decode cX12_prove 18 = .ok (.invokevirtual 321, 3) := by decide +kernel
theorem dX12_prove_21 : decode cX12_prove 21 = .ok (.aload_n 0, 1) := by decide +kernel
theorem dX12_prove_22 : decode cX12_prove 22 = .ok (.aload_n 0, 1) := by decide +kernel
theorem dX12_prove_23 : decode cX12_prove 23 = .ok (.getfield 306, 3) := by decide +kernel
theorem dX12_prove_26 : decode cX12_prove 26 = .ok (.putfield 331, 3) := by decide +kernel
theorem dX12_prove_29 : decode cX12_prove 29 = .ok (.iconst 0, 1) := by decide +kernel
theorem dX12_prove_30 : decode cX12_prove 30 = .ok (.istore_n 2, 1) := by decide +kernel
theorem dX12_prove_31 : decode cX12_prove 31 = .ok (.iload_n 2, 1) := by decide +kernel
theorem dX12_prove_32 : decode cX12_prove 32 = .ok (.aload_n 0, 1) := by decide +kernel
theorem dX12_prove_33 : decode cX12_prove 33 = .ok (.getfield 306, 3) := by decide +kernel
theorem dX12_prove_36 : decode cX12_prove 36 = .ok (.if_icmp .ge 55, 3) := by decide +kernel
theorem dX12_prove_39 : decode cX12_prove 39 = .ok (.aload_n 0, 1) := by decide +kernel
theorem dX12_prove_40 : decode cX12_prove 40 = .ok (.getfield 64, 3) := by decide +kernel
theorem dX12_prove_43 : decode cX12_prove 43 = .ok (.iconst 3, 1) := by decide +kernel
theorem dX12_prove_44 : decode cX12_prove 44 = .ok (.iload_n 2, 1) := by decide +kernel
theorem dX12_prove_45 : decode cX12_prove 45 = .ok (.imul, 1) := by decide +kernel
theorem dX12_prove_46 : decode cX12_prove 46 = .ok (.aload_n 0, 1) := by decide +kernel
theorem dX12_prove_47 : decode cX12_prove 47 = .ok (.getfield 55, 3) := by decide +kernel
theorem dX12_prove_50 : decode cX12_prove 50 = .ok (.iload_n 2, 1) := by decide +kernel
theorem dX12_prove_51 : decode cX12_prove 51 = .ok (.iaload, 1) := by decide +kernel
theorem dX12_prove_52 : decode cX12_prove 52 = .ok (.iastore, 1) := by decide +kernel
theorem dX12_prove_53 : decode cX12_prove 53 = .ok (.aload_n 0, 1) := by decide +kernel
theorem dX12_prove_54 : decode cX12_prove 54 = .ok (.getfield 64, 3) := by decide +kernel
theorem dX12_prove_57 : decode cX12_prove 57 = .ok (.iconst 3, 1) := by decide +kernel
theorem dX12_prove_58 : decode cX12_prove 58 = .ok (.iload_n 2, 1) := by decide +kernel
theorem dX12_prove_59 : decode cX12_prove 59 = .ok (.imul, 1) := by decide +kernel
theorem dX12_prove_60 : decode cX12_prove 60 = .ok (.iconst 1, 1) := by decide +kernel
theorem dX12_prove_61 : decode cX12_prove 61 = .ok (.iadd, 1) := by decide +kernel
theorem dX12_prove_62 : decode cX12_prove 62 = .ok (.aload_n 0, 1) := by decide +kernel
theorem dX12_prove_63 : decode cX12_prove 63 = .ok (.getfield 58, 3) := by decide +kernel
theorem dX12_prove_66 : decode cX12_prove 66 = .ok (.iload_n 2, 1) := by decide +kernel
theorem dX12_prove_67 : decode cX12_prove 67 = .ok (.iaload, 1) := by decide +kernel
theorem dX12_prove_68 : decode cX12_prove 68 = .ok (.iastore, 1) := by decide +kernel
theorem dX12_prove_69 : decode cX12_prove 69 = .ok (.aload_n 0, 1) := by decide +kernel
theorem dX12_prove_70 : decode cX12_prove 70 = .ok (.getfield 64, 3) := by decide +kernel
theorem dX12_prove_73 : decode cX12_prove 73 = .ok (.iconst 3, 1) := by decide +kernel
theorem dX12_prove_74 : decode cX12_prove 74 = .ok (.iload_n 2, 1) := by decide +kernel
theorem dX12_prove_75 : decode cX12_prove 75 = .ok (.imul, 1) := by decide +kernel
theorem dX12_prove_76 : decode cX12_prove 76 = .ok (.iconst 2, 1) := by decide +kernel
theorem dX12_prove_77 : decode cX12_prove 77 = .ok (.iadd, 1) := by decide +kernel
theorem dX12_prove_78 : decode cX12_prove 78 = .ok (.aload_n 0, 1) := by decide +kernel
theorem dX12_prove_79 : decode cX12_prove 79 = .ok (.getfield 61, 3) := by decide +kernel
theorem dX12_prove_82 : decode cX12_prove 82 = .ok (.iload_n 2, 1) := by decide +kernel
theorem dX12_prove_83 : decode cX12_prove 83 = .ok (.iaload, 1) := by decide +kernel
theorem dX12_prove_84 : decode cX12_prove 84 = .ok (.iastore, 1) := by decide +kernel
theorem dX12_prove_85 : decode cX12_prove 85 = .ok (.iinc 2 1, 3) := by decide +kernel
theorem dX12_prove_88 : decode cX12_prove 88 = .ok (.goto (-57), 3) := by decide +kernel
theorem dX12_prove_91 : decode cX12_prove 91 = .ok (.aload_n 0, 1) := by decide +kernel
theorem dX12_prove_92 : decode cX12_prove 92 = .ok (.getfield 331, 3) := by decide +kernel
theorem dX12_prove_95 : decode cX12_prove 95 = .ok (.ireturn, 1) := by decide +kernel
theorem dX12_isRow_0 : decode cX12_isRow 0 = .ok (.iload_n 1, 1) := by decide +kernel
theorem dX12_isRow_1 : decode cX12_isRow 1 = .ok (.iconst 0, 1) := by decide +kernel
theorem dX12_isRow_2 : decode cX12_isRow 2 = .ok (.aload_n 0, 1) := by decide +kernel
theorem dX12_isRow_3 : decode cX12_isRow 3 = .ok (.getfield 331, 3) := by decide +kernel
theorem dX12_isRow_6 : decode cX12_isRow 6 = .ok (.iconst 1, 1) := by decide +kernel
theorem dX12_isRow_7 : decode cX12_isRow 7 = .ok (.isub, 1) := by decide +kernel
theorem dX12_isRow_8 : decode cX12_isRow 8 = .ok (.invokestatic 95, 3) := by decide +kernel
theorem dX12_isRow_11 : decode cX12_isRow 11 = .ok (.ifCond .eq 16, 3) := by decide +kernel
theorem dX12_isRow_14 : decode cX12_isRow 14 = .ok (.iload_n 2, 1) := by decide +kernel
theorem dX12_isRow_15 : decode cX12_isRow 15 = .ok (.iconst 0, 1) := by decide +kernel
theorem dX12_isRow_16 : decode cX12_isRow 16 = .ok (.iconst 2, 1) := by decide +kernel
theorem dX12_isRow_17 : decode cX12_isRow 17 = .ok (.invokestatic 95, 3) := by decide +kernel
theorem dX12_isRow_20 : decode cX12_isRow 20 = .ok (.ifCond .eq 7, 3) := by decide +kernel
theorem dX12_isRow_23 : decode cX12_isRow 23 = .ok (.iconst 1, 1) := by decide +kernel
theorem dX12_isRow_24 : decode cX12_isRow 24 = .ok (.goto 4, 3) := by decide +kernel
theorem dX12_isRow_27 : decode cX12_isRow 27 = .ok (.iconst 0, 1) := by decide +kernel
theorem dX12_isRow_28 : decode cX12_isRow 28 = .ok (.ireturn, 1) := by decide +kernel
theorem dX12_row_0 : decode cX12_row 0 = .ok (.aload_n 0, 1) := by decide +kernel
theorem dX12_row_1 : decode cX12_row 1 = .ok (.iload_n 1, 1) := by decide +kernel
theorem dX12_row_2 : decode cX12_row 2 = .ok (.iload_n 2, 1) := by decide +kernel
theorem dX12_row_3 : decode cX12_row 3 = .ok (.invokevirtual 334, 3) := by decide +kernel
theorem dX12_row_6 : decode cX12_row 6 = .ok (.ifCond .eq 16, 3) := by decide +kernel
theorem dX12_row_9 : decode cX12_row 9 = .ok (.aload_n 0, 1) := by decide +kernel
theorem dX12_row_10 : decode cX12_row 10 = .ok (.getfield 64, 3) := by decide +kernel
theorem dX12_row_13 : decode cX12_row 13 = .ok (.iconst 3, 1) := by decide +kernel
theorem dX12_row_14 : decode cX12_row 14 = .ok (.iload_n 1, 1) := by decide +kernel
theorem dX12_row_15 : decode cX12_row 15 = .ok (.imul, 1) := by decide +kernel
theorem dX12_row_16 : decode cX12_row 16 = .ok (.iload_n 2, 1) := by decide +kernel
theorem dX12_row_17 : decode cX12_row 17 = .ok (.iadd, 1) := by decide +kernel
theorem dX12_row_18 : decode cX12_row 18 = .ok (.iaload, 1) := by decide +kernel
theorem dX12_row_19 : decode cX12_row 19 = .ok (.goto 5, 3) := by decide +kernel
theorem dX12_row_22 : decode cX12_row 22 = .ok (.bipush (-9), 2) := by decide +kernel
theorem dX12_row_24 : decode cX12_row 24 = .ok (.ireturn, 1) := by decide +kernel
theorem dX12_alterRow_0 : decode cX12_alterRow 0 = .ok (.aload_n 0, 1) := by decide +kernel
theorem dX12_alterRow_1 : decode cX12_alterRow 1 = .ok (.iload_n 1, 1) := by decide +kernel
theorem dX12_alterRow_2 : decode cX12_alterRow 2 = .ok (.iload_n 2, 1) := by decide +kernel
theorem dX12_alterRow_3 : decode cX12_alterRow 3 = .ok (.invokevirtual 334, 3) := by decide +kernel
theorem dX12_alterRow_6 : decode cX12_alterRow 6 = .ok (.ifCond .ne 6, 3) := by decide +kernel
theorem dX12_alterRow_9 : decode cX12_alterRow 9 = .ok (.bipush (-9), 2) := by decide +kernel
theorem dX12_alterRow_11 : decode cX12_alterRow 11 = .ok (.ireturn, 1) := by decide +kernel
theorem dX12_alterRow_12 : decode cX12_alterRow 12 = .ok (.aload_n 0, 1) := by decide +kernel
theorem dX12_alterRow_13 : decode cX12_alterRow 13 = .ok (.getfield 64, 3) := by decide +kernel
theorem dX12_alterRow_16 : decode cX12_alterRow 16 = .ok (.iconst 3, 1) := by decide +kernel
theorem dX12_alterRow_17 : decode cX12_alterRow 17 = .ok (.iload_n 1, 1) := by decide +kernel
theorem dX12_alterRow_18 : decode cX12_alterRow 18 = .ok (.imul, 1) := by decide +kernel
theorem dX12_alterRow_19 : decode cX12_alterRow 19 = .ok (.iload_n 2, 1) := by decide +kernel
theorem dX12_alterRow_20 : decode cX12_alterRow 20 = .ok (.iadd, 1) := by decide +kernel
theorem dX12_alterRow_21 : decode cX12_alterRow 21 = .ok (.iaload, 1) := by decide +kernel
theorem dX12_alterRow_22 : decode cX12_alterRow 22 = .ok (.istore 4, 2) := by decide +kernel
theorem dX12_alterRow_24 : decode cX12_alterRow 24 = .ok (.aload_n 0, 1) := by decide +kernel
theorem dX12_alterRow_25 : decode cX12_alterRow 25 = .ok (.getfield 64, 3) := by decide +kernel
theorem dX12_alterRow_28 : decode cX12_alterRow 28 = .ok (.iconst 3, 1) := by decide +kernel
theorem dX12_alterRow_29 : decode cX12_alterRow 29 = .ok (.iload_n 1, 1) := by decide +kernel
theorem dX12_alterRow_30 : decode cX12_alterRow 30 = .ok (.imul, 1) := by decide +kernel
theorem dX12_alterRow_31 : decode cX12_alterRow 31 = .ok (.iload_n 2, 1) := by decide +kernel
theorem dX12_alterRow_32 : decode cX12_alterRow 32 = .ok (.iadd, 1) := by decide +kernel
theorem dX12_alterRow_33 : decode cX12_alterRow 33 = .ok (.iload_n 3, 1) := by decide +kernel
theorem dX12_alterRow_34 : decode cX12_alterRow 34 = .ok (.iastore, 1) := by decide +kernel
theorem dX12_alterRow_35 : decode cX12_alterRow 35 = .ok (.iload 4, 2) := by decide +kernel
theorem dX12_alterRow_37 : decode cX12_alterRow 37 = .ok (.ireturn, 1) := by decide +kernel
theorem dX12_judge_0 : decode cX12_judge 0 = .ok (.iconst 0, 1) := by decide +kernel
theorem dX12_judge_1 : decode cX12_judge 1 = .ok (.istore_n 1, 1) := by decide +kernel
theorem dX12_judge_2 : decode cX12_judge 2 = .ok (.iconst (-1), 1) := by decide +kernel
theorem dX12_judge_3 : decode cX12_judge 3 = .ok (.istore_n 2, 1) := by decide +kernel
theorem dX12_judge_4 : decode cX12_judge 4 = .ok (.iconst 0, 1) := by decide +kernel
theorem dX12_judge_5 : decode cX12_judge 5 = .ok (.istore_n 3, 1) := by decide +kernel
theorem dX12_judge_6 : decode cX12_judge 6 = .ok (.iload_n 3, 1) := by decide +kernel
theorem dX12_judge_7 : decode cX12_judge 7 = .ok (.aload_n 0, 1) := by decide +kernel
theorem dX12_judge_8 : decode cX12_judge 8 = .ok (.getfield 331, 3) := by decide +kernel
theorem dX12_judge_11 : decode cX12_judge 11 = .ok (.if_icmp .ge 164, 3) := by decide +kernel
theorem dX12_judge_14 : decode cX12_judge 14 = .ok (.aload_n 0, 1) := by decide +kernel
theorem dX12_judge_15 : decode cX12_judge 15 = .ok (.getfield 64, 3) := by decide +kernel
theorem dX12_judge_18 : decode cX12_judge 18 = .ok (.iconst 3, 1) := by decide +kernel
theorem dX12_judge_19 : decode cX12_judge 19 = .ok (.iload_n 3, 1) := by decide +kernel
theorem dX12_judge_20 : decode cX12_judge 20 = .ok (.imul, 1) := by decide +kernel
theorem dX12_judge_21 : decode cX12_judge 21 = .ok (.iaload, 1) := by decide +kernel
theorem dX12_judge_22 : decode cX12_judge 22 = .ok (.istore 4, 2) := by decide +kernel
theorem dX12_judge_24 : decode cX12_judge 24 = .ok (.aload_n 0, 1) := by decide +kernel
theorem dX12_judge_25 : decode cX12_judge 25 = .ok (.iload 4, 2) := by decide +kernel
theorem dX12_judge_27 : decode cX12_judge 27 = .ok (.invokevirtual 294, 3) := by decide +kernel
theorem dX12_judge_30 : decode cX12_judge 30 = .ok (.ifCond .eq 43, 3) := by decide +kernel
theorem dX12_judge_33 : decode cX12_judge 33 = .ok (.iload 4, 2) := by decide +kernel
theorem dX12_judge_35 : decode cX12_judge 35 = .ok (.iload_n 2, 1) := by decide +kernel
theorem dX12_judge_36 : decode cX12_judge 36 = .ok (.if_icmp .le 37, 3) := by decide +kernel
theorem dX12_judge_39 : decode cX12_judge 39 = .ok (.aload_n 0, 1) := by decide +kernel
theorem dX12_judge_40 : decode cX12_judge 40 = .ok (.iload 4, 2) := by decide +kernel
theorem dX12_judge_42 : decode cX12_judge 42 = .ok (.aload_n 0, 1) := by decide +kernel
theorem dX12_judge_43 : decode cX12_judge 43 = .ok (.getfield 7, 3) := by decide +kernel
theorem dX12_judge_46 : decode cX12_judge 46 = .ok (.iconst 0, 1) := by decide +kernel
theorem dX12_judge_47 : decode cX12_judge 47 = .ok (.iaload, 1) := by decide +kernel
theorem dX12_judge_48 : decode cX12_judge 48 = .ok (.invokevirtual 126, 3) := by decide +kernel
theorem dX12_judge_51 : decode cX12_judge 51 = .ok (.ifCond .eq 22, 3) := by decide +kernel
theorem dX12_judge_54 : decode cX12_judge 54 = .ok (.aload_n 0, 1) := by decide +kernel
theorem dX12_judge_55 : decode cX12_judge 55 = .ok (.iload 4, 2) := by decide +kernel
theorem dX12_judge_57 : decode cX12_judge 57 = .ok (.invokevirtual 309, 3) := by decide +kernel
theorem dX12_judge_60 : decode cX12_judge 60 = .ok (.aload_n 0, 1) := by decide +kernel
theorem dX12_judge_61 : decode cX12_judge 61 = .ok (.aload_n 0, 1) := by decide +kernel
theorem dX12_judge_62 : decode cX12_judge 62 = .ok (.getfield 64, 3) := by decide +kernel
theorem dX12_judge_65 : decode cX12_judge 65 = .ok (.iconst 0, 1) := by decide +kernel
theorem dX12_judge_66 : decode cX12_judge 66 = .ok (.iaload, 1) := by decide +kernel
theorem dX12_judge_67 : decode cX12_judge 67 = .ok (.invokevirtual 309, 3) := by decide +kernel
theorem dX12_judge_70 : decode cX12_judge 70 = .ok (.if_icmp .eq 7, 3) := by decide +kernel
theorem dX12_judge_73 : decode cX12_judge 73 = .ok (.iload_n 3, 1) := by decide +kernel
theorem dX12_judge_74 : decode cX12_judge 74 = .ok (.iconst 1, 1) := by decide +kernel
theorem dX12_judge_75 : decode cX12_judge 75 = .ok (.iadd, 1) := by decide +kernel
theorem dX12_judge_76 : decode cX12_judge 76 = .ok (.ireturn, 1) := by decide +kernel
theorem dX12_judge_77 : decode cX12_judge 77 = .ok (.aload_n 0, 1) := by decide +kernel
theorem dX12_judge_78 : decode cX12_judge 78 = .ok (.iload 4, 2) := by decide +kernel
theorem dX12_judge_80 : decode cX12_judge 80 = .ok (.iload_n 1, 1) := by decide +kernel
theorem dX12_judge_81 : decode cX12_judge 81 = .ok (.aload_n 0, 1) := by decide +kernel
theorem dX12_judge_82 : decode cX12_judge 82 = .ok (.getfield 7, 3) := by decide +kernel
theorem dX12_judge_85 : decode cX12_judge 85 = .ok (.iconst 0, 1) := by decide +kernel
theorem dX12_judge_86 : decode cX12_judge 86 = .ok (.iaload, 1) := by decide +kernel
theorem dX12_judge_87 : decode cX12_judge 87 = .ok (.invokevirtual 315, 3) := by decide +kernel
theorem dX12_judge_90 : decode cX12_judge 90 = .ok (.istore 5, 2) := by decide +kernel
theorem dX12_judge_92 : decode cX12_judge 92 = .ok (.aload_n 0, 1) := by decide +kernel
theorem dX12_judge_93 : decode cX12_judge 93 = .ok (.getfield 64, 3) := by decide +kernel
theorem dX12_judge_96 : decode cX12_judge 96 = .ok (.iconst 3, 1) := by decide +kernel
theorem dX12_judge_97 : decode cX12_judge 97 = .ok (.iload_n 3, 1) := by decide +kernel
theorem dX12_judge_98 : decode cX12_judge 98 = .ok (.imul, 1) := by decide +kernel
theorem dX12_judge_99 : decode cX12_judge 99 = .ok (.iconst 1, 1) := by decide +kernel
theorem dX12_judge_100 : decode cX12_judge 100 = .ok (.iadd, 1) := by decide +kernel
theorem dX12_judge_101 : decode cX12_judge 101 = .ok (.iaload, 1) := by decide +kernel
theorem dX12_judge_102 : decode cX12_judge 102 = .ok (.iload 5, 2) := by decide +kernel
theorem dX12_judge_104 : decode cX12_judge 104 = .ok (.if_icmp .ne 29, 3) := by decide +kernel
theorem dX12_judge_107 : decode cX12_judge 107 = .ok (.aload_n 0, 1) := by decide +kernel
theorem dX12_judge_108 : decode cX12_judge 108 = .ok (.getfield 64, 3) := by decide +kernel
theorem dX12_judge_111 : decode cX12_judge 111 = .ok (.iconst 3, 1) := by decide +kernel
theorem dX12_judge_112 : decode cX12_judge 112 = .ok (.iload_n 3, 1) := by decide +kernel
theorem dX12_judge_113 : decode cX12_judge 113 = .ok (.imul, 1) := by decide +kernel
theorem dX12_judge_114 : decode cX12_judge 114 = .ok (.iconst 2, 1) := by decide +kernel
theorem dX12_judge_115 : decode cX12_judge 115 = .ok (.iadd, 1) := by decide +kernel
theorem dX12_judge_116 : decode cX12_judge 116 = .ok (.iaload, 1) := by decide +kernel
theorem dX12_judge_117 : decode cX12_judge 117 = .ok (.iload 5, 2) := by decide +kernel
theorem dX12_judge_119 : decode cX12_judge 119 = .ok (.bipush 30, 2) := by decide +kernel
theorem dX12_judge_121 : decode cX12_judge 121 = .ok (.aload_n 0, 1) := by decide +kernel
theorem dX12_judge_122 : decode cX12_judge 122 = .ok (.iload 4, 2) := by decide +kernel
theorem dX12_judge_124 : decode cX12_judge 124 = .ok (.iconst 2, 1) := by decide +kernel
theorem dX12_judge_125 : decode cX12_judge 125 = .ok (.invokevirtual 99, 3) := by decide +kernel
theorem dX12_judge_128 : decode cX12_judge 128 = .ok (.imul, 1) := by decide +kernel
theorem dX12_judge_129 : decode cX12_judge 129 = .ok (.iadd, 1) := by decide +kernel
theorem dX12_judge_130 : decode cX12_judge 130 = .ok (.if_icmp .eq 7, 3) := by decide +kernel
theorem dX12_judge_133 : decode cX12_judge 133 = .ok (.iload_n 3, 1) := by decide +kernel
theorem dX12_judge_134 : decode cX12_judge 134 = .ok (.iconst 1, 1) := by decide +kernel
theorem dX12_judge_135 : decode cX12_judge 135 = .ok (.iadd, 1) := by decide +kernel
theorem dX12_judge_136 : decode cX12_judge 136 = .ok (.ireturn, 1) := by decide +kernel
theorem dX12_judge_137 : decode cX12_judge 137 = .ok (.aload_n 0, 1) := by decide +kernel
theorem dX12_judge_138 : decode cX12_judge 138 = .ok (.getfield 64, 3) := by decide +kernel
theorem dX12_judge_141 : decode cX12_judge 141 = .ok (.iconst 3, 1) := by decide +kernel
theorem dX12_judge_142 : decode cX12_judge 142 = .ok (.iload_n 3, 1) := by decide +kernel
theorem dX12_judge_143 : decode cX12_judge 143 = .ok (.imul, 1) := by decide +kernel
theorem dX12_judge_144 : decode cX12_judge 144 = .ok (.iconst 2, 1) := by decide +kernel
theorem dX12_judge_145 : decode cX12_judge 145 = .ok (.iadd, 1) := by decide +kernel
theorem dX12_judge_146 : decode cX12_judge 146 = .ok (.iaload, 1) := by decide +kernel
theorem dX12_judge_147 : decode cX12_judge 147 = .ok (.iload_n 1, 1) := by decide +kernel
theorem dX12_judge_148 : decode cX12_judge 148 = .ok (.if_icmp .le 16, 3) := by decide +kernel
theorem dX12_judge_151 : decode cX12_judge 151 = .ok (.aload_n 0, 1) := by decide +kernel
theorem dX12_judge_152 : decode cX12_judge 152 = .ok (.getfield 64, 3) := by decide +kernel
theorem dX12_judge_155 : decode cX12_judge 155 = .ok (.iconst 3, 1) := by decide +kernel
theorem dX12_judge_156 : decode cX12_judge 156 = .ok (.iload_n 3, 1) := by decide +kernel
theorem dX12_judge_157 : decode cX12_judge 157 = .ok (.imul, 1) := by decide +kernel
theorem dX12_judge_158 : decode cX12_judge 158 = .ok (.iconst 2, 1) := by decide +kernel
theorem dX12_judge_159 : decode cX12_judge 159 = .ok (.iadd, 1) := by decide +kernel
theorem dX12_judge_160 : decode cX12_judge 160 = .ok (.iaload, 1) := by decide +kernel
theorem dX12_judge_161 : decode cX12_judge 161 = .ok (.goto 4, 3) := by decide +kernel
theorem dX12_judge_164 : decode cX12_judge 164 = .ok (.iload_n 1, 1) := by decide +kernel
theorem dX12_judge_165 : decode cX12_judge 165 = .ok (.istore_n 1, 1) := by decide +kernel
theorem dX12_judge_166 : decode cX12_judge 166 = .ok (.iload 4, 2) := by decide +kernel
theorem dX12_judge_168 : decode cX12_judge 168 = .ok (.istore_n 2, 1) := by decide +kernel
theorem dX12_judge_169 : decode cX12_judge 169 = .ok (.iinc 3 1, 3) := by decide +kernel
theorem dX12_judge_172 : decode cX12_judge 172 = .ok (.goto (-166), 3) := by decide +kernel
theorem dX12_judge_175 : decode cX12_judge 175 = .ok (.iconst 0, 1) := by decide +kernel
theorem dX12_judge_176 : decode cX12_judge 176 = .ok (.ireturn, 1) := by decide +kernel
theorem dX12_isDrawn_0 : decode cX12_isDrawn 0 = .ok (.aload_n 0, 1) := by decide +kernel
theorem dX12_isDrawn_1 : decode cX12_isDrawn 1 = .ok (.iload_n 1, 1) := by decide +kernel
theorem dX12_isDrawn_2 : decode cX12_isDrawn 2 = .ok (.iconst 4, 1) := by decide +kernel
theorem dX12_isDrawn_3 : decode cX12_isDrawn 3 = .ok (.invokevirtual 99, 3) := by decide +kernel
theorem dX12_isDrawn_6 : decode cX12_isDrawn 6 = .ok (.iconst 1, 1) := by decide +kernel
theorem dX12_isDrawn_7 : decode cX12_isDrawn 7 = .ok (.if_icmp .ne 16, 3) := by decide +kernel
theorem dX12_isDrawn_10 : decode cX12_isDrawn 10 = .ok (.aload_n 0, 1) := by decide +kernel
theorem dX12_isDrawn_11 : decode cX12_isDrawn 11 = .ok (.iload_n 1, 1) := by decide +kernel
theorem dX12_isDrawn_12 : decode cX12_isDrawn 12 = .ok (.iload_n 2, 1) := by decide +kernel
theorem dX12_isDrawn_13 : decode cX12_isDrawn 13 = .ok (.invokevirtual 126, 3) := by decide +kernel
theorem dX12_isDrawn_16 : decode cX12_isDrawn 16 = .ok (.ifCond .eq 7, 3) := by decide +kernel
theorem dX12_isDrawn_19 : decode cX12_isDrawn 19 = .ok (.iconst 1, 1) := by decide +kernel
theorem dX12_isDrawn_20 : decode cX12_isDrawn 20 = .ok (.goto 4, 3) := by decide +kernel
theorem dX12_isDrawn_23 : decode cX12_isDrawn 23 = .ok (.iconst 0, 1) := by decide +kernel
theorem dX12_isDrawn_24 : decode cX12_isDrawn 24 = .ok (.ireturn, 1) := by decide +kernel
theorem dX12_waysOf_0 : decode cX12_waysOf 0 = .ok (.iconst 0, 1) := by decide +kernel
theorem dX12_waysOf_1 : decode cX12_waysOf 1 = .ok (.istore 4, 2) := by decide +kernel
theorem dX12_waysOf_3 : decode cX12_waysOf 3 = .ok (.iload 4, 2) := by decide +kernel
theorem dX12_waysOf_5 : decode cX12_waysOf 5 = .ok (.ldc 67, 2) := by decide +kernel
theorem dX12_waysOf_7 : decode cX12_waysOf 7 = .ok (.if_icmp .ge 17, 3) := by decide +kernel
theorem dX12_waysOf_10 : decode cX12_waysOf 10 = .ok (.aload_n 0, 1) := by decide +kernel
theorem dX12_waysOf_11 : decode cX12_waysOf 11 = .ok (.getfield 68, 3) := by decide +kernel
theorem dX12_waysOf_14 : decode cX12_waysOf 14 = .ok (.iload 4, 2) := by decide +kernel
theorem dX12_waysOf_16 : decode cX12_waysOf 16 = .ok (.iconst 0, 1) := by decide +kernel
theorem dX12_waysOf_17 : decode cX12_waysOf 17 = .ok (.iastore, 1) := by decide +kernel
theorem dX12_waysOf_18 : decode cX12_waysOf 18 = .ok (.iinc 4 1, 3) := by decide +kernel
theorem dX12_waysOf_21 : decode cX12_waysOf 21 = .ok (.goto (-18), 3) := by decide +kernel
theorem dX12_waysOf_24 : decode cX12_waysOf 24 = .ok (.aload_n 0, 1) := by decide +kernel
theorem dX12_waysOf_25 : decode cX12_waysOf 25 = .ok (.getfield 68, 3) := by decide +kernel
theorem dX12_waysOf_28 : decode cX12_waysOf 28 = .ok (.iconst 0, 1) := by decide +kernel
theorem dX12_waysOf_29 : decode cX12_waysOf 29 = .ok (.iconst 1, 1) := by decide +kernel
theorem dX12_waysOf_30 : decode cX12_waysOf 30 = .ok (.iastore, 1) := by decide +kernel
theorem dX12_waysOf_31 : decode cX12_waysOf 31 = .ok (.iconst 0, 1) := by decide +kernel
theorem dX12_waysOf_32 : decode cX12_waysOf 32 = .ok (.istore 4, 2) := by decide +kernel
theorem dX12_waysOf_34 : decode cX12_waysOf 34 = .ok (.iload 4, 2) := by decide +kernel
theorem dX12_waysOf_36 : decode cX12_waysOf 36 = .ok (.aload_n 0, 1) := by decide +kernel
theorem dX12_waysOf_37 : decode cX12_waysOf 37 = .ok (.getfield 7, 3) := by decide +kernel
theorem dX12_waysOf_40 : decode cX12_waysOf 40 = .ok (.iconst 5, 1) := by decide +kernel
theorem dX12_waysOf_41 : decode cX12_waysOf 41 = .ok (.iaload, 1) := by decide +kernel
theorem dX12_waysOf_42 : decode cX12_waysOf 42 = .ok (.if_icmp .ge 107, 3) := by decide +kernel
theorem dX12_waysOf_45 : decode cX12_waysOf 45 = .ok (.aload_n 0, 1) := by decide +kernel
theorem dX12_waysOf_46 : decode cX12_waysOf 46 = .ok (.iload 4, 2) := by decide +kernel
theorem dX12_waysOf_48 : decode cX12_waysOf 48 = .ok (.iload_n 2, 1) := by decide +kernel
theorem dX12_waysOf_49 : decode cX12_waysOf 49 = .ok (.invokevirtual 337, 3) := by decide +kernel
theorem dX12_waysOf_52 : decode cX12_waysOf 52 = .ok (.ifCond .eq 13, 3) := by decide +kernel
theorem dX12_waysOf_55 : decode cX12_waysOf 55 = .ok (.aload_n 0, 1) := by decide +kernel
theorem dX12_waysOf_56 : decode cX12_waysOf 56 = .ok (.iload 4, 2) := by decide +kernel
theorem dX12_waysOf_58 : decode cX12_waysOf 58 = .ok (.iconst 2, 1) := by decide +kernel
theorem dX12_waysOf_59 : decode cX12_waysOf 59 = .ok (.invokevirtual 99, 3) := by decide +kernel
theorem dX12_waysOf_62 : decode cX12_waysOf 62 = .ok (.goto 4, 3) := by decide +kernel
theorem dX12_waysOf_65 : decode cX12_waysOf 65 = .ok (.iconst (-1), 1) := by decide +kernel
theorem dX12_waysOf_66 : decode cX12_waysOf 66 = .ok (.istore 5, 2) := by decide +kernel
theorem dX12_waysOf_68 : decode cX12_waysOf 68 = .ok (.iload_n 1, 1) := by decide +kernel
theorem dX12_waysOf_69 : decode cX12_waysOf 69 = .ok (.istore 6, 2) := by decide +kernel
theorem dX12_waysOf_71 : decode cX12_waysOf 71 = .ok (.iload 6, 2) := by decide +kernel
theorem dX12_waysOf_73 : decode cX12_waysOf 73 = .ok (.ifCond .le 70, 3) := by decide +kernel
theorem dX12_waysOf_76 : decode cX12_waysOf 76 = .ok (.iload 5, 2) := by decide +kernel
theorem dX12_waysOf_78 : decode cX12_waysOf 78 = .ok (.ifCond .lt 65, 3) := by decide +kernel
theorem dX12_waysOf_81 : decode cX12_waysOf 81 = .ok (.sipush 3839, 3) := by decide +kernel
theorem dX12_waysOf_84 : decode cX12_waysOf 84 = .ok (.istore 7, 2) := by decide +kernel
theorem dX12_waysOf_86 : decode cX12_waysOf 86 = .ok (.iload 7, 2) := by decide +kernel
theorem dX12_waysOf_88 : decode cX12_waysOf 88 = .ok (.iload 5, 2) := by decide +kernel
theorem dX12_waysOf_90 : decode cX12_waysOf 90 = .ok (.if_icmp .lt 47, 3) := by decide +kernel
theorem dX12_waysOf_93 : decode cX12_waysOf 93 = .ok (.aload_n 0, 1) := by decide +kernel
theorem dX12_waysOf_94 : decode cX12_waysOf 94 = .ok (.getfield 68, 3) := by decide +kernel
theorem dX12_waysOf_97 : decode cX12_waysOf 97 = .ok (.sipush 3840, 3) := by decide +kernel
theorem dX12_waysOf_100 : decode cX12_waysOf 100 = .ok (.iload 6, 2) := by decide +kernel
theorem dX12_waysOf_102 : decode cX12_waysOf 102 = .ok (.imul, 1) := by decide +kernel
theorem dX12_waysOf_103 : decode cX12_waysOf 103 = .ok (.iload 7, 2) := by decide +kernel
theorem dX12_waysOf_105 : decode cX12_waysOf 105 = .ok (.iadd, 1) := by decide +kernel
theorem dX12_waysOf_106 : decode cX12_waysOf 106 = .ok (.dup2, 1) := by decide +kernel
theorem dX12_waysOf_107 : decode cX12_waysOf 107 = .ok (.iaload, 1) := by decide +kernel
theorem dX12_waysOf_108 : decode cX12_waysOf 108 = .ok (.aload_n 0, 1) := by decide +kernel
theorem dX12_waysOf_109 : decode cX12_waysOf 109 = .ok (.getfield 68, 3) := by decide +kernel
theorem dX12_waysOf_112 : decode cX12_waysOf 112 = .ok (.sipush 3840, 3) := by decide +kernel
theorem dX12_waysOf_115 : decode cX12_waysOf 115 = .ok (.iload 6, 2) := by decide +kernel
theorem dX12_waysOf_117 : decode cX12_waysOf 117 = .ok (.imul, 1) := by decide +kernel
theorem dX12_waysOf_118 : decode cX12_waysOf 118 = .ok (.sipush 3840, 3) := by decide +kernel
theorem dX12_waysOf_121 : decode cX12_waysOf 121 = .ok (.isub, 1) := by decide +kernel
theorem dX12_waysOf_122 : decode cX12_waysOf 122 = .ok (.iload 7, 2) := by decide +kernel
theorem dX12_waysOf_124 : decode cX12_waysOf 124 = .ok (.iadd, 1) := by decide +kernel
theorem dX12_waysOf_125 : decode cX12_waysOf 125 = .ok (.iload 5, 2) := by decide +kernel
theorem dX12_waysOf_127 : decode cX12_waysOf 127 = .ok (.isub, 1) := by decide +kernel
theorem dX12_waysOf_128 : decode cX12_waysOf 128 = .ok (.iaload, 1) := by decide +kernel
theorem dX12_waysOf_129 : decode cX12_waysOf 129 = .ok (.iadd, 1) := by decide +kernel
theorem dX12_waysOf_130 : decode cX12_waysOf 130 = .ok (.iastore, 1) := by decide +kernel
theorem dX12_waysOf_131 : decode cX12_waysOf 131 = .ok (.iinc 7 (-1), 3) := by decide +kernel
theorem dX12_waysOf_134 : decode cX12_waysOf 134 = .ok (.goto (-48), 3) := by decide +kernel
theorem dX12_waysOf_137 : decode cX12_waysOf 137 = .ok (.iinc 6 (-1), 3) := by decide +kernel
theorem dX12_waysOf_140 : decode cX12_waysOf 140 = .ok (.goto (-69), 3) := by decide +kernel
theorem dX12_waysOf_143 : decode cX12_waysOf 143 = .ok (.iinc 4 1, 3) := by decide +kernel
theorem dX12_waysOf_146 : decode cX12_waysOf 146 = .ok (.goto (-112), 3) := by decide +kernel
theorem dX12_waysOf_149 : decode cX12_waysOf 149 = .ok (.iconst 0, 1) := by decide +kernel
theorem dX12_waysOf_150 : decode cX12_waysOf 150 = .ok (.istore 4, 2) := by decide +kernel
theorem dX12_waysOf_152 : decode cX12_waysOf 152 = .ok (.iload_n 3, 1) := by decide +kernel
theorem dX12_waysOf_153 : decode cX12_waysOf 153 = .ok (.ifCond .ge 7, 3) := by decide +kernel
theorem dX12_waysOf_156 : decode cX12_waysOf 156 = .ok (.iconst 0, 1) := by decide +kernel
theorem dX12_waysOf_157 : decode cX12_waysOf 157 = .ok (.goto 4, 3) := by decide +kernel
theorem dX12_waysOf_160 : decode cX12_waysOf 160 = .ok (.iload_n 3, 1) := by decide +kernel
theorem dX12_waysOf_161 : decode cX12_waysOf 161 = .ok (.istore 5, 2) := by decide +kernel
theorem dX12_waysOf_163 : decode cX12_waysOf 163 = .ok (.iload 5, 2) := by decide +kernel
theorem dX12_waysOf_165 : decode cX12_waysOf 165 = .ok (.sipush 3840, 3) := by decide +kernel
theorem dX12_waysOf_168 : decode cX12_waysOf 168 = .ok (.if_icmp .ge 27, 3) := by decide +kernel
theorem dX12_waysOf_171 : decode cX12_waysOf 171 = .ok (.iload 4, 2) := by decide +kernel
theorem dX12_waysOf_173 : decode cX12_waysOf 173 = .ok (.aload_n 0, 1) := by decide +kernel
theorem dX12_waysOf_174 : decode cX12_waysOf 174 = .ok (.getfield 68, 3) := by decide +kernel
theorem dX12_waysOf_177 : decode cX12_waysOf 177 = .ok (.sipush 3840, 3) := by decide +kernel
