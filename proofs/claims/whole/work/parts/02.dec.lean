theorem dX0_init_0 : decode cX0_init 0 = .ok (.aload_n 0, 1) := by decide +kernel
theorem dX0_init_1 : decode cX0_init 1 = .ok (.iload_n 1, 1) := by decide +kernel
theorem dX0_init_2 : decode cX0_init 2 = .ok (.iload_n 2, 1) := by decide +kernel
theorem dX0_init_3 : decode cX0_init 3 = .ok (.invokespecial 1, 3) := by decide +kernel
theorem dX0_init_6 : decode cX0_init 6 = .ok (.aload_n 0, 1) := by decide +kernel
theorem dX0_init_7 : decode cX0_init 7 = .ok (.iload_n 3, 1) := by decide +kernel
theorem dX0_init_8 : decode cX0_init 8 = .ok (.putfield 7, 3) := by decide +kernel
theorem dX0_init_11 : decode cX0_init 11 = .ok (.aload_n 0, 1) := by decide +kernel
theorem dX0_init_12 : decode cX0_init 12 = .ok (.iload 4, 2) := by decide +kernel
theorem dX0_init_14 : decode cX0_init 14 = .ok (.putfield 13, 3) := by decide +kernel
theorem dX0_init_17 : decode cX0_init 17 = .ok (.aload_n 0, 1) := by decide +kernel
theorem dX0_init_18 : decode cX0_init 18 = .ok (.iload 5, 2) := by decide +kernel
theorem dX0_init_20 : decode cX0_init 20 = .ok (.putfield 16, 3) := by decide +kernel
theorem dX0_init_23 : decode cX0_init 23 = .ok (.return_, 1) := by decide +kernel
theorem dX0_weighs_0 : decode cX0_weighs 0 = .ok (.aload_n 2, 1) := by decide +kernel
theorem dX0_weighs_1 : decode cX0_weighs 1 = .ok (.bipush 20, 2) := by decide +kernel
theorem dX0_weighs_3 : decode cX0_weighs 3 = .ok (.invokevirtual 19, 3) := by decide +kernel
theorem dX0_weighs_6 : decode cX0_weighs 6 = .ok (.aload_n 0, 1) := by decide +kernel
theorem dX0_weighs_7 : decode cX0_weighs 7 = .ok (.iload_n 1, 1) := by decide +kernel
theorem dX0_weighs_8 : decode cX0_weighs 8 = .ok (.aload_n 2, 1) := by decide +kernel
theorem dX0_weighs_9 : decode cX0_weighs 9 = .ok (.invokespecial 25, 3) := by decide +kernel
theorem dX0_weighs_12 : decode cX0_weighs 12 = .ok (.aload_n 0, 1) := by decide +kernel
theorem dX0_weighs_13 : decode cX0_weighs 13 = .ok (.getfield 29, 3) := by decide +kernel
theorem dX0_weighs_16 : decode cX0_weighs 16 = .ok (.iadd, 1) := by decide +kernel
theorem dX0_weighs_17 : decode cX0_weighs 17 = .ok (.ireturn, 1) := by decide +kernel
theorem dX1_init_0 : decode cX1_init 0 = .ok (.aload_n 0, 1) := by decide +kernel
theorem dX1_init_1 : decode cX1_init 1 = .ok (.invokespecial 3, 3) := by decide +kernel
theorem dX1_init_4 : decode cX1_init 4 = .ok (.aload_n 0, 1) := by decide +kernel
theorem dX1_init_5 : decode cX1_init 5 = .ok (.iconst 0, 1) := by decide +kernel
theorem dX1_init_6 : decode cX1_init 6 = .ok (.putfield 9, 3) := by decide +kernel
theorem dX1_init_9 : decode cX1_init 9 = .ok (.aload_n 0, 1) := by decide +kernel
theorem dX1_init_10 : decode cX1_init 10 = .ok (.iconst 0, 1) := by decide +kernel
theorem dX1_init_11 : decode cX1_init 11 = .ok (.putfield 15, 3) := by decide +kernel
theorem dX1_init_14 : decode cX1_init 14 = .ok (.aload_n 0, 1) := by decide +kernel
theorem dX1_init_15 : decode cX1_init 15 = .ok (.bipush 8, 2) := by decide +kernel
theorem dX1_init_17 : decode cX1_init 17 = .ok (.newarray .int, 2) := by decide +kernel
theorem dX1_init_19 : decode cX1_init 19 = .ok (.putfield 18, 3) := by decide +kernel
theorem dX1_init_22 : decode cX1_init 22 = .ok (.aload_n 0, 1) := by decide +kernel
theorem dX1_init_23 : decode cX1_init 23 = .ok (.bipush 8, 2) := by decide +kernel
theorem dX1_init_25 : decode cX1_init 25 = .ok (.newarray .int, 2) := by decide +kernel
theorem dX1_init_27 : decode cX1_init 27 = .ok (.putfield 22, 3) := by decide +kernel
theorem dX1_init_30 : decode cX1_init 30 = .ok (.aload_n 0, 1) := by decide +kernel
theorem dX1_init_31 : decode cX1_init 31 = .ok (.iconst 0, 1) := by decide +kernel
theorem dX1_init_32 : decode cX1_init 32 = .ok (.putfield 25, 3) := by decide +kernel
theorem dX1_init_35 : decode cX1_init 35 = .ok (.aload_n 0, 1) := by decide +kernel
theorem dX1_init_36 : decode cX1_init 36 = .ok (.bipush 16, 2) := by decide +kernel
theorem dX1_init_38 : decode cX1_init 38 = .ok (.anewarray 28, 3) := by decide +kernel
theorem dX1_init_41 : decode cX1_init 41 = .ok (.putfield 30, 3) := by decide +kernel
theorem dX1_init_44 : decode cX1_init 44 = .ok (.aload_n 0, 1) := by decide +kernel
theorem dX1_init_45 : decode cX1_init 45 = .ok (.iconst 0, 1) := by decide +kernel
theorem dX1_init_46 : decode cX1_init 46 = .ok (.putfield 34, 3) := by decide +kernel
theorem dX1_init_49 : decode cX1_init 49 = .ok (.aload_n 0, 1) := by decide +kernel
theorem dX1_init_50 : decode cX1_init 50 = .ok (.bipush 24, 2) := by decide +kernel
theorem dX1_init_52 : decode cX1_init 52 = .ok (.anewarray 37, 3) := by decide +kernel
theorem dX1_init_55 : decode cX1_init 55 = .ok (.putfield 39, 3) := by decide +kernel
theorem dX1_init_58 : decode cX1_init 58 = .ok (.aload_n 0, 1) := by decide +kernel
theorem dX1_init_59 : decode cX1_init 59 = .ok (.iconst 0, 1) := by decide +kernel
theorem dX1_init_60 : decode cX1_init 60 = .ok (.putfield 43, 3) := by decide +kernel
theorem dX1_init_63 : decode cX1_init 63 = .ok (.aload_n 0, 1) := by decide +kernel
theorem dX1_init_64 : decode cX1_init 64 = .ok (.bipush 6, 2) := by decide +kernel
theorem dX1_init_66 : decode cX1_init 66 = .ok (.anewarray 46, 3) := by decide +kernel
theorem dX1_init_69 : decode cX1_init 69 = .ok (.putfield 48, 3) := by decide +kernel
theorem dX1_init_72 : decode cX1_init 72 = .ok (.aload_n 0, 1) := by decide +kernel
theorem dX1_init_73 : decode cX1_init 73 = .ok (.iconst 0, 1) := by decide +kernel
theorem dX1_init_74 : decode cX1_init 74 = .ok (.putfield 52, 3) := by decide +kernel
theorem dX1_init_77 : decode cX1_init 77 = .ok (.aload_n 0, 1) := by decide +kernel
theorem dX1_init_78 : decode cX1_init 78 = .ok (.bipush 16, 2) := by decide +kernel
theorem dX1_init_80 : decode cX1_init 80 = .ok (.anewarray 55, 3) := by decide +kernel
theorem dX1_init_83 : decode cX1_init 83 = .ok (.putfield 57, 3) := by decide +kernel
theorem dX1_init_86 : decode cX1_init 86 = .ok (.aload_n 0, 1) := by decide +kernel
theorem dX1_init_87 : decode cX1_init 87 = .ok (.bipush 16, 2) := by decide +kernel
theorem dX1_init_89 : decode cX1_init 89 = .ok (.newarray .int, 2) := by decide +kernel
theorem dX1_init_91 : decode cX1_init 91 = .ok (.putfield 61, 3) := by decide +kernel
theorem dX1_init_94 : decode cX1_init 94 = .ok (.aload_n 0, 1) := by decide +kernel
theorem dX1_init_95 : decode cX1_init 95 = .ok (.iconst 0, 1) := by decide +kernel
theorem dX1_init_96 : decode cX1_init 96 = .ok (.putfield 64, 3) := by decide +kernel
theorem dX1_init_99 : decode cX1_init 99 = .ok (.aload_n 0, 1) := by decide +kernel
theorem dX1_init_100 : decode cX1_init 100 = .ok (.bipush 12, 2) := by decide +kernel
theorem dX1_init_102 : decode cX1_init 102 = .ok (.newarray .int, 2) := by decide +kernel
theorem dX1_init_104 : decode cX1_init 104 = .ok (.putfield 67, 3) := by decide +kernel
theorem dX1_init_107 : decode cX1_init 107 = .ok (.aload_n 0, 1) := by decide +kernel
theorem dX1_init_108 : decode cX1_init 108 = .ok (.bipush 12, 2) := by decide +kernel
theorem dX1_init_110 : decode cX1_init 110 = .ok (.newarray .int, 2) := by decide +kernel
theorem dX1_init_112 : decode cX1_init 112 = .ok (.putfield 70, 3) := by decide +kernel
theorem dX1_init_115 : decode cX1_init 115 = .ok (.aload_n 0, 1) := by decide +kernel
theorem dX1_init_116 : decode cX1_init 116 = .ok (.bipush 12, 2) := by decide +kernel
theorem dX1_init_118 : decode cX1_init 118 = .ok (.newarray .int, 2) := by decide +kernel
theorem dX1_init_120 : decode cX1_init 120 = .ok (.putfield 73, 3) := by decide +kernel
theorem dX1_init_123 : decode cX1_init 123 = .ok (.aload_n 0, 1) := by decide +kernel
theorem dX1_init_124 : decode cX1_init 124 = .ok (.bipush 9, 2) := by decide +kernel
theorem dX1_init_126 : decode cX1_init 126 = .ok (.newarray .int, 2) := by decide +kernel
theorem dX1_init_128 : decode cX1_init 128 = .ok (.putfield 76, 3) := by decide +kernel
theorem dX1_init_131 : decode cX1_init 131 = .ok (.aload_n 0, 1) := by decide +kernel
theorem dX1_init_132 : decode cX1_init 132 = .ok (.new 79, 3) := by decide +kernel
theorem dX1_init_135 : decode cX1_init 135 = .ok (.dup, 1) := by decide +kernel
theorem dX1_init_136 : decode cX1_init 136 = .ok (.invokespecial 81, 3) := by decide +kernel
theorem dX1_init_139 : decode cX1_init 139 = .ok (.putfield 82, 3) := by decide +kernel
theorem dX1_init_142 : decode cX1_init 142 = .ok (.return_, 1) := by decide +kernel
theorem dX1_become_0 : decode cX1_become 0 = .ok (.aload_n 0, 1) := by decide +kernel
theorem dX1_become_1 : decode cX1_become 1 = .ok (.aload_n 1, 1) := by decide +kernel
theorem dX1_become_2 : decode cX1_become 2 = .ok (.getfield 9, 3) := by decide +kernel
theorem dX1_become_5 : decode cX1_become 5 = .ok (.putfield 9, 3) := by decide +kernel
theorem dX1_become_8 : decode cX1_become 8 = .ok (.aload_n 0, 1) := by decide +kernel
theorem dX1_become_9 : decode cX1_become 9 = .ok (.aload_n 1, 1) := by decide +kernel
theorem dX1_become_10 : decode cX1_become 10 = .ok (.getfield 15, 3) := by decide +kernel
theorem dX1_become_13 : decode cX1_become 13 = .ok (.putfield 15, 3) := by decide +kernel
theorem dX1_become_16 : decode cX1_become 16 = .ok (.aload_n 0, 1) := by decide +kernel
theorem dX1_become_17 : decode cX1_become 17 = .ok (.aload_n 1, 1) := by decide +kernel
theorem dX1_become_18 : decode cX1_become 18 = .ok (.getfield 25, 3) := by decide +kernel
theorem dX1_become_21 : decode cX1_become 21 = .ok (.putfield 25, 3) := by decide +kernel
theorem dX1_become_24 : decode cX1_become 24 = .ok (.aload_n 0, 1) := by decide +kernel
theorem dX1_become_25 : decode cX1_become 25 = .ok (.aload_n 1, 1) := by decide +kernel
theorem dX1_become_26 : decode cX1_become 26 = .ok (.getfield 34, 3) := by decide +kernel
theorem dX1_become_29 : decode cX1_become 29 = .ok (.putfield 34, 3) := by decide +kernel
theorem dX1_become_32 : decode cX1_become 32 = .ok (.aload_n 0, 1) := by decide +kernel
theorem dX1_become_33 : decode cX1_become 33 = .ok (.aload_n 1, 1) := by decide +kernel
theorem dX1_become_34 : decode cX1_become 34 = .ok (.getfield 43, 3) := by decide +kernel
theorem dX1_become_37 : decode cX1_become 37 = .ok (.putfield 43, 3) := by decide +kernel
theorem dX1_become_40 : decode cX1_become 40 = .ok (.aload_n 0, 1) := by decide +kernel
theorem dX1_become_41 : decode cX1_become 41 = .ok (.aload_n 1, 1) := by decide +kernel
theorem dX1_become_42 : decode cX1_become 42 = .ok (.getfield 52, 3) := by decide +kernel
theorem dX1_become_45 : decode cX1_become 45 = .ok (.putfield 52, 3) := by decide +kernel
theorem dX1_become_48 : decode cX1_become 48 = .ok (.aload_n 0, 1) := by decide +kernel
theorem dX1_become_49 : decode cX1_become 49 = .ok (.aload_n 1, 1) := by decide +kernel
theorem dX1_become_50 : decode cX1_become 50 = .ok (.getfield 64, 3) := by decide +kernel
theorem dX1_become_53 : decode cX1_become 53 = .ok (.putfield 64, 3) := by decide +kernel
theorem dX1_become_56 : decode cX1_become 56 = .ok (.iconst 0, 1) := by decide +kernel
theorem dX1_become_57 : decode cX1_become 57 = .ok (.istore_n 2, 1) := by decide +kernel
theorem dX1_become_58 : decode cX1_become 58 = .ok (.iload_n 2, 1) := by decide +kernel
theorem dX1_become_59 : decode cX1_become 59 = .ok (.aload_n 0, 1) := by decide +kernel
theorem dX1_become_60 : decode cX1_become 60 = .ok (.getfield 15, 3) := by decide +kernel
theorem dX1_become_63 : decode cX1_become 63 = .ok (.if_icmp .ge 33, 3) := by decide +kernel
theorem dX1_become_66 : decode cX1_become 66 = .ok (.aload_n 0, 1) := by decide +kernel
theorem dX1_become_67 : decode cX1_become 67 = .ok (.getfield 18, 3) := by decide +kernel
theorem dX1_become_70 : decode cX1_become 70 = .ok (.iload_n 2, 1) := by decide +kernel
theorem dX1_become_71 : decode cX1_become 71 = .ok (.aload_n 1, 1) := by decide +kernel
theorem dX1_become_72 : decode cX1_become 72 = .ok (.getfield 18, 3) := by decide +kernel
theorem dX1_become_75 : decode cX1_become 75 = .ok (.iload_n 2, 1) := by decide +kernel
theorem dX1_become_76 : decode cX1_become 76 = .ok (.iaload, 1) := by decide +kernel
theorem dX1_become_77 : decode cX1_become 77 = .ok (.iastore, 1) := by decide +kernel
theorem dX1_become_78 : decode cX1_become 78 = .ok (.aload_n 0, 1) := by decide +kernel
theorem dX1_become_79 : decode cX1_become 79 = .ok (.getfield 22, 3) := by decide +kernel
theorem dX1_become_82 : decode cX1_become 82 = .ok (.iload_n 2, 1) := by decide +kernel
theorem dX1_become_83 : decode cX1_become 83 = .ok (.aload_n 1, 1) := by decide +kernel
theorem dX1_become_84 : decode cX1_become 84 = .ok (.getfield 22, 3) := by decide +kernel
theorem dX1_become_87 : decode cX1_become 87 = .ok (.iload_n 2, 1) := by decide +kernel
theorem dX1_become_88 : decode cX1_become 88 = .ok (.iaload, 1) := by decide +kernel
theorem dX1_become_89 : decode cX1_become 89 = .ok (.iastore, 1) := by decide +kernel
theorem dX1_become_90 : decode cX1_become 90 = .ok (.iinc 2 1, 3) := by decide +kernel
theorem dX1_become_93 : decode cX1_become 93 = .ok (.goto (-35), 3) := by decide +kernel
theorem dX1_become_96 : decode cX1_become 96 = .ok (.iconst 0, 1) := by decide +kernel
theorem dX1_become_97 : decode cX1_become 97 = .ok (.istore_n 2, 1) := by decide +kernel
theorem dX1_become_98 : decode cX1_become 98 = .ok (.iload_n 2, 1) := by decide +kernel
theorem dX1_become_99 : decode cX1_become 99 = .ok (.aload_n 0, 1) := by decide +kernel
theorem dX1_become_100 : decode cX1_become 100 = .ok (.getfield 25, 3) := by decide +kernel
theorem dX1_become_103 : decode cX1_become 103 = .ok (.if_icmp .ge 21, 3) := by decide +kernel
theorem dX1_become_106 : decode cX1_become 106 = .ok (.aload_n 0, 1) := by decide +kernel
theorem dX1_become_107 : decode cX1_become 107 = .ok (.getfield 30, 3) := by decide +kernel
theorem dX1_become_110 : decode cX1_become 110 = .ok (.iload_n 2, 1) := by decide +kernel
theorem dX1_become_111 : decode cX1_become 111 = .ok (.aload_n 1, 1) := by decide +kernel
theorem dX1_become_112 : decode cX1_become 112 = .ok (.getfield 30, 3) := by decide +kernel
theorem dX1_become_115 : decode cX1_become 115 = .ok (.iload_n 2, 1) := by decide +kernel
theorem dX1_become_116 : decode cX1_become 116 = .ok (.aaload, 1) := by decide +kernel
theorem dX1_become_117 : decode cX1_become 117 = .ok (.aastore, 1) := by decide +kernel
theorem dX1_become_118 : decode cX1_become 118 = .ok (.iinc 2 1, 3) := by decide +kernel
theorem dX1_become_121 : decode cX1_become 121 = .ok (.goto (-23), 3) := by decide +kernel
theorem dX1_become_124 : decode cX1_become 124 = .ok (.iconst 0, 1) := by decide +kernel
theorem dX1_become_125 : decode cX1_become 125 = .ok (.istore_n 2, 1) := by decide +kernel
theorem dX1_become_126 : decode cX1_become 126 = .ok (.iload_n 2, 1) := by decide +kernel
theorem dX1_become_127 : decode cX1_become 127 = .ok (.aload_n 0, 1) := by decide +kernel
theorem dX1_become_128 : decode cX1_become 128 = .ok (.getfield 34, 3) := by decide +kernel
theorem dX1_become_131 : decode cX1_become 131 = .ok (.if_icmp .ge 21, 3) := by decide +kernel
theorem dX1_become_134 : decode cX1_become 134 = .ok (.aload_n 0, 1) := by decide +kernel
theorem dX1_become_135 : decode cX1_become 135 = .ok (.getfield 39, 3) := by decide +kernel
theorem dX1_become_138 : decode cX1_become 138 = .ok (.iload_n 2, 1) := by decide +kernel
theorem dX1_become_139 : decode cX1_become 139 = .ok (.aload_n 1, 1) := by decide +kernel
theorem dX1_become_140 : decode cX1_become 140 = .ok (.getfield 39, 3) := by decide +kernel
theorem dX1_become_143 : decode cX1_become 143 = .ok (.iload_n 2, 1) := by decide +kernel
theorem dX1_become_144 : decode cX1_become 144 = .ok (.aaload, 1) := by decide +kernel
theorem dX1_become_145 : decode cX1_become 145 = .ok (.aastore, 1) := by decide +kernel
theorem dX1_become_146 : decode cX1_become 146 = .ok (.iinc 2 1, 3) := by decide +kernel
theorem dX1_become_149 : decode cX1_become 149 = .ok (.goto (-23), 3) := by decide +kernel
theorem dX1_become_152 : decode cX1_become 152 = .ok (.iconst 0, 1) := by decide +kernel
theorem dX1_become_153 : decode cX1_become 153 = .ok (.istore_n 2, 1) := by decide +kernel
theorem dX1_become_154 : decode cX1_become 154 = .ok (.iload_n 2, 1) := by decide +kernel
theorem dX1_become_155 : decode cX1_become 155 = .ok (.aload_n 0, 1) := by decide +kernel
theorem dX1_become_156 : decode cX1_become 156 = .ok (.getfield 43, 3) := by decide +kernel
theorem dX1_become_159 : decode cX1_become 159 = .ok (.if_icmp .ge 21, 3) := by decide +kernel
theorem dX1_become_162 : decode cX1_become 162 = .ok (.aload_n 0, 1) := by decide +kernel
theorem dX1_become_163 : decode cX1_become 163 = .ok (.getfield 48, 3) := by decide +kernel
theorem dX1_become_166 : decode cX1_become 166 = .ok (.iload_n 2, 1) := by decide +kernel
theorem dX1_become_167 : decode cX1_become 167 = .ok (.aload_n 1, 1) := by decide +kernel
theorem dX1_become_168 : decode cX1_become 168 = .ok (.getfield 48, 3) := by decide +kernel
theorem dX1_become_171 : decode cX1_become 171 = .ok (.iload_n 2, 1) := by decide +kernel
theorem dX1_become_172 : decode cX1_become 172 = .ok (.aaload, 1) := by decide +kernel
theorem dX1_become_173 : decode cX1_become 173 = .ok (.aastore, 1) := by decide +kernel
theorem dX1_become_174 : decode cX1_become 174 = .ok (.iinc 2 1, 3) := by decide +kernel
theorem dX1_become_177 : decode cX1_become 177 = .ok (.goto (-23), 3) := by decide +kernel
theorem dX1_become_180 : decode cX1_become 180 = .ok (.iconst 0, 1) := by decide +kernel
theorem dX1_become_181 : decode cX1_become 181 = .ok (.istore_n 2, 1) := by decide +kernel
theorem dX1_become_182 : decode cX1_become 182 = .ok (.iload_n 2, 1) := by decide +kernel
theorem dX1_become_183 : decode cX1_become 183 = .ok (.aload_n 0, 1) := by decide +kernel
theorem dX1_become_184 : decode cX1_become 184 = .ok (.getfield 52, 3) := by decide +kernel
theorem dX1_become_187 : decode cX1_become 187 = .ok (.if_icmp .ge 33, 3) := by decide +kernel
theorem dX1_become_190 : decode cX1_become 190 = .ok (.aload_n 0, 1) := by decide +kernel
theorem dX1_become_191 : decode cX1_become 191 = .ok (.getfield 57, 3) := by decide +kernel
theorem dX1_become_194 : decode cX1_become 194 = .ok (.iload_n 2, 1) := by decide +kernel
theorem dX1_become_195 : decode cX1_become 195 = .ok (.aload_n 1, 1) := by decide +kernel
theorem dX1_become_196 : decode cX1_become 196 = .ok (.getfield 57, 3) := by decide +kernel
theorem dX1_become_199 : decode cX1_become 199 = .ok (.iload_n 2, 1) := by decide +kernel
theorem dX1_become_200 : decode cX1_become 200 = .ok (.aaload, 1) := by decide +kernel
theorem dX1_become_201 : decode cX1_become 201 = .ok (.aastore, 1) := by decide +kernel
theorem dX1_become_202 : decode cX1_become 202 = .ok (.aload_n 0, 1) := by decide +kernel
theorem dX1_become_203 : decode cX1_become 203 = .ok (.getfield 61, 3) := by decide +kernel
theorem dX1_become_206 : decode cX1_become 206 = .ok (.iload_n 2, 1) := by decide +kernel
theorem dX1_become_207 : decode cX1_become 207 = .ok (.aload_n 1, 1) := by decide +kernel
theorem dX1_become_208 : decode cX1_become 208 = .ok (.getfield 61, 3) := by decide +kernel
theorem dX1_become_211 : decode cX1_become 211 = .ok (.iload_n 2, 1) := by decide +kernel
theorem dX1_become_212 : decode cX1_become 212 = .ok (.iaload, 1) := by decide +kernel
theorem dX1_become_213 : decode cX1_become 213 = .ok (.iastore, 1) := by decide +kernel
theorem dX1_become_214 : decode cX1_become 214 = .ok (.iinc 2 1, 3) := by decide +kernel
theorem dX1_become_217 : decode cX1_become 217 = .ok (.goto (-35), 3) := by decide +kernel
theorem dX1_become_220 : decode cX1_become 220 = .ok (.iconst 0, 1) := by decide +kernel
theorem dX1_become_221 : decode cX1_become 221 = .ok (.istore_n 2, 1) := by decide +kernel
theorem dX1_become_222 : decode cX1_become 222 = .ok (.iload_n 2, 1) := by decide +kernel
theorem dX1_become_223 : decode cX1_become 223 = .ok (.aload_n 0, 1) := by decide +kernel
theorem dX1_become_224 : decode cX1_become 224 = .ok (.getfield 64, 3) := by decide +kernel
theorem dX1_become_227 : decode cX1_become 227 = .ok (.if_icmp .ge 45, 3) := by decide +kernel
theorem dX1_become_230 : decode cX1_become 230 = .ok (.aload_n 0, 1) := by decide +kernel
theorem dX1_become_231 : decode cX1_become 231 = .ok (.getfield 67, 3) := by decide +kernel
theorem dX1_become_234 : decode cX1_become 234 = .ok (.iload_n 2, 1) := by decide +kernel
theorem dX1_become_235 : decode cX1_become 235 = .ok (.aload_n 1, 1) := by decide +kernel
theorem dX1_become_236 : decode cX1_become 236 = .ok (.getfield 67, 3) := by decide +kernel
theorem dX1_become_239 : decode cX1_become 239 = .ok (.iload_n 2, 1) := by decide +kernel
theorem dX1_become_240 : decode cX1_become 240 = .ok (.iaload, 1) := by decide +kernel
theorem dX1_become_241 : decode cX1_become 241 = .ok (.iastore, 1) := by decide +kernel
theorem dX1_become_242 : decode cX1_become 242 = .ok (.aload_n 0, 1) := by decide +kernel
theorem dX1_become_243 : decode cX1_become 243 = .ok (.getfield 70, 3) := by decide +kernel
theorem dX1_become_246 : decode cX1_become 246 = .ok (.iload_n 2, 1) := by decide +kernel
theorem dX1_become_247 : decode cX1_become 247 = .ok (.aload_n 1, 1) := by decide +kernel
theorem dX1_become_248 : decode cX1_become 248 = .ok (.getfield 70, 3) := by decide +kernel
theorem dX1_become_251 : decode cX1_become 251 = .ok (.iload_n 2, 1) := by decide +kernel
theorem dX1_become_252 : decode cX1_become 252 = .ok (.iaload, 1) := by decide +kernel
theorem dX1_become_253 : decode cX1_become 253 = .ok (.iastore, 1) := by decide +kernel
theorem dX1_become_254 : decode cX1_become 254 = .ok (.aload_n 0, 1) := by decide +kernel
theorem dX1_become_255 : decode cX1_become 255 = .ok (.getfield 73, 3) := by decide +kernel
theorem dX1_become_258 : decode cX1_become 258 = .ok (.iload_n 2, 1) := by decide +kernel
theorem dX1_become_259 : decode cX1_become 259 = .ok (.aload_n 1, 1) := by decide +kernel
theorem dX1_become_260 : decode cX1_become 260 = .ok (.getfield 73, 3) := by decide +kernel
theorem dX1_become_263 : decode cX1_become 263 = .ok (.iload_n 2, 1) := by decide +kernel
theorem dX1_become_264 : decode cX1_become 264 = .ok (.iaload, 1) := by decide +kernel
theorem dX1_become_265 : decode cX1_become 265 = .ok (.iastore, 1) := by decide +kernel
theorem dX1_become_266 : decode cX1_become 266 = .ok (.iinc 2 1, 3) := by decide +kernel
theorem dX1_become_269 : decode cX1_become 269 = .ok (.goto (-47), 3) := by decide +kernel
theorem dX1_become_272 : decode cX1_become 272 = .ok (.return_, 1) := by decide +kernel
theorem dX1_isPerson_0 : decode cX1_isPerson 0 = .ok (.iload_n 1, 1) := by decide +kernel
theorem dX1_isPerson_1 : decode cX1_isPerson 1 = .ok (.ifCond .lt 15, 3) := by decide +kernel
theorem dX1_isPerson_4 : decode cX1_isPerson 4 = .ok (.iload_n 1, 1) := by decide +kernel
theorem dX1_isPerson_5 : decode cX1_isPerson 5 = .ok (.aload_n 0, 1) := by decide +kernel
theorem dX1_isPerson_6 : decode cX1_isPerson 6 = .ok (.getfield 15, 3) := by decide +kernel
theorem dX1_isPerson_9 : decode cX1_isPerson 9 = .ok (.if_icmp .ge 7, 3) := by decide +kernel
theorem dX1_isPerson_12 : decode cX1_isPerson 12 = .ok (.iconst 1, 1) := by decide +kernel
theorem dX1_isPerson_13 : decode cX1_isPerson 13 = .ok (.goto 4, 3) := by decide +kernel
theorem dX1_isPerson_16 : decode cX1_isPerson 16 = .ok (.iconst 0, 1) := by decide +kernel
theorem dX1_isPerson_17 : decode cX1_isPerson 17 = .ok (.ireturn, 1) := by decide +kernel
theorem dX1_isDeed_0 : decode cX1_isDeed 0 = .ok (.iload_n 1, 1) := by decide +kernel
theorem dX1_isDeed_1 : decode cX1_isDeed 1 = .ok (.ifCond .lt 15, 3) := by decide +kernel
theorem dX1_isDeed_4 : decode cX1_isDeed 4 = .ok (.iload_n 1, 1) := by decide +kernel
theorem dX1_isDeed_5 : decode cX1_isDeed 5 = .ok (.aload_n 0, 1) := by decide +kernel
theorem dX1_isDeed_6 : decode cX1_isDeed 6 = .ok (.getfield 25, 3) := by decide +kernel
theorem dX1_isDeed_9 : decode cX1_isDeed 9 = .ok (.if_icmp .ge 7, 3) := by decide +kernel
theorem dX1_isDeed_12 : decode cX1_isDeed 12 = .ok (.iconst 1, 1) := by decide +kernel
theorem dX1_isDeed_13 : decode cX1_isDeed 13 = .ok (.goto 4, 3) := by decide +kernel
theorem dX1_isDeed_16 : decode cX1_isDeed 16 = .ok (.iconst 0, 1) := by decide +kernel
theorem dX1_isDeed_17 : decode cX1_isDeed 17 = .ok (.ireturn, 1) := by decide +kernel
theorem dX1_isFinding_0 : decode cX1_isFinding 0 = .ok (.iload_n 1, 1) := by decide +kernel
theorem dX1_isFinding_1 : decode cX1_isFinding 1 = .ok (.ifCond .lt 15, 3) := by decide +kernel
theorem dX1_isFinding_4 : decode cX1_isFinding 4 = .ok (.iload_n 1, 1) := by decide +kernel
theorem dX1_isFinding_5 : decode cX1_isFinding 5 = .ok (.aload_n 0, 1) := by decide +kernel
theorem dX1_isFinding_6 : decode cX1_isFinding 6 = .ok (.getfield 34, 3) := by decide +kernel
theorem dX1_isFinding_9 : decode cX1_isFinding 9 = .ok (.if_icmp .ge 7, 3) := by decide +kernel
theorem dX1_isFinding_12 : decode cX1_isFinding 12 = .ok (.iconst 1, 1) := by decide +kernel
theorem dX1_isFinding_13 : decode cX1_isFinding 13 = .ok (.goto 4, 3) := by decide +kernel
theorem dX1_isFinding_16 : decode cX1_isFinding 16 = .ok (.iconst 0, 1) := by decide +kernel
theorem dX1_isFinding_17 : decode cX1_isFinding 17 = .ok (.ireturn, 1) := by decide +kernel
theorem dX1_isLaw_0 : decode cX1_isLaw 0 = .ok (.iload_n 1, 1) := by decide +kernel
theorem dX1_isLaw_1 : decode cX1_isLaw 1 = .ok (.ifCond .lt 15, 3) := by decide +kernel
theorem dX1_isLaw_4 : decode cX1_isLaw 4 = .ok (.iload_n 1, 1) := by decide +kernel
theorem dX1_isLaw_5 : decode cX1_isLaw 5 = .ok (.aload_n 0, 1) := by decide +kernel
theorem dX1_isLaw_6 : decode cX1_isLaw 6 = .ok (.getfield 43, 3) := by decide +kernel
theorem dX1_isLaw_9 : decode cX1_isLaw 9 = .ok (.if_icmp .ge 7, 3) := by decide +kernel
theorem dX1_isLaw_12 : decode cX1_isLaw 12 = .ok (.iconst 1, 1) := by decide +kernel
theorem dX1_isLaw_13 : decode cX1_isLaw 13 = .ok (.goto 4, 3) := by decide +kernel
theorem dX1_isLaw_16 : decode cX1_isLaw 16 = .ok (.iconst 0, 1) := by decide +kernel
theorem dX1_isLaw_17 : decode cX1_isLaw 17 = .ok (.ireturn, 1) := by decide +kernel
theorem dX1_isTerm_0 : decode cX1_isTerm 0 = .ok (.iload_n 1, 1) := by decide +kernel
theorem dX1_isTerm_1 : decode cX1_isTerm 1 = .ok (.ifCond .lt 15, 3) := by decide +kernel
theorem dX1_isTerm_4 : decode cX1_isTerm 4 = .ok (.iload_n 1, 1) := by decide +kernel
theorem dX1_isTerm_5 : decode cX1_isTerm 5 = .ok (.aload_n 0, 1) := by decide +kernel
theorem dX1_isTerm_6 : decode cX1_isTerm 6 = .ok (.getfield 52, 3) := by decide +kernel
theorem dX1_isTerm_9 : decode cX1_isTerm 9 = .ok (.if_icmp .ge 7, 3) := by decide +kernel
theorem dX1_isTerm_12 : decode cX1_isTerm 12 = .ok (.iconst 1, 1) := by decide +kernel
theorem dX1_isTerm_13 : decode cX1_isTerm 13 = .ok (.goto 4, 3) := by decide +kernel
theorem dX1_isTerm_16 : decode cX1_isTerm 16 = .ok (.iconst 0, 1) := by decide +kernel
theorem dX1_isTerm_17 : decode cX1_isTerm 17 = .ok (.ireturn, 1) := by decide +kernel
theorem dX1_addPerson_0 : decode cX1_addPerson 0 = .ok (.aload_n 0, 1) := by decide +kernel
theorem dX1_addPerson_1 : decode cX1_addPerson 1 = .ok (.getfield 18, 3) := by decide +kernel
theorem dX1_addPerson_4 : decode cX1_addPerson 4 = .ok (.aload_n 0, 1) := by decide +kernel
theorem dX1_addPerson_5 : decode cX1_addPerson 5 = .ok (.getfield 15, 3) := by decide +kernel
theorem dX1_addPerson_8 : decode cX1_addPerson 8 = .ok (.iload_n 1, 1) := by decide +kernel
theorem dX1_addPerson_9 : decode cX1_addPerson 9 = .ok (.iastore, 1) := by decide +kernel
theorem dX1_addPerson_10 : decode cX1_addPerson 10 = .ok (.aload_n 0, 1) := by decide +kernel
theorem dX1_addPerson_11 : decode cX1_addPerson 11 = .ok (.getfield 22, 3) := by decide +kernel
theorem dX1_addPerson_14 : decode cX1_addPerson 14 = .ok (.aload_n 0, 1) := by decide +kernel
theorem dX1_addPerson_15 : decode cX1_addPerson 15 = .ok (.getfield 15, 3) := by decide +kernel
theorem dX1_addPerson_18 : decode cX1_addPerson 18 = .ok (.iconst 0, 1) := by decide +kernel
theorem dX1_addPerson_19 : decode cX1_addPerson 19 = .ok (.iastore, 1) := by decide +kernel
theorem dX1_addPerson_20 : decode cX1_addPerson 20 = .ok (.aload_n 0, 1) := by decide +kernel
theorem dX1_addPerson_21 : decode cX1_addPerson 21 = .ok (.dup, 1) := by decide +kernel
theorem dX1_addPerson_22 : decode cX1_addPerson 22 = .ok (.getfield 15, 3) := by decide +kernel
theorem dX1_addPerson_25 : decode cX1_addPerson 25 = .ok (.dup_x1, 1) := by decide +kernel
theorem dX1_addPerson_26 : decode cX1_addPerson 26 = .ok (.iconst 1, 1) := by decide +kernel
theorem dX1_addPerson_27 : decode cX1_addPerson 27 = .ok (.iadd, 1) := by decide +kernel
theorem dX1_addPerson_28 : decode cX1_addPerson 28 = .ok (.putfield 15, 3) := by decide +kernel
theorem dX1_addPerson_31 : decode cX1_addPerson 31 = .ok (.ireturn, 1) := by decide +kernel
theorem dX1_addDeed_0 : decode cX1_addDeed 0 = .ok (.aload_n 0, 1) := by decide +kernel
theorem dX1_addDeed_1 : decode cX1_addDeed 1 = .ok (.iload_n 1, 1) := by decide +kernel
theorem dX1_addDeed_2 : decode cX1_addDeed 2 = .ok (.iload_n 3, 1) := by decide +kernel
theorem dX1_addDeed_3 : decode cX1_addDeed 3 = .ok (.invokevirtual 86, 3) := by decide +kernel
theorem dX1_addDeed_6 : decode cX1_addDeed 6 = .ok (.istore 4, 2) := by decide +kernel
theorem dX1_addDeed_8 : decode cX1_addDeed 8 = .ok (.aload_n 0, 1) := by decide +kernel
theorem dX1_addDeed_9 : decode cX1_addDeed 9 = .ok (.getfield 30, 3) := by decide +kernel
theorem dX1_addDeed_12 : decode cX1_addDeed 12 = .ok (.aload_n 0, 1) := by decide +kernel
theorem dX1_addDeed_13 : decode cX1_addDeed 13 = .ok (.getfield 25, 3) := by decide +kernel
theorem dX1_addDeed_16 : decode cX1_addDeed 16 = .ok (.iload 4, 2) := by decide +kernel
theorem dX1_addDeed_18 : decode cX1_addDeed 18 = .ok (.bipush 18, 2) := by decide +kernel
theorem dX1_addDeed_20 : decode cX1_addDeed 20 = .ok (.if_icmp .ge 22, 3) := by decide +kernel
theorem dX1_addDeed_23 : decode cX1_addDeed 23 = .ok (.new 90, 3) := by decide +kernel
theorem dX1_addDeed_26 : decode cX1_addDeed 26 = .ok (.dup, 1) := by decide +kernel
theorem dX1_addDeed_27 : decode cX1_addDeed 27 = .ok (.aload_n 0, 1) := by decide +kernel
theorem dX1_addDeed_28 : decode cX1_addDeed 28 = .ok (.getfield 25, 3) := by decide +kernel
theorem dX1_addDeed_31 : decode cX1_addDeed 31 = .ok (.iload_n 2, 1) := by decide +kernel
theorem dX1_addDeed_32 : decode cX1_addDeed 32 = .ok (.iload_n 1, 1) := by decide +kernel
theorem dX1_addDeed_33 : decode cX1_addDeed 33 = .ok (.iload_n 3, 1) := by decide +kernel
theorem dX1_addDeed_34 : decode cX1_addDeed 34 = .ok (.iload 4, 2) := by decide +kernel
theorem dX1_addDeed_36 : decode cX1_addDeed 36 = .ok (.invokespecial 92, 3) := by decide +kernel
theorem dX1_addDeed_39 : decode cX1_addDeed 39 = .ok (.goto 19, 3) := by decide +kernel
theorem dX1_addDeed_42 : decode cX1_addDeed 42 = .ok (.new 28, 3) := by decide +kernel
theorem dX1_addDeed_45 : decode cX1_addDeed 45 = .ok (.dup, 1) := by decide +kernel
theorem dX1_addDeed_46 : decode cX1_addDeed 46 = .ok (.aload_n 0, 1) := by decide +kernel
theorem dX1_addDeed_47 : decode cX1_addDeed 47 = .ok (.getfield 25, 3) := by decide +kernel
theorem dX1_addDeed_50 : decode cX1_addDeed 50 = .ok (.iload_n 2, 1) := by decide +kernel
theorem dX1_addDeed_51 : decode cX1_addDeed 51 = .ok (.iload_n 1, 1) := by decide +kernel
theorem dX1_addDeed_52 : decode cX1_addDeed 52 = .ok (.iload_n 3, 1) := by decide +kernel
theorem dX1_addDeed_53 : decode cX1_addDeed 53 = .ok (.iload 4, 2) := by decide +kernel
theorem dX1_addDeed_55 : decode cX1_addDeed 55 = .ok (.invokespecial 95, 3) := by decide +kernel
theorem dX1_addDeed_58 : decode cX1_addDeed 58 = .ok (.aastore, 1) := by decide +kernel
theorem dX1_addDeed_59 : decode cX1_addDeed 59 = .ok (.aload_n 0, 1) := by decide +kernel
theorem dX1_addDeed_60 : decode cX1_addDeed 60 = .ok (.dup, 1) := by decide +kernel
theorem dX1_addDeed_61 : decode cX1_addDeed 61 = .ok (.getfield 25, 3) := by decide +kernel
theorem dX1_addDeed_64 : decode cX1_addDeed 64 = .ok (.dup_x1, 1) := by decide +kernel
theorem dX1_addDeed_65 : decode cX1_addDeed 65 = .ok (.iconst 1, 1) := by decide +kernel
theorem dX1_addDeed_66 : decode cX1_addDeed 66 = .ok (.iadd, 1) := by decide +kernel
theorem dX1_addDeed_67 : decode cX1_addDeed 67 = .ok (.putfield 25, 3) := by decide +kernel
theorem dX1_addDeed_70 : decode cX1_addDeed 70 = .ok (.ireturn, 1) := by decide +kernel
theorem dX1_addFinding_0 : decode cX1_addFinding 0 = .ok (.aload_n 0, 1) := by decide +kernel
theorem dX1_addFinding_1 : decode cX1_addFinding 1 = .ok (.getfield 39, 3) := by decide +kernel
theorem dX1_addFinding_4 : decode cX1_addFinding 4 = .ok (.aload_n 0, 1) := by decide +kernel
theorem dX1_addFinding_5 : decode cX1_addFinding 5 = .ok (.getfield 34, 3) := by decide +kernel
theorem dX1_addFinding_8 : decode cX1_addFinding 8 = .ok (.new 37, 3) := by decide +kernel
theorem dX1_addFinding_11 : decode cX1_addFinding 11 = .ok (.dup, 1) := by decide +kernel
theorem dX1_addFinding_12 : decode cX1_addFinding 12 = .ok (.aload_n 0, 1) := by decide +kernel
theorem dX1_addFinding_13 : decode cX1_addFinding 13 = .ok (.getfield 34, 3) := by decide +kernel
theorem dX1_addFinding_16 : decode cX1_addFinding 16 = .ok (.iload_n 2, 1) := by decide +kernel
theorem dX1_addFinding_17 : decode cX1_addFinding 17 = .ok (.aload_n 0, 1) := by decide +kernel
theorem dX1_addFinding_18 : decode cX1_addFinding 18 = .ok (.getfield 30, 3) := by decide +kernel
theorem dX1_addFinding_21 : decode cX1_addFinding 21 = .ok (.iload_n 1, 1) := by decide +kernel
theorem dX1_addFinding_22 : decode cX1_addFinding 22 = .ok (.aaload, 1) := by decide +kernel
theorem dX1_addFinding_23 : decode cX1_addFinding 23 = .ok (.iload_n 3, 1) := by decide +kernel
theorem dX1_addFinding_24 : decode cX1_addFinding 24 = .ok (.aload_n 0, 1) := by decide +kernel
theorem dX1_addFinding_25 : decode cX1_addFinding 25 = .ok (.getfield 9, 3) := by decide +kernel
theorem dX1_addFinding_28 : decode cX1_addFinding 28 = .ok (.invokespecial 96, 3) := by decide +kernel
theorem dX1_addFinding_31 : decode cX1_addFinding 31 = .ok (.aastore, 1) := by decide +kernel
theorem dX1_addFinding_32 : decode cX1_addFinding 32 = .ok (.aload_n 0, 1) := by decide +kernel
theorem dX1_addFinding_33 : decode cX1_addFinding 33 = .ok (.dup, 1) := by decide +kernel
theorem dX1_addFinding_34 : decode cX1_addFinding 34 = .ok (.getfield 34, 3) := by decide +kernel
theorem dX1_addFinding_37 : decode cX1_addFinding 37 = .ok (.dup_x1, 1) := by decide +kernel
theorem dX1_addFinding_38 : decode cX1_addFinding 38 = .ok (.iconst 1, 1) := by decide +kernel
theorem dX1_addFinding_39 : decode cX1_addFinding 39 = .ok (.iadd, 1) := by decide +kernel
theorem dX1_addFinding_40 : decode cX1_addFinding 40 = .ok (.putfield 34, 3) := by decide +kernel
theorem dX1_addFinding_43 : decode cX1_addFinding 43 = .ok (.ireturn, 1) := by decide +kernel
theorem dX1_addLaw_0 : decode cX1_addLaw 0 = .ok (.aload_n 0, 1) := by decide +kernel
theorem dX1_addLaw_1 : decode cX1_addLaw 1 = .ok (.getfield 48, 3) := by decide +kernel
theorem dX1_addLaw_4 : decode cX1_addLaw 4 = .ok (.aload_n 0, 1) := by decide +kernel
theorem dX1_addLaw_5 : decode cX1_addLaw 5 = .ok (.getfield 43, 3) := by decide +kernel
theorem dX1_addLaw_8 : decode cX1_addLaw 8 = .ok (.new 46, 3) := by decide +kernel
theorem dX1_addLaw_11 : decode cX1_addLaw 11 = .ok (.dup, 1) := by decide +kernel
theorem dX1_addLaw_12 : decode cX1_addLaw 12 = .ok (.aload_n 0, 1) := by decide +kernel
theorem dX1_addLaw_13 : decode cX1_addLaw 13 = .ok (.getfield 43, 3) := by decide +kernel
theorem dX1_addLaw_16 : decode cX1_addLaw 16 = .ok (.aload_n 0, 1) := by decide +kernel
theorem dX1_addLaw_17 : decode cX1_addLaw 17 = .ok (.getfield 9, 3) := by decide +kernel
theorem dX1_addLaw_20 : decode cX1_addLaw 20 = .ok (.aload_n 1, 1) := by decide +kernel
theorem dX1_addLaw_21 : decode cX1_addLaw 21 = .ok (.invokespecial 99, 3) := by decide +kernel
theorem dX1_addLaw_24 : decode cX1_addLaw 24 = .ok (.aastore, 1) := by decide +kernel
theorem dX1_addLaw_25 : decode cX1_addLaw 25 = .ok (.aload_n 0, 1) := by decide +kernel
theorem dX1_addLaw_26 : decode cX1_addLaw 26 = .ok (.dup, 1) := by decide +kernel
theorem dX1_addLaw_27 : decode cX1_addLaw 27 = .ok (.getfield 43, 3) := by decide +kernel
theorem dX1_addLaw_30 : decode cX1_addLaw 30 = .ok (.dup_x1, 1) := by decide +kernel
theorem dX1_addLaw_31 : decode cX1_addLaw 31 = .ok (.iconst 1, 1) := by decide +kernel
theorem dX1_addLaw_32 : decode cX1_addLaw 32 = .ok (.iadd, 1) := by decide +kernel
theorem dX1_addLaw_33 : decode cX1_addLaw 33 = .ok (.putfield 43, 3) := by decide +kernel
theorem dX1_addLaw_36 : decode cX1_addLaw 36 = .ok (.ireturn, 1) := by decide +kernel
theorem dX1_addTerm_0 : decode cX1_addTerm 0 = .ok (.aload_n 0, 1) := by decide +kernel
theorem dX1_addTerm_1 : decode cX1_addTerm 1 = .ok (.getfield 57, 3) := by decide +kernel
theorem dX1_addTerm_4 : decode cX1_addTerm 4 = .ok (.aload_n 0, 1) := by decide +kernel
theorem dX1_addTerm_5 : decode cX1_addTerm 5 = .ok (.getfield 52, 3) := by decide +kernel
theorem dX1_addTerm_8 : decode cX1_addTerm 8 = .ok (.iload 4, 2) := by decide +kernel
theorem dX1_addTerm_10 : decode cX1_addTerm 10 = .ok (.bipush 10, 2) := by decide +kernel
theorem dX1_addTerm_12 : decode cX1_addTerm 12 = .ok (.irem, 1) := by decide +kernel
theorem dX1_addTerm_13 : decode cX1_addTerm 13 = .ok (.iconst 1, 1) := by decide +kernel
theorem dX1_addTerm_14 : decode cX1_addTerm 14 = .ok (.if_icmp .ne 34, 3) := by decide +kernel
theorem dX1_addTerm_17 : decode cX1_addTerm 17 = .ok (.new 102, 3) := by decide +kernel
theorem dX1_addTerm_20 : decode cX1_addTerm 20 = .ok (.dup, 1) := by decide +kernel
theorem dX1_addTerm_21 : decode cX1_addTerm 21 = .ok (.aload_n 0, 1) := by decide +kernel
theorem dX1_addTerm_22 : decode cX1_addTerm 22 = .ok (.getfield 52, 3) := by decide +kernel
theorem dX1_addTerm_25 : decode cX1_addTerm 25 = .ok (.iload_n 3, 1) := by decide +kernel
theorem dX1_addTerm_26 : decode cX1_addTerm 26 = .ok (.aload_n 0, 1) := by decide +kernel
theorem dX1_addTerm_27 : decode cX1_addTerm 27 = .ok (.getfield 30, 3) := by decide +kernel
theorem dX1_addTerm_30 : decode cX1_addTerm 30 = .ok (.iload_n 1, 1) := by decide +kernel
theorem dX1_addTerm_31 : decode cX1_addTerm 31 = .ok (.aaload, 1) := by decide +kernel
theorem dX1_addTerm_32 : decode cX1_addTerm 32 = .ok (.iload_n 2, 1) := by decide +kernel
theorem dX1_addTerm_33 : decode cX1_addTerm 33 = .ok (.iload 4, 2) := by decide +kernel
theorem dX1_addTerm_35 : decode cX1_addTerm 35 = .ok (.bipush 10, 2) := by decide +kernel
theorem dX1_addTerm_37 : decode cX1_addTerm 37 = .ok (.idiv, 1) := by decide +kernel
theorem dX1_addTerm_38 : decode cX1_addTerm 38 = .ok (.aload_n 0, 1) := by decide +kernel
theorem dX1_addTerm_39 : decode cX1_addTerm 39 = .ok (.getfield 9, 3) := by decide +kernel
theorem dX1_addTerm_42 : decode cX1_addTerm 42 = .ok (.invokespecial 104, 3) := by decide +kernel
theorem dX1_addTerm_45 : decode cX1_addTerm 45 = .ok (.goto 31, 3) := by decide +kernel
theorem dX1_addTerm_48 : decode cX1_addTerm 48 = .ok (.new 55, 3) := by decide +kernel
theorem dX1_addTerm_51 : decode cX1_addTerm 51 = .ok (.dup, 1) := by decide +kernel
theorem dX1_addTerm_52 : decode cX1_addTerm 52 = .ok (.aload_n 0, 1) := by decide +kernel
theorem dX1_addTerm_53 : decode cX1_addTerm 53 = .ok (.getfield 52, 3) := by decide +kernel
theorem dX1_addTerm_56 : decode cX1_addTerm 56 = .ok (.iload_n 3, 1) := by decide +kernel
theorem dX1_addTerm_57 : decode cX1_addTerm 57 = .ok (.aload_n 0, 1) := by decide +kernel
theorem dX1_addTerm_58 : decode cX1_addTerm 58 = .ok (.getfield 30, 3) := by decide +kernel
theorem dX1_addTerm_61 : decode cX1_addTerm 61 = .ok (.iload_n 1, 1) := by decide +kernel
theorem dX1_addTerm_62 : decode cX1_addTerm 62 = .ok (.aaload, 1) := by decide +kernel
theorem dX1_addTerm_63 : decode cX1_addTerm 63 = .ok (.iload_n 2, 1) := by decide +kernel
theorem dX1_addTerm_64 : decode cX1_addTerm 64 = .ok (.iload 4, 2) := by decide +kernel
theorem dX1_addTerm_66 : decode cX1_addTerm 66 = .ok (.bipush 10, 2) := by decide +kernel
theorem dX1_addTerm_68 : decode cX1_addTerm 68 = .ok (.idiv, 1) := by decide +kernel
theorem dX1_addTerm_69 : decode cX1_addTerm 69 = .ok (.aload_n 0, 1) := by decide +kernel
theorem dX1_addTerm_70 : decode cX1_addTerm 70 = .ok (.getfield 9, 3) := by decide +kernel
theorem dX1_addTerm_73 : decode cX1_addTerm 73 = .ok (.invokespecial 107, 3) := by decide +kernel
theorem dX1_addTerm_76 : decode cX1_addTerm 76 = .ok (.aastore, 1) := by decide +kernel
theorem dX1_addTerm_77 : decode cX1_addTerm 77 = .ok (.aload_n 0, 1) := by decide +kernel
theorem dX1_addTerm_78 : decode cX1_addTerm 78 = .ok (.getfield 61, 3) := by decide +kernel
theorem dX1_addTerm_81 : decode cX1_addTerm 81 = .ok (.aload_n 0, 1) := by decide +kernel
theorem dX1_addTerm_82 : decode cX1_addTerm 82 = .ok (.getfield 52, 3) := by decide +kernel
theorem dX1_addTerm_85 : decode cX1_addTerm 85 = .ok (.sipush 10000, 3) := by decide +kernel
theorem dX1_addTerm_88 : decode cX1_addTerm 88 = .ok (.iastore, 1) := by decide +kernel
theorem dX1_addTerm_89 : decode cX1_addTerm 89 = .ok (.aload_n 0, 1) := by decide +kernel
theorem dX1_addTerm_90 : decode cX1_addTerm 90 = .ok (.dup, 1) := by decide +kernel
theorem dX1_addTerm_91 : decode cX1_addTerm 91 = .ok (.getfield 52, 3) := by decide +kernel
theorem dX1_addTerm_94 : decode cX1_addTerm 94 = .ok (.dup_x1, 1) := by decide +kernel
theorem dX1_addTerm_95 : decode cX1_addTerm 95 = .ok (.iconst 1, 1) := by decide +kernel
theorem dX1_addTerm_96 : decode cX1_addTerm 96 = .ok (.iadd, 1) := by decide +kernel
theorem dX1_addTerm_97 : decode cX1_addTerm 97 = .ok (.putfield 52, 3) := by decide +kernel
theorem dX1_addTerm_100 : decode cX1_addTerm 100 = .ok (.ireturn, 1) := by decide +kernel
theorem dX1_addHeld_0 : decode cX1_addHeld 0 = .ok (.aload_n 0, 1) := by decide +kernel
theorem dX1_addHeld_1 : decode cX1_addHeld 1 = .ok (.getfield 67, 3) := by decide +kernel
theorem dX1_addHeld_4 : decode cX1_addHeld 4 = .ok (.aload_n 0, 1) := by decide +kernel
theorem dX1_addHeld_5 : decode cX1_addHeld 5 = .ok (.getfield 64, 3) := by decide +kernel
theorem dX1_addHeld_8 : decode cX1_addHeld 8 = .ok (.iload_n 1, 1) := by decide +kernel
theorem dX1_addHeld_9 : decode cX1_addHeld 9 = .ok (.iastore, 1) := by decide +kernel
theorem dX1_addHeld_10 : decode cX1_addHeld 10 = .ok (.aload_n 0, 1) := by decide +kernel
theorem dX1_addHeld_11 : decode cX1_addHeld 11 = .ok (.getfield 70, 3) := by decide +kernel
theorem dX1_addHeld_14 : decode cX1_addHeld 14 = .ok (.aload_n 0, 1) := by decide +kernel
theorem dX1_addHeld_15 : decode cX1_addHeld 15 = .ok (.getfield 64, 3) := by decide +kernel
theorem dX1_addHeld_18 : decode cX1_addHeld 18 = .ok (.iload_n 2, 1) := by decide +kernel
theorem dX1_addHeld_19 : decode cX1_addHeld 19 = .ok (.iastore, 1) := by decide +kernel
theorem dX1_addHeld_20 : decode cX1_addHeld 20 = .ok (.aload_n 0, 1) := by decide +kernel
theorem dX1_addHeld_21 : decode cX1_addHeld 21 = .ok (.getfield 73, 3) := by decide +kernel
theorem dX1_addHeld_24 : decode cX1_addHeld 24 = .ok (.aload_n 0, 1) := by decide +kernel
theorem dX1_addHeld_25 : decode cX1_addHeld 25 = .ok (.getfield 64, 3) := by decide +kernel
theorem dX1_addHeld_28 : decode cX1_addHeld 28 = .ok (.iload_n 3, 1) := by decide +kernel
theorem dX1_addHeld_29 : decode cX1_addHeld 29 = .ok (.iastore, 1) := by decide +kernel
theorem dX1_addHeld_30 : decode cX1_addHeld 30 = .ok (.aload_n 0, 1) := by decide +kernel
theorem dX1_addHeld_31 : decode cX1_addHeld 31 = .ok (.dup, 1) := by decide +kernel
theorem dX1_addHeld_32 : decode cX1_addHeld 32 = .ok (.getfield 64, 3) := by decide +kernel
theorem dX1_addHeld_35 : decode cX1_addHeld 35 = .ok (.iconst 1, 1) := by decide +kernel
theorem dX1_addHeld_36 : decode cX1_addHeld 36 = .ok (.iadd, 1) := by decide +kernel
theorem dX1_addHeld_37 : decode cX1_addHeld 37 = .ok (.putfield 64, 3) := by decide +kernel
theorem dX1_addHeld_40 : decode cX1_addHeld 40 = .ok (.aload_n 0, 1) := by decide +kernel
theorem dX1_addHeld_41 : decode cX1_addHeld 41 = .ok (.getfield 64, 3) := by decide +kernel
theorem dX1_addHeld_44 : decode cX1_addHeld 44 = .ok (.ireturn, 1) := by decide +kernel
theorem dX1_yearsOf_0 : decode cX1_yearsOf 0 = .ok (.aload_n 0, 1) := by decide +kernel
theorem dX1_yearsOf_1 : decode cX1_yearsOf 1 = .ok (.getfield 18, 3) := by decide +kernel
theorem dX1_yearsOf_4 : decode cX1_yearsOf 4 = .ok (.iload_n 1, 1) := by decide +kernel
theorem dX1_yearsOf_5 : decode cX1_yearsOf 5 = .ok (.iaload, 1) := by decide +kernel
theorem dX1_yearsOf_6 : decode cX1_yearsOf 6 = .ok (.iload_n 2, 1) := by decide +kernel
theorem dX1_yearsOf_7 : decode cX1_yearsOf 7 = .ok (.iadd, 1) := by decide +kernel
theorem dX1_yearsOf_8 : decode cX1_yearsOf 8 = .ok (.sipush 360, 3) := by decide +kernel
theorem dX1_yearsOf_11 : decode cX1_yearsOf 11 = .ok (.idiv, 1) := by decide +kernel
theorem dX1_yearsOf_12 : decode cX1_yearsOf 12 = .ok (.ireturn, 1) := by decide +kernel
theorem dX1_findingOf_0 : decode cX1_findingOf 0 = .ok (.aload_n 0, 1) := by decide +kernel
theorem dX1_findingOf_1 : decode cX1_findingOf 1 = .ok (.getfield 34, 3) := by decide +kernel
theorem dX1_findingOf_4 : decode cX1_findingOf 4 = .ok (.iconst 1, 1) := by decide +kernel
theorem dX1_findingOf_5 : decode cX1_findingOf 5 = .ok (.isub, 1) := by decide +kernel
theorem dX1_findingOf_6 : decode cX1_findingOf 6 = .ok (.istore_n 3, 1) := by decide +kernel
theorem dX1_findingOf_7 : decode cX1_findingOf 7 = .ok (.iload_n 3, 1) := by decide +kernel
theorem dX1_findingOf_8 : decode cX1_findingOf 8 = .ok (.ifCond .lt 42, 3) := by decide +kernel
theorem dX1_findingOf_11 : decode cX1_findingOf 11 = .ok (.aload_n 0, 1) := by decide +kernel
theorem dX1_findingOf_12 : decode cX1_findingOf 12 = .ok (.getfield 39, 3) := by decide +kernel
theorem dX1_findingOf_15 : decode cX1_findingOf 15 = .ok (.iload_n 3, 1) := by decide +kernel
theorem dX1_findingOf_16 : decode cX1_findingOf 16 = .ok (.aaload, 1) := by decide +kernel
theorem dX1_findingOf_17 : decode cX1_findingOf 17 = .ok (.getfield 108, 3) := by decide +kernel
theorem dX1_findingOf_20 : decode cX1_findingOf 20 = .ok (.aload_n 1, 1) := by decide +kernel
theorem dX1_findingOf_21 : decode cX1_findingOf 21 = .ok (.if_acmp .ne 23, 3) := by decide +kernel
theorem dX1_findingOf_24 : decode cX1_findingOf 24 = .ok (.aload_n 0, 1) := by decide +kernel
theorem dX1_findingOf_25 : decode cX1_findingOf 25 = .ok (.getfield 39, 3) := by decide +kernel
theorem dX1_findingOf_28 : decode cX1_findingOf 28 = .ok (.iload_n 3, 1) := by decide +kernel
theorem dX1_findingOf_29 : decode cX1_findingOf 29 = .ok (.aaload, 1) := by decide +kernel
theorem dX1_findingOf_30 : decode cX1_findingOf 30 = .ok (.getfield 112, 3) := by decide +kernel
theorem dX1_findingOf_33 : decode cX1_findingOf 33 = .ok (.iload_n 2, 1) := by decide +kernel
theorem dX1_findingOf_34 : decode cX1_findingOf 34 = .ok (.if_icmp .gt 10, 3) := by decide +kernel
theorem dX1_findingOf_37 : decode cX1_findingOf 37 = .ok (.aload_n 0, 1) := by decide +kernel
theorem dX1_findingOf_38 : decode cX1_findingOf 38 = .ok (.getfield 39, 3) := by decide +kernel
theorem dX1_findingOf_41 : decode cX1_findingOf 41 = .ok (.iload_n 3, 1) := by decide +kernel
theorem dX1_findingOf_42 : decode cX1_findingOf 42 = .ok (.aaload, 1) := by decide +kernel
theorem dX1_findingOf_43 : decode cX1_findingOf 43 = .ok (.areturn, 1) := by decide +kernel
theorem dX1_findingOf_44 : decode cX1_findingOf 44 = .ok (.iinc 3 (-1), 3) := by decide +kernel
theorem dX1_findingOf_47 : decode cX1_findingOf 47 = .ok (.goto (-40), 3) := by decide +kernel
theorem dX1_findingOf_50 : decode cX1_findingOf 50 = .ok (.aconst_null, 1) := by decide +kernel
theorem dX1_findingOf_51 : decode cX1_findingOf 51 = .ok (.areturn, 1) := by decide +kernel
theorem dX1_factsOf_0 : decode cX1_factsOf 0 = .ok (.aload_n 0, 1) := by decide +kernel
theorem dX1_factsOf_1 : decode cX1_factsOf 1 = .ok (.aload_n 1, 1) := by decide +kernel
theorem dX1_factsOf_2 : decode cX1_factsOf 2 = .ok (.iload_n 2, 1) := by decide +kernel
theorem dX1_factsOf_3 : decode cX1_factsOf 3 = .ok (.invokevirtual 115, 3) := by decide +kernel
theorem dX1_factsOf_6 : decode cX1_factsOf 6 = .ok (.astore_n 3, 1) := by decide +kernel
theorem dX1_factsOf_7 : decode cX1_factsOf 7 = .ok (.aload_n 3, 1) := by decide +kernel
theorem dX1_factsOf_8 : decode cX1_factsOf 8 = .ok (.ifnonnull 7, 3) := by decide +kernel
theorem dX1_factsOf_11 : decode cX1_factsOf 11 = .ok (.iconst 0, 1) := by decide +kernel
theorem dX1_factsOf_12 : decode cX1_factsOf 12 = .ok (.goto 7, 3) := by decide +kernel
theorem dX1_factsOf_15 : decode cX1_factsOf 15 = .ok (.aload_n 3, 1) := by decide +kernel
theorem dX1_factsOf_16 : decode cX1_factsOf 16 = .ok (.getfield 119, 3) := by decide +kernel
theorem dX1_factsOf_19 : decode cX1_factsOf 19 = .ok (.ireturn, 1) := by decide +kernel
theorem dX1_isPleaded_0 : decode cX1_isPleaded 0 = .ok (.aload_n 0, 1) := by decide +kernel
theorem dX1_isPleaded_1 : decode cX1_isPleaded 1 = .ok (.aload_n 1, 1) := by decide +kernel
theorem dX1_isPleaded_2 : decode cX1_isPleaded 2 = .ok (.iload_n 2, 1) := by decide +kernel
theorem dX1_isPleaded_3 : decode cX1_isPleaded 3 = .ok (.invokevirtual 115, 3) := by decide +kernel
theorem dX1_isPleaded_6 : decode cX1_isPleaded 6 = .ok (.astore_n 3, 1) := by decide +kernel
theorem dX1_isPleaded_7 : decode cX1_isPleaded 7 = .ok (.aload_n 3, 1) := by decide +kernel
theorem dX1_isPleaded_8 : decode cX1_isPleaded 8 = .ok (.ifnull 14, 3) := by decide +kernel
theorem dX1_isPleaded_11 : decode cX1_isPleaded 11 = .ok (.aload_n 3, 1) := by decide +kernel
theorem dX1_isPleaded_12 : decode cX1_isPleaded 12 = .ok (.getfield 122, 3) := by decide +kernel
theorem dX1_isPleaded_15 : decode cX1_isPleaded 15 = .ok (.ifCond .eq 7, 3) := by decide +kernel
theorem dX1_isPleaded_18 : decode cX1_isPleaded 18 = .ok (.iconst 1, 1) := by decide +kernel
theorem dX1_isPleaded_19 : decode cX1_isPleaded 19 = .ok (.goto 4, 3) := by decide +kernel
theorem dX1_isPleaded_22 : decode cX1_isPleaded 22 = .ok (.iconst 0, 1) := by decide +kernel
theorem dX1_isPleaded_23 : decode cX1_isPleaded 23 = .ok (.ireturn, 1) := by decide +kernel
theorem dX1_stands_0 : decode cX1_stands 0 = .ok (.aload_n 0, 1) := by decide +kernel
theorem dX1_stands_1 : decode cX1_stands 1 = .ok (.getfield 57, 3) := by decide +kernel
theorem dX1_stands_4 : decode cX1_stands 4 = .ok (.iload_n 1, 1) := by decide +kernel
theorem dX1_stands_5 : decode cX1_stands 5 = .ok (.aaload, 1) := by decide +kernel
theorem dX1_stands_6 : decode cX1_stands 6 = .ok (.getfield 126, 3) := by decide +kernel
theorem dX1_stands_9 : decode cX1_stands 9 = .ok (.iload_n 2, 1) := by decide +kernel
theorem dX1_stands_10 : decode cX1_stands 10 = .ok (.if_icmp .gt 17, 3) := by decide +kernel
theorem dX1_stands_13 : decode cX1_stands 13 = .ok (.aload_n 0, 1) := by decide +kernel
theorem dX1_stands_14 : decode cX1_stands 14 = .ok (.getfield 61, 3) := by decide +kernel
theorem dX1_stands_17 : decode cX1_stands 17 = .ok (.iload_n 1, 1) := by decide +kernel
theorem dX1_stands_18 : decode cX1_stands 18 = .ok (.iaload, 1) := by decide +kernel
theorem dX1_stands_19 : decode cX1_stands 19 = .ok (.iload_n 2, 1) := by decide +kernel
theorem dX1_stands_20 : decode cX1_stands 20 = .ok (.if_icmp .le 7, 3) := by decide +kernel
theorem dX1_stands_23 : decode cX1_stands 23 = .ok (.iconst 1, 1) := by decide +kernel
theorem dX1_stands_24 : decode cX1_stands 24 = .ok (.goto 4, 3) := by decide +kernel
theorem dX1_stands_27 : decode cX1_stands 27 = .ok (.iconst 0, 1) := by decide +kernel
theorem dX1_stands_28 : decode cX1_stands 28 = .ok (.ireturn, 1) := by decide +kernel
theorem dX1_standing_0 : decode cX1_standing 0 = .ok (.iconst 0, 1) := by decide +kernel
theorem dX1_standing_1 : decode cX1_standing 1 = .ok (.istore_n 2, 1) := by decide +kernel
theorem dX1_standing_2 : decode cX1_standing 2 = .ok (.iconst 0, 1) := by decide +kernel
theorem dX1_standing_3 : decode cX1_standing 3 = .ok (.istore_n 3, 1) := by decide +kernel
theorem dX1_standing_4 : decode cX1_standing 4 = .ok (.iload_n 3, 1) := by decide +kernel
theorem dX1_standing_5 : decode cX1_standing 5 = .ok (.aload_n 0, 1) := by decide +kernel
theorem dX1_standing_6 : decode cX1_standing 6 = .ok (.getfield 52, 3) := by decide +kernel
theorem dX1_standing_9 : decode cX1_standing 9 = .ok (.if_icmp .ge 21, 3) := by decide +kernel
theorem dX1_standing_12 : decode cX1_standing 12 = .ok (.aload_n 0, 1) := by decide +kernel
theorem dX1_standing_13 : decode cX1_standing 13 = .ok (.iload_n 3, 1) := by decide +kernel
theorem dX1_standing_14 : decode cX1_standing 14 = .ok (.iload_n 1, 1) := by decide +kernel
theorem dX1_standing_15 : decode cX1_standing 15 = .ok (.invokevirtual 127, 3) := by decide +kernel
theorem dX1_standing_18 : decode cX1_standing 18 = .ok (.ifCond .eq 6, 3) := by decide +kernel
theorem dX1_standing_21 : decode cX1_standing 21 = .ok (.iinc 2 1, 3) := by decide +kernel
theorem dX1_standing_24 : decode cX1_standing 24 = .ok (.iinc 3 1, 3) := by decide +kernel
theorem dX1_standing_27 : decode cX1_standing 27 = .ok (.goto (-23), 3) := by decide +kernel
theorem dX1_standing_30 : decode cX1_standing 30 = .ok (.iload_n 2, 1) := by decide +kernel
theorem dX1_standing_31 : decode cX1_standing 31 = .ok (.ireturn, 1) := by decide +kernel
theorem dX1_termOf_0 : decode cX1_termOf 0 = .ok (.iconst 0, 1) := by decide +kernel
theorem dX1_termOf_1 : decode cX1_termOf 1 = .ok (.istore_n 3, 1) := by decide +kernel
theorem dX1_termOf_2 : decode cX1_termOf 2 = .ok (.iload_n 3, 1) := by decide +kernel
theorem dX1_termOf_3 : decode cX1_termOf 3 = .ok (.aload_n 0, 1) := by decide +kernel
theorem dX1_termOf_4 : decode cX1_termOf 4 = .ok (.getfield 52, 3) := by decide +kernel
theorem dX1_termOf_7 : decode cX1_termOf 7 = .ok (.if_icmp .ge 33, 3) := by decide +kernel
theorem dX1_termOf_10 : decode cX1_termOf 10 = .ok (.aload_n 0, 1) := by decide +kernel
theorem dX1_termOf_11 : decode cX1_termOf 11 = .ok (.getfield 57, 3) := by decide +kernel
theorem dX1_termOf_14 : decode cX1_termOf 14 = .ok (.iload_n 3, 1) := by decide +kernel
theorem dX1_termOf_15 : decode cX1_termOf 15 = .ok (.aaload, 1) := by decide +kernel
theorem dX1_termOf_16 : decode cX1_termOf 16 = .ok (.getfield 131, 3) := by decide +kernel
theorem dX1_termOf_19 : decode cX1_termOf 19 = .ok (.aload_n 1, 1) := by decide +kernel
theorem dX1_termOf_20 : decode cX1_termOf 20 = .ok (.if_acmp .ne 14, 3) := by decide +kernel
theorem dX1_termOf_23 : decode cX1_termOf 23 = .ok (.aload_n 0, 1) := by decide +kernel
theorem dX1_termOf_24 : decode cX1_termOf 24 = .ok (.iload_n 3, 1) := by decide +kernel
theorem dX1_termOf_25 : decode cX1_termOf 25 = .ok (.iload_n 2, 1) := by decide +kernel
theorem dX1_termOf_26 : decode cX1_termOf 26 = .ok (.invokevirtual 127, 3) := by decide +kernel
theorem dX1_termOf_29 : decode cX1_termOf 29 = .ok (.ifCond .eq 5, 3) := by decide +kernel
theorem dX1_termOf_32 : decode cX1_termOf 32 = .ok (.iload_n 3, 1) := by decide +kernel
theorem dX1_termOf_33 : decode cX1_termOf 33 = .ok (.ireturn, 1) := by decide +kernel
theorem dX1_termOf_34 : decode cX1_termOf 34 = .ok (.iinc 3 1, 3) := by decide +kernel
theorem dX1_termOf_37 : decode cX1_termOf 37 = .ok (.goto (-35), 3) := by decide +kernel
theorem dX1_termOf_40 : decode cX1_termOf 40 = .ok (.bipush (-3), 2) := by decide +kernel
theorem dX1_termOf_42 : decode cX1_termOf 42 = .ok (.ireturn, 1) := by decide +kernel
theorem dX1_lawOf_0 : decode cX1_lawOf 0 = .ok (.aconst_null, 1) := by decide +kernel
theorem dX1_lawOf_1 : decode cX1_lawOf 1 = .ok (.astore_n 3, 1) := by decide +kernel
theorem dX1_lawOf_2 : decode cX1_lawOf 2 = .ok (.aconst_null, 1) := by decide +kernel
theorem dX1_lawOf_3 : decode cX1_lawOf 3 = .ok (.astore 4, 2) := by decide +kernel
theorem dX1_lawOf_5 : decode cX1_lawOf 5 = .ok (.iconst 0, 1) := by decide +kernel
theorem dX1_lawOf_6 : decode cX1_lawOf 6 = .ok (.istore 5, 2) := by decide +kernel
theorem dX1_lawOf_8 : decode cX1_lawOf 8 = .ok (.iload 5, 2) := by decide +kernel
theorem dX1_lawOf_10 : decode cX1_lawOf 10 = .ok (.aload_n 0, 1) := by decide +kernel
theorem dX1_lawOf_11 : decode cX1_lawOf 11 = .ok (.getfield 43, 3) := by decide +kernel
theorem dX1_lawOf_14 : decode cX1_lawOf 14 = .ok (.if_icmp .ge 73, 3) := by decide +kernel
theorem dX1_lawOf_17 : decode cX1_lawOf 17 = .ok (.aload_n 0, 1) := by decide +kernel
theorem dX1_lawOf_18 : decode cX1_lawOf 18 = .ok (.getfield 48, 3) := by decide +kernel
theorem dX1_lawOf_21 : decode cX1_lawOf 21 = .ok (.iload 5, 2) := by decide +kernel
theorem dX1_lawOf_23 : decode cX1_lawOf 23 = .ok (.aaload, 1) := by decide +kernel
theorem dX1_lawOf_24 : decode cX1_lawOf 24 = .ok (.getfield 132, 3) := by decide +kernel
theorem dX1_lawOf_27 : decode cX1_lawOf 27 = .ok (.aload_n 1, 1) := by decide +kernel
theorem dX1_lawOf_28 : decode cX1_lawOf 28 = .ok (.getfield 133, 3) := by decide +kernel
theorem dX1_lawOf_31 : decode cX1_lawOf 31 = .ok (.if_icmp .gt 14, 3) := by decide +kernel
theorem dX1_lawOf_34 : decode cX1_lawOf 34 = .ok (.aload_n 0, 1) := by decide +kernel
theorem dX1_lawOf_35 : decode cX1_lawOf 35 = .ok (.getfield 48, 3) := by decide +kernel
theorem dX1_lawOf_38 : decode cX1_lawOf 38 = .ok (.iload 5, 2) := by decide +kernel
theorem dX1_lawOf_40 : decode cX1_lawOf 40 = .ok (.aaload, 1) := by decide +kernel
theorem dX1_lawOf_41 : decode cX1_lawOf 41 = .ok (.astore_n 3, 1) := by decide +kernel
theorem dX1_lawOf_42 : decode cX1_lawOf 42 = .ok (.goto 39, 3) := by decide +kernel
theorem dX1_lawOf_45 : decode cX1_lawOf 45 = .ok (.aload_n 0, 1) := by decide +kernel
theorem dX1_lawOf_46 : decode cX1_lawOf 46 = .ok (.getfield 48, 3) := by decide +kernel
theorem dX1_lawOf_49 : decode cX1_lawOf 49 = .ok (.iload 5, 2) := by decide +kernel
theorem dX1_lawOf_51 : decode cX1_lawOf 51 = .ok (.aaload, 1) := by decide +kernel
theorem dX1_lawOf_52 : decode cX1_lawOf 52 = .ok (.getfield 132, 3) := by decide +kernel
theorem dX1_lawOf_55 : decode cX1_lawOf 55 = .ok (.iload_n 2, 1) := by decide +kernel
theorem dX1_lawOf_56 : decode cX1_lawOf 56 = .ok (.if_icmp .gt 25, 3) := by decide +kernel
theorem dX1_lawOf_59 : decode cX1_lawOf 59 = .ok (.aload_n 0, 1) := by decide +kernel
theorem dX1_lawOf_60 : decode cX1_lawOf 60 = .ok (.getfield 48, 3) := by decide +kernel
theorem dX1_lawOf_63 : decode cX1_lawOf 63 = .ok (.iload 5, 2) := by decide +kernel
theorem dX1_lawOf_65 : decode cX1_lawOf 65 = .ok (.aaload, 1) := by decide +kernel
theorem dX1_lawOf_66 : decode cX1_lawOf 66 = .ok (.getfield 134, 3) := by decide +kernel
theorem dX1_lawOf_69 : decode cX1_lawOf 69 = .ok (.ifCond .eq 12, 3) := by decide +kernel
theorem dX1_lawOf_72 : decode cX1_lawOf 72 = .ok (.aload_n 0, 1) := by decide +kernel
theorem dX1_lawOf_73 : decode cX1_lawOf 73 = .ok (.getfield 48, 3) := by decide +kernel
theorem dX1_lawOf_76 : decode cX1_lawOf 76 = .ok (.iload 5, 2) := by decide +kernel
theorem dX1_lawOf_78 : decode cX1_lawOf 78 = .ok (.aaload, 1) := by decide +kernel
theorem dX1_lawOf_79 : decode cX1_lawOf 79 = .ok (.astore 4, 2) := by decide +kernel
theorem dX1_lawOf_81 : decode cX1_lawOf 81 = .ok (.iinc 5 1, 3) := by decide +kernel
theorem dX1_lawOf_84 : decode cX1_lawOf 84 = .ok (.goto (-76), 3) := by decide +kernel
theorem dX1_lawOf_87 : decode cX1_lawOf 87 = .ok (.aload 4, 2) := by decide +kernel
theorem dX1_lawOf_89 : decode cX1_lawOf 89 = .ok (.ifnull 8, 3) := by decide +kernel
theorem dX1_lawOf_92 : decode cX1_lawOf 92 = .ok (.aload 4, 2) := by decide +kernel
theorem dX1_lawOf_94 : decode cX1_lawOf 94 = .ok (.goto 4, 3) := by decide +kernel
theorem dX1_lawOf_97 : decode cX1_lawOf 97 = .ok (.aload_n 3, 1) := by decide +kernel
theorem dX1_lawOf_98 : decode cX1_lawOf 98 = .ok (.areturn, 1) := by decide +kernel
theorem dX1_pointsBy_0 : decode cX1_pointsBy 0 = .ok (.iconst 0, 1) := by decide +kernel
theorem dX1_pointsBy_1 : decode cX1_pointsBy 1 = .ok (.istore 4, 2) := by decide +kernel
theorem dX1_pointsBy_3 : decode cX1_pointsBy 3 = .ok (.iconst 0, 1) := by decide +kernel
theorem dX1_pointsBy_4 : decode cX1_pointsBy 4 = .ok (.istore 5, 2) := by decide +kernel
theorem dX1_pointsBy_6 : decode cX1_pointsBy 6 = .ok (.iload 5, 2) := by decide +kernel
theorem dX1_pointsBy_8 : decode cX1_pointsBy 8 = .ok (.aload_n 0, 1) := by decide +kernel
theorem dX1_pointsBy_9 : decode cX1_pointsBy 9 = .ok (.getfield 52, 3) := by decide +kernel
theorem dX1_pointsBy_12 : decode cX1_pointsBy 12 = .ok (.if_icmp .ge 108, 3) := by decide +kernel
theorem dX1_pointsBy_15 : decode cX1_pointsBy 15 = .ok (.aload_n 0, 1) := by decide +kernel
theorem dX1_pointsBy_16 : decode cX1_pointsBy 16 = .ok (.getfield 57, 3) := by decide +kernel
theorem dX1_pointsBy_19 : decode cX1_pointsBy 19 = .ok (.iload 5, 2) := by decide +kernel
theorem dX1_pointsBy_21 : decode cX1_pointsBy 21 = .ok (.aaload, 1) := by decide +kernel
theorem dX1_pointsBy_22 : decode cX1_pointsBy 22 = .ok (.getfield 131, 3) := by decide +kernel
theorem dX1_pointsBy_25 : decode cX1_pointsBy 25 = .ok (.astore 6, 2) := by decide +kernel
theorem dX1_pointsBy_27 : decode cX1_pointsBy 27 = .ok (.aload 6, 2) := by decide +kernel
theorem dX1_pointsBy_29 : decode cX1_pointsBy 29 = .ok (.aload_n 2, 1) := by decide +kernel
theorem dX1_pointsBy_30 : decode cX1_pointsBy 30 = .ok (.if_acmp .eq 84, 3) := by decide +kernel
theorem dX1_pointsBy_33 : decode cX1_pointsBy 33 = .ok (.aload 6, 2) := by decide +kernel
theorem dX1_pointsBy_35 : decode cX1_pointsBy 35 = .ok (.getfield 137, 3) := by decide +kernel
theorem dX1_pointsBy_38 : decode cX1_pointsBy 38 = .ok (.aload_n 2, 1) := by decide +kernel
theorem dX1_pointsBy_39 : decode cX1_pointsBy 39 = .ok (.getfield 137, 3) := by decide +kernel
theorem dX1_pointsBy_42 : decode cX1_pointsBy 42 = .ok (.if_icmp .eq 6, 3) := by decide +kernel
theorem dX1_pointsBy_45 : decode cX1_pointsBy 45 = .ok (.goto 69, 3) := by decide +kernel
theorem dX1_pointsBy_48 : decode cX1_pointsBy 48 = .ok (.aload_n 0, 1) := by decide +kernel
theorem dX1_pointsBy_49 : decode cX1_pointsBy 49 = .ok (.iload 5, 2) := by decide +kernel
theorem dX1_pointsBy_51 : decode cX1_pointsBy 51 = .ok (.iload_n 3, 1) := by decide +kernel
theorem dX1_pointsBy_52 : decode cX1_pointsBy 52 = .ok (.invokevirtual 127, 3) := by decide +kernel
theorem dX1_pointsBy_55 : decode cX1_pointsBy 55 = .ok (.ifCond .eq 59, 3) := by decide +kernel
theorem dX1_pointsBy_58 : decode cX1_pointsBy 58 = .ok (.aload_n 0, 1) := by decide +kernel
theorem dX1_pointsBy_59 : decode cX1_pointsBy 59 = .ok (.getfield 57, 3) := by decide +kernel
theorem dX1_pointsBy_62 : decode cX1_pointsBy 62 = .ok (.iload 5, 2) := by decide +kernel
theorem dX1_pointsBy_64 : decode cX1_pointsBy 64 = .ok (.aaload, 1) := by decide +kernel
theorem dX1_pointsBy_65 : decode cX1_pointsBy 65 = .ok (.getfield 126, 3) := by decide +kernel
theorem dX1_pointsBy_68 : decode cX1_pointsBy 68 = .ok (.aload_n 2, 1) := by decide +kernel
theorem dX1_pointsBy_69 : decode cX1_pointsBy 69 = .ok (.getfield 133, 3) := by decide +kernel
theorem dX1_pointsBy_72 : decode cX1_pointsBy 72 = .ok (.if_icmp .lt 6, 3) := by decide +kernel
theorem dX1_pointsBy_75 : decode cX1_pointsBy 75 = .ok (.goto 39, 3) := by decide +kernel
theorem dX1_pointsBy_78 : decode cX1_pointsBy 78 = .ok (.aload_n 2, 1) := by decide +kernel
theorem dX1_pointsBy_79 : decode cX1_pointsBy 79 = .ok (.getfield 133, 3) := by decide +kernel
theorem dX1_pointsBy_82 : decode cX1_pointsBy 82 = .ok (.aload 6, 2) := by decide +kernel
theorem dX1_pointsBy_84 : decode cX1_pointsBy 84 = .ok (.getfield 133, 3) := by decide +kernel
theorem dX1_pointsBy_87 : decode cX1_pointsBy 87 = .ok (.isub, 1) := by decide +kernel
theorem dX1_pointsBy_88 : decode cX1_pointsBy 88 = .ok (.aload_n 1, 1) := by decide +kernel
theorem dX1_pointsBy_89 : decode cX1_pointsBy 89 = .ok (.getfield 140, 3) := by decide +kernel
theorem dX1_pointsBy_92 : decode cX1_pointsBy 92 = .ok (.sipush 360, 3) := by decide +kernel
theorem dX1_pointsBy_95 : decode cX1_pointsBy 95 = .ok (.imul, 1) := by decide +kernel
theorem dX1_pointsBy_96 : decode cX1_pointsBy 96 = .ok (.if_icmp .gt 18, 3) := by decide +kernel
theorem dX1_pointsBy_99 : decode cX1_pointsBy 99 = .ok (.iload 4, 2) := by decide +kernel
theorem dX1_pointsBy_101 : decode cX1_pointsBy 101 = .ok (.aload_n 1, 1) := by decide +kernel
theorem dX1_pointsBy_102 : decode cX1_pointsBy 102 = .ok (.getfield 143, 3) := by decide +kernel
theorem dX1_pointsBy_105 : decode cX1_pointsBy 105 = .ok (.aload 6, 2) := by decide +kernel
theorem dX1_pointsBy_107 : decode cX1_pointsBy 107 = .ok (.getfield 146, 3) := by decide +kernel
theorem dX1_pointsBy_110 : decode cX1_pointsBy 110 = .ok (.iaload, 1) := by decide +kernel
theorem dX1_pointsBy_111 : decode cX1_pointsBy 111 = .ok (.iadd, 1) := by decide +kernel
theorem dX1_pointsBy_112 : decode cX1_pointsBy 112 = .ok (.istore 4, 2) := by decide +kernel
theorem dX1_pointsBy_114 : decode cX1_pointsBy 114 = .ok (.iinc 5 1, 3) := by decide +kernel
theorem dX1_pointsBy_117 : decode cX1_pointsBy 117 = .ok (.goto (-111), 3) := by decide +kernel
theorem dX1_pointsBy_120 : decode cX1_pointsBy 120 = .ok (.iload 4, 2) := by decide +kernel
theorem dX1_pointsBy_122 : decode cX1_pointsBy 122 = .ok (.ireturn, 1) := by decide +kernel
theorem dX1_fillView_0 : decode cX1_fillView 0 = .ok (.aload_n 0, 1) := by decide +kernel
theorem dX1_fillView_1 : decode cX1_fillView 1 = .ok (.aload_n 2, 1) := by decide +kernel
theorem dX1_fillView_2 : decode cX1_fillView 2 = .ok (.iload_n 3, 1) := by decide +kernel
theorem dX1_fillView_3 : decode cX1_fillView 3 = .ok (.invokevirtual 147, 3) := by decide +kernel
theorem dX1_fillView_6 : decode cX1_fillView 6 = .ok (.istore 4, 2) := by decide +kernel
theorem dX1_fillView_8 : decode cX1_fillView 8 = .ok (.iconst 0, 1) := by decide +kernel
theorem dX1_fillView_9 : decode cX1_fillView 9 = .ok (.istore 5, 2) := by decide +kernel
theorem dX1_fillView_11 : decode cX1_fillView 11 = .ok (.iload 5, 2) := by decide +kernel
theorem dX1_fillView_13 : decode cX1_fillView 13 = .ok (.iconst 4, 1) := by decide +kernel
theorem dX1_fillView_14 : decode cX1_fillView 14 = .ok (.if_icmp .ge 23, 3) := by decide +kernel
theorem dX1_fillView_17 : decode cX1_fillView 17 = .ok (.aload_n 0, 1) := by decide +kernel
theorem dX1_fillView_18 : decode cX1_fillView 18 = .ok (.getfield 76, 3) := by decide +kernel
theorem dX1_fillView_21 : decode cX1_fillView 21 = .ok (.iload 5, 2) := by decide +kernel
theorem dX1_fillView_23 : decode cX1_fillView 23 = .ok (.iload 4, 2) := by decide +kernel
theorem dX1_fillView_25 : decode cX1_fillView 25 = .ok (.iload 5, 2) := by decide +kernel
theorem dX1_fillView_27 : decode cX1_fillView 27 = .ok (.ishr, 1) := by decide +kernel
theorem dX1_fillView_28 : decode cX1_fillView 28 = .ok (.iconst 1, 1) := by decide +kernel
theorem dX1_fillView_29 : decode cX1_fillView 29 = .ok (.iand, 1) := by decide +kernel
theorem dX1_fillView_30 : decode cX1_fillView 30 = .ok (.iastore, 1) := by decide +kernel
theorem dX1_fillView_31 : decode cX1_fillView 31 = .ok (.iinc 5 1, 3) := by decide +kernel
theorem dX1_fillView_34 : decode cX1_fillView 34 = .ok (.goto (-23), 3) := by decide +kernel
theorem dX1_fillView_37 : decode cX1_fillView 37 = .ok (.aload_n 0, 1) := by decide +kernel
theorem dX1_fillView_38 : decode cX1_fillView 38 = .ok (.getfield 76, 3) := by decide +kernel
theorem dX1_fillView_41 : decode cX1_fillView 41 = .ok (.iconst 4, 1) := by decide +kernel
theorem dX1_fillView_42 : decode cX1_fillView 42 = .ok (.aload_n 2, 1) := by decide +kernel
theorem dX1_fillView_43 : decode cX1_fillView 43 = .ok (.getfield 151, 3) := by decide +kernel
theorem dX1_fillView_46 : decode cX1_fillView 46 = .ok (.bipush 18, 2) := by decide +kernel
theorem dX1_fillView_48 : decode cX1_fillView 48 = .ok (.if_icmp .ge 7, 3) := by decide +kernel
theorem dX1_fillView_51 : decode cX1_fillView 51 = .ok (.iconst 1, 1) := by decide +kernel
theorem dX1_fillView_52 : decode cX1_fillView 52 = .ok (.goto 4, 3) := by decide +kernel
theorem dX1_fillView_55 : decode cX1_fillView 55 = .ok (.iconst 0, 1) := by decide +kernel
theorem dX1_fillView_56 : decode cX1_fillView 56 = .ok (.iastore, 1) := by decide +kernel
theorem dX1_fillView_57 : decode cX1_fillView 57 = .ok (.aload_n 0, 1) := by decide +kernel
theorem dX1_fillView_58 : decode cX1_fillView 58 = .ok (.getfield 76, 3) := by decide +kernel
theorem dX1_fillView_61 : decode cX1_fillView 61 = .ok (.iconst 5, 1) := by decide +kernel
theorem dX1_fillView_62 : decode cX1_fillView 62 = .ok (.aload_n 0, 1) := by decide +kernel
theorem dX1_fillView_63 : decode cX1_fillView 63 = .ok (.aload_n 2, 1) := by decide +kernel
theorem dX1_fillView_64 : decode cX1_fillView 64 = .ok (.iload_n 3, 1) := by decide +kernel
theorem dX1_fillView_65 : decode cX1_fillView 65 = .ok (.invokevirtual 154, 3) := by decide +kernel
theorem dX1_fillView_68 : decode cX1_fillView 68 = .ok (.ifCond .eq 7, 3) := by decide +kernel
theorem dX1_fillView_71 : decode cX1_fillView 71 = .ok (.iconst 1, 1) := by decide +kernel
theorem dX1_fillView_72 : decode cX1_fillView 72 = .ok (.goto 4, 3) := by decide +kernel
theorem dX1_fillView_75 : decode cX1_fillView 75 = .ok (.iconst 0, 1) := by decide +kernel
theorem dX1_fillView_76 : decode cX1_fillView 76 = .ok (.iastore, 1) := by decide +kernel
theorem dX1_fillView_77 : decode cX1_fillView 77 = .ok (.aload_n 0, 1) := by decide +kernel
theorem dX1_fillView_78 : decode cX1_fillView 78 = .ok (.getfield 76, 3) := by decide +kernel
theorem dX1_fillView_81 : decode cX1_fillView 81 = .ok (.bipush 6, 2) := by decide +kernel
theorem dX1_fillView_83 : decode cX1_fillView 83 = .ok (.aload_n 2, 1) := by decide +kernel
theorem dX1_fillView_84 : decode cX1_fillView 84 = .ok (.getfield 146, 3) := by decide +kernel
theorem dX1_fillView_87 : decode cX1_fillView 87 = .ok (.iastore, 1) := by decide +kernel
theorem dX1_fillView_88 : decode cX1_fillView 88 = .ok (.aload_n 0, 1) := by decide +kernel
theorem dX1_fillView_89 : decode cX1_fillView 89 = .ok (.getfield 76, 3) := by decide +kernel
theorem dX1_fillView_92 : decode cX1_fillView 92 = .ok (.bipush 7, 2) := by decide +kernel
theorem dX1_fillView_94 : decode cX1_fillView 94 = .ok (.aload_n 2, 1) := by decide +kernel
theorem dX1_fillView_95 : decode cX1_fillView 95 = .ok (.getfield 151, 3) := by decide +kernel
theorem dX1_fillView_98 : decode cX1_fillView 98 = .ok (.iastore, 1) := by decide +kernel
theorem dX1_fillView_99 : decode cX1_fillView 99 = .ok (.aload_n 0, 1) := by decide +kernel
theorem dX1_fillView_100 : decode cX1_fillView 100 = .ok (.getfield 76, 3) := by decide +kernel
theorem dX1_fillView_103 : decode cX1_fillView 103 = .ok (.bipush 8, 2) := by decide +kernel
theorem dX1_fillView_105 : decode cX1_fillView 105 = .ok (.aload_n 0, 1) := by decide +kernel
theorem dX1_fillView_106 : decode cX1_fillView 106 = .ok (.aload_n 1, 1) := by decide +kernel
theorem dX1_fillView_107 : decode cX1_fillView 107 = .ok (.aload_n 2, 1) := by decide +kernel
theorem dX1_fillView_108 : decode cX1_fillView 108 = .ok (.iload_n 3, 1) := by decide +kernel
theorem dX1_fillView_109 : decode cX1_fillView 109 = .ok (.invokevirtual 158, 3) := by decide +kernel
theorem dX1_fillView_112 : decode cX1_fillView 112 = .ok (.iastore, 1) := by decide +kernel
theorem dX1_fillView_113 : decode cX1_fillView 113 = .ok (.return_, 1) := by decide +kernel
theorem dX1_graveBy_0 : decode cX1_graveBy 0 = .ok (.aload_n 0, 1) := by decide +kernel
theorem dX1_graveBy_1 : decode cX1_graveBy 1 = .ok (.aload_n 1, 1) := by decide +kernel
theorem dX1_graveBy_2 : decode cX1_graveBy 2 = .ok (.aload_n 2, 1) := by decide +kernel
theorem dX1_graveBy_3 : decode cX1_graveBy 3 = .ok (.iload_n 3, 1) := by decide +kernel
theorem dX1_graveBy_4 : decode cX1_graveBy 4 = .ok (.invokevirtual 162, 3) := by decide +kernel
theorem dX1_graveBy_7 : decode cX1_graveBy 7 = .ok (.aload_n 1, 1) := by decide +kernel
theorem dX1_graveBy_8 : decode cX1_graveBy 8 = .ok (.aload_n 0, 1) := by decide +kernel
theorem dX1_graveBy_9 : decode cX1_graveBy 9 = .ok (.getfield 76, 3) := by decide +kernel
theorem dX1_graveBy_12 : decode cX1_graveBy 12 = .ok (.invokevirtual 166, 3) := by decide +kernel
theorem dX1_graveBy_15 : decode cX1_graveBy 15 = .ok (.ireturn, 1) := by decide +kernel
theorem dX1_rangeBy_0 : decode cX1_rangeBy 0 = .ok (.aload_n 0, 1) := by decide +kernel
theorem dX1_rangeBy_1 : decode cX1_rangeBy 1 = .ok (.aload_n 1, 1) := by decide +kernel
theorem dX1_rangeBy_2 : decode cX1_rangeBy 2 = .ok (.aload_n 2, 1) := by decide +kernel
theorem dX1_rangeBy_3 : decode cX1_rangeBy 3 = .ok (.iload_n 3, 1) := by decide +kernel
theorem dX1_rangeBy_4 : decode cX1_rangeBy 4 = .ok (.invokevirtual 162, 3) := by decide +kernel
theorem dX1_rangeBy_7 : decode cX1_rangeBy 7 = .ok (.aload_n 1, 1) := by decide +kernel
theorem dX1_rangeBy_8 : decode cX1_rangeBy 8 = .ok (.aload_n 0, 1) := by decide +kernel
theorem dX1_rangeBy_9 : decode cX1_rangeBy 9 = .ok (.getfield 76, 3) := by decide +kernel
theorem dX1_rangeBy_12 : decode cX1_rangeBy 12 = .ok (.invokevirtual 170, 3) := by decide +kernel
theorem dX1_rangeBy_15 : decode cX1_rangeBy 15 = .ok (.ireturn, 1) := by decide +kernel
theorem dX1_isAmiss_0 : decode cX1_isAmiss 0 = .ok (.aload_n 0, 1) := by decide +kernel
theorem dX1_isAmiss_1 : decode cX1_isAmiss 1 = .ok (.aload_n 1, 1) := by decide +kernel
theorem dX1_isAmiss_2 : decode cX1_isAmiss 2 = .ok (.getfield 131, 3) := by decide +kernel
theorem dX1_isAmiss_5 : decode cX1_isAmiss 5 = .ok (.aload_n 1, 1) := by decide +kernel
theorem dX1_isAmiss_6 : decode cX1_isAmiss 6 = .ok (.getfield 126, 3) := by decide +kernel
theorem dX1_isAmiss_9 : decode cX1_isAmiss 9 = .ok (.invokevirtual 173, 3) := by decide +kernel
theorem dX1_isAmiss_12 : decode cX1_isAmiss 12 = .ok (.astore_n 3, 1) := by decide +kernel
theorem dX1_isAmiss_13 : decode cX1_isAmiss 13 = .ok (.aload_n 3, 1) := by decide +kernel
theorem dX1_isAmiss_14 : decode cX1_isAmiss 14 = .ok (.ifnonnull 5, 3) := by decide +kernel
theorem dX1_isAmiss_17 : decode cX1_isAmiss 17 = .ok (.iconst 1, 1) := by decide +kernel
theorem dX1_isAmiss_18 : decode cX1_isAmiss 18 = .ok (.ireturn, 1) := by decide +kernel
theorem dX1_isAmiss_19 : decode cX1_isAmiss 19 = .ok (.aload_n 0, 1) := by decide +kernel
theorem dX1_isAmiss_20 : decode cX1_isAmiss 20 = .ok (.aload_n 3, 1) := by decide +kernel
theorem dX1_isAmiss_21 : decode cX1_isAmiss 21 = .ok (.aload_n 1, 1) := by decide +kernel
theorem dX1_isAmiss_22 : decode cX1_isAmiss 22 = .ok (.getfield 131, 3) := by decide +kernel
theorem dX1_isAmiss_25 : decode cX1_isAmiss 25 = .ok (.iload_n 2, 1) := by decide +kernel
theorem dX1_isAmiss_26 : decode cX1_isAmiss 26 = .ok (.invokevirtual 177, 3) := by decide +kernel
theorem dX1_isAmiss_29 : decode cX1_isAmiss 29 = .ok (.istore 4, 2) := by decide +kernel
theorem dX1_isAmiss_31 : decode cX1_isAmiss 31 = .ok (.iload 4, 2) := by decide +kernel
theorem dX1_isAmiss_33 : decode cX1_isAmiss 33 = .ok (.bipush (-3), 2) := by decide +kernel
theorem dX1_isAmiss_35 : decode cX1_isAmiss 35 = .ok (.if_icmp .ne 5, 3) := by decide +kernel
theorem dX1_isAmiss_38 : decode cX1_isAmiss 38 = .ok (.iconst 1, 1) := by decide +kernel
theorem dX1_isAmiss_39 : decode cX1_isAmiss 39 = .ok (.ireturn, 1) := by decide +kernel
theorem dX1_isAmiss_40 : decode cX1_isAmiss 40 = .ok (.aload_n 1, 1) := by decide +kernel
theorem dX1_isAmiss_41 : decode cX1_isAmiss 41 = .ok (.getfield 180, 3) := by decide +kernel
theorem dX1_isAmiss_44 : decode cX1_isAmiss 44 = .ok (.ifCond .ne 33, 3) := by decide +kernel
theorem dX1_isAmiss_47 : decode cX1_isAmiss 47 = .ok (.aload_n 1, 1) := by decide +kernel
theorem dX1_isAmiss_48 : decode cX1_isAmiss 48 = .ok (.getfield 183, 3) := by decide +kernel
theorem dX1_isAmiss_51 : decode cX1_isAmiss 51 = .ok (.iload 4, 2) := by decide +kernel
theorem dX1_isAmiss_53 : decode cX1_isAmiss 53 = .ok (.sipush 1000, 3) := by decide +kernel
theorem dX1_isAmiss_56 : decode cX1_isAmiss 56 = .ok (.idiv, 1) := by decide +kernel
theorem dX1_isAmiss_57 : decode cX1_isAmiss 57 = .ok (.if_icmp .lt 16, 3) := by decide +kernel
theorem dX1_isAmiss_60 : decode cX1_isAmiss 60 = .ok (.aload_n 1, 1) := by decide +kernel
theorem dX1_isAmiss_61 : decode cX1_isAmiss 61 = .ok (.getfield 183, 3) := by decide +kernel
theorem dX1_isAmiss_64 : decode cX1_isAmiss 64 = .ok (.iload 4, 2) := by decide +kernel
theorem dX1_isAmiss_66 : decode cX1_isAmiss 66 = .ok (.sipush 1000, 3) := by decide +kernel
theorem dX1_isAmiss_69 : decode cX1_isAmiss 69 = .ok (.irem, 1) := by decide +kernel
theorem dX1_isAmiss_70 : decode cX1_isAmiss 70 = .ok (.if_icmp .le 7, 3) := by decide +kernel
theorem dX1_isAmiss_73 : decode cX1_isAmiss 73 = .ok (.iconst 1, 1) := by decide +kernel
theorem dX1_isAmiss_74 : decode cX1_isAmiss 74 = .ok (.goto 4, 3) := by decide +kernel
theorem dX1_isAmiss_77 : decode cX1_isAmiss 77 = .ok (.iconst 0, 1) := by decide +kernel
theorem dX1_isAmiss_78 : decode cX1_isAmiss 78 = .ok (.ireturn, 1) := by decide +kernel
theorem dX1_beginOf_0 : decode cX1_beginOf 0 = .ok (.iload_n 2, 1) := by decide +kernel
theorem dX1_beginOf_1 : decode cX1_beginOf 1 = .ok (.aload_n 1, 1) := by decide +kernel
theorem dX1_beginOf_2 : decode cX1_beginOf 2 = .ok (.getfield 126, 3) := by decide +kernel
theorem dX1_beginOf_5 : decode cX1_beginOf 5 = .ok (.if_icmp .gt 8, 3) := by decide +kernel
theorem dX1_beginOf_8 : decode cX1_beginOf 8 = .ok (.aload_n 1, 1) := by decide +kernel
theorem dX1_beginOf_9 : decode cX1_beginOf 9 = .ok (.getfield 126, 3) := by decide +kernel
theorem dX1_beginOf_12 : decode cX1_beginOf 12 = .ok (.ireturn, 1) := by decide +kernel
theorem dX1_beginOf_13 : decode cX1_beginOf 13 = .ok (.aload_n 0, 1) := by decide +kernel
theorem dX1_beginOf_14 : decode cX1_beginOf 14 = .ok (.aload_n 1, 1) := by decide +kernel
theorem dX1_beginOf_15 : decode cX1_beginOf 15 = .ok (.getfield 131, 3) := by decide +kernel
theorem dX1_beginOf_18 : decode cX1_beginOf 18 = .ok (.aload_n 1, 1) := by decide +kernel
theorem dX1_beginOf_19 : decode cX1_beginOf 19 = .ok (.getfield 126, 3) := by decide +kernel
theorem dX1_beginOf_22 : decode cX1_beginOf 22 = .ok (.invokevirtual 173, 3) := by decide +kernel
theorem dX1_beginOf_25 : decode cX1_beginOf 25 = .ok (.astore 4, 2) := by decide +kernel
theorem dX1_beginOf_27 : decode cX1_beginOf 27 = .ok (.aload 4, 2) := by decide +kernel
theorem dX1_beginOf_29 : decode cX1_beginOf 29 = .ok (.ifnonnull 5, 3) := by decide +kernel
theorem dX1_beginOf_32 : decode cX1_beginOf 32 = .ok (.iload_n 2, 1) := by decide +kernel
theorem dX1_beginOf_33 : decode cX1_beginOf 33 = .ok (.ireturn, 1) := by decide +kernel
theorem dX1_beginOf_34 : decode cX1_beginOf 34 = .ok (.aload_n 0, 1) := by decide +kernel
theorem dX1_beginOf_35 : decode cX1_beginOf 35 = .ok (.aload 4, 2) := by decide +kernel
theorem dX1_beginOf_37 : decode cX1_beginOf 37 = .ok (.aload_n 1, 1) := by decide +kernel
theorem dX1_beginOf_38 : decode cX1_beginOf 38 = .ok (.getfield 131, 3) := by decide +kernel
theorem dX1_beginOf_41 : decode cX1_beginOf 41 = .ok (.iload_n 3, 1) := by decide +kernel
theorem dX1_beginOf_42 : decode cX1_beginOf 42 = .ok (.invokevirtual 162, 3) := by decide +kernel
theorem dX1_beginOf_45 : decode cX1_beginOf 45 = .ok (.aload 4, 2) := by decide +kernel
theorem dX1_beginOf_47 : decode cX1_beginOf 47 = .ok (.aload_n 0, 1) := by decide +kernel
theorem dX1_beginOf_48 : decode cX1_beginOf 48 = .ok (.getfield 76, 3) := by decide +kernel
theorem dX1_beginOf_51 : decode cX1_beginOf 51 = .ok (.invokevirtual 184, 3) := by decide +kernel
theorem dX1_beginOf_54 : decode cX1_beginOf 54 = .ok (.ifCond .eq 10, 3) := by decide +kernel
theorem dX1_beginOf_57 : decode cX1_beginOf 57 = .ok (.aload_n 1, 1) := by decide +kernel
theorem dX1_beginOf_58 : decode cX1_beginOf 58 = .ok (.getfield 126, 3) := by decide +kernel
theorem dX1_beginOf_61 : decode cX1_beginOf 61 = .ok (.goto 4, 3) := by decide +kernel
theorem dX1_beginOf_64 : decode cX1_beginOf 64 = .ok (.iload_n 2, 1) := by decide +kernel
theorem dX1_beginOf_65 : decode cX1_beginOf 65 = .ok (.ireturn, 1) := by decide +kernel
theorem dX1_fillTime_0 : decode cX1_fillTime 0 = .ok (.aload_n 3, 1) := by decide +kernel
theorem dX1_fillTime_1 : decode cX1_fillTime 1 = .ok (.iconst 0, 1) := by decide +kernel
theorem dX1_fillTime_2 : decode cX1_fillTime 2 = .ok (.putfield 188, 3) := by decide +kernel
theorem dX1_fillTime_5 : decode cX1_fillTime 5 = .ok (.iconst 0, 1) := by decide +kernel
theorem dX1_fillTime_6 : decode cX1_fillTime 6 = .ok (.istore 4, 2) := by decide +kernel
theorem dX1_fillTime_8 : decode cX1_fillTime 8 = .ok (.iload 4, 2) := by decide +kernel
theorem dX1_fillTime_10 : decode cX1_fillTime 10 = .ok (.aload_n 0, 1) := by decide +kernel
theorem dX1_fillTime_11 : decode cX1_fillTime 11 = .ok (.getfield 52, 3) := by decide +kernel
theorem dX1_fillTime_14 : decode cX1_fillTime 14 = .ok (.if_icmp .ge 85, 3) := by decide +kernel
theorem dX1_fillTime_17 : decode cX1_fillTime 17 = .ok (.aload_n 0, 1) := by decide +kernel
theorem dX1_fillTime_18 : decode cX1_fillTime 18 = .ok (.getfield 57, 3) := by decide +kernel
theorem dX1_fillTime_21 : decode cX1_fillTime 21 = .ok (.iload 4, 2) := by decide +kernel
theorem dX1_fillTime_23 : decode cX1_fillTime 23 = .ok (.aaload, 1) := by decide +kernel
theorem dX1_fillTime_24 : decode cX1_fillTime 24 = .ok (.getfield 131, 3) := by decide +kernel
theorem dX1_fillTime_27 : decode cX1_fillTime 27 = .ok (.getfield 137, 3) := by decide +kernel
theorem dX1_fillTime_30 : decode cX1_fillTime 30 = .ok (.iload_n 1, 1) := by decide +kernel
theorem dX1_fillTime_31 : decode cX1_fillTime 31 = .ok (.if_icmp .ne 62, 3) := by decide +kernel
theorem dX1_fillTime_34 : decode cX1_fillTime 34 = .ok (.aload_n 0, 1) := by decide +kernel
theorem dX1_fillTime_35 : decode cX1_fillTime 35 = .ok (.iload 4, 2) := by decide +kernel
theorem dX1_fillTime_37 : decode cX1_fillTime 37 = .ok (.iload_n 2, 1) := by decide +kernel
theorem dX1_fillTime_38 : decode cX1_fillTime 38 = .ok (.invokevirtual 127, 3) := by decide +kernel
theorem dX1_fillTime_41 : decode cX1_fillTime 41 = .ok (.ifCond .ne 6, 3) := by decide +kernel
theorem dX1_fillTime_44 : decode cX1_fillTime 44 = .ok (.goto 49, 3) := by decide +kernel
theorem dX1_fillTime_47 : decode cX1_fillTime 47 = .ok (.aload_n 0, 1) := by decide +kernel
theorem dX1_fillTime_48 : decode cX1_fillTime 48 = .ok (.aload_n 0, 1) := by decide +kernel
theorem dX1_fillTime_49 : decode cX1_fillTime 49 = .ok (.getfield 57, 3) := by decide +kernel
theorem dX1_fillTime_52 : decode cX1_fillTime 52 = .ok (.iload 4, 2) := by decide +kernel
theorem dX1_fillTime_54 : decode cX1_fillTime 54 = .ok (.aaload, 1) := by decide +kernel
theorem dX1_fillTime_55 : decode cX1_fillTime 55 = .ok (.aload_n 3, 1) := by decide +kernel
theorem dX1_fillTime_56 : decode cX1_fillTime 56 = .ok (.aload_n 3, 1) := by decide +kernel
theorem dX1_fillTime_57 : decode cX1_fillTime 57 = .ok (.getfield 188, 3) := by decide +kernel
theorem dX1_fillTime_60 : decode cX1_fillTime 60 = .ok (.invokevirtual 191, 3) := by decide +kernel
theorem dX1_fillTime_63 : decode cX1_fillTime 63 = .ok (.iload_n 2, 1) := by decide +kernel
theorem dX1_fillTime_64 : decode cX1_fillTime 64 = .ok (.invokevirtual 195, 3) := by decide +kernel
theorem dX1_fillTime_67 : decode cX1_fillTime 67 = .ok (.istore 5, 2) := by decide +kernel
theorem dX1_fillTime_69 : decode cX1_fillTime 69 = .ok (.aload_n 3, 1) := by decide +kernel
theorem dX1_fillTime_70 : decode cX1_fillTime 70 = .ok (.iload 4, 2) := by decide +kernel
theorem dX1_fillTime_72 : decode cX1_fillTime 72 = .ok (.iload 5, 2) := by decide +kernel
theorem dX1_fillTime_74 : decode cX1_fillTime 74 = .ok (.iload 5, 2) := by decide +kernel
theorem dX1_fillTime_76 : decode cX1_fillTime 76 = .ok (.bipush 30, 2) := by decide +kernel
theorem dX1_fillTime_78 : decode cX1_fillTime 78 = .ok (.aload_n 0, 1) := by decide +kernel
theorem dX1_fillTime_79 : decode cX1_fillTime 79 = .ok (.getfield 57, 3) := by decide +kernel
theorem dX1_fillTime_82 : decode cX1_fillTime 82 = .ok (.iload 4, 2) := by decide +kernel
theorem dX1_fillTime_84 : decode cX1_fillTime 84 = .ok (.aaload, 1) := by decide +kernel
theorem dX1_fillTime_85 : decode cX1_fillTime 85 = .ok (.getfield 183, 3) := by decide +kernel
theorem dX1_fillTime_88 : decode cX1_fillTime 88 = .ok (.imul, 1) := by decide +kernel
theorem dX1_fillTime_89 : decode cX1_fillTime 89 = .ok (.iadd, 1) := by decide +kernel
theorem dX1_fillTime_90 : decode cX1_fillTime 90 = .ok (.invokevirtual 199, 3) := by decide +kernel
theorem dX1_fillTime_93 : decode cX1_fillTime 93 = .ok (.iinc 4 1, 3) := by decide +kernel
theorem dX1_fillTime_96 : decode cX1_fillTime 96 = .ok (.goto (-88), 3) := by decide +kernel
theorem dX1_fillTime_99 : decode cX1_fillTime 99 = .ok (.return_, 1) := by decide +kernel
theorem dX1_firstPassed_0 : decode cX1_firstPassed 0 = .ok (.iconst 0, 1) := by decide +kernel
theorem dX1_firstPassed_1 : decode cX1_firstPassed 1 = .ok (.istore_n 3, 1) := by decide +kernel
theorem dX1_firstPassed_2 : decode cX1_firstPassed 2 = .ok (.iload_n 3, 1) := by decide +kernel
theorem dX1_firstPassed_3 : decode cX1_firstPassed 3 = .ok (.aload_n 0, 1) := by decide +kernel
theorem dX1_firstPassed_4 : decode cX1_firstPassed 4 = .ok (.getfield 52, 3) := by decide +kernel
theorem dX1_firstPassed_7 : decode cX1_firstPassed 7 = .ok (.if_icmp .ge 44, 3) := by decide +kernel
theorem dX1_firstPassed_10 : decode cX1_firstPassed 10 = .ok (.aload_n 0, 1) := by decide +kernel
theorem dX1_firstPassed_11 : decode cX1_firstPassed 11 = .ok (.getfield 57, 3) := by decide +kernel
theorem dX1_firstPassed_14 : decode cX1_firstPassed 14 = .ok (.iload_n 3, 1) := by decide +kernel
theorem dX1_firstPassed_15 : decode cX1_firstPassed 15 = .ok (.aaload, 1) := by decide +kernel
theorem dX1_firstPassed_16 : decode cX1_firstPassed 16 = .ok (.getfield 131, 3) := by decide +kernel
theorem dX1_firstPassed_19 : decode cX1_firstPassed 19 = .ok (.getfield 137, 3) := by decide +kernel
theorem dX1_firstPassed_22 : decode cX1_firstPassed 22 = .ok (.iload_n 1, 1) := by decide +kernel
theorem dX1_firstPassed_23 : decode cX1_firstPassed 23 = .ok (.if_icmp .ne 22, 3) := by decide +kernel
theorem dX1_firstPassed_26 : decode cX1_firstPassed 26 = .ok (.aload_n 0, 1) := by decide +kernel
theorem dX1_firstPassed_27 : decode cX1_firstPassed 27 = .ok (.iload_n 3, 1) := by decide +kernel
theorem dX1_firstPassed_28 : decode cX1_firstPassed 28 = .ok (.iload_n 2, 1) := by decide +kernel
theorem dX1_firstPassed_29 : decode cX1_firstPassed 29 = .ok (.invokevirtual 127, 3) := by decide +kernel
theorem dX1_firstPassed_32 : decode cX1_firstPassed 32 = .ok (.ifCond .eq 13, 3) := by decide +kernel
theorem dX1_firstPassed_35 : decode cX1_firstPassed 35 = .ok (.aload_n 0, 1) := by decide +kernel
theorem dX1_firstPassed_36 : decode cX1_firstPassed 36 = .ok (.getfield 57, 3) := by decide +kernel
theorem dX1_firstPassed_39 : decode cX1_firstPassed 39 = .ok (.iload_n 3, 1) := by decide +kernel
theorem dX1_firstPassed_40 : decode cX1_firstPassed 40 = .ok (.aaload, 1) := by decide +kernel
theorem dX1_firstPassed_41 : decode cX1_firstPassed 41 = .ok (.getfield 126, 3) := by decide +kernel
theorem dX1_firstPassed_44 : decode cX1_firstPassed 44 = .ok (.ireturn, 1) := by decide +kernel
theorem dX1_firstPassed_45 : decode cX1_firstPassed 45 = .ok (.iinc 3 1, 3) := by decide +kernel
theorem dX1_firstPassed_48 : decode cX1_firstPassed 48 = .ok (.goto (-46), 3) := by decide +kernel
theorem dX1_firstPassed_51 : decode cX1_firstPassed 51 = .ok (.bipush (-3), 2) := by decide +kernel
theorem dX1_firstPassed_53 : decode cX1_firstPassed 53 = .ok (.ireturn, 1) := by decide +kernel
theorem dX1_lastPassed_0 : decode cX1_lastPassed 0 = .ok (.aload_n 0, 1) := by decide +kernel
theorem dX1_lastPassed_1 : decode cX1_lastPassed 1 = .ok (.getfield 52, 3) := by decide +kernel
theorem dX1_lastPassed_4 : decode cX1_lastPassed 4 = .ok (.iconst 1, 1) := by decide +kernel
theorem dX1_lastPassed_5 : decode cX1_lastPassed 5 = .ok (.isub, 1) := by decide +kernel
theorem dX1_lastPassed_6 : decode cX1_lastPassed 6 = .ok (.istore_n 3, 1) := by decide +kernel
theorem dX1_lastPassed_7 : decode cX1_lastPassed 7 = .ok (.iload_n 3, 1) := by decide +kernel
theorem dX1_lastPassed_8 : decode cX1_lastPassed 8 = .ok (.ifCond .lt 44, 3) := by decide +kernel
theorem dX1_lastPassed_11 : decode cX1_lastPassed 11 = .ok (.aload_n 0, 1) := by decide +kernel
theorem dX1_lastPassed_12 : decode cX1_lastPassed 12 = .ok (.getfield 57, 3) := by decide +kernel
theorem dX1_lastPassed_15 : decode cX1_lastPassed 15 = .ok (.iload_n 3, 1) := by decide +kernel
theorem dX1_lastPassed_16 : decode cX1_lastPassed 16 = .ok (.aaload, 1) := by decide +kernel
theorem dX1_lastPassed_17 : decode cX1_lastPassed 17 = .ok (.getfield 131, 3) := by decide +kernel
theorem dX1_lastPassed_20 : decode cX1_lastPassed 20 = .ok (.getfield 137, 3) := by decide +kernel
theorem dX1_lastPassed_23 : decode cX1_lastPassed 23 = .ok (.iload_n 1, 1) := by decide +kernel
theorem dX1_lastPassed_24 : decode cX1_lastPassed 24 = .ok (.if_icmp .ne 22, 3) := by decide +kernel
theorem dX1_lastPassed_27 : decode cX1_lastPassed 27 = .ok (.aload_n 0, 1) := by decide +kernel
theorem dX1_lastPassed_28 : decode cX1_lastPassed 28 = .ok (.iload_n 3, 1) := by decide +kernel
theorem dX1_lastPassed_29 : decode cX1_lastPassed 29 = .ok (.iload_n 2, 1) := by decide +kernel
theorem dX1_lastPassed_30 : decode cX1_lastPassed 30 = .ok (.invokevirtual 127, 3) := by decide +kernel
theorem dX1_lastPassed_33 : decode cX1_lastPassed 33 = .ok (.ifCond .eq 13, 3) := by decide +kernel
theorem dX1_lastPassed_36 : decode cX1_lastPassed 36 = .ok (.aload_n 0, 1) := by decide +kernel
theorem dX1_lastPassed_37 : decode cX1_lastPassed 37 = .ok (.getfield 57, 3) := by decide +kernel
theorem dX1_lastPassed_40 : decode cX1_lastPassed 40 = .ok (.iload_n 3, 1) := by decide +kernel
theorem dX1_lastPassed_41 : decode cX1_lastPassed 41 = .ok (.aaload, 1) := by decide +kernel
theorem dX1_lastPassed_42 : decode cX1_lastPassed 42 = .ok (.getfield 126, 3) := by decide +kernel
theorem dX1_lastPassed_45 : decode cX1_lastPassed 45 = .ok (.ireturn, 1) := by decide +kernel
theorem dX1_lastPassed_46 : decode cX1_lastPassed 46 = .ok (.iinc 3 (-1), 3) := by decide +kernel
theorem dX1_lastPassed_49 : decode cX1_lastPassed 49 = .ok (.goto (-42), 3) := by decide +kernel
theorem dX1_lastPassed_52 : decode cX1_lastPassed 52 = .ok (.bipush (-3), 2) := by decide +kernel
theorem dX1_lastPassed_54 : decode cX1_lastPassed 54 = .ok (.ireturn, 1) := by decide +kernel
theorem dX1_creditOf_0 : decode cX1_creditOf 0 = .ok (.aload_n 0, 1) := by decide +kernel
theorem dX1_creditOf_1 : decode cX1_creditOf 1 = .ok (.iload_n 1, 1) := by decide +kernel
theorem dX1_creditOf_2 : decode cX1_creditOf 2 = .ok (.iload_n 2, 1) := by decide +kernel
theorem dX1_creditOf_3 : decode cX1_creditOf 3 = .ok (.invokevirtual 203, 3) := by decide +kernel
theorem dX1_creditOf_6 : decode cX1_creditOf 6 = .ok (.istore_n 3, 1) := by decide +kernel
theorem dX1_creditOf_7 : decode cX1_creditOf 7 = .ok (.iload_n 3, 1) := by decide +kernel
theorem dX1_creditOf_8 : decode cX1_creditOf 8 = .ok (.bipush (-3), 2) := by decide +kernel
theorem dX1_creditOf_10 : decode cX1_creditOf 10 = .ok (.if_icmp .ne 7, 3) := by decide +kernel
theorem dX1_creditOf_13 : decode cX1_creditOf 13 = .ok (.iconst 0, 1) := by decide +kernel
theorem dX1_creditOf_14 : decode cX1_creditOf 14 = .ok (.goto 9, 3) := by decide +kernel
theorem dX1_creditOf_17 : decode cX1_creditOf 17 = .ok (.aload_n 0, 1) := by decide +kernel
theorem dX1_creditOf_18 : decode cX1_creditOf 18 = .ok (.iload_n 1, 1) := by decide +kernel
theorem dX1_creditOf_19 : decode cX1_creditOf 19 = .ok (.iload_n 3, 1) := by decide +kernel
theorem dX1_creditOf_20 : decode cX1_creditOf 20 = .ok (.invokevirtual 206, 3) := by decide +kernel
theorem dX1_creditOf_23 : decode cX1_creditOf 23 = .ok (.ireturn, 1) := by decide +kernel
theorem dX1_heldAhead_0 : decode cX1_heldAhead 0 = .ok (.iconst 0, 1) := by decide +kernel
theorem dX1_heldAhead_1 : decode cX1_heldAhead 1 = .ok (.istore_n 3, 1) := by decide +kernel
theorem dX1_heldAhead_2 : decode cX1_heldAhead 2 = .ok (.iconst 0, 1) := by decide +kernel
theorem dX1_heldAhead_3 : decode cX1_heldAhead 3 = .ok (.istore 4, 2) := by decide +kernel
theorem dX1_heldAhead_5 : decode cX1_heldAhead 5 = .ok (.iconst 0, 1) := by decide +kernel
theorem dX1_heldAhead_6 : decode cX1_heldAhead 6 = .ok (.istore 5, 2) := by decide +kernel
theorem dX1_heldAhead_8 : decode cX1_heldAhead 8 = .ok (.iload 5, 2) := by decide +kernel
theorem dX1_heldAhead_10 : decode cX1_heldAhead 10 = .ok (.aload_n 0, 1) := by decide +kernel
theorem dX1_heldAhead_11 : decode cX1_heldAhead 11 = .ok (.getfield 64, 3) := by decide +kernel
theorem dX1_heldAhead_14 : decode cX1_heldAhead 14 = .ok (.if_icmp .ge 114, 3) := by decide +kernel
theorem dX1_heldAhead_17 : decode cX1_heldAhead 17 = .ok (.iload_n 2, 1) := by decide +kernel
theorem dX1_heldAhead_18 : decode cX1_heldAhead 18 = .ok (.istore 6, 2) := by decide +kernel
theorem dX1_heldAhead_20 : decode cX1_heldAhead 20 = .ok (.iload_n 2, 1) := by decide +kernel
theorem dX1_heldAhead_21 : decode cX1_heldAhead 21 = .ok (.istore 7, 2) := by decide +kernel
theorem dX1_heldAhead_23 : decode cX1_heldAhead 23 = .ok (.iconst 0, 1) := by decide +kernel
theorem dX1_heldAhead_24 : decode cX1_heldAhead 24 = .ok (.istore 8, 2) := by decide +kernel
theorem dX1_heldAhead_26 : decode cX1_heldAhead 26 = .ok (.iload 8, 2) := by decide +kernel
theorem dX1_heldAhead_28 : decode cX1_heldAhead 28 = .ok (.aload_n 0, 1) := by decide +kernel
theorem dX1_heldAhead_29 : decode cX1_heldAhead 29 = .ok (.getfield 64, 3) := by decide +kernel
theorem dX1_heldAhead_32 : decode cX1_heldAhead 32 = .ok (.if_icmp .ge 78, 3) := by decide +kernel
theorem dX1_heldAhead_35 : decode cX1_heldAhead 35 = .ok (.aload_n 0, 1) := by decide +kernel
theorem dX1_heldAhead_36 : decode cX1_heldAhead 36 = .ok (.getfield 67, 3) := by decide +kernel
theorem dX1_heldAhead_39 : decode cX1_heldAhead 39 = .ok (.iload 8, 2) := by decide +kernel
theorem dX1_heldAhead_41 : decode cX1_heldAhead 41 = .ok (.iaload, 1) := by decide +kernel
theorem dX1_heldAhead_42 : decode cX1_heldAhead 42 = .ok (.iload_n 1, 1) := by decide +kernel
theorem dX1_heldAhead_43 : decode cX1_heldAhead 43 = .ok (.if_icmp .ne 61, 3) := by decide +kernel
theorem dX1_heldAhead_46 : decode cX1_heldAhead 46 = .ok (.aload_n 0, 1) := by decide +kernel
theorem dX1_heldAhead_47 : decode cX1_heldAhead 47 = .ok (.getfield 73, 3) := by decide +kernel
theorem dX1_heldAhead_50 : decode cX1_heldAhead 50 = .ok (.iload 8, 2) := by decide +kernel
theorem dX1_heldAhead_52 : decode cX1_heldAhead 52 = .ok (.iaload, 1) := by decide +kernel
theorem dX1_heldAhead_53 : decode cX1_heldAhead 53 = .ok (.iload 4, 2) := by decide +kernel
theorem dX1_heldAhead_55 : decode cX1_heldAhead 55 = .ok (.if_icmp .ge 6, 3) := by decide +kernel
theorem dX1_heldAhead_58 : decode cX1_heldAhead 58 = .ok (.goto 46, 3) := by decide +kernel
theorem dX1_heldAhead_61 : decode cX1_heldAhead 61 = .ok (.aload_n 0, 1) := by decide +kernel
theorem dX1_heldAhead_62 : decode cX1_heldAhead 62 = .ok (.getfield 70, 3) := by decide +kernel
theorem dX1_heldAhead_65 : decode cX1_heldAhead 65 = .ok (.iload 8, 2) := by decide +kernel
theorem dX1_heldAhead_67 : decode cX1_heldAhead 67 = .ok (.iaload, 1) := by decide +kernel
theorem dX1_heldAhead_68 : decode cX1_heldAhead 68 = .ok (.iload 4, 2) := by decide +kernel
theorem dX1_heldAhead_70 : decode cX1_heldAhead 70 = .ok (.invokestatic 209, 3) := by decide +kernel
theorem dX1_heldAhead_73 : decode cX1_heldAhead 73 = .ok (.istore 9, 2) := by decide +kernel
theorem dX1_heldAhead_75 : decode cX1_heldAhead 75 = .ok (.iload 9, 2) := by decide +kernel
theorem dX1_heldAhead_77 : decode cX1_heldAhead 77 = .ok (.iload 6, 2) := by decide +kernel
theorem dX1_heldAhead_79 : decode cX1_heldAhead 79 = .ok (.if_icmp .lt 6, 3) := by decide +kernel
theorem dX1_heldAhead_82 : decode cX1_heldAhead 82 = .ok (.goto 22, 3) := by decide +kernel
theorem dX1_heldAhead_85 : decode cX1_heldAhead 85 = .ok (.iload 9, 2) := by decide +kernel
theorem dX1_heldAhead_87 : decode cX1_heldAhead 87 = .ok (.istore 6, 2) := by decide +kernel
theorem dX1_heldAhead_89 : decode cX1_heldAhead 89 = .ok (.aload_n 0, 1) := by decide +kernel
theorem dX1_heldAhead_90 : decode cX1_heldAhead 90 = .ok (.getfield 73, 3) := by decide +kernel
theorem dX1_heldAhead_93 : decode cX1_heldAhead 93 = .ok (.iload 8, 2) := by decide +kernel
theorem dX1_heldAhead_95 : decode cX1_heldAhead 95 = .ok (.iaload, 1) := by decide +kernel
theorem dX1_heldAhead_96 : decode cX1_heldAhead 96 = .ok (.iconst 1, 1) := by decide +kernel
theorem dX1_heldAhead_97 : decode cX1_heldAhead 97 = .ok (.iadd, 1) := by decide +kernel
theorem dX1_heldAhead_98 : decode cX1_heldAhead 98 = .ok (.iload_n 2, 1) := by decide +kernel
theorem dX1_heldAhead_99 : decode cX1_heldAhead 99 = .ok (.invokestatic 214, 3) := by decide +kernel
theorem dX1_heldAhead_102 : decode cX1_heldAhead 102 = .ok (.istore 7, 2) := by decide +kernel
theorem dX1_heldAhead_104 : decode cX1_heldAhead 104 = .ok (.iinc 8 1, 3) := by decide +kernel
theorem dX1_heldAhead_107 : decode cX1_heldAhead 107 = .ok (.goto (-81), 3) := by decide +kernel
theorem dX1_heldAhead_110 : decode cX1_heldAhead 110 = .ok (.iload_n 3, 1) := by decide +kernel
theorem dX1_heldAhead_111 : decode cX1_heldAhead 111 = .ok (.iload 7, 2) := by decide +kernel
theorem dX1_heldAhead_113 : decode cX1_heldAhead 113 = .ok (.iload 6, 2) := by decide +kernel
theorem dX1_heldAhead_115 : decode cX1_heldAhead 115 = .ok (.isub, 1) := by decide +kernel
theorem dX1_heldAhead_116 : decode cX1_heldAhead 116 = .ok (.iadd, 1) := by decide +kernel
theorem dX1_heldAhead_117 : decode cX1_heldAhead 117 = .ok (.istore_n 3, 1) := by decide +kernel
theorem dX1_heldAhead_118 : decode cX1_heldAhead 118 = .ok (.iload 7, 2) := by decide +kernel
theorem dX1_heldAhead_120 : decode cX1_heldAhead 120 = .ok (.istore 4, 2) := by decide +kernel
theorem dX1_heldAhead_122 : decode cX1_heldAhead 122 = .ok (.iinc 5 1, 3) := by decide +kernel
theorem dX1_heldAhead_125 : decode cX1_heldAhead 125 = .ok (.goto (-117), 3) := by decide +kernel
theorem dX1_heldAhead_128 : decode cX1_heldAhead 128 = .ok (.iload_n 3, 1) := by decide +kernel
theorem dX1_heldAhead_129 : decode cX1_heldAhead 129 = .ok (.ireturn, 1) := by decide +kernel
theorem dX1_releaseOf_0 : decode cX1_releaseOf 0 = .ok (.aload_n 0, 1) := by decide +kernel
theorem dX1_releaseOf_1 : decode cX1_releaseOf 1 = .ok (.iload_n 1, 1) := by decide +kernel
theorem dX1_releaseOf_2 : decode cX1_releaseOf 2 = .ok (.iload_n 2, 1) := by decide +kernel
theorem dX1_releaseOf_3 : decode cX1_releaseOf 3 = .ok (.aload_n 0, 1) := by decide +kernel
theorem dX1_releaseOf_4 : decode cX1_releaseOf 4 = .ok (.getfield 82, 3) := by decide +kernel
theorem dX1_releaseOf_7 : decode cX1_releaseOf 7 = .ok (.invokevirtual 217, 3) := by decide +kernel
theorem dX1_releaseOf_10 : decode cX1_releaseOf 10 = .ok (.aload_n 0, 1) := by decide +kernel
theorem dX1_releaseOf_11 : decode cX1_releaseOf 11 = .ok (.getfield 82, 3) := by decide +kernel
theorem dX1_releaseOf_14 : decode cX1_releaseOf 14 = .ok (.getfield 188, 3) := by decide +kernel
theorem dX1_releaseOf_17 : decode cX1_releaseOf 17 = .ok (.ifCond .ne 6, 3) := by decide +kernel
theorem dX1_releaseOf_20 : decode cX1_releaseOf 20 = .ok (.bipush (-3), 2) := by decide +kernel
theorem dX1_releaseOf_22 : decode cX1_releaseOf 22 = .ok (.ireturn, 1) := by decide +kernel
theorem dX1_releaseOf_23 : decode cX1_releaseOf 23 = .ok (.aload_n 0, 1) := by decide +kernel
theorem dX1_releaseOf_24 : decode cX1_releaseOf 24 = .ok (.getfield 82, 3) := by decide +kernel
theorem dX1_releaseOf_27 : decode cX1_releaseOf 27 = .ok (.aload_n 0, 1) := by decide +kernel
theorem dX1_releaseOf_28 : decode cX1_releaseOf 28 = .ok (.getfield 82, 3) := by decide +kernel
theorem dX1_releaseOf_31 : decode cX1_releaseOf 31 = .ok (.getfield 188, 3) := by decide +kernel
theorem dX1_releaseOf_34 : decode cX1_releaseOf 34 = .ok (.invokevirtual 191, 3) := by decide +kernel
theorem dX1_releaseOf_37 : decode cX1_releaseOf 37 = .ok (.aload_n 0, 1) := by decide +kernel
theorem dX1_releaseOf_38 : decode cX1_releaseOf 38 = .ok (.iload_n 1, 1) := by decide +kernel
theorem dX1_releaseOf_39 : decode cX1_releaseOf 39 = .ok (.iload_n 2, 1) := by decide +kernel
theorem dX1_releaseOf_40 : decode cX1_releaseOf 40 = .ok (.invokevirtual 221, 3) := by decide +kernel
theorem dX1_releaseOf_43 : decode cX1_releaseOf 43 = .ok (.isub, 1) := by decide +kernel
theorem dX1_releaseOf_44 : decode cX1_releaseOf 44 = .ok (.aload_n 0, 1) := by decide +kernel
theorem dX1_releaseOf_45 : decode cX1_releaseOf 45 = .ok (.getfield 22, 3) := by decide +kernel
theorem dX1_releaseOf_48 : decode cX1_releaseOf 48 = .ok (.iload_n 1, 1) := by decide +kernel
theorem dX1_releaseOf_49 : decode cX1_releaseOf 49 = .ok (.iaload, 1) := by decide +kernel
theorem dX1_releaseOf_50 : decode cX1_releaseOf 50 = .ok (.isub, 1) := by decide +kernel
theorem dX1_releaseOf_51 : decode cX1_releaseOf 51 = .ok (.istore_n 3, 1) := by decide +kernel
theorem dX1_releaseOf_52 : decode cX1_releaseOf 52 = .ok (.aload_n 0, 1) := by decide +kernel
theorem dX1_releaseOf_53 : decode cX1_releaseOf 53 = .ok (.iload_n 1, 1) := by decide +kernel
theorem dX1_releaseOf_54 : decode cX1_releaseOf 54 = .ok (.iload_n 2, 1) := by decide +kernel
theorem dX1_releaseOf_55 : decode cX1_releaseOf 55 = .ok (.invokevirtual 224, 3) := by decide +kernel
theorem dX1_releaseOf_58 : decode cX1_releaseOf 58 = .ok (.iload_n 3, 1) := by decide +kernel
theorem dX1_releaseOf_59 : decode cX1_releaseOf 59 = .ok (.invokestatic 209, 3) := by decide +kernel
theorem dX1_releaseOf_62 : decode cX1_releaseOf 62 = .ok (.ireturn, 1) := by decide +kernel
theorem dX1_pointsJudged_0 : decode cX1_pointsJudged 0 = .ok (.aload_n 0, 1) := by decide +kernel
theorem dX1_pointsJudged_1 : decode cX1_pointsJudged 1 = .ok (.aload_n 1, 1) := by decide +kernel
theorem dX1_pointsJudged_2 : decode cX1_pointsJudged 2 = .ok (.iload_n 2, 1) := by decide +kernel
theorem dX1_pointsJudged_3 : decode cX1_pointsJudged 3 = .ok (.invokevirtual 173, 3) := by decide +kernel
theorem dX1_pointsJudged_6 : decode cX1_pointsJudged 6 = .ok (.astore_n 3, 1) := by decide +kernel
theorem dX1_pointsJudged_7 : decode cX1_pointsJudged 7 = .ok (.aload_n 3, 1) := by decide +kernel
theorem dX1_pointsJudged_8 : decode cX1_pointsJudged 8 = .ok (.ifnonnull 7, 3) := by decide +kernel
theorem dX1_pointsJudged_11 : decode cX1_pointsJudged 11 = .ok (.iconst 0, 1) := by decide +kernel
theorem dX1_pointsJudged_12 : decode cX1_pointsJudged 12 = .ok (.goto 10, 3) := by decide +kernel
theorem dX1_pointsJudged_15 : decode cX1_pointsJudged 15 = .ok (.aload_n 0, 1) := by decide +kernel
theorem dX1_pointsJudged_16 : decode cX1_pointsJudged 16 = .ok (.aload_n 3, 1) := by decide +kernel
theorem dX1_pointsJudged_17 : decode cX1_pointsJudged 17 = .ok (.aload_n 1, 1) := by decide +kernel
theorem dX1_pointsJudged_18 : decode cX1_pointsJudged 18 = .ok (.iload_n 2, 1) := by decide +kernel
theorem dX1_pointsJudged_19 : decode cX1_pointsJudged 19 = .ok (.invokevirtual 158, 3) := by decide +kernel
theorem dX1_pointsJudged_22 : decode cX1_pointsJudged 22 = .ok (.ireturn, 1) := by decide +kernel
theorem dX1_apart_0 : decode cX1_apart 0 = .ok (.aload_n 1, 1) := by decide +kernel
theorem dX1_apart_1 : decode cX1_apart 1 = .ok (.getfield 146, 3) := by decide +kernel
theorem dX1_apart_4 : decode cX1_apart 4 = .ok (.aload_n 2, 1) := by decide +kernel
theorem dX1_apart_5 : decode cX1_apart 5 = .ok (.getfield 146, 3) := by decide +kernel
theorem dX1_apart_8 : decode cX1_apart 8 = .ok (.if_icmp .ne 7, 3) := by decide +kernel
theorem dX1_apart_11 : decode cX1_apart 11 = .ok (.iconst 0, 1) := by decide +kernel
theorem dX1_apart_12 : decode cX1_apart 12 = .ok (.goto 4, 3) := by decide +kernel
theorem dX1_apart_15 : decode cX1_apart 15 = .ok (.iconst 3, 1) := by decide +kernel
theorem dX1_apart_16 : decode cX1_apart 16 = .ok (.istore 4, 2) := by decide +kernel
theorem dX1_apart_18 : decode cX1_apart 18 = .ok (.iload 4, 2) := by decide +kernel
theorem dX1_apart_20 : decode cX1_apart 20 = .ok (.aload_n 0, 1) := by decide +kernel
theorem dX1_apart_21 : decode cX1_apart 21 = .ok (.aload_n 1, 1) := by decide +kernel
theorem dX1_apart_22 : decode cX1_apart 22 = .ok (.iload_n 3, 1) := by decide +kernel
theorem dX1_apart_23 : decode cX1_apart 23 = .ok (.invokevirtual 147, 3) := by decide +kernel
theorem dX1_apart_26 : decode cX1_apart 26 = .ok (.aload_n 0, 1) := by decide +kernel
theorem dX1_apart_27 : decode cX1_apart 27 = .ok (.aload_n 2, 1) := by decide +kernel
theorem dX1_apart_28 : decode cX1_apart 28 = .ok (.iload_n 3, 1) := by decide +kernel
theorem dX1_apart_29 : decode cX1_apart 29 = .ok (.invokevirtual 147, 3) := by decide +kernel
theorem dX1_apart_32 : decode cX1_apart 32 = .ok (.ixor, 1) := by decide +kernel
theorem dX1_apart_33 : decode cX1_apart 33 = .ok (.invokestatic 227, 3) := by decide +kernel
theorem dX1_apart_36 : decode cX1_apart 36 = .ok (.iadd, 1) := by decide +kernel
theorem dX1_apart_37 : decode cX1_apart 37 = .ok (.istore 4, 2) := by decide +kernel
theorem dX1_apart_39 : decode cX1_apart 39 = .ok (.aload_n 1, 1) := by decide +kernel
theorem dX1_apart_40 : decode cX1_apart 40 = .ok (.getfield 151, 3) := by decide +kernel
theorem dX1_apart_43 : decode cX1_apart 43 = .ok (.bipush 18, 2) := by decide +kernel
theorem dX1_apart_45 : decode cX1_apart 45 = .ok (.if_icmp .ge 7, 3) := by decide +kernel
theorem dX1_apart_48 : decode cX1_apart 48 = .ok (.iconst 1, 1) := by decide +kernel
theorem dX1_apart_49 : decode cX1_apart 49 = .ok (.goto 4, 3) := by decide +kernel
theorem dX1_apart_52 : decode cX1_apart 52 = .ok (.iconst 0, 1) := by decide +kernel
theorem dX1_apart_53 : decode cX1_apart 53 = .ok (.aload_n 2, 1) := by decide +kernel
theorem dX1_apart_54 : decode cX1_apart 54 = .ok (.getfield 151, 3) := by decide +kernel
theorem dX1_apart_57 : decode cX1_apart 57 = .ok (.bipush 18, 2) := by decide +kernel
theorem dX1_apart_59 : decode cX1_apart 59 = .ok (.if_icmp .ge 7, 3) := by decide +kernel
theorem dX1_apart_62 : decode cX1_apart 62 = .ok (.iconst 1, 1) := by decide +kernel
theorem dX1_apart_63 : decode cX1_apart 63 = .ok (.goto 4, 3) := by decide +kernel
theorem dX1_apart_66 : decode cX1_apart 66 = .ok (.iconst 0, 1) := by decide +kernel
theorem dX1_apart_67 : decode cX1_apart 67 = .ok (.if_icmp .eq 6, 3) := by decide +kernel
theorem dX1_apart_70 : decode cX1_apart 70 = .ok (.iinc 4 2, 3) := by decide +kernel
theorem dX1_apart_73 : decode cX1_apart 73 = .ok (.iload 4, 2) := by decide +kernel
theorem dX1_apart_75 : decode cX1_apart 75 = .ok (.aload_n 0, 1) := by decide +kernel
theorem dX1_apart_76 : decode cX1_apart 76 = .ok (.aload_n 1, 1) := by decide +kernel
theorem dX1_apart_77 : decode cX1_apart 77 = .ok (.iload_n 3, 1) := by decide +kernel
theorem dX1_apart_78 : decode cX1_apart 78 = .ok (.invokevirtual 232, 3) := by decide +kernel
theorem dX1_apart_81 : decode cX1_apart 81 = .ok (.aload_n 0, 1) := by decide +kernel
theorem dX1_apart_82 : decode cX1_apart 82 = .ok (.aload_n 2, 1) := by decide +kernel
theorem dX1_apart_83 : decode cX1_apart 83 = .ok (.iload_n 3, 1) := by decide +kernel
theorem dX1_apart_84 : decode cX1_apart 84 = .ok (.invokevirtual 232, 3) := by decide +kernel
theorem dX1_apart_87 : decode cX1_apart 87 = .ok (.isub, 1) := by decide +kernel
theorem dX1_apart_88 : decode cX1_apart 88 = .ok (.invokestatic 235, 3) := by decide +kernel
theorem dX1_apart_91 : decode cX1_apart 91 = .ok (.iadd, 1) := by decide +kernel
theorem dX1_apart_92 : decode cX1_apart 92 = .ok (.ireturn, 1) := by decide +kernel
theorem dX2_init_0 : decode cX2_init 0 = .ok (.aload_n 0, 1) := by decide +kernel
theorem dX2_init_1 : decode cX2_init 1 = .ok (.iload_n 1, 1) := by decide +kernel
theorem dX2_init_2 : decode cX2_init 2 = .ok (.iload_n 2, 1) := by decide +kernel
theorem dX2_init_3 : decode cX2_init 3 = .ok (.aload_n 3, 1) := by decide +kernel
theorem dX2_init_4 : decode cX2_init 4 = .ok (.iload 4, 2) := by decide +kernel
theorem dX2_init_6 : decode cX2_init 6 = .ok (.iload 5, 2) := by decide +kernel
theorem dX2_init_8 : decode cX2_init 8 = .ok (.iload 6, 2) := by decide +kernel
theorem dX2_init_10 : decode cX2_init 10 = .ok (.invokespecial 1, 3) := by decide +kernel
theorem dX2_init_13 : decode cX2_init 13 = .ok (.return_, 1) := by decide +kernel
theorem dX2_isDrawn_0 : decode cX2_isDrawn 0 = .ok (.iconst 1, 1) := by decide +kernel
theorem dX2_isDrawn_1 : decode cX2_isDrawn 1 = .ok (.ireturn, 1) := by decide +kernel
theorem dX2_weighs_0 : decode cX2_weighs 0 = .ok (.aload_n 2, 1) := by decide +kernel
theorem dX2_weighs_1 : decode cX2_weighs 1 = .ok (.bipush 60, 2) := by decide +kernel
theorem dX2_weighs_3 : decode cX2_weighs 3 = .ok (.invokevirtual 7, 3) := by decide +kernel
theorem dX2_weighs_6 : decode cX2_weighs 6 = .ok (.aload_n 0, 1) := by decide +kernel
theorem dX2_weighs_7 : decode cX2_weighs 7 = .ok (.iload_n 1, 1) := by decide +kernel
theorem dX2_weighs_8 : decode cX2_weighs 8 = .ok (.aload_n 2, 1) := by decide +kernel
theorem dX2_weighs_9 : decode cX2_weighs 9 = .ok (.invokespecial 13, 3) := by decide +kernel
theorem dX2_weighs_12 : decode cX2_weighs 12 = .ok (.bipush 6, 2) := by decide +kernel
theorem dX2_weighs_14 : decode cX2_weighs 14 = .ok (.ixor, 1) := by decide +kernel
theorem dX2_weighs_15 : decode cX2_weighs 15 = .ok (.ireturn, 1) := by decide +kernel
theorem dX2_parts_0 : decode cX2_parts 0 = .ok (.aload_n 2, 1) := by decide +kernel
theorem dX2_parts_1 : decode cX2_parts 1 = .ok (.bipush 61, 2) := by decide +kernel
theorem dX2_parts_3 : decode cX2_parts 3 = .ok (.invokevirtual 7, 3) := by decide +kernel
theorem dX2_parts_6 : decode cX2_parts 6 = .ok (.aload_n 0, 1) := by decide +kernel
theorem dX2_parts_7 : decode cX2_parts 7 = .ok (.iload_n 1, 1) := by decide +kernel
theorem dX2_parts_8 : decode cX2_parts 8 = .ok (.aload_n 2, 1) := by decide +kernel
theorem dX2_parts_9 : decode cX2_parts 9 = .ok (.invokespecial 17, 3) := by decide +kernel
theorem dX2_parts_12 : decode cX2_parts 12 = .ok (.iconst 1, 1) := by decide +kernel
theorem dX2_parts_13 : decode cX2_parts 13 = .ok (.isub, 1) := by decide +kernel
theorem dX2_parts_14 : decode cX2_parts 14 = .ok (.ireturn, 1) := by decide +kernel
theorem dX3_init_0 : decode cX3_init 0 = .ok (.aload_n 0, 1) := by decide +kernel
theorem dX3_init_1 : decode cX3_init 1 = .ok (.iload_n 1, 1) := by decide +kernel
theorem dX3_init_2 : decode cX3_init 2 = .ok (.iload_n 2, 1) := by decide +kernel
theorem dX3_init_3 : decode cX3_init 3 = .ok (.invokespecial 1, 3) := by decide +kernel
theorem dX3_init_6 : decode cX3_init 6 = .ok (.aload_n 0, 1) := by decide +kernel
theorem dX3_init_7 : decode cX3_init 7 = .ok (.aload_n 3, 1) := by decide +kernel
theorem dX3_init_8 : decode cX3_init 8 = .ok (.putfield 7, 3) := by decide +kernel
theorem dX3_init_11 : decode cX3_init 11 = .ok (.aload_n 0, 1) := by decide +kernel
theorem dX3_init_12 : decode cX3_init 12 = .ok (.iload 4, 2) := by decide +kernel
theorem dX3_init_14 : decode cX3_init 14 = .ok (.putfield 13, 3) := by decide +kernel
theorem dX3_init_17 : decode cX3_init 17 = .ok (.aload_n 0, 1) := by decide +kernel
theorem dX3_init_18 : decode cX3_init 18 = .ok (.iload 5, 2) := by decide +kernel
theorem dX3_init_20 : decode cX3_init 20 = .ok (.putfield 17, 3) := by decide +kernel
theorem dX3_init_23 : decode cX3_init 23 = .ok (.return_, 1) := by decide +kernel
theorem dX3_parts_0 : decode cX3_parts 0 = .ok (.aload_n 2, 1) := by decide +kernel
theorem dX3_parts_1 : decode cX3_parts 1 = .ok (.bipush 40, 2) := by decide +kernel
theorem dX3_parts_3 : decode cX3_parts 3 = .ok (.invokevirtual 21, 3) := by decide +kernel
theorem dX3_parts_6 : decode cX3_parts 6 = .ok (.aload_n 0, 1) := by decide +kernel
theorem dX3_parts_7 : decode cX3_parts 7 = .ok (.iload_n 1, 1) := by decide +kernel
theorem dX3_parts_8 : decode cX3_parts 8 = .ok (.iconst 2, 1) := by decide +kernel
theorem dX3_parts_9 : decode cX3_parts 9 = .ok (.iadd, 1) := by decide +kernel
theorem dX3_parts_10 : decode cX3_parts 10 = .ok (.aload_n 2, 1) := by decide +kernel
theorem dX3_parts_11 : decode cX3_parts 11 = .ok (.invokespecial 27, 3) := by decide +kernel
theorem dX3_parts_14 : decode cX3_parts 14 = .ok (.ireturn, 1) := by decide +kernel
theorem dX3_tells_0 : decode cX3_tells 0 = .ok (.aload_n 2, 1) := by decide +kernel
theorem dX3_tells_1 : decode cX3_tells 1 = .ok (.bipush 41, 2) := by decide +kernel
theorem dX3_tells_3 : decode cX3_tells 3 = .ok (.invokevirtual 21, 3) := by decide +kernel
theorem dX3_tells_6 : decode cX3_tells 6 = .ok (.aload_n 0, 1) := by decide +kernel
theorem dX3_tells_7 : decode cX3_tells 7 = .ok (.iload_n 1, 1) := by decide +kernel
theorem dX3_tells_8 : decode cX3_tells 8 = .ok (.aload_n 2, 1) := by decide +kernel
theorem dX3_tells_9 : decode cX3_tells 9 = .ok (.invokespecial 31, 3) := by decide +kernel
theorem dX3_tells_12 : decode cX3_tells 12 = .ok (.iconst 5, 1) := by decide +kernel
theorem dX3_tells_13 : decode cX3_tells 13 = .ok (.imul, 1) := by decide +kernel
theorem dX3_tells_14 : decode cX3_tells 14 = .ok (.ireturn, 1) := by decide +kernel
theorem dX4_init_0 : decode cX4_init 0 = .ok (.aload_n 0, 1) := by decide +kernel
theorem dX4_init_1 : decode cX4_init 1 = .ok (.iload_n 1, 1) := by decide +kernel
theorem dX4_init_2 : decode cX4_init 2 = .ok (.aload_n 3, 1) := by decide +kernel
theorem dX4_init_3 : decode cX4_init 3 = .ok (.getfield 3, 3) := by decide +kernel
theorem dX4_init_6 : decode cX4_init 6 = .ok (.invokespecial 9, 3) := by decide +kernel
theorem dX4_init_9 : decode cX4_init 9 = .ok (.aload_n 0, 1) := by decide +kernel
theorem dX4_init_10 : decode cX4_init 10 = .ok (.bipush 6, 2) := by decide +kernel
theorem dX4_init_12 : decode cX4_init 12 = .ok (.newarray .int, 2) := by decide +kernel
theorem dX4_init_14 : decode cX4_init 14 = .ok (.putfield 15, 3) := by decide +kernel
theorem dX4_init_17 : decode cX4_init 17 = .ok (.aload_n 0, 1) := by decide +kernel
theorem dX4_init_18 : decode cX4_init 18 = .ok (.bipush 6, 2) := by decide +kernel
theorem dX4_init_20 : decode cX4_init 20 = .ok (.newarray .int, 2) := by decide +kernel
theorem dX4_init_22 : decode cX4_init 22 = .ok (.putfield 21, 3) := by decide +kernel
theorem dX4_init_25 : decode cX4_init 25 = .ok (.aload_n 0, 1) := by decide +kernel
theorem dX4_init_26 : decode cX4_init 26 = .ok (.bipush 20, 2) := by decide +kernel
theorem dX4_init_28 : decode cX4_init 28 = .ok (.newarray .int, 2) := by decide +kernel
theorem dX4_init_30 : decode cX4_init 30 = .ok (.putfield 24, 3) := by decide +kernel
theorem dX4_init_33 : decode cX4_init 33 = .ok (.aload_n 0, 1) := by decide +kernel
theorem dX4_init_34 : decode cX4_init 34 = .ok (.bipush 16, 2) := by decide +kernel
theorem dX4_init_36 : decode cX4_init 36 = .ok (.newarray .int, 2) := by decide +kernel
theorem dX4_init_38 : decode cX4_init 38 = .ok (.putfield 27, 3) := by decide +kernel
theorem dX4_init_41 : decode cX4_init 41 = .ok (.aload_n 0, 1) := by decide +kernel
theorem dX4_init_42 : decode cX4_init 42 = .ok (.iload_n 2, 1) := by decide +kernel
theorem dX4_init_43 : decode cX4_init 43 = .ok (.putfield 30, 3) := by decide +kernel
theorem dX4_init_46 : decode cX4_init 46 = .ok (.aload_n 0, 1) := by decide +kernel
theorem dX4_init_47 : decode cX4_init 47 = .ok (.aload_n 3, 1) := by decide +kernel
theorem dX4_init_48 : decode cX4_init 48 = .ok (.getfield 33, 3) := by decide +kernel
theorem dX4_init_51 : decode cX4_init 51 = .ok (.aload_n 0, 1) := by decide +kernel
theorem dX4_init_52 : decode cX4_init 52 = .ok (.getfield 36, 3) := by decide +kernel
theorem dX4_init_55 : decode cX4_init 55 = .ok (.invokestatic 39, 3) := by decide +kernel
theorem dX4_init_58 : decode cX4_init 58 = .ok (.putfield 45, 3) := by decide +kernel
theorem dX4_init_61 : decode cX4_init 61 = .ok (.aload_n 0, 1) := by decide +kernel
theorem dX4_init_62 : decode cX4_init 62 = .ok (.aload_n 3, 1) := by decide +kernel
theorem dX4_init_63 : decode cX4_init 63 = .ok (.getfield 46, 3) := by decide +kernel
theorem dX4_init_66 : decode cX4_init 66 = .ok (.aload_n 0, 1) := by decide +kernel
theorem dX4_init_67 : decode cX4_init 67 = .ok (.getfield 36, 3) := by decide +kernel
theorem dX4_init_70 : decode cX4_init 70 = .ok (.invokestatic 39, 3) := by decide +kernel
theorem dX4_init_73 : decode cX4_init 73 = .ok (.putfield 49, 3) := by decide +kernel
theorem dX4_init_76 : decode cX4_init 76 = .ok (.aload_n 0, 1) := by decide +kernel
theorem dX4_init_77 : decode cX4_init 77 = .ok (.aload_n 3, 1) := by decide +kernel
theorem dX4_init_78 : decode cX4_init 78 = .ok (.getfield 50, 3) := by decide +kernel
theorem dX4_init_81 : decode cX4_init 81 = .ok (.aload_n 0, 1) := by decide +kernel
theorem dX4_init_82 : decode cX4_init 82 = .ok (.getfield 36, 3) := by decide +kernel
theorem dX4_init_85 : decode cX4_init 85 = .ok (.invokestatic 39, 3) := by decide +kernel
theorem dX4_init_88 : decode cX4_init 88 = .ok (.putfield 53, 3) := by decide +kernel
theorem dX4_init_91 : decode cX4_init 91 = .ok (.aload_n 0, 1) := by decide +kernel
theorem dX4_init_92 : decode cX4_init 92 = .ok (.aload_n 3, 1) := by decide +kernel
theorem dX4_init_93 : decode cX4_init 93 = .ok (.getfield 54, 3) := by decide +kernel
theorem dX4_init_96 : decode cX4_init 96 = .ok (.aload_n 3, 1) := by decide +kernel
theorem dX4_init_97 : decode cX4_init 97 = .ok (.getfield 57, 3) := by decide +kernel
theorem dX4_init_100 : decode cX4_init 100 = .ok (.invokestatic 39, 3) := by decide +kernel
theorem dX4_init_103 : decode cX4_init 103 = .ok (.putfield 60, 3) := by decide +kernel
theorem dX4_init_106 : decode cX4_init 106 = .ok (.aload_n 0, 1) := by decide +kernel
theorem dX4_init_107 : decode cX4_init 107 = .ok (.aload_n 0, 1) := by decide +kernel
theorem dX4_init_108 : decode cX4_init 108 = .ok (.getfield 36, 3) := by decide +kernel
theorem dX4_init_111 : decode cX4_init 111 = .ok (.newarray .int, 2) := by decide +kernel
theorem dX4_init_113 : decode cX4_init 113 = .ok (.putfield 61, 3) := by decide +kernel
theorem dX4_init_116 : decode cX4_init 116 = .ok (.aload_n 0, 1) := by decide +kernel
theorem dX4_init_117 : decode cX4_init 117 = .ok (.getfield 24, 3) := by decide +kernel
theorem dX4_init_120 : decode cX4_init 120 = .ok (.bipush (-3), 2) := by decide +kernel
theorem dX4_init_122 : decode cX4_init 122 = .ok (.invokestatic 64, 3) := by decide +kernel
theorem dX4_init_125 : decode cX4_init 125 = .ok (.iconst 0, 1) := by decide +kernel
theorem dX4_init_126 : decode cX4_init 126 = .ok (.istore 4, 2) := by decide +kernel
theorem dX4_init_128 : decode cX4_init 128 = .ok (.bipush 90, 2) := by decide +kernel
theorem dX4_init_130 : decode cX4_init 130 = .ok (.istore 5, 2) := by decide +kernel
theorem dX4_init_132 : decode cX4_init 132 = .ok (.iconst 0, 1) := by decide +kernel
theorem dX4_init_133 : decode cX4_init 133 = .ok (.istore 6, 2) := by decide +kernel
theorem dX4_init_135 : decode cX4_init 135 = .ok (.iload 6, 2) := by decide +kernel
theorem dX4_init_137 : decode cX4_init 137 = .ok (.aload_n 0, 1) := by decide +kernel
theorem dX4_init_138 : decode cX4_init 138 = .ok (.getfield 36, 3) := by decide +kernel
theorem dX4_init_141 : decode cX4_init 141 = .ok (.if_icmp .ge 177, 3) := by decide +kernel
theorem dX4_init_144 : decode cX4_init 144 = .ok (.aload_n 3, 1) := by decide +kernel
theorem dX4_init_145 : decode cX4_init 145 = .ok (.iload 6, 2) := by decide +kernel
theorem dX4_init_147 : decode cX4_init 147 = .ok (.iconst 0, 1) := by decide +kernel
theorem dX4_init_148 : decode cX4_init 148 = .ok (.invokevirtual 68, 3) := by decide +kernel
theorem dX4_init_151 : decode cX4_init 151 = .ok (.istore 7, 2) := by decide +kernel
theorem dX4_init_153 : decode cX4_init 153 = .ok (.aload_n 3, 1) := by decide +kernel
theorem dX4_init_154 : decode cX4_init 154 = .ok (.iload 6, 2) := by decide +kernel
theorem dX4_init_156 : decode cX4_init 156 = .ok (.iconst 1, 1) := by decide +kernel
theorem dX4_init_157 : decode cX4_init 157 = .ok (.invokevirtual 68, 3) := by decide +kernel
theorem dX4_init_160 : decode cX4_init 160 = .ok (.istore 8, 2) := by decide +kernel
theorem dX4_init_162 : decode cX4_init 162 = .ok (.aload_n 0, 1) := by decide +kernel
theorem dX4_init_163 : decode cX4_init 163 = .ok (.getfield 45, 3) := by decide +kernel
theorem dX4_init_166 : decode cX4_init 166 = .ok (.iload 6, 2) := by decide +kernel
theorem dX4_init_168 : decode cX4_init 168 = .ok (.iaload, 1) := by decide +kernel
theorem dX4_init_169 : decode cX4_init 169 = .ok (.tableswitch 143 0 7 #[47, 59, 71, 78, 112, 124, 143, 137], 47) := by decide +kernel
theorem dX4_init_216 : decode cX4_init 216 = .ok (.aload_n 0, 1) := by decide +kernel
theorem dX4_init_217 : decode cX4_init 217 = .ok (.getfield 15, 3) := by decide +kernel
theorem dX4_init_220 : decode cX4_init 220 = .ok (.iload 7, 2) := by decide +kernel
theorem dX4_init_222 : decode cX4_init 222 = .ok (.iload 8, 2) := by decide +kernel
theorem dX4_init_224 : decode cX4_init 224 = .ok (.iastore, 1) := by decide +kernel
theorem dX4_init_225 : decode cX4_init 225 = .ok (.goto 87, 3) := by decide +kernel
theorem dX4_init_228 : decode cX4_init 228 = .ok (.aload_n 0, 1) := by decide +kernel
theorem dX4_init_229 : decode cX4_init 229 = .ok (.getfield 21, 3) := by decide +kernel
theorem dX4_init_232 : decode cX4_init 232 = .ok (.iload 7, 2) := by decide +kernel
theorem dX4_init_234 : decode cX4_init 234 = .ok (.iload 8, 2) := by decide +kernel
theorem dX4_init_236 : decode cX4_init 236 = .ok (.iastore, 1) := by decide +kernel
theorem dX4_init_237 : decode cX4_init 237 = .ok (.goto 75, 3) := by decide +kernel
theorem dX4_init_240 : decode cX4_init 240 = .ok (.iload 7, 2) := by decide +kernel
theorem dX4_init_242 : decode cX4_init 242 = .ok (.istore 5, 2) := by decide +kernel
theorem dX4_init_244 : decode cX4_init 244 = .ok (.goto 68, 3) := by decide +kernel
theorem dX4_init_247 : decode cX4_init 247 = .ok (.aload_n 0, 1) := by decide +kernel
theorem dX4_init_248 : decode cX4_init 248 = .ok (.getfield 24, 3) := by decide +kernel
theorem dX4_init_251 : decode cX4_init 251 = .ok (.iload 7, 2) := by decide +kernel
theorem dX4_init_253 : decode cX4_init 253 = .ok (.iconst 4, 1) := by decide +kernel
theorem dX4_init_254 : decode cX4_init 254 = .ok (.imul, 1) := by decide +kernel
theorem dX4_init_255 : decode cX4_init 255 = .ok (.iload 8, 2) := by decide +kernel
theorem dX4_init_257 : decode cX4_init 257 = .ok (.iadd, 1) := by decide +kernel
theorem dX4_init_258 : decode cX4_init 258 = .ok (.sipush 1000, 3) := by decide +kernel
theorem dX4_init_261 : decode cX4_init 261 = .ok (.aload_n 3, 1) := by decide +kernel
theorem dX4_init_262 : decode cX4_init 262 = .ok (.iload 6, 2) := by decide +kernel
theorem dX4_init_264 : decode cX4_init 264 = .ok (.iconst 2, 1) := by decide +kernel
theorem dX4_init_265 : decode cX4_init 265 = .ok (.invokevirtual 68, 3) := by decide +kernel
theorem dX4_init_268 : decode cX4_init 268 = .ok (.imul, 1) := by decide +kernel
theorem dX4_init_269 : decode cX4_init 269 = .ok (.aload_n 3, 1) := by decide +kernel
theorem dX4_init_270 : decode cX4_init 270 = .ok (.iload 6, 2) := by decide +kernel
theorem dX4_init_272 : decode cX4_init 272 = .ok (.iconst 3, 1) := by decide +kernel
theorem dX4_init_273 : decode cX4_init 273 = .ok (.invokevirtual 68, 3) := by decide +kernel
theorem dX4_init_276 : decode cX4_init 276 = .ok (.iadd, 1) := by decide +kernel
theorem dX4_init_277 : decode cX4_init 277 = .ok (.iastore, 1) := by decide +kernel
theorem dX4_init_278 : decode cX4_init 278 = .ok (.goto 34, 3) := by decide +kernel
theorem dX4_init_281 : decode cX4_init 281 = .ok (.aload_n 0, 1) := by decide +kernel
theorem dX4_init_282 : decode cX4_init 282 = .ok (.getfield 61, 3) := by decide +kernel
theorem dX4_init_285 : decode cX4_init 285 = .ok (.iload 6, 2) := by decide +kernel
theorem dX4_init_287 : decode cX4_init 287 = .ok (.iload 7, 2) := by decide +kernel
theorem dX4_init_289 : decode cX4_init 289 = .ok (.iastore, 1) := by decide +kernel
theorem dX4_init_290 : decode cX4_init 290 = .ok (.goto 22, 3) := by decide +kernel
theorem dX4_init_293 : decode cX4_init 293 = .ok (.aload_n 0, 1) := by decide +kernel
theorem dX4_init_294 : decode cX4_init 294 = .ok (.getfield 61, 3) := by decide +kernel
theorem dX4_init_297 : decode cX4_init 297 = .ok (.iload 6, 2) := by decide +kernel
theorem dX4_init_299 : decode cX4_init 299 = .ok (.iload 7, 2) := by decide +kernel
theorem dX4_init_301 : decode cX4_init 301 = .ok (.ineg, 1) := by decide +kernel
theorem dX4_init_302 : decode cX4_init 302 = .ok (.iastore, 1) := by decide +kernel
theorem dX4_init_303 : decode cX4_init 303 = .ok (.goto 9, 3) := by decide +kernel
theorem dX4_init_306 : decode cX4_init 306 = .ok (.iconst 1, 1) := by decide +kernel
theorem dX4_init_307 : decode cX4_init 307 = .ok (.istore 4, 2) := by decide +kernel
theorem dX4_init_309 : decode cX4_init 309 = .ok (.goto 3, 3) := by decide +kernel
theorem dX4_init_312 : decode cX4_init 312 = .ok (.iinc 6 1, 3) := by decide +kernel
theorem dX4_init_315 : decode cX4_init 315 = .ok (.goto (-180), 3) := by decide +kernel
theorem dX4_init_318 : decode cX4_init 318 = .ok (.aload_n 0, 1) := by decide +kernel
theorem dX4_init_319 : decode cX4_init 319 = .ok (.iload 4, 2) := by decide +kernel
theorem dX4_init_321 : decode cX4_init 321 = .ok (.putfield 72, 3) := by decide +kernel
theorem dX4_init_324 : decode cX4_init 324 = .ok (.aload_n 0, 1) := by decide +kernel
theorem dX4_init_325 : decode cX4_init 325 = .ok (.iload 5, 2) := by decide +kernel
theorem dX4_init_327 : decode cX4_init 327 = .ok (.putfield 76, 3) := by decide +kernel
theorem dX4_init_330 : decode cX4_init 330 = .ok (.return_, 1) := by decide +kernel
theorem dX4_tells_0 : decode cX4_tells 0 = .ok (.aload_n 2, 1) := by decide +kernel
theorem dX4_tells_1 : decode cX4_tells 1 = .ok (.bipush 70, 2) := by decide +kernel
theorem dX4_tells_3 : decode cX4_tells 3 = .ok (.invokevirtual 79, 3) := by decide +kernel
theorem dX4_tells_6 : decode cX4_tells 6 = .ok (.aload_n 0, 1) := by decide +kernel
theorem dX4_tells_7 : decode cX4_tells 7 = .ok (.iload_n 1, 1) := by decide +kernel
theorem dX4_tells_8 : decode cX4_tells 8 = .ok (.aload_n 2, 1) := by decide +kernel
theorem dX4_tells_9 : decode cX4_tells 9 = .ok (.invokespecial 85, 3) := by decide +kernel
theorem dX4_tells_12 : decode cX4_tells 12 = .ok (.aload_n 0, 1) := by decide +kernel
theorem dX4_tells_13 : decode cX4_tells 13 = .ok (.aload_n 0, 1) := by decide +kernel
theorem dX4_tells_14 : decode cX4_tells 14 = .ok (.getfield 36, 3) := by decide +kernel
theorem dX4_tells_17 : decode cX4_tells 17 = .ok (.aload_n 2, 1) := by decide +kernel
theorem dX4_tells_18 : decode cX4_tells 18 = .ok (.invokevirtual 89, 3) := by decide +kernel
theorem dX4_tells_21 : decode cX4_tells 21 = .ok (.iadd, 1) := by decide +kernel
theorem dX4_tells_22 : decode cX4_tells 22 = .ok (.ireturn, 1) := by decide +kernel
theorem dX4_graveFor_0 : decode cX4_graveFor 0 = .ok (.aload_n 0, 1) := by decide +kernel
theorem dX4_graveFor_1 : decode cX4_graveFor 1 = .ok (.getfield 15, 3) := by decide +kernel
theorem dX4_graveFor_4 : decode cX4_graveFor 4 = .ok (.aload_n 1, 1) := by decide +kernel
theorem dX4_graveFor_5 : decode cX4_graveFor 5 = .ok (.bipush 6, 2) := by decide +kernel
theorem dX4_graveFor_7 : decode cX4_graveFor 7 = .ok (.iaload, 1) := by decide +kernel
theorem dX4_graveFor_8 : decode cX4_graveFor 8 = .ok (.iaload, 1) := by decide +kernel
theorem dX4_graveFor_9 : decode cX4_graveFor 9 = .ok (.istore_n 2, 1) := by decide +kernel
theorem dX4_graveFor_10 : decode cX4_graveFor 10 = .ok (.iconst 0, 1) := by decide +kernel
theorem dX4_graveFor_11 : decode cX4_graveFor 11 = .ok (.istore_n 3, 1) := by decide +kernel
theorem dX4_graveFor_12 : decode cX4_graveFor 12 = .ok (.iload_n 3, 1) := by decide +kernel
theorem dX4_graveFor_13 : decode cX4_graveFor 13 = .ok (.aload_n 0, 1) := by decide +kernel
theorem dX4_graveFor_14 : decode cX4_graveFor 14 = .ok (.getfield 36, 3) := by decide +kernel
theorem dX4_graveFor_17 : decode cX4_graveFor 17 = .ok (.if_icmp .ge 36, 3) := by decide +kernel
theorem dX4_graveFor_20 : decode cX4_graveFor 20 = .ok (.aload_n 0, 1) := by decide +kernel
theorem dX4_graveFor_21 : decode cX4_graveFor 21 = .ok (.getfield 61, 3) := by decide +kernel
theorem dX4_graveFor_24 : decode cX4_graveFor 24 = .ok (.iload_n 3, 1) := by decide +kernel
theorem dX4_graveFor_25 : decode cX4_graveFor 25 = .ok (.iaload, 1) := by decide +kernel
theorem dX4_graveFor_26 : decode cX4_graveFor 26 = .ok (.ifCond .eq 21, 3) := by decide +kernel
theorem dX4_graveFor_29 : decode cX4_graveFor 29 = .ok (.aload_n 0, 1) := by decide +kernel
theorem dX4_graveFor_30 : decode cX4_graveFor 30 = .ok (.iload_n 3, 1) := by decide +kernel
theorem dX4_graveFor_31 : decode cX4_graveFor 31 = .ok (.aload_n 1, 1) := by decide +kernel
theorem dX4_graveFor_32 : decode cX4_graveFor 32 = .ok (.invokevirtual 92, 3) := by decide +kernel
theorem dX4_graveFor_35 : decode cX4_graveFor 35 = .ok (.ifCond .eq 12, 3) := by decide +kernel
theorem dX4_graveFor_38 : decode cX4_graveFor 38 = .ok (.iload_n 2, 1) := by decide +kernel
theorem dX4_graveFor_39 : decode cX4_graveFor 39 = .ok (.aload_n 0, 1) := by decide +kernel
theorem dX4_graveFor_40 : decode cX4_graveFor 40 = .ok (.getfield 61, 3) := by decide +kernel
theorem dX4_graveFor_43 : decode cX4_graveFor 43 = .ok (.iload_n 3, 1) := by decide +kernel
theorem dX4_graveFor_44 : decode cX4_graveFor 44 = .ok (.iaload, 1) := by decide +kernel
theorem dX4_graveFor_45 : decode cX4_graveFor 45 = .ok (.iadd, 1) := by decide +kernel
theorem dX4_graveFor_46 : decode cX4_graveFor 46 = .ok (.istore_n 2, 1) := by decide +kernel
theorem dX4_graveFor_47 : decode cX4_graveFor 47 = .ok (.iinc 3 1, 3) := by decide +kernel
theorem dX4_graveFor_50 : decode cX4_graveFor 50 = .ok (.goto (-38), 3) := by decide +kernel
theorem dX4_graveFor_53 : decode cX4_graveFor 53 = .ok (.iconst 0, 1) := by decide +kernel
theorem dX4_graveFor_54 : decode cX4_graveFor 54 = .ok (.iconst 4, 1) := by decide +kernel
theorem dX4_graveFor_55 : decode cX4_graveFor 55 = .ok (.iload_n 2, 1) := by decide +kernel
theorem dX4_graveFor_56 : decode cX4_graveFor 56 = .ok (.invokestatic 96, 3) := by decide +kernel
theorem dX4_graveFor_59 : decode cX4_graveFor 59 = .ok (.invokestatic 101, 3) := by decide +kernel
theorem dX4_graveFor_62 : decode cX4_graveFor 62 = .ok (.ireturn, 1) := by decide +kernel
theorem dX4_rangeFor_0 : decode cX4_rangeFor 0 = .ok (.iconst 3, 1) := by decide +kernel
theorem dX4_rangeFor_1 : decode cX4_rangeFor 1 = .ok (.aload_n 1, 1) := by decide +kernel
theorem dX4_rangeFor_2 : decode cX4_rangeFor 2 = .ok (.bipush 8, 2) := by decide +kernel
theorem dX4_rangeFor_4 : decode cX4_rangeFor 4 = .ok (.iaload, 1) := by decide +kernel
theorem dX4_rangeFor_5 : decode cX4_rangeFor 5 = .ok (.iconst 3, 1) := by decide +kernel
theorem dX4_rangeFor_6 : decode cX4_rangeFor 6 = .ok (.idiv, 1) := by decide +kernel
theorem dX4_rangeFor_7 : decode cX4_rangeFor 7 = .ok (.invokestatic 96, 3) := by decide +kernel
theorem dX4_rangeFor_10 : decode cX4_rangeFor 10 = .ok (.istore_n 2, 1) := by decide +kernel
theorem dX4_rangeFor_11 : decode cX4_rangeFor 11 = .ok (.aload_n 0, 1) := by decide +kernel
theorem dX4_rangeFor_12 : decode cX4_rangeFor 12 = .ok (.getfield 24, 3) := by decide +kernel
theorem dX4_rangeFor_15 : decode cX4_rangeFor 15 = .ok (.aload_n 0, 1) := by decide +kernel
theorem dX4_rangeFor_16 : decode cX4_rangeFor 16 = .ok (.aload_n 1, 1) := by decide +kernel
theorem dX4_rangeFor_17 : decode cX4_rangeFor 17 = .ok (.invokevirtual 104, 3) := by decide +kernel
theorem dX4_rangeFor_20 : decode cX4_rangeFor 20 = .ok (.iconst 4, 1) := by decide +kernel
theorem dX4_rangeFor_21 : decode cX4_rangeFor 21 = .ok (.imul, 1) := by decide +kernel
theorem dX4_rangeFor_22 : decode cX4_rangeFor 22 = .ok (.iload_n 2, 1) := by decide +kernel
theorem dX4_rangeFor_23 : decode cX4_rangeFor 23 = .ok (.iadd, 1) := by decide +kernel
theorem dX4_rangeFor_24 : decode cX4_rangeFor 24 = .ok (.iaload, 1) := by decide +kernel
theorem dX4_rangeFor_25 : decode cX4_rangeFor 25 = .ok (.ireturn, 1) := by decide +kernel
theorem dX4_isBeside_0 : decode cX4_isBeside 0 = .ok (.iconst 0, 1) := by decide +kernel
theorem dX4_isBeside_1 : decode cX4_isBeside 1 = .ok (.istore_n 2, 1) := by decide +kernel
theorem dX4_isBeside_2 : decode cX4_isBeside 2 = .ok (.iload_n 2, 1) := by decide +kernel
theorem dX4_isBeside_3 : decode cX4_isBeside 3 = .ok (.aload_n 0, 1) := by decide +kernel
theorem dX4_isBeside_4 : decode cX4_isBeside 4 = .ok (.getfield 36, 3) := by decide +kernel
theorem dX4_isBeside_7 : decode cX4_isBeside 7 = .ok (.if_icmp .ge 31, 3) := by decide +kernel
theorem dX4_isBeside_10 : decode cX4_isBeside 10 = .ok (.aload_n 0, 1) := by decide +kernel
theorem dX4_isBeside_11 : decode cX4_isBeside 11 = .ok (.getfield 45, 3) := by decide +kernel
theorem dX4_isBeside_14 : decode cX4_isBeside 14 = .ok (.iload_n 2, 1) := by decide +kernel
theorem dX4_isBeside_15 : decode cX4_isBeside 15 = .ok (.iaload, 1) := by decide +kernel
theorem dX4_isBeside_16 : decode cX4_isBeside 16 = .ok (.bipush 6, 2) := by decide +kernel
theorem dX4_isBeside_18 : decode cX4_isBeside 18 = .ok (.if_icmp .ne 14, 3) := by decide +kernel
theorem dX4_isBeside_21 : decode cX4_isBeside 21 = .ok (.aload_n 0, 1) := by decide +kernel
theorem dX4_isBeside_22 : decode cX4_isBeside 22 = .ok (.iload_n 2, 1) := by decide +kernel
theorem dX4_isBeside_23 : decode cX4_isBeside 23 = .ok (.aload_n 1, 1) := by decide +kernel
theorem dX4_isBeside_24 : decode cX4_isBeside 24 = .ok (.invokevirtual 92, 3) := by decide +kernel
theorem dX4_isBeside_27 : decode cX4_isBeside 27 = .ok (.ifCond .eq 5, 3) := by decide +kernel
theorem dX4_isBeside_30 : decode cX4_isBeside 30 = .ok (.iconst 1, 1) := by decide +kernel
theorem dX4_isBeside_31 : decode cX4_isBeside 31 = .ok (.ireturn, 1) := by decide +kernel
theorem dX4_isBeside_32 : decode cX4_isBeside 32 = .ok (.iinc 2 1, 3) := by decide +kernel
theorem dX4_isBeside_35 : decode cX4_isBeside 35 = .ok (.goto (-33), 3) := by decide +kernel
theorem dX4_isBeside_38 : decode cX4_isBeside 38 = .ok (.iconst 0, 1) := by decide +kernel
theorem dX4_isBeside_39 : decode cX4_isBeside 39 = .ok (.ireturn, 1) := by decide +kernel
theorem dX4_holds_0 : decode cX4_holds 0 = .ok (.iconst 0, 1) := by decide +kernel
theorem dX4_holds_1 : decode cX4_holds 1 = .ok (.istore_n 3, 1) := by decide +kernel
theorem dX4_holds_2 : decode cX4_holds 2 = .ok (.aload_n 0, 1) := by decide +kernel
theorem dX4_holds_3 : decode cX4_holds 3 = .ok (.getfield 49, 3) := by decide +kernel
theorem dX4_holds_6 : decode cX4_holds 6 = .ok (.iload_n 1, 1) := by decide +kernel
theorem dX4_holds_7 : decode cX4_holds 7 = .ok (.iaload, 1) := by decide +kernel
theorem dX4_holds_8 : decode cX4_holds 8 = .ok (.istore 4, 2) := by decide +kernel
theorem dX4_holds_10 : decode cX4_holds 10 = .ok (.iload 4, 2) := by decide +kernel
theorem dX4_holds_12 : decode cX4_holds 12 = .ok (.aload_n 0, 1) := by decide +kernel
theorem dX4_holds_13 : decode cX4_holds 13 = .ok (.getfield 53, 3) := by decide +kernel
theorem dX4_holds_16 : decode cX4_holds 16 = .ok (.iload_n 1, 1) := by decide +kernel
theorem dX4_holds_17 : decode cX4_holds 17 = .ok (.iaload, 1) := by decide +kernel
theorem dX4_holds_18 : decode cX4_holds 18 = .ok (.if_icmp .ge 140, 3) := by decide +kernel
theorem dX4_holds_21 : decode cX4_holds 21 = .ok (.aload_n 0, 1) := by decide +kernel
theorem dX4_holds_22 : decode cX4_holds 22 = .ok (.getfield 60, 3) := by decide +kernel
theorem dX4_holds_25 : decode cX4_holds 25 = .ok (.iload 4, 2) := by decide +kernel
theorem dX4_holds_27 : decode cX4_holds 27 = .ok (.iaload, 1) := by decide +kernel
theorem dX4_holds_28 : decode cX4_holds 28 = .ok (.istore 5, 2) := by decide +kernel
theorem dX4_holds_30 : decode cX4_holds 30 = .ok (.iload 5, 2) := by decide +kernel
theorem dX4_holds_32 : decode cX4_holds 32 = .ok (.sipush 2000, 3) := by decide +kernel
theorem dX4_holds_35 : decode cX4_holds 35 = .ok (.if_icmp .ge 44, 3) := by decide +kernel
theorem dX4_holds_38 : decode cX4_holds 38 = .ok (.iload_n 3, 1) := by decide +kernel
theorem dX4_holds_39 : decode cX4_holds 39 = .ok (.bipush 16, 2) := by decide +kernel
theorem dX4_holds_41 : decode cX4_holds 41 = .ok (.if_icmp .lt 5, 3) := by decide +kernel
theorem dX4_holds_44 : decode cX4_holds 44 = .ok (.iconst 0, 1) := by decide +kernel
theorem dX4_holds_45 : decode cX4_holds 45 = .ok (.ireturn, 1) := by decide +kernel
theorem dX4_holds_46 : decode cX4_holds 46 = .ok (.aload_n 0, 1) := by decide +kernel
theorem dX4_holds_47 : decode cX4_holds 47 = .ok (.getfield 27, 3) := by decide +kernel
theorem dX4_holds_50 : decode cX4_holds 50 = .ok (.iload_n 3, 1) := by decide +kernel
theorem dX4_holds_51 : decode cX4_holds 51 = .ok (.iload 5, 2) := by decide +kernel
theorem dX4_holds_53 : decode cX4_holds 53 = .ok (.sipush 1000, 3) := by decide +kernel
theorem dX4_holds_56 : decode cX4_holds 56 = .ok (.if_icmp .ge 8, 3) := by decide +kernel
theorem dX4_holds_59 : decode cX4_holds 59 = .ok (.iload 5, 2) := by decide +kernel
theorem dX4_holds_61 : decode cX4_holds 61 = .ok (.goto 11, 3) := by decide +kernel
theorem dX4_holds_64 : decode cX4_holds 64 = .ok (.aload_n 2, 1) := by decide +kernel
theorem dX4_holds_65 : decode cX4_holds 65 = .ok (.iload 5, 2) := by decide +kernel
theorem dX4_holds_67 : decode cX4_holds 67 = .ok (.sipush 1000, 3) := by decide +kernel
theorem dX4_holds_70 : decode cX4_holds 70 = .ok (.isub, 1) := by decide +kernel
theorem dX4_holds_71 : decode cX4_holds 71 = .ok (.iaload, 1) := by decide +kernel
theorem dX4_holds_72 : decode cX4_holds 72 = .ok (.iastore, 1) := by decide +kernel
theorem dX4_holds_73 : decode cX4_holds 73 = .ok (.iinc 3 1, 3) := by decide +kernel
theorem dX4_holds_76 : decode cX4_holds 76 = .ok (.goto 76, 3) := by decide +kernel
theorem dX4_holds_79 : decode cX4_holds 79 = .ok (.iload 5, 2) := by decide +kernel
theorem dX4_holds_81 : decode cX4_holds 81 = .ok (.sipush 2004, 3) := by decide +kernel
theorem dX4_holds_84 : decode cX4_holds 84 = .ok (.if_icmp .ne 31, 3) := by decide +kernel
theorem dX4_holds_87 : decode cX4_holds 87 = .ok (.iload_n 3, 1) := by decide +kernel
theorem dX4_holds_88 : decode cX4_holds 88 = .ok (.iconst 1, 1) := by decide +kernel
theorem dX4_holds_89 : decode cX4_holds 89 = .ok (.if_icmp .ge 5, 3) := by decide +kernel
theorem dX4_holds_92 : decode cX4_holds 92 = .ok (.iconst 0, 1) := by decide +kernel
theorem dX4_holds_93 : decode cX4_holds 93 = .ok (.ireturn, 1) := by decide +kernel
theorem dX4_holds_94 : decode cX4_holds 94 = .ok (.aload_n 0, 1) := by decide +kernel
theorem dX4_holds_95 : decode cX4_holds 95 = .ok (.getfield 27, 3) := by decide +kernel
theorem dX4_holds_98 : decode cX4_holds 98 = .ok (.iload_n 3, 1) := by decide +kernel
theorem dX4_holds_99 : decode cX4_holds 99 = .ok (.iconst 1, 1) := by decide +kernel
theorem dX4_holds_100 : decode cX4_holds 100 = .ok (.isub, 1) := by decide +kernel
theorem dX4_holds_101 : decode cX4_holds 101 = .ok (.iconst 1, 1) := by decide +kernel
theorem dX4_holds_102 : decode cX4_holds 102 = .ok (.aload_n 0, 1) := by decide +kernel
theorem dX4_holds_103 : decode cX4_holds 103 = .ok (.getfield 27, 3) := by decide +kernel
theorem dX4_holds_106 : decode cX4_holds 106 = .ok (.iload_n 3, 1) := by decide +kernel
theorem dX4_holds_107 : decode cX4_holds 107 = .ok (.iconst 1, 1) := by decide +kernel
theorem dX4_holds_108 : decode cX4_holds 108 = .ok (.isub, 1) := by decide +kernel
theorem dX4_holds_109 : decode cX4_holds 109 = .ok (.iaload, 1) := by decide +kernel
theorem dX4_holds_110 : decode cX4_holds 110 = .ok (.isub, 1) := by decide +kernel
theorem dX4_holds_111 : decode cX4_holds 111 = .ok (.iastore, 1) := by decide +kernel
theorem dX4_holds_112 : decode cX4_holds 112 = .ok (.goto 40, 3) := by decide +kernel
theorem dX4_holds_115 : decode cX4_holds 115 = .ok (.iload_n 3, 1) := by decide +kernel
theorem dX4_holds_116 : decode cX4_holds 116 = .ok (.iconst 2, 1) := by decide +kernel
theorem dX4_holds_117 : decode cX4_holds 117 = .ok (.if_icmp .ge 5, 3) := by decide +kernel
theorem dX4_holds_120 : decode cX4_holds 120 = .ok (.iconst 0, 1) := by decide +kernel
theorem dX4_holds_121 : decode cX4_holds 121 = .ok (.ireturn, 1) := by decide +kernel
theorem dX4_holds_122 : decode cX4_holds 122 = .ok (.iinc 3 (-1), 3) := by decide +kernel
theorem dX4_holds_125 : decode cX4_holds 125 = .ok (.aload_n 0, 1) := by decide +kernel
theorem dX4_holds_126 : decode cX4_holds 126 = .ok (.getfield 27, 3) := by decide +kernel
theorem dX4_holds_129 : decode cX4_holds 129 = .ok (.iload_n 3, 1) := by decide +kernel
theorem dX4_holds_130 : decode cX4_holds 130 = .ok (.iconst 1, 1) := by decide +kernel
theorem dX4_holds_131 : decode cX4_holds 131 = .ok (.isub, 1) := by decide +kernel
theorem dX4_holds_132 : decode cX4_holds 132 = .ok (.iload 5, 2) := by decide +kernel
theorem dX4_holds_134 : decode cX4_holds 134 = .ok (.aload_n 0, 1) := by decide +kernel
theorem dX4_holds_135 : decode cX4_holds 135 = .ok (.getfield 27, 3) := by decide +kernel
theorem dX4_holds_138 : decode cX4_holds 138 = .ok (.iload_n 3, 1) := by decide +kernel
theorem dX4_holds_139 : decode cX4_holds 139 = .ok (.iconst 1, 1) := by decide +kernel
theorem dX4_holds_140 : decode cX4_holds 140 = .ok (.isub, 1) := by decide +kernel
theorem dX4_holds_141 : decode cX4_holds 141 = .ok (.iaload, 1) := by decide +kernel
theorem dX4_holds_142 : decode cX4_holds 142 = .ok (.aload_n 0, 1) := by decide +kernel
theorem dX4_holds_143 : decode cX4_holds 143 = .ok (.getfield 27, 3) := by decide +kernel
theorem dX4_holds_146 : decode cX4_holds 146 = .ok (.iload_n 3, 1) := by decide +kernel
theorem dX4_holds_147 : decode cX4_holds 147 = .ok (.iaload, 1) := by decide +kernel
theorem dX4_holds_148 : decode cX4_holds 148 = .ok (.invokestatic 108, 3) := by decide +kernel
theorem dX4_holds_151 : decode cX4_holds 151 = .ok (.iastore, 1) := by decide +kernel
theorem dX4_holds_152 : decode cX4_holds 152 = .ok (.iinc 4 1, 3) := by decide +kernel
theorem dX4_holds_155 : decode cX4_holds 155 = .ok (.goto (-145), 3) := by decide +kernel
theorem dX4_holds_158 : decode cX4_holds 158 = .ok (.iload_n 3, 1) := by decide +kernel
theorem dX4_holds_159 : decode cX4_holds 159 = .ok (.iconst 1, 1) := by decide +kernel
theorem dX4_holds_160 : decode cX4_holds 160 = .ok (.if_icmp .ne 16, 3) := by decide +kernel
theorem dX4_holds_163 : decode cX4_holds 163 = .ok (.aload_n 0, 1) := by decide +kernel
theorem dX4_holds_164 : decode cX4_holds 164 = .ok (.getfield 27, 3) := by decide +kernel
theorem dX4_holds_167 : decode cX4_holds 167 = .ok (.iconst 0, 1) := by decide +kernel
theorem dX4_holds_168 : decode cX4_holds 168 = .ok (.iaload, 1) := by decide +kernel
theorem dX4_holds_169 : decode cX4_holds 169 = .ok (.ifCond .eq 7, 3) := by decide +kernel
theorem dX4_holds_172 : decode cX4_holds 172 = .ok (.iconst 1, 1) := by decide +kernel
theorem dX4_holds_173 : decode cX4_holds 173 = .ok (.goto 4, 3) := by decide +kernel
theorem dX4_holds_176 : decode cX4_holds 176 = .ok (.iconst 0, 1) := by decide +kernel
theorem dX4_holds_177 : decode cX4_holds 177 = .ok (.ireturn, 1) := by decide +kernel
theorem dX4_joined_0 : decode cX4_joined 0 = .ok (.iload_n 0, 1) := by decide +kernel
theorem dX4_joined_1 : decode cX4_joined 1 = .ok (.tableswitch 80 2000 2005 #[39, 43, 54, 65, 80, 76], 39) := by decide +kernel
theorem dX4_joined_40 : decode cX4_joined 40 = .ok (.iload_n 1, 1) := by decide +kernel
theorem dX4_joined_41 : decode cX4_joined 41 = .ok (.iload_n 2, 1) := by decide +kernel
theorem dX4_joined_42 : decode cX4_joined 42 = .ok (.iadd, 1) := by decide +kernel
theorem dX4_joined_43 : decode cX4_joined 43 = .ok (.ireturn, 1) := by decide +kernel
theorem dX4_joined_44 : decode cX4_joined 44 = .ok (.iload_n 1, 1) := by decide +kernel
theorem dX4_joined_45 : decode cX4_joined 45 = .ok (.iload_n 2, 1) := by decide +kernel
theorem dX4_joined_46 : decode cX4_joined 46 = .ok (.if_icmp .ge 7, 3) := by decide +kernel
theorem dX4_joined_49 : decode cX4_joined 49 = .ok (.iconst 1, 1) := by decide +kernel
theorem dX4_joined_50 : decode cX4_joined 50 = .ok (.goto 4, 3) := by decide +kernel
theorem dX4_joined_53 : decode cX4_joined 53 = .ok (.iconst 0, 1) := by decide +kernel
theorem dX4_joined_54 : decode cX4_joined 54 = .ok (.ireturn, 1) := by decide +kernel
theorem dX4_joined_55 : decode cX4_joined 55 = .ok (.iload_n 1, 1) := by decide +kernel
theorem dX4_joined_56 : decode cX4_joined 56 = .ok (.iload_n 2, 1) := by decide +kernel
theorem dX4_joined_57 : decode cX4_joined 57 = .ok (.if_icmp .ne 7, 3) := by decide +kernel
theorem dX4_joined_60 : decode cX4_joined 60 = .ok (.iconst 1, 1) := by decide +kernel
theorem dX4_joined_61 : decode cX4_joined 61 = .ok (.goto 4, 3) := by decide +kernel
theorem dX4_joined_64 : decode cX4_joined 64 = .ok (.iconst 0, 1) := by decide +kernel
theorem dX4_joined_65 : decode cX4_joined 65 = .ok (.ireturn, 1) := by decide +kernel
theorem dX4_joined_66 : decode cX4_joined 66 = .ok (.iload_n 1, 1) := by decide +kernel
theorem dX4_joined_67 : decode cX4_joined 67 = .ok (.iload_n 2, 1) := by decide +kernel
theorem dX4_joined_68 : decode cX4_joined 68 = .ok (.if_icmp .le 7, 3) := by decide +kernel
theorem dX4_joined_71 : decode cX4_joined 71 = .ok (.iconst 1, 1) := by decide +kernel
theorem dX4_joined_72 : decode cX4_joined 72 = .ok (.goto 4, 3) := by decide +kernel
theorem dX4_joined_75 : decode cX4_joined 75 = .ok (.iconst 0, 1) := by decide +kernel
theorem dX4_joined_76 : decode cX4_joined 76 = .ok (.ireturn, 1) := by decide +kernel
theorem dX4_joined_77 : decode cX4_joined 77 = .ok (.iload_n 1, 1) := by decide +kernel
theorem dX4_joined_78 : decode cX4_joined 78 = .ok (.iload_n 2, 1) := by decide +kernel
theorem dX4_joined_79 : decode cX4_joined 79 = .ok (.iand, 1) := by decide +kernel
theorem dX4_joined_80 : decode cX4_joined 80 = .ok (.ireturn, 1) := by decide +kernel
theorem dX4_joined_81 : decode cX4_joined 81 = .ok (.iload_n 1, 1) := by decide +kernel
theorem dX4_joined_82 : decode cX4_joined 82 = .ok (.iload_n 2, 1) := by decide +kernel
theorem dX4_joined_83 : decode cX4_joined 83 = .ok (.ior, 1) := by decide +kernel
theorem dX4_joined_84 : decode cX4_joined 84 = .ok (.ireturn, 1) := by decide +kernel
theorem dX5_init_0 : decode cX5_init 0 = .ok (.aload_n 0, 1) := by decide +kernel
theorem dX5_init_1 : decode cX5_init 1 = .ok (.invokespecial 5, 3) := by decide +kernel
theorem dX5_init_4 : decode cX5_init 4 = .ok (.aload_n 0, 1) := by decide +kernel
theorem dX5_init_5 : decode cX5_init 5 = .ok (.iconst 0, 1) := by decide +kernel
theorem dX5_init_6 : decode cX5_init 6 = .ok (.putfield 11, 3) := by decide +kernel
theorem dX5_init_9 : decode cX5_init 9 = .ok (.aload_n 0, 1) := by decide +kernel
theorem dX5_init_10 : decode cX5_init 10 = .ok (.iconst 0, 1) := by decide +kernel
theorem dX5_init_11 : decode cX5_init 11 = .ok (.putfield 15, 3) := by decide +kernel
theorem dX5_init_14 : decode cX5_init 14 = .ok (.aload_n 0, 1) := by decide +kernel
theorem dX5_init_15 : decode cX5_init 15 = .ok (.iconst 0, 1) := by decide +kernel
theorem dX5_init_16 : decode cX5_init 16 = .ok (.putfield 18, 3) := by decide +kernel
theorem dX5_init_19 : decode cX5_init 19 = .ok (.aload_n 0, 1) := by decide +kernel
theorem dX5_init_20 : decode cX5_init 20 = .ok (.bipush 12, 2) := by decide +kernel
theorem dX5_init_22 : decode cX5_init 22 = .ok (.newarray .int, 2) := by decide +kernel
theorem dX5_init_24 : decode cX5_init 24 = .ok (.putfield 21, 3) := by decide +kernel
theorem dX5_init_27 : decode cX5_init 27 = .ok (.aload_n 0, 1) := by decide +kernel
theorem dX5_init_28 : decode cX5_init 28 = .ok (.bipush 12, 2) := by decide +kernel
theorem dX5_init_30 : decode cX5_init 30 = .ok (.newarray .int, 2) := by decide +kernel
theorem dX5_init_32 : decode cX5_init 32 = .ok (.putfield 25, 3) := by decide +kernel
theorem dX5_init_35 : decode cX5_init 35 = .ok (.aload_n 0, 1) := by decide +kernel
theorem dX5_init_36 : decode cX5_init 36 = .ok (.bipush 12, 2) := by decide +kernel
theorem dX5_init_38 : decode cX5_init 38 = .ok (.newarray .int, 2) := by decide +kernel
theorem dX5_init_40 : decode cX5_init 40 = .ok (.putfield 28, 3) := by decide +kernel
theorem dX5_init_43 : decode cX5_init 43 = .ok (.aload_n 0, 1) := by decide +kernel
theorem dX5_init_44 : decode cX5_init 44 = .ok (.sipush 250, 3) := by decide +kernel
theorem dX5_init_47 : decode cX5_init 47 = .ok (.newarray .int, 2) := by decide +kernel
theorem dX5_init_49 : decode cX5_init 49 = .ok (.putfield 31, 3) := by decide +kernel
theorem dX5_init_52 : decode cX5_init 52 = .ok (.aload_n 0, 1) := by decide +kernel
theorem dX5_init_53 : decode cX5_init 53 = .ok (.bipush 48, 2) := by decide +kernel
theorem dX5_init_55 : decode cX5_init 55 = .ok (.newarray .int, 2) := by decide +kernel
theorem dX5_init_57 : decode cX5_init 57 = .ok (.putfield 34, 3) := by decide +kernel
theorem dX5_init_60 : decode cX5_init 60 = .ok (.aload_n 0, 1) := by decide +kernel
theorem dX5_init_61 : decode cX5_init 61 = .ok (.sipush 250, 3) := by decide +kernel
theorem dX5_init_64 : decode cX5_init 64 = .ok (.newarray .byte, 2) := by decide +kernel
theorem dX5_init_66 : decode cX5_init 66 = .ok (.putfield 37, 3) := by decide +kernel
theorem dX5_init_69 : decode cX5_init 69 = .ok (.aload_n 0, 1) := by decide +kernel
theorem dX5_init_70 : decode cX5_init 70 = .ok (.sipush 251, 3) := by decide +kernel
theorem dX5_init_73 : decode cX5_init 73 = .ok (.newarray .int, 2) := by decide +kernel
theorem dX5_init_75 : decode cX5_init 75 = .ok (.putfield 41, 3) := by decide +kernel
theorem dX5_init_78 : decode cX5_init 78 = .ok (.aload_n 0, 1) := by decide +kernel
theorem dX5_init_79 : decode cX5_init 79 = .ok (.sipush 251, 3) := by decide +kernel
theorem dX5_init_82 : decode cX5_init 82 = .ok (.newarray .int, 2) := by decide +kernel
theorem dX5_init_84 : decode cX5_init 84 = .ok (.putfield 44, 3) := by decide +kernel
theorem dX5_init_87 : decode cX5_init 87 = .ok (.aload_n 0, 1) := by decide +kernel
theorem dX5_init_88 : decode cX5_init 88 = .ok (.iconst 0, 1) := by decide +kernel
theorem dX5_init_89 : decode cX5_init 89 = .ok (.putfield 47, 3) := by decide +kernel
theorem dX5_init_92 : decode cX5_init 92 = .ok (.aload_n 0, 1) := by decide +kernel
theorem dX5_init_93 : decode cX5_init 93 = .ok (.iconst 0, 1) := by decide +kernel
theorem dX5_init_94 : decode cX5_init 94 = .ok (.putfield 50, 3) := by decide +kernel
theorem dX5_init_97 : decode cX5_init 97 = .ok (.return_, 1) := by decide +kernel
theorem dX5_addByte_0 : decode cX5_addByte 0 = .ok (.aload_n 0, 1) := by decide +kernel
theorem dX5_addByte_1 : decode cX5_addByte 1 = .ok (.getfield 11, 3) := by decide +kernel
theorem dX5_addByte_4 : decode cX5_addByte 4 = .ok (.sipush 250, 3) := by decide +kernel
theorem dX5_addByte_7 : decode cX5_addByte 7 = .ok (.if_icmp .lt 4, 3) := by decide +kernel
theorem dX5_addByte_10 : decode cX5_addByte 10 = .ok (.return_, 1) := by decide +kernel
theorem dX5_addByte_11 : decode cX5_addByte 11 = .ok (.aload_n 0, 1) := by decide +kernel
theorem dX5_addByte_12 : decode cX5_addByte 12 = .ok (.getfield 37, 3) := by decide +kernel
theorem dX5_addByte_15 : decode cX5_addByte 15 = .ok (.aload_n 0, 1) := by decide +kernel
theorem dX5_addByte_16 : decode cX5_addByte 16 = .ok (.getfield 11, 3) := by decide +kernel
theorem dX5_addByte_19 : decode cX5_addByte 19 = .ok (.iload_n 1, 1) := by decide +kernel
theorem dX5_addByte_20 : decode cX5_addByte 20 = .ok (.bastore, 1) := by decide +kernel
theorem dX5_addByte_21 : decode cX5_addByte 21 = .ok (.aload_n 0, 1) := by decide +kernel
theorem dX5_addByte_22 : decode cX5_addByte 22 = .ok (.dup, 1) := by decide +kernel
theorem dX5_addByte_23 : decode cX5_addByte 23 = .ok (.getfield 11, 3) := by decide +kernel
theorem dX5_addByte_26 : decode cX5_addByte 26 = .ok (.iconst 1, 1) := by decide +kernel
theorem dX5_addByte_27 : decode cX5_addByte 27 = .ok (.iadd, 1) := by decide +kernel
theorem dX5_addByte_28 : decode cX5_addByte 28 = .ok (.putfield 11, 3) := by decide +kernel
theorem dX5_addByte_31 : decode cX5_addByte 31 = .ok (.return_, 1) := by decide +kernel
theorem dX5_number_0 : decode cX5_number 0 = .ok (.aload_n 0, 1) := by decide +kernel
theorem dX5_number_1 : decode cX5_number 1 = .ok (.getfield 34, 3) := by decide +kernel
theorem dX5_number_4 : decode cX5_number 4 = .ok (.iload_n 1, 1) := by decide +kernel
theorem dX5_number_5 : decode cX5_number 5 = .ok (.iconst 4, 1) := by decide +kernel
theorem dX5_number_6 : decode cX5_number 6 = .ok (.imul, 1) := by decide +kernel
theorem dX5_number_7 : decode cX5_number 7 = .ok (.iload_n 2, 1) := by decide +kernel
theorem dX5_number_8 : decode cX5_number 8 = .ok (.iadd, 1) := by decide +kernel
theorem dX5_number_9 : decode cX5_number 9 = .ok (.iaload, 1) := by decide +kernel
theorem dX5_number_10 : decode cX5_number 10 = .ok (.ireturn, 1) := by decide +kernel
theorem dX5_fault_0 : decode cX5_fault 0 = .ok (.aload_n 0, 1) := by decide +kernel
theorem dX5_fault_1 : decode cX5_fault 1 = .ok (.getfield 50, 3) := by decide +kernel
theorem dX5_fault_4 : decode cX5_fault 4 = .ok (.aload_n 0, 1) := by decide +kernel
theorem dX5_fault_5 : decode cX5_fault 5 = .ok (.getfield 47, 3) := by decide +kernel
theorem dX5_fault_8 : decode cX5_fault 8 = .ok (.if_icmp .ge 15, 3) := by decide +kernel
theorem dX5_fault_11 : decode cX5_fault 11 = .ok (.aload_n 0, 1) := by decide +kernel
theorem dX5_fault_12 : decode cX5_fault 12 = .ok (.getfield 44, 3) := by decide +kernel
theorem dX5_fault_15 : decode cX5_fault 15 = .ok (.aload_n 0, 1) := by decide +kernel
theorem dX5_fault_16 : decode cX5_fault 16 = .ok (.getfield 50, 3) := by decide +kernel
theorem dX5_fault_19 : decode cX5_fault 19 = .ok (.iaload, 1) := by decide +kernel
theorem dX5_fault_20 : decode cX5_fault 20 = .ok (.goto 7, 3) := by decide +kernel
theorem dX5_fault_23 : decode cX5_fault 23 = .ok (.aload_n 0, 1) := by decide +kernel
theorem dX5_fault_24 : decode cX5_fault 24 = .ok (.getfield 11, 3) := by decide +kernel
theorem dX5_fault_27 : decode cX5_fault 27 = .ok (.ireturn, 1) := by decide +kernel
theorem dX5_readText_0 : decode cX5_readText 0 = .ok (.aload_n 0, 1) := by decide +kernel
theorem dX5_readText_1 : decode cX5_readText 1 = .ok (.invokevirtual 53, 3) := by decide +kernel
theorem dX5_readText_4 : decode cX5_readText 4 = .ok (.aload_n 0, 1) := by decide +kernel
theorem dX5_readText_5 : decode cX5_readText 5 = .ok (.iconst 0, 1) := by decide +kernel
theorem dX5_readText_6 : decode cX5_readText 6 = .ok (.putfield 50, 3) := by decide +kernel
theorem dX5_readText_9 : decode cX5_readText 9 = .ok (.aload_n 0, 1) := by decide +kernel
theorem dX5_readText_10 : decode cX5_readText 10 = .ok (.iconst 0, 1) := by decide +kernel
theorem dX5_readText_11 : decode cX5_readText 11 = .ok (.putfield 15, 3) := by decide +kernel
theorem dX5_readText_14 : decode cX5_readText 14 = .ok (.aload_n 0, 1) := by decide +kernel
theorem dX5_readText_15 : decode cX5_readText 15 = .ok (.iconst 0, 1) := by decide +kernel
theorem dX5_readText_16 : decode cX5_readText 16 = .ok (.putfield 18, 3) := by decide +kernel
theorem dX5_readText_19 : decode cX5_readText 19 = .ok (.iconst 0, 1) := by decide +kernel
theorem dX5_readText_20 : decode cX5_readText 20 = .ok (.istore_n 1, 1) := by decide +kernel
theorem dX5_readText_21 : decode cX5_readText 21 = .ok (.iload_n 1, 1) := by decide +kernel
theorem dX5_readText_22 : decode cX5_readText 22 = .ok (.bipush 12, 2) := by decide +kernel
theorem dX5_readText_24 : decode cX5_readText 24 = .ok (.if_icmp .ge 30, 3) := by decide +kernel
theorem dX5_readText_27 : decode cX5_readText 27 = .ok (.aload_n 0, 1) := by decide +kernel
theorem dX5_readText_28 : decode cX5_readText 28 = .ok (.invokevirtual 56, 3) := by decide +kernel
theorem dX5_readText_31 : decode cX5_readText 31 = .ok (.sipush 3000, 3) := by decide +kernel
theorem dX5_readText_34 : decode cX5_readText 34 = .ok (.if_icmp .ne 5, 3) := by decide +kernel
theorem dX5_readText_37 : decode cX5_readText 37 = .ok (.iconst 1, 1) := by decide +kernel
theorem dX5_readText_38 : decode cX5_readText 38 = .ok (.ireturn, 1) := by decide +kernel
theorem dX5_readText_39 : decode cX5_readText 39 = .ok (.aload_n 0, 1) := by decide +kernel
theorem dX5_readText_40 : decode cX5_readText 40 = .ok (.invokevirtual 60, 3) := by decide +kernel
theorem dX5_readText_43 : decode cX5_readText 43 = .ok (.ifCond .ne 5, 3) := by decide +kernel
theorem dX5_readText_46 : decode cX5_readText 46 = .ok (.iconst 0, 1) := by decide +kernel
theorem dX5_readText_47 : decode cX5_readText 47 = .ok (.ireturn, 1) := by decide +kernel
theorem dX5_readText_48 : decode cX5_readText 48 = .ok (.iinc 1 1, 3) := by decide +kernel
theorem dX5_readText_51 : decode cX5_readText 51 = .ok (.goto (-30), 3) := by decide +kernel
theorem dX5_readText_54 : decode cX5_readText 54 = .ok (.aload_n 0, 1) := by decide +kernel
theorem dX5_readText_55 : decode cX5_readText 55 = .ok (.invokevirtual 56, 3) := by decide +kernel
theorem dX5_readText_58 : decode cX5_readText 58 = .ok (.sipush 3000, 3) := by decide +kernel
theorem dX5_readText_61 : decode cX5_readText 61 = .ok (.if_icmp .ne 7, 3) := by decide +kernel
theorem dX5_readText_64 : decode cX5_readText 64 = .ok (.iconst 1, 1) := by decide +kernel
theorem dX5_readText_65 : decode cX5_readText 65 = .ok (.goto 4, 3) := by decide +kernel
theorem dX5_readText_68 : decode cX5_readText 68 = .ok (.iconst 0, 1) := by decide +kernel
theorem dX5_readText_69 : decode cX5_readText 69 = .ok (.ireturn, 1) := by decide +kernel
theorem dX5_cutTape_0 : decode cX5_cutTape 0 = .ok (.aload_n 0, 1) := by decide +kernel
theorem dX5_cutTape_1 : decode cX5_cutTape 1 = .ok (.iconst 0, 1) := by decide +kernel
theorem dX5_cutTape_2 : decode cX5_cutTape 2 = .ok (.putfield 47, 3) := by decide +kernel
theorem dX5_cutTape_5 : decode cX5_cutTape 5 = .ok (.iconst 0, 1) := by decide +kernel
theorem dX5_cutTape_6 : decode cX5_cutTape 6 = .ok (.istore_n 1, 1) := by decide +kernel
theorem dX5_cutTape_7 : decode cX5_cutTape 7 = .ok (.iconst 0, 1) := by decide +kernel
theorem dX5_cutTape_8 : decode cX5_cutTape 8 = .ok (.istore_n 2, 1) := by decide +kernel
theorem dX5_cutTape_9 : decode cX5_cutTape 9 = .ok (.iload_n 2, 1) := by decide +kernel
theorem dX5_cutTape_10 : decode cX5_cutTape 10 = .ok (.aload_n 0, 1) := by decide +kernel
theorem dX5_cutTape_11 : decode cX5_cutTape 11 = .ok (.getfield 11, 3) := by decide +kernel
theorem dX5_cutTape_14 : decode cX5_cutTape 14 = .ok (.if_icmp .ge 81, 3) := by decide +kernel
theorem dX5_cutTape_17 : decode cX5_cutTape 17 = .ok (.aload_n 0, 1) := by decide +kernel
theorem dX5_cutTape_18 : decode cX5_cutTape 18 = .ok (.iload_n 2, 1) := by decide +kernel
theorem dX5_cutTape_19 : decode cX5_cutTape 19 = .ok (.invokevirtual 64, 3) := by decide +kernel
theorem dX5_cutTape_22 : decode cX5_cutTape 22 = .ok (.istore_n 3, 1) := by decide +kernel
theorem dX5_cutTape_23 : decode cX5_cutTape 23 = .ok (.iload_n 3, 1) := by decide +kernel
theorem dX5_cutTape_24 : decode cX5_cutTape 24 = .ok (.iconst 3, 1) := by decide +kernel
theorem dX5_cutTape_25 : decode cX5_cutTape 25 = .ok (.if_icmp .ne 22, 3) := by decide +kernel
theorem dX5_cutTape_28 : decode cX5_cutTape 28 = .ok (.aload_n 0, 1) := by decide +kernel
theorem dX5_cutTape_29 : decode cX5_cutTape 29 = .ok (.sipush 2000, 3) := by decide +kernel
theorem dX5_cutTape_32 : decode cX5_cutTape 32 = .ok (.aload_n 0, 1) := by decide +kernel
theorem dX5_cutTape_33 : decode cX5_cutTape 33 = .ok (.getfield 37, 3) := by decide +kernel
theorem dX5_cutTape_36 : decode cX5_cutTape 36 = .ok (.iload_n 2, 1) := by decide +kernel
theorem dX5_cutTape_37 : decode cX5_cutTape 37 = .ok (.baload, 1) := by decide +kernel
theorem dX5_cutTape_38 : decode cX5_cutTape 38 = .ok (.sipush 255, 3) := by decide +kernel
theorem dX5_cutTape_41 : decode cX5_cutTape 41 = .ok (.iand, 1) := by decide +kernel
theorem dX5_cutTape_42 : decode cX5_cutTape 42 = .ok (.iadd, 1) := by decide +kernel
theorem dX5_cutTape_43 : decode cX5_cutTape 43 = .ok (.iload_n 2, 1) := by decide +kernel
theorem dX5_cutTape_44 : decode cX5_cutTape 44 = .ok (.invokevirtual 68, 3) := by decide +kernel
theorem dX5_cutTape_47 : decode cX5_cutTape 47 = .ok (.iload_n 3, 1) := by decide +kernel
theorem dX5_cutTape_48 : decode cX5_cutTape 48 = .ok (.iconst 1, 1) := by decide +kernel
theorem dX5_cutTape_49 : decode cX5_cutTape 49 = .ok (.if_icmp .ne 18, 3) := by decide +kernel
theorem dX5_cutTape_52 : decode cX5_cutTape 52 = .ok (.iload_n 1, 1) := by decide +kernel
theorem dX5_cutTape_53 : decode cX5_cutTape 53 = .ok (.iconst 1, 1) := by decide +kernel
theorem dX5_cutTape_54 : decode cX5_cutTape 54 = .ok (.if_icmp .eq 13, 3) := by decide +kernel
theorem dX5_cutTape_57 : decode cX5_cutTape 57 = .ok (.aload_n 0, 1) := by decide +kernel
theorem dX5_cutTape_58 : decode cX5_cutTape 58 = .ok (.aload_n 0, 1) := by decide +kernel
theorem dX5_cutTape_59 : decode cX5_cutTape 59 = .ok (.iload_n 2, 1) := by decide +kernel
theorem dX5_cutTape_60 : decode cX5_cutTape 60 = .ok (.invokevirtual 72, 3) := by decide +kernel
theorem dX5_cutTape_63 : decode cX5_cutTape 63 = .ok (.iload_n 2, 1) := by decide +kernel
theorem dX5_cutTape_64 : decode cX5_cutTape 64 = .ok (.invokevirtual 68, 3) := by decide +kernel
theorem dX5_cutTape_67 : decode cX5_cutTape 67 = .ok (.iload_n 3, 1) := by decide +kernel
theorem dX5_cutTape_68 : decode cX5_cutTape 68 = .ok (.iconst 2, 1) := by decide +kernel
theorem dX5_cutTape_69 : decode cX5_cutTape 69 = .ok (.if_icmp .ne 18, 3) := by decide +kernel
theorem dX5_cutTape_72 : decode cX5_cutTape 72 = .ok (.iload_n 1, 1) := by decide +kernel
theorem dX5_cutTape_73 : decode cX5_cutTape 73 = .ok (.iconst 2, 1) := by decide +kernel
theorem dX5_cutTape_74 : decode cX5_cutTape 74 = .ok (.if_icmp .eq 13, 3) := by decide +kernel
theorem dX5_cutTape_77 : decode cX5_cutTape 77 = .ok (.aload_n 0, 1) := by decide +kernel
theorem dX5_cutTape_78 : decode cX5_cutTape 78 = .ok (.aload_n 0, 1) := by decide +kernel
theorem dX5_cutTape_79 : decode cX5_cutTape 79 = .ok (.iload_n 2, 1) := by decide +kernel
theorem dX5_cutTape_80 : decode cX5_cutTape 80 = .ok (.invokevirtual 75, 3) := by decide +kernel
theorem dX5_cutTape_83 : decode cX5_cutTape 83 = .ok (.iload_n 2, 1) := by decide +kernel
theorem dX5_cutTape_84 : decode cX5_cutTape 84 = .ok (.invokevirtual 68, 3) := by decide +kernel
theorem dX5_cutTape_87 : decode cX5_cutTape 87 = .ok (.iload_n 3, 1) := by decide +kernel
theorem dX5_cutTape_88 : decode cX5_cutTape 88 = .ok (.istore_n 1, 1) := by decide +kernel
theorem dX5_cutTape_89 : decode cX5_cutTape 89 = .ok (.iinc 2 1, 3) := by decide +kernel
theorem dX5_cutTape_92 : decode cX5_cutTape 92 = .ok (.goto (-83), 3) := by decide +kernel
theorem dX5_cutTape_95 : decode cX5_cutTape 95 = .ok (.aload_n 0, 1) := by decide +kernel
theorem dX5_cutTape_96 : decode cX5_cutTape 96 = .ok (.sipush 3000, 3) := by decide +kernel
theorem dX5_cutTape_99 : decode cX5_cutTape 99 = .ok (.aload_n 0, 1) := by decide +kernel
theorem dX5_cutTape_100 : decode cX5_cutTape 100 = .ok (.getfield 11, 3) := by decide +kernel
theorem dX5_cutTape_103 : decode cX5_cutTape 103 = .ok (.invokevirtual 68, 3) := by decide +kernel
theorem dX5_cutTape_106 : decode cX5_cutTape 106 = .ok (.return_, 1) := by decide +kernel
theorem dX5_addToken_0 : decode cX5_addToken 0 = .ok (.aload_n 0, 1) := by decide +kernel
theorem dX5_addToken_1 : decode cX5_addToken 1 = .ok (.getfield 47, 3) := by decide +kernel
theorem dX5_addToken_4 : decode cX5_addToken 4 = .ok (.aload_n 0, 1) := by decide +kernel
theorem dX5_addToken_5 : decode cX5_addToken 5 = .ok (.getfield 41, 3) := by decide +kernel
theorem dX5_addToken_8 : decode cX5_addToken 8 = .ok (.arraylength, 1) := by decide +kernel
theorem dX5_addToken_9 : decode cX5_addToken 9 = .ok (.if_icmp .lt 4, 3) := by decide +kernel
theorem dX5_addToken_12 : decode cX5_addToken 12 = .ok (.return_, 1) := by decide +kernel
theorem dX5_addToken_13 : decode cX5_addToken 13 = .ok (.aload_n 0, 1) := by decide +kernel
theorem dX5_addToken_14 : decode cX5_addToken 14 = .ok (.getfield 41, 3) := by decide +kernel
theorem dX5_addToken_17 : decode cX5_addToken 17 = .ok (.aload_n 0, 1) := by decide +kernel
theorem dX5_addToken_18 : decode cX5_addToken 18 = .ok (.getfield 47, 3) := by decide +kernel
theorem dX5_addToken_21 : decode cX5_addToken 21 = .ok (.iload_n 1, 1) := by decide +kernel
theorem dX5_addToken_22 : decode cX5_addToken 22 = .ok (.iastore, 1) := by decide +kernel
theorem dX5_addToken_23 : decode cX5_addToken 23 = .ok (.aload_n 0, 1) := by decide +kernel
theorem dX5_addToken_24 : decode cX5_addToken 24 = .ok (.getfield 44, 3) := by decide +kernel
theorem dX5_addToken_27 : decode cX5_addToken 27 = .ok (.aload_n 0, 1) := by decide +kernel
theorem dX5_addToken_28 : decode cX5_addToken 28 = .ok (.getfield 47, 3) := by decide +kernel
theorem dX5_addToken_31 : decode cX5_addToken 31 = .ok (.iload_n 2, 1) := by decide +kernel
theorem dX5_addToken_32 : decode cX5_addToken 32 = .ok (.iastore, 1) := by decide +kernel
theorem dX5_addToken_33 : decode cX5_addToken 33 = .ok (.aload_n 0, 1) := by decide +kernel
theorem dX5_addToken_34 : decode cX5_addToken 34 = .ok (.dup, 1) := by decide +kernel
theorem dX5_addToken_35 : decode cX5_addToken 35 = .ok (.getfield 47, 3) := by decide +kernel
theorem dX5_addToken_38 : decode cX5_addToken 38 = .ok (.iconst 1, 1) := by decide +kernel
theorem dX5_addToken_39 : decode cX5_addToken 39 = .ok (.iadd, 1) := by decide +kernel
theorem dX5_addToken_40 : decode cX5_addToken 40 = .ok (.putfield 47, 3) := by decide +kernel
theorem dX5_addToken_43 : decode cX5_addToken 43 = .ok (.return_, 1) := by decide +kernel
theorem dX5_sortAt_0 : decode cX5_sortAt 0 = .ok (.aload_n 0, 1) := by decide +kernel
theorem dX5_sortAt_1 : decode cX5_sortAt 1 = .ok (.getfield 37, 3) := by decide +kernel
theorem dX5_sortAt_4 : decode cX5_sortAt 4 = .ok (.iload_n 1, 1) := by decide +kernel
theorem dX5_sortAt_5 : decode cX5_sortAt 5 = .ok (.baload, 1) := by decide +kernel
theorem dX5_sortAt_6 : decode cX5_sortAt 6 = .ok (.istore_n 2, 1) := by decide +kernel
theorem dX5_sortAt_7 : decode cX5_sortAt 7 = .ok (.iload_n 2, 1) := by decide +kernel
theorem dX5_sortAt_8 : decode cX5_sortAt 8 = .ok (.bipush 32, 2) := by decide +kernel
theorem dX5_sortAt_10 : decode cX5_sortAt 10 = .ok (.if_icmp .ne 5, 3) := by decide +kernel
theorem dX5_sortAt_13 : decode cX5_sortAt 13 = .ok (.iconst 0, 1) := by decide +kernel
theorem dX5_sortAt_14 : decode cX5_sortAt 14 = .ok (.ireturn, 1) := by decide +kernel
theorem dX5_sortAt_15 : decode cX5_sortAt 15 = .ok (.iload_n 2, 1) := by decide +kernel
theorem dX5_sortAt_16 : decode cX5_sortAt 16 = .ok (.bipush 97, 2) := by decide +kernel
theorem dX5_sortAt_18 : decode cX5_sortAt 18 = .ok (.if_icmp .lt 11, 3) := by decide +kernel
theorem dX5_sortAt_21 : decode cX5_sortAt 21 = .ok (.iload_n 2, 1) := by decide +kernel
theorem dX5_sortAt_22 : decode cX5_sortAt 22 = .ok (.bipush 122, 2) := by decide +kernel
theorem dX5_sortAt_24 : decode cX5_sortAt 24 = .ok (.if_icmp .gt 5, 3) := by decide +kernel
theorem dX5_sortAt_27 : decode cX5_sortAt 27 = .ok (.iconst 1, 1) := by decide +kernel
theorem dX5_sortAt_28 : decode cX5_sortAt 28 = .ok (.ireturn, 1) := by decide +kernel
theorem dX5_sortAt_29 : decode cX5_sortAt 29 = .ok (.iload_n 2, 1) := by decide +kernel
theorem dX5_sortAt_30 : decode cX5_sortAt 30 = .ok (.bipush 48, 2) := by decide +kernel
theorem dX5_sortAt_32 : decode cX5_sortAt 32 = .ok (.if_icmp .lt 13, 3) := by decide +kernel
theorem dX5_sortAt_35 : decode cX5_sortAt 35 = .ok (.iload_n 2, 1) := by decide +kernel
theorem dX5_sortAt_36 : decode cX5_sortAt 36 = .ok (.bipush 57, 2) := by decide +kernel
theorem dX5_sortAt_38 : decode cX5_sortAt 38 = .ok (.if_icmp .gt 7, 3) := by decide +kernel
theorem dX5_sortAt_41 : decode cX5_sortAt 41 = .ok (.iconst 2, 1) := by decide +kernel
theorem dX5_sortAt_42 : decode cX5_sortAt 42 = .ok (.goto 4, 3) := by decide +kernel
theorem dX5_sortAt_45 : decode cX5_sortAt 45 = .ok (.iconst 3, 1) := by decide +kernel
theorem dX5_sortAt_46 : decode cX5_sortAt 46 = .ok (.ireturn, 1) := by decide +kernel
theorem dX5_numberAt_0 : decode cX5_numberAt 0 = .ok (.iconst 0, 1) := by decide +kernel
theorem dX5_numberAt_1 : decode cX5_numberAt 1 = .ok (.istore_n 2, 1) := by decide +kernel
theorem dX5_numberAt_2 : decode cX5_numberAt 2 = .ok (.iload_n 1, 1) := by decide +kernel
theorem dX5_numberAt_3 : decode cX5_numberAt 3 = .ok (.istore_n 3, 1) := by decide +kernel
theorem dX5_numberAt_4 : decode cX5_numberAt 4 = .ok (.iload_n 3, 1) := by decide +kernel
theorem dX5_numberAt_5 : decode cX5_numberAt 5 = .ok (.aload_n 0, 1) := by decide +kernel
theorem dX5_numberAt_6 : decode cX5_numberAt 6 = .ok (.getfield 11, 3) := by decide +kernel
theorem dX5_numberAt_9 : decode cX5_numberAt 9 = .ok (.if_icmp .ge 44, 3) := by decide +kernel
theorem dX5_numberAt_12 : decode cX5_numberAt 12 = .ok (.aload_n 0, 1) := by decide +kernel
theorem dX5_numberAt_13 : decode cX5_numberAt 13 = .ok (.iload_n 3, 1) := by decide +kernel
theorem dX5_numberAt_14 : decode cX5_numberAt 14 = .ok (.invokevirtual 64, 3) := by decide +kernel
theorem dX5_numberAt_17 : decode cX5_numberAt 17 = .ok (.iconst 2, 1) := by decide +kernel
theorem dX5_numberAt_18 : decode cX5_numberAt 18 = .ok (.if_icmp .ne 35, 3) := by decide +kernel
theorem dX5_numberAt_21 : decode cX5_numberAt 21 = .ok (.iload_n 3, 1) := by decide +kernel
theorem dX5_numberAt_22 : decode cX5_numberAt 22 = .ok (.iload_n 1, 1) := by decide +kernel
theorem dX5_numberAt_23 : decode cX5_numberAt 23 = .ok (.isub, 1) := by decide +kernel
theorem dX5_numberAt_24 : decode cX5_numberAt 24 = .ok (.iconst 3, 1) := by decide +kernel
theorem dX5_numberAt_25 : decode cX5_numberAt 25 = .ok (.if_icmp .lt 7, 3) := by decide +kernel
theorem dX5_numberAt_28 : decode cX5_numberAt 28 = .ok (.sipush 3001, 3) := by decide +kernel
theorem dX5_numberAt_31 : decode cX5_numberAt 31 = .ok (.ireturn, 1) := by decide +kernel
theorem dX5_numberAt_32 : decode cX5_numberAt 32 = .ok (.iload_n 2, 1) := by decide +kernel
theorem dX5_numberAt_33 : decode cX5_numberAt 33 = .ok (.bipush 10, 2) := by decide +kernel
theorem dX5_numberAt_35 : decode cX5_numberAt 35 = .ok (.imul, 1) := by decide +kernel
theorem dX5_numberAt_36 : decode cX5_numberAt 36 = .ok (.aload_n 0, 1) := by decide +kernel
theorem dX5_numberAt_37 : decode cX5_numberAt 37 = .ok (.getfield 37, 3) := by decide +kernel
theorem dX5_numberAt_40 : decode cX5_numberAt 40 = .ok (.iload_n 3, 1) := by decide +kernel
theorem dX5_numberAt_41 : decode cX5_numberAt 41 = .ok (.baload, 1) := by decide +kernel
theorem dX5_numberAt_42 : decode cX5_numberAt 42 = .ok (.iadd, 1) := by decide +kernel
theorem dX5_numberAt_43 : decode cX5_numberAt 43 = .ok (.bipush 48, 2) := by decide +kernel
theorem dX5_numberAt_45 : decode cX5_numberAt 45 = .ok (.isub, 1) := by decide +kernel
theorem dX5_numberAt_46 : decode cX5_numberAt 46 = .ok (.istore_n 2, 1) := by decide +kernel
theorem dX5_numberAt_47 : decode cX5_numberAt 47 = .ok (.iinc 3 1, 3) := by decide +kernel
theorem dX5_numberAt_50 : decode cX5_numberAt 50 = .ok (.goto (-46), 3) := by decide +kernel
theorem dX5_numberAt_53 : decode cX5_numberAt 53 = .ok (.iload_n 2, 1) := by decide +kernel
theorem dX5_numberAt_54 : decode cX5_numberAt 54 = .ok (.ireturn, 1) := by decide +kernel
theorem dX5_wordAt_0 : decode cX5_wordAt 0 = .ok (.iconst 0, 1) := by decide +kernel
theorem dX5_wordAt_1 : decode cX5_wordAt 1 = .ok (.istore_n 2, 1) := by decide +kernel
theorem dX5_wordAt_2 : decode cX5_wordAt 2 = .ok (.iload_n 1, 1) := by decide +kernel
theorem dX5_wordAt_3 : decode cX5_wordAt 3 = .ok (.istore_n 3, 1) := by decide +kernel
theorem dX5_wordAt_4 : decode cX5_wordAt 4 = .ok (.iload_n 3, 1) := by decide +kernel
theorem dX5_wordAt_5 : decode cX5_wordAt 5 = .ok (.aload_n 0, 1) := by decide +kernel
theorem dX5_wordAt_6 : decode cX5_wordAt 6 = .ok (.getfield 11, 3) := by decide +kernel
theorem dX5_wordAt_9 : decode cX5_wordAt 9 = .ok (.if_icmp .ge 21, 3) := by decide +kernel
theorem dX5_wordAt_12 : decode cX5_wordAt 12 = .ok (.aload_n 0, 1) := by decide +kernel
theorem dX5_wordAt_13 : decode cX5_wordAt 13 = .ok (.iload_n 3, 1) := by decide +kernel
theorem dX5_wordAt_14 : decode cX5_wordAt 14 = .ok (.invokevirtual 64, 3) := by decide +kernel
theorem dX5_wordAt_17 : decode cX5_wordAt 17 = .ok (.iconst 1, 1) := by decide +kernel
theorem dX5_wordAt_18 : decode cX5_wordAt 18 = .ok (.if_icmp .ne 12, 3) := by decide +kernel
theorem dX5_wordAt_21 : decode cX5_wordAt 21 = .ok (.iinc 2 1, 3) := by decide +kernel
theorem dX5_wordAt_24 : decode cX5_wordAt 24 = .ok (.iinc 3 1, 3) := by decide +kernel
theorem dX5_wordAt_27 : decode cX5_wordAt 27 = .ok (.goto (-23), 3) := by decide +kernel
theorem dX5_wordAt_30 : decode cX5_wordAt 30 = .ok (.sipush 1000, 3) := by decide +kernel
theorem dX5_wordAt_33 : decode cX5_wordAt 33 = .ok (.istore_n 3, 1) := by decide +kernel
theorem dX5_wordAt_34 : decode cX5_wordAt 34 = .ok (.iconst 0, 1) := by decide +kernel
theorem dX5_wordAt_35 : decode cX5_wordAt 35 = .ok (.istore 4, 2) := by decide +kernel
theorem dX5_wordAt_37 : decode cX5_wordAt 37 = .ok (.iconst 0, 1) := by decide +kernel
theorem dX5_wordAt_38 : decode cX5_wordAt 38 = .ok (.istore 5, 2) := by decide +kernel
theorem dX5_wordAt_40 : decode cX5_wordAt 40 = .ok (.iload 5, 2) := by decide +kernel
theorem dX5_wordAt_42 : decode cX5_wordAt 42 = .ok (.ldc 78, 2) := by decide +kernel
theorem dX5_wordAt_44 : decode cX5_wordAt 44 = .ok (.invokevirtual 80, 3) := by decide +kernel
theorem dX5_wordAt_47 : decode cX5_wordAt 47 = .ok (.if_icmp .ge 77, 3) := by decide +kernel
theorem dX5_wordAt_50 : decode cX5_wordAt 50 = .ok (.ldc 78, 2) := by decide +kernel
theorem dX5_wordAt_52 : decode cX5_wordAt 52 = .ok (.iload 5, 2) := by decide +kernel
theorem dX5_wordAt_54 : decode cX5_wordAt 54 = .ok (.invokevirtual 85, 3) := by decide +kernel
theorem dX5_wordAt_57 : decode cX5_wordAt 57 = .ok (.istore 6, 2) := by decide +kernel
theorem dX5_wordAt_59 : decode cX5_wordAt 59 = .ok (.iload 6, 2) := by decide +kernel
theorem dX5_wordAt_61 : decode cX5_wordAt 61 = .ok (.bipush 32, 2) := by decide +kernel
theorem dX5_wordAt_63 : decode cX5_wordAt 63 = .ok (.if_icmp .eq 41, 3) := by decide +kernel
theorem dX5_wordAt_66 : decode cX5_wordAt 66 = .ok (.iload 4, 2) := by decide +kernel
theorem dX5_wordAt_68 : decode cX5_wordAt 68 = .ok (.ifCond .lt 30, 3) := by decide +kernel
theorem dX5_wordAt_71 : decode cX5_wordAt 71 = .ok (.iload 4, 2) := by decide +kernel
theorem dX5_wordAt_73 : decode cX5_wordAt 73 = .ok (.iload_n 2, 1) := by decide +kernel
theorem dX5_wordAt_74 : decode cX5_wordAt 74 = .ok (.if_icmp .ge 24, 3) := by decide +kernel
theorem dX5_wordAt_77 : decode cX5_wordAt 77 = .ok (.aload_n 0, 1) := by decide +kernel
theorem dX5_wordAt_78 : decode cX5_wordAt 78 = .ok (.getfield 37, 3) := by decide +kernel
theorem dX5_wordAt_81 : decode cX5_wordAt 81 = .ok (.iload_n 1, 1) := by decide +kernel
theorem dX5_wordAt_82 : decode cX5_wordAt 82 = .ok (.iload 4, 2) := by decide +kernel
theorem dX5_wordAt_84 : decode cX5_wordAt 84 = .ok (.iadd, 1) := by decide +kernel
theorem dX5_wordAt_85 : decode cX5_wordAt 85 = .ok (.baload, 1) := by decide +kernel
theorem dX5_wordAt_86 : decode cX5_wordAt 86 = .ok (.iload 6, 2) := by decide +kernel
theorem dX5_wordAt_88 : decode cX5_wordAt 88 = .ok (.if_icmp .ne 10, 3) := by decide +kernel
theorem dX5_wordAt_91 : decode cX5_wordAt 91 = .ok (.iload 4, 2) := by decide +kernel
theorem dX5_wordAt_93 : decode cX5_wordAt 93 = .ok (.iconst 1, 1) := by decide +kernel
theorem dX5_wordAt_94 : decode cX5_wordAt 94 = .ok (.iadd, 1) := by decide +kernel
theorem dX5_wordAt_95 : decode cX5_wordAt 95 = .ok (.goto 4, 3) := by decide +kernel
theorem dX5_wordAt_98 : decode cX5_wordAt 98 = .ok (.iconst (-1), 1) := by decide +kernel
theorem dX5_wordAt_99 : decode cX5_wordAt 99 = .ok (.istore 4, 2) := by decide +kernel
theorem dX5_wordAt_101 : decode cX5_wordAt 101 = .ok (.goto 17, 3) := by decide +kernel
theorem dX5_wordAt_104 : decode cX5_wordAt 104 = .ok (.iload 4, 2) := by decide +kernel
theorem dX5_wordAt_106 : decode cX5_wordAt 106 = .ok (.iload_n 2, 1) := by decide +kernel
theorem dX5_wordAt_107 : decode cX5_wordAt 107 = .ok (.if_icmp .ne 5, 3) := by decide +kernel
theorem dX5_wordAt_110 : decode cX5_wordAt 110 = .ok (.iload_n 3, 1) := by decide +kernel
theorem dX5_wordAt_111 : decode cX5_wordAt 111 = .ok (.ireturn, 1) := by decide +kernel
theorem dX5_wordAt_112 : decode cX5_wordAt 112 = .ok (.iinc 3 1, 3) := by decide +kernel
theorem dX5_wordAt_115 : decode cX5_wordAt 115 = .ok (.iconst 0, 1) := by decide +kernel
theorem dX5_wordAt_116 : decode cX5_wordAt 116 = .ok (.istore 4, 2) := by decide +kernel
theorem dX5_wordAt_118 : decode cX5_wordAt 118 = .ok (.iinc 5 1, 3) := by decide +kernel
theorem dX5_wordAt_121 : decode cX5_wordAt 121 = .ok (.goto (-81), 3) := by decide +kernel
theorem dX5_wordAt_124 : decode cX5_wordAt 124 = .ok (.sipush 3001, 3) := by decide +kernel
theorem dX5_wordAt_127 : decode cX5_wordAt 127 = .ok (.ireturn, 1) := by decide +kernel
theorem dX5_token_0 : decode cX5_token 0 = .ok (.aload_n 0, 1) := by decide +kernel
theorem dX5_token_1 : decode cX5_token 1 = .ok (.getfield 50, 3) := by decide +kernel
theorem dX5_token_4 : decode cX5_token 4 = .ok (.aload_n 0, 1) := by decide +kernel
theorem dX5_token_5 : decode cX5_token 5 = .ok (.getfield 47, 3) := by decide +kernel
theorem dX5_token_8 : decode cX5_token 8 = .ok (.if_icmp .ge 15, 3) := by decide +kernel
theorem dX5_token_11 : decode cX5_token 11 = .ok (.aload_n 0, 1) := by decide +kernel
theorem dX5_token_12 : decode cX5_token 12 = .ok (.getfield 41, 3) := by decide +kernel
theorem dX5_token_15 : decode cX5_token 15 = .ok (.aload_n 0, 1) := by decide +kernel
theorem dX5_token_16 : decode cX5_token 16 = .ok (.getfield 50, 3) := by decide +kernel
theorem dX5_token_19 : decode cX5_token 19 = .ok (.iaload, 1) := by decide +kernel
theorem dX5_token_20 : decode cX5_token 20 = .ok (.goto 6, 3) := by decide +kernel
theorem dX5_token_23 : decode cX5_token 23 = .ok (.sipush 3000, 3) := by decide +kernel
theorem dX5_token_26 : decode cX5_token 26 = .ok (.ireturn, 1) := by decide +kernel
theorem dX5_take_0 : decode cX5_take 0 = .ok (.aload_n 0, 1) := by decide +kernel
theorem dX5_take_1 : decode cX5_take 1 = .ok (.invokevirtual 56, 3) := by decide +kernel
theorem dX5_take_4 : decode cX5_take 4 = .ok (.iload_n 1, 1) := by decide +kernel
theorem dX5_take_5 : decode cX5_take 5 = .ok (.if_icmp .eq 5, 3) := by decide +kernel
theorem dX5_take_8 : decode cX5_take 8 = .ok (.iconst 0, 1) := by decide +kernel
theorem dX5_take_9 : decode cX5_take 9 = .ok (.ireturn, 1) := by decide +kernel
theorem dX5_take_10 : decode cX5_take 10 = .ok (.aload_n 0, 1) := by decide +kernel
theorem dX5_take_11 : decode cX5_take 11 = .ok (.dup, 1) := by decide +kernel
theorem dX5_take_12 : decode cX5_take 12 = .ok (.getfield 50, 3) := by decide +kernel
theorem dX5_take_15 : decode cX5_take 15 = .ok (.iconst 1, 1) := by decide +kernel
theorem dX5_take_16 : decode cX5_take 16 = .ok (.iadd, 1) := by decide +kernel
theorem dX5_take_17 : decode cX5_take 17 = .ok (.putfield 50, 3) := by decide +kernel
theorem dX5_take_20 : decode cX5_take 20 = .ok (.iconst 1, 1) := by decide +kernel
theorem dX5_take_21 : decode cX5_take 21 = .ok (.ireturn, 1) := by decide +kernel
theorem dX5_takeNumber_0 : decode cX5_takeNumber 0 = .ok (.aload_n 0, 1) := by decide +kernel
theorem dX5_takeNumber_1 : decode cX5_takeNumber 1 = .ok (.invokevirtual 56, 3) := by decide +kernel
theorem dX5_takeNumber_4 : decode cX5_takeNumber 4 = .ok (.istore 4, 2) := by decide +kernel
theorem dX5_takeNumber_6 : decode cX5_takeNumber 6 = .ok (.iload 4, 2) := by decide +kernel
theorem dX5_takeNumber_8 : decode cX5_takeNumber 8 = .ok (.iload_n 2, 1) := by decide +kernel
theorem dX5_takeNumber_9 : decode cX5_takeNumber 9 = .ok (.if_icmp .lt 9, 3) := by decide +kernel
theorem dX5_takeNumber_12 : decode cX5_takeNumber 12 = .ok (.iload 4, 2) := by decide +kernel
theorem dX5_takeNumber_14 : decode cX5_takeNumber 14 = .ok (.iload_n 3, 1) := by decide +kernel
theorem dX5_takeNumber_15 : decode cX5_takeNumber 15 = .ok (.if_icmp .le 5, 3) := by decide +kernel
theorem dX5_takeNumber_18 : decode cX5_takeNumber 18 = .ok (.iconst 0, 1) := by decide +kernel
theorem dX5_takeNumber_19 : decode cX5_takeNumber 19 = .ok (.ireturn, 1) := by decide +kernel
theorem dX5_takeNumber_20 : decode cX5_takeNumber 20 = .ok (.aload_n 0, 1) := by decide +kernel
theorem dX5_takeNumber_21 : decode cX5_takeNumber 21 = .ok (.getfield 34, 3) := by decide +kernel
theorem dX5_takeNumber_24 : decode cX5_takeNumber 24 = .ok (.aload_n 0, 1) := by decide +kernel
theorem dX5_takeNumber_25 : decode cX5_takeNumber 25 = .ok (.getfield 15, 3) := by decide +kernel
theorem dX5_takeNumber_28 : decode cX5_takeNumber 28 = .ok (.iconst 4, 1) := by decide +kernel
theorem dX5_takeNumber_29 : decode cX5_takeNumber 29 = .ok (.imul, 1) := by decide +kernel
theorem dX5_takeNumber_30 : decode cX5_takeNumber 30 = .ok (.iload_n 1, 1) := by decide +kernel
theorem dX5_takeNumber_31 : decode cX5_takeNumber 31 = .ok (.iadd, 1) := by decide +kernel
theorem dX5_takeNumber_32 : decode cX5_takeNumber 32 = .ok (.iload 4, 2) := by decide +kernel
theorem dX5_takeNumber_34 : decode cX5_takeNumber 34 = .ok (.iastore, 1) := by decide +kernel
theorem dX5_takeNumber_35 : decode cX5_takeNumber 35 = .ok (.aload_n 0, 1) := by decide +kernel
theorem dX5_takeNumber_36 : decode cX5_takeNumber 36 = .ok (.dup, 1) := by decide +kernel
theorem dX5_takeNumber_37 : decode cX5_takeNumber 37 = .ok (.getfield 50, 3) := by decide +kernel
theorem dX5_takeNumber_40 : decode cX5_takeNumber 40 = .ok (.iconst 1, 1) := by decide +kernel
theorem dX5_takeNumber_41 : decode cX5_takeNumber 41 = .ok (.iadd, 1) := by decide +kernel
theorem dX5_takeNumber_42 : decode cX5_takeNumber 42 = .ok (.putfield 50, 3) := by decide +kernel
theorem dX5_takeNumber_45 : decode cX5_takeNumber 45 = .ok (.iconst 1, 1) := by decide +kernel
theorem dX5_takeNumber_46 : decode cX5_takeNumber 46 = .ok (.ireturn, 1) := by decide +kernel
theorem dX5_emit_0 : decode cX5_emit 0 = .ok (.aload_n 0, 1) := by decide +kernel
theorem dX5_emit_1 : decode cX5_emit 1 = .ok (.getfield 18, 3) := by decide +kernel
theorem dX5_emit_4 : decode cX5_emit 4 = .ok (.aload_n 0, 1) := by decide +kernel
theorem dX5_emit_5 : decode cX5_emit 5 = .ok (.getfield 31, 3) := by decide +kernel
theorem dX5_emit_8 : decode cX5_emit 8 = .ok (.arraylength, 1) := by decide +kernel
theorem dX5_emit_9 : decode cX5_emit 9 = .ok (.if_icmp .lt 4, 3) := by decide +kernel
theorem dX5_emit_12 : decode cX5_emit 12 = .ok (.return_, 1) := by decide +kernel
theorem dX5_emit_13 : decode cX5_emit 13 = .ok (.aload_n 0, 1) := by decide +kernel
theorem dX5_emit_14 : decode cX5_emit 14 = .ok (.getfield 31, 3) := by decide +kernel
theorem dX5_emit_17 : decode cX5_emit 17 = .ok (.aload_n 0, 1) := by decide +kernel
theorem dX5_emit_18 : decode cX5_emit 18 = .ok (.getfield 18, 3) := by decide +kernel
theorem dX5_emit_21 : decode cX5_emit 21 = .ok (.iload_n 1, 1) := by decide +kernel
theorem dX5_emit_22 : decode cX5_emit 22 = .ok (.iastore, 1) := by decide +kernel
theorem dX5_emit_23 : decode cX5_emit 23 = .ok (.aload_n 0, 1) := by decide +kernel
theorem dX5_emit_24 : decode cX5_emit 24 = .ok (.dup, 1) := by decide +kernel
theorem dX5_emit_25 : decode cX5_emit 25 = .ok (.getfield 18, 3) := by decide +kernel
theorem dX5_emit_28 : decode cX5_emit 28 = .ok (.iconst 1, 1) := by decide +kernel
theorem dX5_emit_29 : decode cX5_emit 29 = .ok (.iadd, 1) := by decide +kernel
theorem dX5_emit_30 : decode cX5_emit 30 = .ok (.putfield 18, 3) := by decide +kernel
theorem dX5_emit_33 : decode cX5_emit 33 = .ok (.return_, 1) := by decide +kernel
theorem dX5_readLine_0 : decode cX5_readLine 0 = .ok (.aload_n 0, 1) := by decide +kernel
theorem dX5_readLine_1 : decode cX5_readLine 1 = .ok (.invokevirtual 56, 3) := by decide +kernel
theorem dX5_readLine_4 : decode cX5_readLine 4 = .ok (.sipush 1000, 3) := by decide +kernel
theorem dX5_readLine_7 : decode cX5_readLine 7 = .ok (.isub, 1) := by decide +kernel
theorem dX5_readLine_8 : decode cX5_readLine 8 = .ok (.istore_n 1, 1) := by decide +kernel
theorem dX5_readLine_9 : decode cX5_readLine 9 = .ok (.iload_n 1, 1) := by decide +kernel
theorem dX5_readLine_10 : decode cX5_readLine 10 = .ok (.ifCond .lt 9, 3) := by decide +kernel
theorem dX5_readLine_13 : decode cX5_readLine 13 = .ok (.iload_n 1, 1) := by decide +kernel
theorem dX5_readLine_14 : decode cX5_readLine 14 = .ok (.bipush 7, 2) := by decide +kernel
theorem dX5_readLine_16 : decode cX5_readLine 16 = .ok (.if_icmp .le 5, 3) := by decide +kernel
theorem dX5_readLine_19 : decode cX5_readLine 19 = .ok (.iconst 0, 1) := by decide +kernel
theorem dX5_readLine_20 : decode cX5_readLine 20 = .ok (.ireturn, 1) := by decide +kernel
theorem dX5_readLine_21 : decode cX5_readLine 21 = .ok (.aload_n 0, 1) := by decide +kernel
theorem dX5_readLine_22 : decode cX5_readLine 22 = .ok (.dup, 1) := by decide +kernel
theorem dX5_readLine_23 : decode cX5_readLine 23 = .ok (.getfield 50, 3) := by decide +kernel
theorem dX5_readLine_26 : decode cX5_readLine 26 = .ok (.iconst 1, 1) := by decide +kernel
theorem dX5_readLine_27 : decode cX5_readLine 27 = .ok (.iadd, 1) := by decide +kernel
theorem dX5_readLine_28 : decode cX5_readLine 28 = .ok (.putfield 50, 3) := by decide +kernel
theorem dX5_readLine_31 : decode cX5_readLine 31 = .ok (.aload_n 0, 1) := by decide +kernel
theorem dX5_readLine_32 : decode cX5_readLine 32 = .ok (.getfield 21, 3) := by decide +kernel
theorem dX5_readLine_35 : decode cX5_readLine 35 = .ok (.aload_n 0, 1) := by decide +kernel
theorem dX5_readLine_36 : decode cX5_readLine 36 = .ok (.getfield 15, 3) := by decide +kernel
theorem dX5_readLine_39 : decode cX5_readLine 39 = .ok (.iload_n 1, 1) := by decide +kernel
theorem dX5_readLine_40 : decode cX5_readLine 40 = .ok (.iastore, 1) := by decide +kernel
theorem dX5_readLine_41 : decode cX5_readLine 41 = .ok (.aload_n 0, 1) := by decide +kernel
theorem dX5_readLine_42 : decode cX5_readLine 42 = .ok (.getfield 25, 3) := by decide +kernel
theorem dX5_readLine_45 : decode cX5_readLine 45 = .ok (.aload_n 0, 1) := by decide +kernel
theorem dX5_readLine_46 : decode cX5_readLine 46 = .ok (.getfield 15, 3) := by decide +kernel
theorem dX5_readLine_49 : decode cX5_readLine 49 = .ok (.aload_n 0, 1) := by decide +kernel
theorem dX5_readLine_50 : decode cX5_readLine 50 = .ok (.getfield 18, 3) := by decide +kernel
theorem dX5_readLine_53 : decode cX5_readLine 53 = .ok (.iastore, 1) := by decide +kernel
theorem dX5_readLine_54 : decode cX5_readLine 54 = .ok (.iconst 1, 1) := by decide +kernel
theorem dX5_readLine_55 : decode cX5_readLine 55 = .ok (.istore_n 2, 1) := by decide +kernel
theorem dX5_readLine_56 : decode cX5_readLine 56 = .ok (.iload_n 1, 1) := by decide +kernel
theorem dX5_readLine_57 : decode cX5_readLine 57 = .ok (.tableswitch 220 0 6 #[43, 43, 73, 85, 156, 156, 193], 43) := by decide +kernel
theorem dX5_readLine_100 : decode cX5_readLine 100 = .ok (.aload_n 0, 1) := by decide +kernel
theorem dX5_readLine_101 : decode cX5_readLine 101 = .ok (.iconst 0, 1) := by decide +kernel
theorem dX5_readLine_102 : decode cX5_readLine 102 = .ok (.iconst 0, 1) := by decide +kernel
theorem dX5_readLine_103 : decode cX5_readLine 103 = .ok (.iconst 5, 1) := by decide +kernel
theorem dX5_readLine_104 : decode cX5_readLine 104 = .ok (.invokevirtual 89, 3) := by decide +kernel
theorem dX5_readLine_107 : decode cX5_readLine 107 = .ok (.ifCond .eq 18, 3) := by decide +kernel
theorem dX5_readLine_110 : decode cX5_readLine 110 = .ok (.aload_n 0, 1) := by decide +kernel
theorem dX5_readLine_111 : decode cX5_readLine 111 = .ok (.iconst 1, 1) := by decide +kernel
theorem dX5_readLine_112 : decode cX5_readLine 112 = .ok (.iconst 0, 1) := by decide +kernel
theorem dX5_readLine_113 : decode cX5_readLine 113 = .ok (.bipush 9, 2) := by decide +kernel
theorem dX5_readLine_115 : decode cX5_readLine 115 = .ok (.invokevirtual 89, 3) := by decide +kernel
theorem dX5_readLine_118 : decode cX5_readLine 118 = .ok (.ifCond .eq 7, 3) := by decide +kernel
theorem dX5_readLine_121 : decode cX5_readLine 121 = .ok (.iconst 1, 1) := by decide +kernel
theorem dX5_readLine_122 : decode cX5_readLine 122 = .ok (.goto 4, 3) := by decide +kernel
theorem dX5_readLine_125 : decode cX5_readLine 125 = .ok (.iconst 0, 1) := by decide +kernel
theorem dX5_readLine_126 : decode cX5_readLine 126 = .ok (.istore_n 2, 1) := by decide +kernel
theorem dX5_readLine_127 : decode cX5_readLine 127 = .ok (.goto 150, 3) := by decide +kernel
theorem dX5_readLine_130 : decode cX5_readLine 130 = .ok (.aload_n 0, 1) := by decide +kernel
theorem dX5_readLine_131 : decode cX5_readLine 131 = .ok (.iconst 0, 1) := by decide +kernel
theorem dX5_readLine_132 : decode cX5_readLine 132 = .ok (.iconst 0, 1) := by decide +kernel
theorem dX5_readLine_133 : decode cX5_readLine 133 = .ok (.bipush 90, 2) := by decide +kernel
theorem dX5_readLine_135 : decode cX5_readLine 135 = .ok (.invokevirtual 89, 3) := by decide +kernel
theorem dX5_readLine_138 : decode cX5_readLine 138 = .ok (.istore_n 2, 1) := by decide +kernel
theorem dX5_readLine_139 : decode cX5_readLine 139 = .ok (.goto 138, 3) := by decide +kernel
theorem dX5_readLine_142 : decode cX5_readLine 142 = .ok (.aload_n 0, 1) := by decide +kernel
theorem dX5_readLine_143 : decode cX5_readLine 143 = .ok (.iconst 0, 1) := by decide +kernel
theorem dX5_readLine_144 : decode cX5_readLine 144 = .ok (.iconst 0, 1) := by decide +kernel
theorem dX5_readLine_145 : decode cX5_readLine 145 = .ok (.iconst 4, 1) := by decide +kernel
theorem dX5_readLine_146 : decode cX5_readLine 146 = .ok (.invokevirtual 89, 3) := by decide +kernel
theorem dX5_readLine_149 : decode cX5_readLine 149 = .ok (.ifCond .eq 59, 3) := by decide +kernel
theorem dX5_readLine_152 : decode cX5_readLine 152 = .ok (.aload_n 0, 1) := by decide +kernel
theorem dX5_readLine_153 : decode cX5_readLine 153 = .ok (.iconst 1, 1) := by decide +kernel
theorem dX5_readLine_154 : decode cX5_readLine 154 = .ok (.iconst 0, 1) := by decide +kernel
theorem dX5_readLine_155 : decode cX5_readLine 155 = .ok (.iconst 3, 1) := by decide +kernel
theorem dX5_readLine_156 : decode cX5_readLine 156 = .ok (.invokevirtual 89, 3) := by decide +kernel
theorem dX5_readLine_159 : decode cX5_readLine 159 = .ok (.ifCond .eq 49, 3) := by decide +kernel
theorem dX5_readLine_162 : decode cX5_readLine 162 = .ok (.aload_n 0, 1) := by decide +kernel
theorem dX5_readLine_163 : decode cX5_readLine 163 = .ok (.iconst 2, 1) := by decide +kernel
theorem dX5_readLine_164 : decode cX5_readLine 164 = .ok (.iconst 0, 1) := by decide +kernel
theorem dX5_readLine_165 : decode cX5_readLine 165 = .ok (.sipush 240, 3) := by decide +kernel
theorem dX5_readLine_168 : decode cX5_readLine 168 = .ok (.invokevirtual 89, 3) := by decide +kernel
theorem dX5_readLine_171 : decode cX5_readLine 171 = .ok (.ifCond .eq 37, 3) := by decide +kernel
theorem dX5_readLine_174 : decode cX5_readLine 174 = .ok (.aload_n 0, 1) := by decide +kernel
theorem dX5_readLine_175 : decode cX5_readLine 175 = .ok (.sipush 1017, 3) := by decide +kernel
theorem dX5_readLine_178 : decode cX5_readLine 178 = .ok (.invokevirtual 93, 3) := by decide +kernel
theorem dX5_readLine_181 : decode cX5_readLine 181 = .ok (.ifCond .eq 27, 3) := by decide +kernel
theorem dX5_readLine_184 : decode cX5_readLine 184 = .ok (.aload_n 0, 1) := by decide +kernel
theorem dX5_readLine_185 : decode cX5_readLine 185 = .ok (.iconst 3, 1) := by decide +kernel
theorem dX5_readLine_186 : decode cX5_readLine 186 = .ok (.aload_n 0, 1) := by decide +kernel
theorem dX5_readLine_187 : decode cX5_readLine 187 = .ok (.aload_n 0, 1) := by decide +kernel
theorem dX5_readLine_188 : decode cX5_readLine 188 = .ok (.getfield 15, 3) := by decide +kernel
theorem dX5_readLine_191 : decode cX5_readLine 191 = .ok (.iconst 2, 1) := by decide +kernel
theorem dX5_readLine_192 : decode cX5_readLine 192 = .ok (.invokevirtual 97, 3) := by decide +kernel
theorem dX5_readLine_195 : decode cX5_readLine 195 = .ok (.sipush 240, 3) := by decide +kernel
theorem dX5_readLine_198 : decode cX5_readLine 198 = .ok (.invokevirtual 89, 3) := by decide +kernel
theorem dX5_readLine_201 : decode cX5_readLine 201 = .ok (.ifCond .eq 7, 3) := by decide +kernel
theorem dX5_readLine_204 : decode cX5_readLine 204 = .ok (.iconst 1, 1) := by decide +kernel
theorem dX5_readLine_205 : decode cX5_readLine 205 = .ok (.goto 4, 3) := by decide +kernel
theorem dX5_readLine_208 : decode cX5_readLine 208 = .ok (.iconst 0, 1) := by decide +kernel
theorem dX5_readLine_209 : decode cX5_readLine 209 = .ok (.istore_n 2, 1) := by decide +kernel
theorem dX5_readLine_210 : decode cX5_readLine 210 = .ok (.goto 67, 3) := by decide +kernel
theorem dX5_readLine_213 : decode cX5_readLine 213 = .ok (.aload_n 0, 1) := by decide +kernel
theorem dX5_readLine_214 : decode cX5_readLine 214 = .ok (.iconst 0, 1) := by decide +kernel
theorem dX5_readLine_215 : decode cX5_readLine 215 = .ok (.iconst 0, 1) := by decide +kernel
theorem dX5_readLine_216 : decode cX5_readLine 216 = .ok (.iconst 4, 1) := by decide +kernel
theorem dX5_readLine_217 : decode cX5_readLine 217 = .ok (.invokevirtual 89, 3) := by decide +kernel
theorem dX5_readLine_220 : decode cX5_readLine 220 = .ok (.ifCond .eq 25, 3) := by decide +kernel
theorem dX5_readLine_223 : decode cX5_readLine 223 = .ok (.aload_n 0, 1) := by decide +kernel
theorem dX5_readLine_224 : decode cX5_readLine 224 = .ok (.sipush 1016, 3) := by decide +kernel
theorem dX5_readLine_227 : decode cX5_readLine 227 = .ok (.invokevirtual 93, 3) := by decide +kernel
theorem dX5_readLine_230 : decode cX5_readLine 230 = .ok (.ifCond .eq 15, 3) := by decide +kernel
theorem dX5_readLine_233 : decode cX5_readLine 233 = .ok (.aload_n 0, 1) := by decide +kernel
theorem dX5_readLine_234 : decode cX5_readLine 234 = .ok (.iconst 0, 1) := by decide +kernel
theorem dX5_readLine_235 : decode cX5_readLine 235 = .ok (.invokevirtual 101, 3) := by decide +kernel
theorem dX5_readLine_238 : decode cX5_readLine 238 = .ok (.ifCond .eq 7, 3) := by decide +kernel
theorem dX5_readLine_241 : decode cX5_readLine 241 = .ok (.iconst 1, 1) := by decide +kernel
theorem dX5_readLine_242 : decode cX5_readLine 242 = .ok (.goto 4, 3) := by decide +kernel
theorem dX5_readLine_245 : decode cX5_readLine 245 = .ok (.iconst 0, 1) := by decide +kernel
theorem dX5_readLine_246 : decode cX5_readLine 246 = .ok (.istore_n 2, 1) := by decide +kernel
theorem dX5_readLine_247 : decode cX5_readLine 247 = .ok (.goto 30, 3) := by decide +kernel
theorem dX5_readLine_250 : decode cX5_readLine 250 = .ok (.aload_n 0, 1) := by decide +kernel
theorem dX5_readLine_251 : decode cX5_readLine 251 = .ok (.sipush 1016, 3) := by decide +kernel
theorem dX5_readLine_254 : decode cX5_readLine 254 = .ok (.invokevirtual 93, 3) := by decide +kernel
theorem dX5_readLine_257 : decode cX5_readLine 257 = .ok (.ifCond .eq 15, 3) := by decide +kernel
theorem dX5_readLine_260 : decode cX5_readLine 260 = .ok (.aload_n 0, 1) := by decide +kernel
theorem dX5_readLine_261 : decode cX5_readLine 261 = .ok (.iconst 0, 1) := by decide +kernel
theorem dX5_readLine_262 : decode cX5_readLine 262 = .ok (.invokevirtual 101, 3) := by decide +kernel
theorem dX5_readLine_265 : decode cX5_readLine 265 = .ok (.ifCond .eq 7, 3) := by decide +kernel
theorem dX5_readLine_268 : decode cX5_readLine 268 = .ok (.iconst 1, 1) := by decide +kernel
theorem dX5_readLine_269 : decode cX5_readLine 269 = .ok (.goto 4, 3) := by decide +kernel
theorem dX5_readLine_272 : decode cX5_readLine 272 = .ok (.iconst 0, 1) := by decide +kernel
theorem dX5_readLine_273 : decode cX5_readLine 273 = .ok (.istore_n 2, 1) := by decide +kernel
theorem dX5_readLine_274 : decode cX5_readLine 274 = .ok (.goto 3, 3) := by decide +kernel
theorem dX5_readLine_277 : decode cX5_readLine 277 = .ok (.iload_n 2, 1) := by decide +kernel
theorem dX5_readLine_278 : decode cX5_readLine 278 = .ok (.ifCond .eq 13, 3) := by decide +kernel
theorem dX5_readLine_281 : decode cX5_readLine 281 = .ok (.aload_n 0, 1) := by decide +kernel
theorem dX5_readLine_282 : decode cX5_readLine 282 = .ok (.sipush 2059, 3) := by decide +kernel
theorem dX5_readLine_285 : decode cX5_readLine 285 = .ok (.invokevirtual 93, 3) := by decide +kernel
theorem dX5_readLine_288 : decode cX5_readLine 288 = .ok (.ifCond .ne 5, 3) := by decide +kernel
theorem dX5_readLine_291 : decode cX5_readLine 291 = .ok (.iconst 0, 1) := by decide +kernel
theorem dX5_readLine_292 : decode cX5_readLine 292 = .ok (.ireturn, 1) := by decide +kernel
theorem dX5_readLine_293 : decode cX5_readLine 293 = .ok (.aload_n 0, 1) := by decide +kernel
theorem dX5_readLine_294 : decode cX5_readLine 294 = .ok (.getfield 28, 3) := by decide +kernel
theorem dX5_readLine_297 : decode cX5_readLine 297 = .ok (.aload_n 0, 1) := by decide +kernel
theorem dX5_readLine_298 : decode cX5_readLine 298 = .ok (.getfield 15, 3) := by decide +kernel
theorem dX5_readLine_301 : decode cX5_readLine 301 = .ok (.aload_n 0, 1) := by decide +kernel
theorem dX5_readLine_302 : decode cX5_readLine 302 = .ok (.getfield 18, 3) := by decide +kernel
theorem dX5_readLine_305 : decode cX5_readLine 305 = .ok (.iastore, 1) := by decide +kernel
theorem dX5_readLine_306 : decode cX5_readLine 306 = .ok (.aload_n 0, 1) := by decide +kernel
theorem dX5_readLine_307 : decode cX5_readLine 307 = .ok (.dup, 1) := by decide +kernel
theorem dX5_readLine_308 : decode cX5_readLine 308 = .ok (.getfield 15, 3) := by decide +kernel
theorem dX5_readLine_311 : decode cX5_readLine 311 = .ok (.iconst 1, 1) := by decide +kernel
theorem dX5_readLine_312 : decode cX5_readLine 312 = .ok (.iadd, 1) := by decide +kernel
theorem dX5_readLine_313 : decode cX5_readLine 313 = .ok (.putfield 15, 3) := by decide +kernel
theorem dX5_readLine_316 : decode cX5_readLine 316 = .ok (.iconst 1, 1) := by decide +kernel
theorem dX5_readLine_317 : decode cX5_readLine 317 = .ok (.ireturn, 1) := by decide +kernel
theorem dX5_readCond_0 : decode cX5_readCond 0 = .ok (.iconst 0, 1) := by decide +kernel
theorem dX5_readCond_1 : decode cX5_readCond 1 = .ok (.istore_n 2, 1) := by decide +kernel
theorem dX5_readCond_2 : decode cX5_readCond 2 = .ok (.iconst 0, 1) := by decide +kernel
theorem dX5_readCond_3 : decode cX5_readCond 3 = .ok (.istore_n 3, 1) := by decide +kernel
theorem dX5_readCond_4 : decode cX5_readCond 4 = .ok (.iconst 0, 1) := by decide +kernel
theorem dX5_readCond_5 : decode cX5_readCond 5 = .ok (.istore 4, 2) := by decide +kernel
theorem dX5_readCond_7 : decode cX5_readCond 7 = .ok (.iload 4, 2) := by decide +kernel
theorem dX5_readCond_9 : decode cX5_readCond 9 = .ok (.sipush 250, 3) := by decide +kernel
theorem dX5_readCond_12 : decode cX5_readCond 12 = .ok (.if_icmp .ge 70, 3) := by decide +kernel
theorem dX5_readCond_15 : decode cX5_readCond 15 = .ok (.aload_n 0, 1) := by decide +kernel
theorem dX5_readCond_16 : decode cX5_readCond 16 = .ok (.iload_n 1, 1) := by decide +kernel
theorem dX5_readCond_17 : decode cX5_readCond 17 = .ok (.invokevirtual 104, 3) := by decide +kernel
theorem dX5_readCond_20 : decode cX5_readCond 20 = .ok (.ifCond .ne 5, 3) := by decide +kernel
theorem dX5_readCond_23 : decode cX5_readCond 23 = .ok (.iconst 0, 1) := by decide +kernel
theorem dX5_readCond_24 : decode cX5_readCond 24 = .ok (.ireturn, 1) := by decide +kernel
theorem dX5_readCond_25 : decode cX5_readCond 25 = .ok (.iload_n 2, 1) := by decide +kernel
theorem dX5_readCond_26 : decode cX5_readCond 26 = .ok (.ifCond .eq 10, 3) := by decide +kernel
theorem dX5_readCond_29 : decode cX5_readCond 29 = .ok (.aload_n 0, 1) := by decide +kernel
theorem dX5_readCond_30 : decode cX5_readCond 30 = .ok (.sipush 2005, 3) := by decide +kernel
theorem dX5_readCond_33 : decode cX5_readCond 33 = .ok (.invokevirtual 107, 3) := by decide +kernel
theorem dX5_readCond_36 : decode cX5_readCond 36 = .ok (.aload_n 0, 1) := by decide +kernel
theorem dX5_readCond_37 : decode cX5_readCond 37 = .ok (.sipush 1019, 3) := by decide +kernel
theorem dX5_readCond_40 : decode cX5_readCond 40 = .ok (.invokevirtual 93, 3) := by decide +kernel
theorem dX5_readCond_43 : decode cX5_readCond 43 = .ok (.istore_n 2, 1) := by decide +kernel
theorem dX5_readCond_44 : decode cX5_readCond 44 = .ok (.iload_n 2, 1) := by decide +kernel
theorem dX5_readCond_45 : decode cX5_readCond 45 = .ok (.ifCond .eq 6, 3) := by decide +kernel
theorem dX5_readCond_48 : decode cX5_readCond 48 = .ok (.goto 28, 3) := by decide +kernel
theorem dX5_readCond_51 : decode cX5_readCond 51 = .ok (.iload_n 3, 1) := by decide +kernel
theorem dX5_readCond_52 : decode cX5_readCond 52 = .ok (.ifCond .eq 10, 3) := by decide +kernel
theorem dX5_readCond_55 : decode cX5_readCond 55 = .ok (.aload_n 0, 1) := by decide +kernel
theorem dX5_readCond_56 : decode cX5_readCond 56 = .ok (.sipush 2006, 3) := by decide +kernel
theorem dX5_readCond_59 : decode cX5_readCond 59 = .ok (.invokevirtual 107, 3) := by decide +kernel
theorem dX5_readCond_62 : decode cX5_readCond 62 = .ok (.aload_n 0, 1) := by decide +kernel
theorem dX5_readCond_63 : decode cX5_readCond 63 = .ok (.sipush 1018, 3) := by decide +kernel
theorem dX5_readCond_66 : decode cX5_readCond 66 = .ok (.invokevirtual 93, 3) := by decide +kernel
theorem dX5_readCond_69 : decode cX5_readCond 69 = .ok (.istore_n 3, 1) := by decide +kernel
theorem dX5_readCond_70 : decode cX5_readCond 70 = .ok (.iload_n 3, 1) := by decide +kernel
theorem dX5_readCond_71 : decode cX5_readCond 71 = .ok (.ifCond .ne 5, 3) := by decide +kernel
theorem dX5_readCond_74 : decode cX5_readCond 74 = .ok (.iconst 1, 1) := by decide +kernel
theorem dX5_readCond_75 : decode cX5_readCond 75 = .ok (.ireturn, 1) := by decide +kernel
theorem dX5_readCond_76 : decode cX5_readCond 76 = .ok (.iinc 4 1, 3) := by decide +kernel
theorem dX5_readCond_79 : decode cX5_readCond 79 = .ok (.goto (-72), 3) := by decide +kernel
theorem dX5_readCond_82 : decode cX5_readCond 82 = .ok (.iconst 0, 1) := by decide +kernel
theorem dX5_readCond_83 : decode cX5_readCond 83 = .ok (.ireturn, 1) := by decide +kernel
theorem dX5_readOne_0 : decode cX5_readOne 0 = .ok (.iconst 0, 1) := by decide +kernel
theorem dX5_readOne_1 : decode cX5_readOne 1 = .ok (.istore_n 2, 1) := by decide +kernel
theorem dX5_readOne_2 : decode cX5_readOne 2 = .ok (.iconst 0, 1) := by decide +kernel
theorem dX5_readOne_3 : decode cX5_readOne 3 = .ok (.istore_n 3, 1) := by decide +kernel
theorem dX5_readOne_4 : decode cX5_readOne 4 = .ok (.iload_n 3, 1) := by decide +kernel
theorem dX5_readOne_5 : decode cX5_readOne 5 = .ok (.sipush 250, 3) := by decide +kernel
theorem dX5_readOne_8 : decode cX5_readOne 8 = .ok (.if_icmp .ge 29, 3) := by decide +kernel
theorem dX5_readOne_11 : decode cX5_readOne 11 = .ok (.aload_n 0, 1) := by decide +kernel
theorem dX5_readOne_12 : decode cX5_readOne 12 = .ok (.sipush 1020, 3) := by decide +kernel
theorem dX5_readOne_15 : decode cX5_readOne 15 = .ok (.invokevirtual 93, 3) := by decide +kernel
theorem dX5_readOne_18 : decode cX5_readOne 18 = .ok (.ifCond .eq 19, 3) := by decide +kernel
theorem dX5_readOne_21 : decode cX5_readOne 21 = .ok (.iload_n 2, 1) := by decide +kernel
theorem dX5_readOne_22 : decode cX5_readOne 22 = .ok (.ifCond .ne 7, 3) := by decide +kernel
theorem dX5_readOne_25 : decode cX5_readOne 25 = .ok (.iconst 1, 1) := by decide +kernel
theorem dX5_readOne_26 : decode cX5_readOne 26 = .ok (.goto 4, 3) := by decide +kernel
theorem dX5_readOne_29 : decode cX5_readOne 29 = .ok (.iconst 0, 1) := by decide +kernel
theorem dX5_readOne_30 : decode cX5_readOne 30 = .ok (.istore_n 2, 1) := by decide +kernel
theorem dX5_readOne_31 : decode cX5_readOne 31 = .ok (.iinc 3 1, 3) := by decide +kernel
theorem dX5_readOne_34 : decode cX5_readOne 34 = .ok (.goto (-30), 3) := by decide +kernel
theorem dX5_readOne_37 : decode cX5_readOne 37 = .ok (.aload_n 0, 1) := by decide +kernel
theorem dX5_readOne_38 : decode cX5_readOne 38 = .ok (.invokevirtual 56, 3) := by decide +kernel
theorem dX5_readOne_41 : decode cX5_readOne 41 = .ok (.sipush 1008, 3) := by decide +kernel
theorem dX5_readOne_44 : decode cX5_readOne 44 = .ok (.isub, 1) := by decide +kernel
theorem dX5_readOne_45 : decode cX5_readOne 45 = .ok (.istore_n 3, 1) := by decide +kernel
theorem dX5_readOne_46 : decode cX5_readOne 46 = .ok (.iload_n 3, 1) := by decide +kernel
theorem dX5_readOne_47 : decode cX5_readOne 47 = .ok (.ifCond .lt 30, 3) := by decide +kernel
theorem dX5_readOne_50 : decode cX5_readOne 50 = .ok (.iload_n 3, 1) := by decide +kernel
theorem dX5_readOne_51 : decode cX5_readOne 51 = .ok (.iconst 5, 1) := by decide +kernel
theorem dX5_readOne_52 : decode cX5_readOne 52 = .ok (.if_icmp .gt 25, 3) := by decide +kernel
theorem dX5_readOne_55 : decode cX5_readOne 55 = .ok (.aload_n 0, 1) := by decide +kernel
theorem dX5_readOne_56 : decode cX5_readOne 56 = .ok (.dup, 1) := by decide +kernel
theorem dX5_readOne_57 : decode cX5_readOne 57 = .ok (.getfield 50, 3) := by decide +kernel
theorem dX5_readOne_60 : decode cX5_readOne 60 = .ok (.iconst 1, 1) := by decide +kernel
theorem dX5_readOne_61 : decode cX5_readOne 61 = .ok (.iadd, 1) := by decide +kernel
theorem dX5_readOne_62 : decode cX5_readOne 62 = .ok (.putfield 50, 3) := by decide +kernel
theorem dX5_readOne_65 : decode cX5_readOne 65 = .ok (.aload_n 0, 1) := by decide +kernel
theorem dX5_readOne_66 : decode cX5_readOne 66 = .ok (.sipush 1000, 3) := by decide +kernel
theorem dX5_readOne_69 : decode cX5_readOne 69 = .ok (.iload_n 3, 1) := by decide +kernel
theorem dX5_readOne_70 : decode cX5_readOne 70 = .ok (.iadd, 1) := by decide +kernel
theorem dX5_readOne_71 : decode cX5_readOne 71 = .ok (.invokevirtual 107, 3) := by decide +kernel
theorem dX5_readOne_74 : decode cX5_readOne 74 = .ok (.goto 102, 3) := by decide +kernel
theorem dX5_readOne_77 : decode cX5_readOne 77 = .ok (.aload_n 0, 1) := by decide +kernel
theorem dX5_readOne_78 : decode cX5_readOne 78 = .ok (.invokevirtual 56, 3) := by decide +kernel
theorem dX5_readOne_81 : decode cX5_readOne 81 = .ok (.sipush 2040, 3) := by decide +kernel
theorem dX5_readOne_84 : decode cX5_readOne 84 = .ok (.if_icmp .ne 42, 3) := by decide +kernel
theorem dX5_readOne_87 : decode cX5_readOne 87 = .ok (.iload_n 1, 1) := by decide +kernel
theorem dX5_readOne_88 : decode cX5_readOne 88 = .ok (.iconst 4, 1) := by decide +kernel
theorem dX5_readOne_89 : decode cX5_readOne 89 = .ok (.if_icmp .lt 5, 3) := by decide +kernel
theorem dX5_readOne_92 : decode cX5_readOne 92 = .ok (.iconst 0, 1) := by decide +kernel
theorem dX5_readOne_93 : decode cX5_readOne 93 = .ok (.ireturn, 1) := by decide +kernel
theorem dX5_readOne_94 : decode cX5_readOne 94 = .ok (.aload_n 0, 1) := by decide +kernel
theorem dX5_readOne_95 : decode cX5_readOne 95 = .ok (.dup, 1) := by decide +kernel
theorem dX5_readOne_96 : decode cX5_readOne 96 = .ok (.getfield 50, 3) := by decide +kernel
theorem dX5_readOne_99 : decode cX5_readOne 99 = .ok (.iconst 1, 1) := by decide +kernel
theorem dX5_readOne_100 : decode cX5_readOne 100 = .ok (.iadd, 1) := by decide +kernel
theorem dX5_readOne_101 : decode cX5_readOne 101 = .ok (.putfield 50, 3) := by decide +kernel
theorem dX5_readOne_104 : decode cX5_readOne 104 = .ok (.aload_n 0, 1) := by decide +kernel
theorem dX5_readOne_105 : decode cX5_readOne 105 = .ok (.iload_n 1, 1) := by decide +kernel
theorem dX5_readOne_106 : decode cX5_readOne 106 = .ok (.iconst 1, 1) := by decide +kernel
theorem dX5_readOne_107 : decode cX5_readOne 107 = .ok (.iadd, 1) := by decide +kernel
theorem dX5_readOne_108 : decode cX5_readOne 108 = .ok (.invokevirtual 101, 3) := by decide +kernel
theorem dX5_readOne_111 : decode cX5_readOne 111 = .ok (.ifCond .eq 13, 3) := by decide +kernel
theorem dX5_readOne_114 : decode cX5_readOne 114 = .ok (.aload_n 0, 1) := by decide +kernel
theorem dX5_readOne_115 : decode cX5_readOne 115 = .ok (.sipush 2041, 3) := by decide +kernel
theorem dX5_readOne_118 : decode cX5_readOne 118 = .ok (.invokevirtual 93, 3) := by decide +kernel
theorem dX5_readOne_121 : decode cX5_readOne 121 = .ok (.ifCond .ne 55, 3) := by decide +kernel
theorem dX5_readOne_124 : decode cX5_readOne 124 = .ok (.iconst 0, 1) := by decide +kernel
theorem dX5_readOne_125 : decode cX5_readOne 125 = .ok (.ireturn, 1) := by decide +kernel
theorem dX5_readOne_126 : decode cX5_readOne 126 = .ok (.aload_n 0, 1) := by decide +kernel
theorem dX5_readOne_127 : decode cX5_readOne 127 = .ok (.invokevirtual 111, 3) := by decide +kernel
theorem dX5_readOne_130 : decode cX5_readOne 130 = .ok (.ifCond .ne 5, 3) := by decide +kernel
theorem dX5_readOne_133 : decode cX5_readOne 133 = .ok (.iconst 0, 1) := by decide +kernel
theorem dX5_readOne_134 : decode cX5_readOne 134 = .ok (.ireturn, 1) := by decide +kernel
theorem dX5_readOne_135 : decode cX5_readOne 135 = .ok (.aload_n 0, 1) := by decide +kernel
theorem dX5_readOne_136 : decode cX5_readOne 136 = .ok (.invokevirtual 56, 3) := by decide +kernel
theorem dX5_readOne_139 : decode cX5_readOne 139 = .ok (.invokestatic 114, 3) := by decide +kernel
theorem dX5_readOne_142 : decode cX5_readOne 142 = .ok (.istore 4, 2) := by decide +kernel
theorem dX5_readOne_144 : decode cX5_readOne 144 = .ok (.iload 4, 2) := by decide +kernel
theorem dX5_readOne_146 : decode cX5_readOne 146 = .ok (.ifCond .ge 5, 3) := by decide +kernel
theorem dX5_readOne_149 : decode cX5_readOne 149 = .ok (.iconst 0, 1) := by decide +kernel
theorem dX5_readOne_150 : decode cX5_readOne 150 = .ok (.ireturn, 1) := by decide +kernel
theorem dX5_readOne_151 : decode cX5_readOne 151 = .ok (.aload_n 0, 1) := by decide +kernel
theorem dX5_readOne_152 : decode cX5_readOne 152 = .ok (.dup, 1) := by decide +kernel
theorem dX5_readOne_153 : decode cX5_readOne 153 = .ok (.getfield 50, 3) := by decide +kernel
theorem dX5_readOne_156 : decode cX5_readOne 156 = .ok (.iconst 1, 1) := by decide +kernel
theorem dX5_readOne_157 : decode cX5_readOne 157 = .ok (.iadd, 1) := by decide +kernel
theorem dX5_readOne_158 : decode cX5_readOne 158 = .ok (.putfield 50, 3) := by decide +kernel
theorem dX5_readOne_161 : decode cX5_readOne 161 = .ok (.aload_n 0, 1) := by decide +kernel
theorem dX5_readOne_162 : decode cX5_readOne 162 = .ok (.invokevirtual 111, 3) := by decide +kernel
theorem dX5_readOne_165 : decode cX5_readOne 165 = .ok (.ifCond .ne 5, 3) := by decide +kernel
theorem dX5_readOne_168 : decode cX5_readOne 168 = .ok (.iconst 0, 1) := by decide +kernel
theorem dX5_readOne_169 : decode cX5_readOne 169 = .ok (.ireturn, 1) := by decide +kernel
theorem dX5_readOne_170 : decode cX5_readOne 170 = .ok (.aload_n 0, 1) := by decide +kernel
theorem dX5_readOne_171 : decode cX5_readOne 171 = .ok (.iload 4, 2) := by decide +kernel
theorem dX5_readOne_173 : decode cX5_readOne 173 = .ok (.invokevirtual 107, 3) := by decide +kernel
theorem dX5_readOne_176 : decode cX5_readOne 176 = .ok (.iload_n 2, 1) := by decide +kernel
theorem dX5_readOne_177 : decode cX5_readOne 177 = .ok (.ifCond .eq 10, 3) := by decide +kernel
theorem dX5_readOne_180 : decode cX5_readOne 180 = .ok (.aload_n 0, 1) := by decide +kernel
theorem dX5_readOne_181 : decode cX5_readOne 181 = .ok (.sipush 2004, 3) := by decide +kernel
theorem dX5_readOne_184 : decode cX5_readOne 184 = .ok (.invokevirtual 107, 3) := by decide +kernel
theorem dX5_readOne_187 : decode cX5_readOne 187 = .ok (.iconst 1, 1) := by decide +kernel
theorem dX5_readOne_188 : decode cX5_readOne 188 = .ok (.ireturn, 1) := by decide +kernel
theorem dX5_readSum_0 : decode cX5_readSum 0 = .ok (.iconst 0, 1) := by decide +kernel
theorem dX5_readSum_1 : decode cX5_readSum 1 = .ok (.istore_n 1, 1) := by decide +kernel
theorem dX5_readSum_2 : decode cX5_readSum 2 = .ok (.iload_n 1, 1) := by decide +kernel
theorem dX5_readSum_3 : decode cX5_readSum 3 = .ok (.sipush 250, 3) := by decide +kernel
theorem dX5_readSum_6 : decode cX5_readSum 6 = .ok (.if_icmp .ge 61, 3) := by decide +kernel
theorem dX5_readSum_9 : decode cX5_readSum 9 = .ok (.aload_n 0, 1) := by decide +kernel
theorem dX5_readSum_10 : decode cX5_readSum 10 = .ok (.invokevirtual 56, 3) := by decide +kernel
theorem dX5_readSum_13 : decode cX5_readSum 13 = .ok (.invokestatic 117, 3) := by decide +kernel
theorem dX5_readSum_16 : decode cX5_readSum 16 = .ok (.istore_n 2, 1) := by decide +kernel
theorem dX5_readSum_17 : decode cX5_readSum 17 = .ok (.iload_n 2, 1) := by decide +kernel
theorem dX5_readSum_18 : decode cX5_readSum 18 = .ok (.ifCond .ge 5, 3) := by decide +kernel
theorem dX5_readSum_21 : decode cX5_readSum 21 = .ok (.iconst 0, 1) := by decide +kernel
theorem dX5_readSum_22 : decode cX5_readSum 22 = .ok (.ireturn, 1) := by decide +kernel
theorem dX5_readSum_23 : decode cX5_readSum 23 = .ok (.aload_n 0, 1) := by decide +kernel
theorem dX5_readSum_24 : decode cX5_readSum 24 = .ok (.dup, 1) := by decide +kernel
theorem dX5_readSum_25 : decode cX5_readSum 25 = .ok (.getfield 50, 3) := by decide +kernel
theorem dX5_readSum_28 : decode cX5_readSum 28 = .ok (.iconst 1, 1) := by decide +kernel
theorem dX5_readSum_29 : decode cX5_readSum 29 = .ok (.iadd, 1) := by decide +kernel
theorem dX5_readSum_30 : decode cX5_readSum 30 = .ok (.putfield 50, 3) := by decide +kernel
theorem dX5_readSum_33 : decode cX5_readSum 33 = .ok (.aload_n 0, 1) := by decide +kernel
theorem dX5_readSum_34 : decode cX5_readSum 34 = .ok (.iload_n 2, 1) := by decide +kernel
theorem dX5_readSum_35 : decode cX5_readSum 35 = .ok (.invokevirtual 107, 3) := by decide +kernel
theorem dX5_readSum_38 : decode cX5_readSum 38 = .ok (.iload_n 1, 1) := by decide +kernel
theorem dX5_readSum_39 : decode cX5_readSum 39 = .ok (.ifCond .le 10, 3) := by decide +kernel
theorem dX5_readSum_42 : decode cX5_readSum 42 = .ok (.aload_n 0, 1) := by decide +kernel
theorem dX5_readSum_43 : decode cX5_readSum 43 = .ok (.sipush 2000, 3) := by decide +kernel
theorem dX5_readSum_46 : decode cX5_readSum 46 = .ok (.invokevirtual 107, 3) := by decide +kernel
theorem dX5_readSum_49 : decode cX5_readSum 49 = .ok (.aload_n 0, 1) := by decide +kernel
theorem dX5_readSum_50 : decode cX5_readSum 50 = .ok (.sipush 2043, 3) := by decide +kernel
theorem dX5_readSum_53 : decode cX5_readSum 53 = .ok (.invokevirtual 93, 3) := by decide +kernel
theorem dX5_readSum_56 : decode cX5_readSum 56 = .ok (.ifCond .ne 5, 3) := by decide +kernel
theorem dX5_readSum_59 : decode cX5_readSum 59 = .ok (.iconst 1, 1) := by decide +kernel
theorem dX5_readSum_60 : decode cX5_readSum 60 = .ok (.ireturn, 1) := by decide +kernel
theorem dX5_readSum_61 : decode cX5_readSum 61 = .ok (.iinc 1 1, 3) := by decide +kernel
theorem dX5_readSum_64 : decode cX5_readSum 64 = .ok (.goto (-62), 3) := by decide +kernel
theorem dX5_readSum_67 : decode cX5_readSum 67 = .ok (.iconst 0, 1) := by decide +kernel
theorem dX5_readSum_68 : decode cX5_readSum 68 = .ok (.ireturn, 1) := by decide +kernel
theorem dX5_comparisonOf_0 : decode cX5_comparisonOf 0 = .ok (.iload_n 0, 1) := by decide +kernel
theorem dX5_comparisonOf_1 : decode cX5_comparisonOf 1 = .ok (.tableswitch 39 2060 2062 #[27, 31, 35], 27) := by decide +kernel
theorem dX5_comparisonOf_28 : decode cX5_comparisonOf 28 = .ok (.sipush 2001, 3) := by decide +kernel
theorem dX5_comparisonOf_31 : decode cX5_comparisonOf 31 = .ok (.ireturn, 1) := by decide +kernel
theorem dX5_comparisonOf_32 : decode cX5_comparisonOf 32 = .ok (.sipush 2002, 3) := by decide +kernel
theorem dX5_comparisonOf_35 : decode cX5_comparisonOf 35 = .ok (.ireturn, 1) := by decide +kernel
theorem dX5_comparisonOf_36 : decode cX5_comparisonOf 36 = .ok (.sipush 2003, 3) := by decide +kernel
theorem dX5_comparisonOf_39 : decode cX5_comparisonOf 39 = .ok (.ireturn, 1) := by decide +kernel
theorem dX5_comparisonOf_40 : decode cX5_comparisonOf 40 = .ok (.iconst (-1), 1) := by decide +kernel
theorem dX5_comparisonOf_41 : decode cX5_comparisonOf 41 = .ok (.ireturn, 1) := by decide +kernel
theorem dX5_valueOf_0 : decode cX5_valueOf 0 = .ok (.iload_n 0, 1) := by decide +kernel
theorem dX5_valueOf_1 : decode cX5_valueOf 1 = .ok (.lookupswitch 47 #[(1001, 35), (1014, 39), (1015, 43)], 35) := by decide +kernel
theorem dX5_valueOf_36 : decode cX5_valueOf 36 = .ok (.sipush 1008, 3) := by decide +kernel
theorem dX5_valueOf_39 : decode cX5_valueOf 39 = .ok (.ireturn, 1) := by decide +kernel
theorem dX5_valueOf_40 : decode cX5_valueOf 40 = .ok (.sipush 1006, 3) := by decide +kernel
theorem dX5_valueOf_43 : decode cX5_valueOf 43 = .ok (.ireturn, 1) := by decide +kernel
theorem dX5_valueOf_44 : decode cX5_valueOf 44 = .ok (.sipush 1007, 3) := by decide +kernel
theorem dX5_valueOf_47 : decode cX5_valueOf 47 = .ok (.ireturn, 1) := by decide +kernel
theorem dX5_valueOf_48 : decode cX5_valueOf 48 = .ok (.iload_n 0, 1) := by decide +kernel
theorem dX5_valueOf_49 : decode cX5_valueOf 49 = .ok (.sipush 999, 3) := by decide +kernel
theorem dX5_valueOf_52 : decode cX5_valueOf 52 = .ok (.if_icmp .gt 7, 3) := by decide +kernel
theorem dX5_valueOf_55 : decode cX5_valueOf 55 = .ok (.iload_n 0, 1) := by decide +kernel
theorem dX5_valueOf_56 : decode cX5_valueOf 56 = .ok (.goto 4, 3) := by decide +kernel
theorem dX5_valueOf_59 : decode cX5_valueOf 59 = .ok (.iconst (-1), 1) := by decide +kernel
theorem dX5_valueOf_60 : decode cX5_valueOf 60 = .ok (.ireturn, 1) := by decide +kernel
theorem dX6_init_0 : decode cX6_init 0 = .ok (.aload_n 0, 1) := by decide +kernel
theorem dX6_init_1 : decode cX6_init 1 = .ok (.invokespecial 1, 3) := by decide +kernel
theorem dX6_init_4 : decode cX6_init 4 = .ok (.aload_n 0, 1) := by decide +kernel
theorem dX6_init_5 : decode cX6_init 5 = .ok (.iload_n 1, 1) := by decide +kernel
theorem dX6_init_6 : decode cX6_init 6 = .ok (.putfield 7, 3) := by decide +kernel
theorem dX6_init_9 : decode cX6_init 9 = .ok (.aload_n 0, 1) := by decide +kernel
theorem dX6_init_10 : decode cX6_init 10 = .ok (.iload_n 2, 1) := by decide +kernel
theorem dX6_init_11 : decode cX6_init 11 = .ok (.putfield 13, 3) := by decide +kernel
theorem dX6_init_14 : decode cX6_init 14 = .ok (.return_, 1) := by decide +kernel
theorem dX6_weighs_0 : decode cX6_weighs 0 = .ok (.aload_n 2, 1) := by decide +kernel
theorem dX6_weighs_1 : decode cX6_weighs 1 = .ok (.bipush 10, 2) := by decide +kernel
theorem dX6_weighs_3 : decode cX6_weighs 3 = .ok (.invokevirtual 16, 3) := by decide +kernel
theorem dX6_weighs_6 : decode cX6_weighs 6 = .ok (.iload_n 1, 1) := by decide +kernel
theorem dX6_weighs_7 : decode cX6_weighs 7 = .ok (.iconst 2, 1) := by decide +kernel
theorem dX6_weighs_8 : decode cX6_weighs 8 = .ok (.imul, 1) := by decide +kernel
theorem dX6_weighs_9 : decode cX6_weighs 9 = .ok (.aload_n 0, 1) := by decide +kernel
theorem dX6_weighs_10 : decode cX6_weighs 10 = .ok (.getfield 7, 3) := by decide +kernel
theorem dX6_weighs_13 : decode cX6_weighs 13 = .ok (.iadd, 1) := by decide +kernel
theorem dX6_weighs_14 : decode cX6_weighs 14 = .ok (.ireturn, 1) := by decide +kernel
theorem dX6_bars_0 : decode cX6_bars 0 = .ok (.aload_n 2, 1) := by decide +kernel
theorem dX6_bars_1 : decode cX6_bars 1 = .ok (.bipush 11, 2) := by decide +kernel
theorem dX6_bars_3 : decode cX6_bars 3 = .ok (.invokevirtual 16, 3) := by decide +kernel
theorem dX6_bars_6 : decode cX6_bars 6 = .ok (.aload_n 0, 1) := by decide +kernel
theorem dX6_bars_7 : decode cX6_bars 7 = .ok (.iload_n 1, 1) := by decide +kernel
theorem dX6_bars_8 : decode cX6_bars 8 = .ok (.aload_n 2, 1) := by decide +kernel
theorem dX6_bars_9 : decode cX6_bars 9 = .ok (.invokevirtual 22, 3) := by decide +kernel
theorem dX6_bars_12 : decode cX6_bars 12 = .ok (.aload_n 0, 1) := by decide +kernel
theorem dX6_bars_13 : decode cX6_bars 13 = .ok (.getfield 13, 3) := by decide +kernel
theorem dX6_bars_16 : decode cX6_bars 16 = .ok (.isub, 1) := by decide +kernel
theorem dX6_bars_17 : decode cX6_bars 17 = .ok (.ireturn, 1) := by decide +kernel
theorem dX6_parts_0 : decode cX6_parts 0 = .ok (.aload_n 2, 1) := by decide +kernel
theorem dX6_parts_1 : decode cX6_parts 1 = .ok (.bipush 12, 2) := by decide +kernel
theorem dX6_parts_3 : decode cX6_parts 3 = .ok (.invokevirtual 16, 3) := by decide +kernel
theorem dX6_parts_6 : decode cX6_parts 6 = .ok (.aload_n 0, 1) := by decide +kernel
theorem dX6_parts_7 : decode cX6_parts 7 = .ok (.getfield 13, 3) := by decide +kernel
theorem dX6_parts_10 : decode cX6_parts 10 = .ok (.aload_n 0, 1) := by decide +kernel
theorem dX6_parts_11 : decode cX6_parts 11 = .ok (.getfield 7, 3) := by decide +kernel
theorem dX6_parts_14 : decode cX6_parts 14 = .ok (.isub, 1) := by decide +kernel
theorem dX6_parts_15 : decode cX6_parts 15 = .ok (.istore_n 3, 1) := by decide +kernel
theorem dX6_parts_16 : decode cX6_parts 16 = .ok (.iload_n 3, 1) := by decide +kernel
theorem dX6_parts_17 : decode cX6_parts 17 = .ok (.ifCond .ne 10, 3) := by decide +kernel
theorem dX6_parts_20 : decode cX6_parts 20 = .ok (.aload_n 2, 1) := by decide +kernel
theorem dX6_parts_21 : decode cX6_parts 21 = .ok (.iconst 1, 1) := by decide +kernel
theorem dX6_parts_22 : decode cX6_parts 22 = .ok (.putfield 26, 3) := by decide +kernel
theorem dX6_parts_25 : decode cX6_parts 25 = .ok (.iconst 0, 1) := by decide +kernel
theorem dX6_parts_26 : decode cX6_parts 26 = .ok (.ireturn, 1) := by decide +kernel
theorem dX6_parts_27 : decode cX6_parts 27 = .ok (.iload_n 1, 1) := by decide +kernel
theorem dX6_parts_28 : decode cX6_parts 28 = .ok (.iload_n 3, 1) := by decide +kernel
theorem dX6_parts_29 : decode cX6_parts 29 = .ok (.idiv, 1) := by decide +kernel
theorem dX6_parts_30 : decode cX6_parts 30 = .ok (.ireturn, 1) := by decide +kernel
theorem dX6_tells_0 : decode cX6_tells 0 = .ok (.aload_n 2, 1) := by decide +kernel
theorem dX6_tells_1 : decode cX6_tells 1 = .ok (.bipush 13, 2) := by decide +kernel
theorem dX6_tells_3 : decode cX6_tells 3 = .ok (.invokevirtual 16, 3) := by decide +kernel
theorem dX6_tells_6 : decode cX6_tells 6 = .ok (.aload_n 0, 1) := by decide +kernel
theorem dX6_tells_7 : decode cX6_tells 7 = .ok (.iload_n 1, 1) := by decide +kernel
theorem dX6_tells_8 : decode cX6_tells 8 = .ok (.aload_n 2, 1) := by decide +kernel
theorem dX6_tells_9 : decode cX6_tells 9 = .ok (.invokevirtual 30, 3) := by decide +kernel
theorem dX6_tells_12 : decode cX6_tells 12 = .ok (.aload_n 0, 1) := by decide +kernel
theorem dX6_tells_13 : decode cX6_tells 13 = .ok (.getfield 13, 3) := by decide +kernel
theorem dX6_tells_16 : decode cX6_tells 16 = .ok (.ixor, 1) := by decide +kernel
theorem dX6_tells_17 : decode cX6_tells 17 = .ok (.ireturn, 1) := by decide +kernel
theorem dX7_init_0 : decode cX7_init 0 = .ok (.aload_n 0, 1) := by decide +kernel
theorem dX7_init_1 : decode cX7_init 1 = .ok (.invokespecial 3, 3) := by decide +kernel
theorem dX7_init_4 : decode cX7_init 4 = .ok (.aload_n 0, 1) := by decide +kernel
theorem dX7_init_5 : decode cX7_init 5 = .ok (.bipush 48, 2) := by decide +kernel
theorem dX7_init_7 : decode cX7_init 7 = .ok (.newarray .int, 2) := by decide +kernel
theorem dX7_init_9 : decode cX7_init 9 = .ok (.putfield 11, 3) := by decide +kernel
theorem dX7_init_12 : decode cX7_init 12 = .ok (.aload_n 0, 1) := by decide +kernel
theorem dX7_init_13 : decode cX7_init 13 = .ok (.iconst 0, 1) := by decide +kernel
theorem dX7_init_14 : decode cX7_init 14 = .ok (.putfield 15, 3) := by decide +kernel
theorem dX7_init_17 : decode cX7_init 17 = .ok (.return_, 1) := by decide +kernel
theorem dX7_isCell_0 : decode cX7_isCell 0 = .ok (.iload_n 1, 1) := by decide +kernel
theorem dX7_isCell_1 : decode cX7_isCell 1 = .ok (.ifCond .lt 24, 3) := by decide +kernel
theorem dX7_isCell_4 : decode cX7_isCell 4 = .ok (.iload_n 1, 1) := by decide +kernel
theorem dX7_isCell_5 : decode cX7_isCell 5 = .ok (.aload_n 0, 1) := by decide +kernel
theorem dX7_isCell_6 : decode cX7_isCell 6 = .ok (.getfield 15, 3) := by decide +kernel
theorem dX7_isCell_9 : decode cX7_isCell 9 = .ok (.if_icmp .ge 16, 3) := by decide +kernel
theorem dX7_isCell_12 : decode cX7_isCell 12 = .ok (.iload_n 2, 1) := by decide +kernel
theorem dX7_isCell_13 : decode cX7_isCell 13 = .ok (.ifCond .lt 12, 3) := by decide +kernel
theorem dX7_isCell_16 : decode cX7_isCell 16 = .ok (.iload_n 2, 1) := by decide +kernel
theorem dX7_isCell_17 : decode cX7_isCell 17 = .ok (.iconst 3, 1) := by decide +kernel
theorem dX7_isCell_18 : decode cX7_isCell 18 = .ok (.if_icmp .ge 7, 3) := by decide +kernel
theorem dX7_isCell_21 : decode cX7_isCell 21 = .ok (.iconst 1, 1) := by decide +kernel
theorem dX7_isCell_22 : decode cX7_isCell 22 = .ok (.goto 4, 3) := by decide +kernel
theorem dX7_isCell_25 : decode cX7_isCell 25 = .ok (.iconst 0, 1) := by decide +kernel
theorem dX7_isCell_26 : decode cX7_isCell 26 = .ok (.ireturn, 1) := by decide +kernel
theorem dX7_get_0 : decode cX7_get 0 = .ok (.aload_n 0, 1) := by decide +kernel
theorem dX7_get_1 : decode cX7_get 1 = .ok (.getfield 11, 3) := by decide +kernel
theorem dX7_get_4 : decode cX7_get 4 = .ok (.iload_n 1, 1) := by decide +kernel
theorem dX7_get_5 : decode cX7_get 5 = .ok (.iconst 3, 1) := by decide +kernel
theorem dX7_get_6 : decode cX7_get 6 = .ok (.imul, 1) := by decide +kernel
theorem dX7_get_7 : decode cX7_get 7 = .ok (.iload_n 2, 1) := by decide +kernel
theorem dX7_get_8 : decode cX7_get 8 = .ok (.iadd, 1) := by decide +kernel
theorem dX7_get_9 : decode cX7_get 9 = .ok (.iaload, 1) := by decide +kernel
theorem dX7_get_10 : decode cX7_get 10 = .ok (.ireturn, 1) := by decide +kernel
theorem dX7_set_0 : decode cX7_set 0 = .ok (.aload_n 0, 1) := by decide +kernel
theorem dX7_set_1 : decode cX7_set 1 = .ok (.getfield 11, 3) := by decide +kernel
theorem dX7_set_4 : decode cX7_set 4 = .ok (.iload_n 1, 1) := by decide +kernel
theorem dX7_set_5 : decode cX7_set 5 = .ok (.iconst 3, 1) := by decide +kernel
theorem dX7_set_6 : decode cX7_set 6 = .ok (.imul, 1) := by decide +kernel
theorem dX7_set_7 : decode cX7_set 7 = .ok (.iload_n 2, 1) := by decide +kernel
theorem dX7_set_8 : decode cX7_set 8 = .ok (.iadd, 1) := by decide +kernel
theorem dX7_set_9 : decode cX7_set 9 = .ok (.iload_n 3, 1) := by decide +kernel
theorem dX7_set_10 : decode cX7_set 10 = .ok (.iastore, 1) := by decide +kernel
theorem dX7_set_11 : decode cX7_set 11 = .ok (.return_, 1) := by decide +kernel
theorem dX7_add_0 : decode cX7_add 0 = .ok (.aload_n 0, 1) := by decide +kernel
theorem dX7_add_1 : decode cX7_add 1 = .ok (.getfield 15, 3) := by decide +kernel
theorem dX7_add_4 : decode cX7_add 4 = .ok (.bipush 16, 2) := by decide +kernel
theorem dX7_add_6 : decode cX7_add 6 = .ok (.if_icmp .lt 4, 3) := by decide +kernel
theorem dX7_add_9 : decode cX7_add 9 = .ok (.return_, 1) := by decide +kernel
theorem dX7_add_10 : decode cX7_add 10 = .ok (.aload_n 0, 1) := by decide +kernel
theorem dX7_add_11 : decode cX7_add 11 = .ok (.aload_n 0, 1) := by decide +kernel
theorem dX7_add_12 : decode cX7_add 12 = .ok (.getfield 15, 3) := by decide +kernel
theorem dX7_add_15 : decode cX7_add 15 = .ok (.iconst 0, 1) := by decide +kernel
theorem dX7_add_16 : decode cX7_add 16 = .ok (.iload_n 1, 1) := by decide +kernel
theorem dX7_add_17 : decode cX7_add 17 = .ok (.invokevirtual 19, 3) := by decide +kernel
theorem dX7_add_20 : decode cX7_add 20 = .ok (.aload_n 0, 1) := by decide +kernel
theorem dX7_add_21 : decode cX7_add 21 = .ok (.aload_n 0, 1) := by decide +kernel
theorem dX7_add_22 : decode cX7_add 22 = .ok (.getfield 15, 3) := by decide +kernel
theorem dX7_add_25 : decode cX7_add 25 = .ok (.iconst 1, 1) := by decide +kernel
theorem dX7_add_26 : decode cX7_add 26 = .ok (.iload_n 2, 1) := by decide +kernel
theorem dX7_add_27 : decode cX7_add 27 = .ok (.invokevirtual 19, 3) := by decide +kernel
theorem dX7_add_30 : decode cX7_add 30 = .ok (.aload_n 0, 1) := by decide +kernel
theorem dX7_add_31 : decode cX7_add 31 = .ok (.aload_n 0, 1) := by decide +kernel
theorem dX7_add_32 : decode cX7_add 32 = .ok (.getfield 15, 3) := by decide +kernel
theorem dX7_add_35 : decode cX7_add 35 = .ok (.iconst 2, 1) := by decide +kernel
theorem dX7_add_36 : decode cX7_add 36 = .ok (.iload_n 3, 1) := by decide +kernel
theorem dX7_add_37 : decode cX7_add 37 = .ok (.invokevirtual 19, 3) := by decide +kernel
theorem dX7_add_40 : decode cX7_add 40 = .ok (.aload_n 0, 1) := by decide +kernel
theorem dX7_add_41 : decode cX7_add 41 = .ok (.dup, 1) := by decide +kernel
theorem dX7_add_42 : decode cX7_add 42 = .ok (.getfield 15, 3) := by decide +kernel
theorem dX7_add_45 : decode cX7_add 45 = .ok (.iconst 1, 1) := by decide +kernel
theorem dX7_add_46 : decode cX7_add 46 = .ok (.iadd, 1) := by decide +kernel
theorem dX7_add_47 : decode cX7_add 47 = .ok (.putfield 15, 3) := by decide +kernel
theorem dX7_add_50 : decode cX7_add 50 = .ok (.return_, 1) := by decide +kernel
theorem dX7_latestEnd_0 : decode cX7_latestEnd 0 = .ok (.iconst 0, 1) := by decide +kernel
theorem dX7_latestEnd_1 : decode cX7_latestEnd 1 = .ok (.istore_n 2, 1) := by decide +kernel
theorem dX7_latestEnd_2 : decode cX7_latestEnd 2 = .ok (.iconst 0, 1) := by decide +kernel
theorem dX7_latestEnd_3 : decode cX7_latestEnd 3 = .ok (.istore_n 3, 1) := by decide +kernel
theorem dX7_latestEnd_4 : decode cX7_latestEnd 4 = .ok (.iload_n 3, 1) := by decide +kernel
theorem dX7_latestEnd_5 : decode cX7_latestEnd 5 = .ok (.iload_n 1, 1) := by decide +kernel
theorem dX7_latestEnd_6 : decode cX7_latestEnd 6 = .ok (.if_icmp .ge 20, 3) := by decide +kernel
theorem dX7_latestEnd_9 : decode cX7_latestEnd 9 = .ok (.iload_n 2, 1) := by decide +kernel
theorem dX7_latestEnd_10 : decode cX7_latestEnd 10 = .ok (.aload_n 0, 1) := by decide +kernel
theorem dX7_latestEnd_11 : decode cX7_latestEnd 11 = .ok (.iload_n 3, 1) := by decide +kernel
theorem dX7_latestEnd_12 : decode cX7_latestEnd 12 = .ok (.iconst 2, 1) := by decide +kernel
theorem dX7_latestEnd_13 : decode cX7_latestEnd 13 = .ok (.invokevirtual 23, 3) := by decide +kernel
theorem dX7_latestEnd_16 : decode cX7_latestEnd 16 = .ok (.invokestatic 27, 3) := by decide +kernel
theorem dX7_latestEnd_19 : decode cX7_latestEnd 19 = .ok (.istore_n 2, 1) := by decide +kernel
theorem dX7_latestEnd_20 : decode cX7_latestEnd 20 = .ok (.iinc 3 1, 3) := by decide +kernel
theorem dX7_latestEnd_23 : decode cX7_latestEnd 23 = .ok (.goto (-19), 3) := by decide +kernel
theorem dX7_latestEnd_26 : decode cX7_latestEnd 26 = .ok (.iload_n 2, 1) := by decide +kernel
theorem dX7_latestEnd_27 : decode cX7_latestEnd 27 = .ok (.ireturn, 1) := by decide +kernel
theorem dX8_init_0 : decode cX8_init 0 = .ok (.aload_n 0, 1) := by decide +kernel
theorem dX8_init_1 : decode cX8_init 1 = .ok (.iload_n 1, 1) := by decide +kernel
theorem dX8_init_2 : decode cX8_init 2 = .ok (.iload_n 2, 1) := by decide +kernel
theorem dX8_init_3 : decode cX8_init 3 = .ok (.invokespecial 1, 3) := by decide +kernel
theorem dX8_init_6 : decode cX8_init 6 = .ok (.aload_n 0, 1) := by decide +kernel
theorem dX8_init_7 : decode cX8_init 7 = .ok (.aload_n 3, 1) := by decide +kernel
theorem dX8_init_8 : decode cX8_init 8 = .ok (.putfield 7, 3) := by decide +kernel
theorem dX8_init_11 : decode cX8_init 11 = .ok (.aload_n 0, 1) := by decide +kernel
theorem dX8_init_12 : decode cX8_init 12 = .ok (.iload 4, 2) := by decide +kernel
theorem dX8_init_14 : decode cX8_init 14 = .ok (.putfield 13, 3) := by decide +kernel
theorem dX8_init_17 : decode cX8_init 17 = .ok (.aload_n 0, 1) := by decide +kernel
theorem dX8_init_18 : decode cX8_init 18 = .ok (.iload 5, 2) := by decide +kernel
theorem dX8_init_20 : decode cX8_init 20 = .ok (.putfield 17, 3) := by decide +kernel
theorem dX8_init_23 : decode cX8_init 23 = .ok (.aload_n 0, 1) := by decide +kernel
theorem dX8_init_24 : decode cX8_init 24 = .ok (.iload 6, 2) := by decide +kernel
theorem dX8_init_26 : decode cX8_init 26 = .ok (.putfield 20, 3) := by decide +kernel
theorem dX8_init_29 : decode cX8_init 29 = .ok (.return_, 1) := by decide +kernel
theorem dX8_isDrawn_0 : decode cX8_isDrawn 0 = .ok (.iconst 0, 1) := by decide +kernel
theorem dX8_isDrawn_1 : decode cX8_isDrawn 1 = .ok (.ireturn, 1) := by decide +kernel
theorem dX8_bars_0 : decode cX8_bars 0 = .ok (.aload_n 2, 1) := by decide +kernel
theorem dX8_bars_1 : decode cX8_bars 1 = .ok (.bipush 50, 2) := by decide +kernel
theorem dX8_bars_3 : decode cX8_bars 3 = .ok (.invokevirtual 23, 3) := by decide +kernel
theorem dX8_bars_6 : decode cX8_bars 6 = .ok (.aload_n 0, 1) := by decide +kernel
theorem dX8_bars_7 : decode cX8_bars 7 = .ok (.iload_n 1, 1) := by decide +kernel
theorem dX8_bars_8 : decode cX8_bars 8 = .ok (.aload_n 2, 1) := by decide +kernel
theorem dX8_bars_9 : decode cX8_bars 9 = .ok (.invokespecial 29, 3) := by decide +kernel
theorem dX8_bars_12 : decode cX8_bars 12 = .ok (.bipush 30, 2) := by decide +kernel
theorem dX8_bars_14 : decode cX8_bars 14 = .ok (.iadd, 1) := by decide +kernel
theorem dX8_bars_15 : decode cX8_bars 15 = .ok (.ireturn, 1) := by decide +kernel
theorem dX9_init_0 : decode cX9_init 0 = .ok (.aload_n 0, 1) := by decide +kernel
theorem dX9_init_1 : decode cX9_init 1 = .ok (.invokespecial 3, 3) := by decide +kernel
theorem dX9_init_4 : decode cX9_init 4 = .ok (.aload_n 0, 1) := by decide +kernel
theorem dX9_init_5 : decode cX9_init 5 = .ok (.bipush 30, 2) := by decide +kernel
theorem dX9_init_7 : decode cX9_init 7 = .ok (.newarray .int, 2) := by decide +kernel
theorem dX9_init_9 : decode cX9_init 9 = .ok (.putfield 9, 3) := by decide +kernel
theorem dX9_init_12 : decode cX9_init 12 = .ok (.aload_n 0, 1) := by decide +kernel
theorem dX9_init_13 : decode cX9_init 13 = .ok (.iconst 0, 1) := by decide +kernel
theorem dX9_init_14 : decode cX9_init 14 = .ok (.putfield 15, 3) := by decide +kernel
theorem dX9_init_17 : decode cX9_init 17 = .ok (.aload_n 0, 1) := by decide +kernel
theorem dX9_init_18 : decode cX9_init 18 = .ok (.iconst 0, 1) := by decide +kernel
theorem dX9_init_19 : decode cX9_init 19 = .ok (.putfield 19, 3) := by decide +kernel
theorem dX9_init_22 : decode cX9_init 22 = .ok (.return_, 1) := by decide +kernel
theorem dX9_clear_0 : decode cX9_clear 0 = .ok (.aload_n 0, 1) := by decide +kernel
theorem dX9_clear_1 : decode cX9_clear 1 = .ok (.iconst 0, 1) := by decide +kernel
theorem dX9_clear_2 : decode cX9_clear 2 = .ok (.putfield 15, 3) := by decide +kernel
theorem dX9_clear_5 : decode cX9_clear 5 = .ok (.aload_n 0, 1) := by decide +kernel
theorem dX9_clear_6 : decode cX9_clear 6 = .ok (.iconst 0, 1) := by decide +kernel
theorem dX9_clear_7 : decode cX9_clear 7 = .ok (.putfield 19, 3) := by decide +kernel
theorem dX9_clear_10 : decode cX9_clear 10 = .ok (.return_, 1) := by decide +kernel
theorem dX9_begin_0 : decode cX9_begin 0 = .ok (.aload_n 0, 1) := by decide +kernel
theorem dX9_begin_1 : decode cX9_begin 1 = .ok (.getfield 15, 3) := by decide +kernel
theorem dX9_begin_4 : decode cX9_begin 4 = .ok (.bipush 30, 2) := by decide +kernel
theorem dX9_begin_6 : decode cX9_begin 6 = .ok (.if_icmp .lt 4, 3) := by decide +kernel
theorem dX9_begin_9 : decode cX9_begin 9 = .ok (.return_, 1) := by decide +kernel
theorem dX9_begin_10 : decode cX9_begin 10 = .ok (.aload_n 0, 1) := by decide +kernel
theorem dX9_begin_11 : decode cX9_begin 11 = .ok (.getfield 9, 3) := by decide +kernel
theorem dX9_begin_14 : decode cX9_begin 14 = .ok (.aload_n 0, 1) := by decide +kernel
theorem dX9_begin_15 : decode cX9_begin 15 = .ok (.getfield 15, 3) := by decide +kernel
theorem dX9_begin_18 : decode cX9_begin 18 = .ok (.iload_n 1, 1) := by decide +kernel
theorem dX9_begin_19 : decode cX9_begin 19 = .ok (.iastore, 1) := by decide +kernel
theorem dX9_begin_20 : decode cX9_begin 20 = .ok (.aload_n 0, 1) := by decide +kernel
theorem dX9_begin_21 : decode cX9_begin 21 = .ok (.dup, 1) := by decide +kernel
theorem dX9_begin_22 : decode cX9_begin 22 = .ok (.getfield 15, 3) := by decide +kernel
theorem dX9_begin_25 : decode cX9_begin 25 = .ok (.iconst 1, 1) := by decide +kernel
theorem dX9_begin_26 : decode cX9_begin 26 = .ok (.iadd, 1) := by decide +kernel
theorem dX9_begin_27 : decode cX9_begin 27 = .ok (.putfield 15, 3) := by decide +kernel
theorem dX9_begin_30 : decode cX9_begin 30 = .ok (.return_, 1) := by decide +kernel
theorem dX10_init_0 : decode cX10_init 0 = .ok (.aload_n 0, 1) := by decide +kernel
theorem dX10_init_1 : decode cX10_init 1 = .ok (.iload_n 1, 1) := by decide +kernel
theorem dX10_init_2 : decode cX10_init 2 = .ok (.iload_n 2, 1) := by decide +kernel
theorem dX10_init_3 : decode cX10_init 3 = .ok (.iload_n 3, 1) := by decide +kernel
theorem dX10_init_4 : decode cX10_init 4 = .ok (.iload 4, 2) := by decide +kernel
theorem dX10_init_6 : decode cX10_init 6 = .ok (.iload 5, 2) := by decide +kernel
theorem dX10_init_8 : decode cX10_init 8 = .ok (.invokespecial 1, 3) := by decide +kernel
theorem dX10_init_11 : decode cX10_init 11 = .ok (.return_, 1) := by decide +kernel
theorem dX10_bars_0 : decode cX10_bars 0 = .ok (.aload_n 2, 1) := by decide +kernel
theorem dX10_bars_1 : decode cX10_bars 1 = .ok (.bipush 30, 2) := by decide +kernel
theorem dX10_bars_3 : decode cX10_bars 3 = .ok (.invokevirtual 7, 3) := by decide +kernel
theorem dX10_bars_6 : decode cX10_bars 6 = .ok (.aload_n 0, 1) := by decide +kernel
theorem dX10_bars_7 : decode cX10_bars 7 = .ok (.iload_n 1, 1) := by decide +kernel
theorem dX10_bars_8 : decode cX10_bars 8 = .ok (.aload_n 2, 1) := by decide +kernel
theorem dX10_bars_9 : decode cX10_bars 9 = .ok (.invokespecial 13, 3) := by decide +kernel
theorem dX10_bars_12 : decode cX10_bars 12 = .ok (.aload_n 0, 1) := by decide +kernel
theorem dX10_bars_13 : decode cX10_bars 13 = .ok (.iconst 0, 1) := by decide +kernel
theorem dX10_bars_14 : decode cX10_bars 14 = .ok (.aload_n 2, 1) := by decide +kernel
theorem dX10_bars_15 : decode cX10_bars 15 = .ok (.invokevirtual 17, 3) := by decide +kernel
theorem dX10_bars_18 : decode cX10_bars 18 = .ok (.isub, 1) := by decide +kernel
theorem dX10_bars_19 : decode cX10_bars 19 = .ok (.ireturn, 1) := by decide +kernel
theorem dX11_init_0 : decode cX11_init 0 = .ok (.aload_n 0, 1) := by decide +kernel
theorem dX11_init_1 : decode cX11_init 1 = .ok (.invokespecial 1, 3) := by decide +kernel
theorem dX11_init_4 : decode cX11_init 4 = .ok (.aload_n 0, 1) := by decide +kernel
theorem dX11_init_5 : decode cX11_init 5 = .ok (.new 7, 3) := by decide +kernel
theorem dX11_init_8 : decode cX11_init 8 = .ok (.dup, 1) := by decide +kernel
theorem dX11_init_9 : decode cX11_init 9 = .ok (.invokespecial 9, 3) := by decide +kernel
theorem dX11_init_12 : decode cX11_init 12 = .ok (.putfield 10, 3) := by decide +kernel
theorem dX11_init_15 : decode cX11_init 15 = .ok (.aload_n 0, 1) := by decide +kernel
theorem dX11_init_16 : decode cX11_init 16 = .ok (.new 7, 3) := by decide +kernel
theorem dX11_init_19 : decode cX11_init 19 = .ok (.dup, 1) := by decide +kernel
theorem dX11_init_20 : decode cX11_init 20 = .ok (.invokespecial 9, 3) := by decide +kernel
theorem dX11_init_23 : decode cX11_init 23 = .ok (.putfield 16, 3) := by decide +kernel
theorem dX11_init_26 : decode cX11_init 26 = .ok (.aload_n 0, 1) := by decide +kernel
theorem dX11_init_27 : decode cX11_init 27 = .ok (.iconst 0, 1) := by decide +kernel
theorem dX11_init_28 : decode cX11_init 28 = .ok (.putfield 19, 3) := by decide +kernel
theorem dX11_init_31 : decode cX11_init 31 = .ok (.aload_n 0, 1) := by decide +kernel
theorem dX11_init_32 : decode cX11_init 32 = .ok (.new 23, 3) := by decide +kernel
theorem dX11_init_35 : decode cX11_init 35 = .ok (.dup, 1) := by decide +kernel
theorem dX11_init_36 : decode cX11_init 36 = .ok (.invokespecial 25, 3) := by decide +kernel
theorem dX11_init_39 : decode cX11_init 39 = .ok (.putfield 26, 3) := by decide +kernel
theorem dX11_init_42 : decode cX11_init 42 = .ok (.aload_n 0, 1) := by decide +kernel
theorem dX11_init_43 : decode cX11_init 43 = .ok (.new 30, 3) := by decide +kernel
theorem dX11_init_46 : decode cX11_init 46 = .ok (.dup, 1) := by decide +kernel
theorem dX11_init_47 : decode cX11_init 47 = .ok (.invokespecial 32, 3) := by decide +kernel
theorem dX11_init_50 : decode cX11_init 50 = .ok (.putfield 33, 3) := by decide +kernel
theorem dX11_init_53 : decode cX11_init 53 = .ok (.aload_n 0, 1) := by decide +kernel
theorem dX11_init_54 : decode cX11_init 54 = .ok (.new 37, 3) := by decide +kernel
theorem dX11_init_57 : decode cX11_init 57 = .ok (.dup, 1) := by decide +kernel
theorem dX11_init_58 : decode cX11_init 58 = .ok (.invokespecial 39, 3) := by decide +kernel
theorem dX11_init_61 : decode cX11_init 61 = .ok (.putfield 40, 3) := by decide +kernel
theorem dX11_init_64 : decode cX11_init 64 = .ok (.aload_n 0, 1) := by decide +kernel
theorem dX11_init_65 : decode cX11_init 65 = .ok (.iconst 4, 1) := by decide +kernel
theorem dX11_init_66 : decode cX11_init 66 = .ok (.bipush 40, 2) := by decide +kernel
theorem dX11_init_68 : decode cX11_init 68 = .ok (.multianewarray 44 2, 4) := by decide +kernel
theorem dX11_init_72 : decode cX11_init 72 = .ok (.putfield 46, 3) := by decide +kernel
theorem dX11_init_75 : decode cX11_init 75 = .ok (.aload_n 0, 1) := by decide +kernel
theorem dX11_init_76 : decode cX11_init 76 = .ok (.iconst 4, 1) := by decide +kernel
theorem dX11_init_77 : decode cX11_init 77 = .ok (.newarray .int, 2) := by decide +kernel
theorem dX11_init_79 : decode cX11_init 79 = .ok (.putfield 49, 3) := by decide +kernel
theorem dX11_init_82 : decode cX11_init 82 = .ok (.aload_n 0, 1) := by decide +kernel
theorem dX11_init_83 : decode cX11_init 83 = .ok (.iconst 4, 1) := by decide +kernel
theorem dX11_init_84 : decode cX11_init 84 = .ok (.newarray .int, 2) := by decide +kernel
theorem dX11_init_86 : decode cX11_init 86 = .ok (.putfield 53, 3) := by decide +kernel
theorem dX11_init_89 : decode cX11_init 89 = .ok (.aload_n 0, 1) := by decide +kernel
theorem dX11_init_90 : decode cX11_init 90 = .ok (.iconst 4, 1) := by decide +kernel
theorem dX11_init_91 : decode cX11_init 91 = .ok (.newarray .int, 2) := by decide +kernel
theorem dX11_init_93 : decode cX11_init 93 = .ok (.putfield 56, 3) := by decide +kernel
theorem dX11_init_96 : decode cX11_init 96 = .ok (.aload_n 0, 1) := by decide +kernel
theorem dX11_init_97 : decode cX11_init 97 = .ok (.iconst 4, 1) := by decide +kernel
theorem dX11_init_98 : decode cX11_init 98 = .ok (.newarray .int, 2) := by decide +kernel
theorem dX11_init_100 : decode cX11_init 100 = .ok (.putfield 59, 3) := by decide +kernel
theorem dX11_init_103 : decode cX11_init 103 = .ok (.aload_n 0, 1) := by decide +kernel
theorem dX11_init_104 : decode cX11_init 104 = .ok (.iconst 4, 1) := by decide +kernel
theorem dX11_init_105 : decode cX11_init 105 = .ok (.newarray .int, 2) := by decide +kernel
theorem dX11_init_107 : decode cX11_init 107 = .ok (.putfield 62, 3) := by decide +kernel
theorem dX11_init_110 : decode cX11_init 110 = .ok (.aload_n 0, 1) := by decide +kernel
theorem dX11_init_111 : decode cX11_init 111 = .ok (.iconst 4, 1) := by decide +kernel
