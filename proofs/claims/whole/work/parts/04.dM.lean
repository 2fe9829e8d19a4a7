/-! decode rows (printed) -/
theorem dX2_init_0 : decode cX2_init 0 = .ok (.aload_n 0, 1) := by decide +kernel
theorem dX2_init_1 : decode cX2_init 1 = .ok (.invokespecial 1, 3) := by decide +kernel
theorem dX2_init_4 : decode cX2_init 4 = .ok (.aload_n 0, 1) := by decide +kernel
theorem dX2_init_5 : decode cX2_init 5 = .ok (.sipush 2100, 3) := by decide +kernel
theorem dX2_init_8 : decode cX2_init 8 = .ok (.newarray .int, 2) := by decide +kernel
theorem dX2_init_10 : decode cX2_init 10 = .ok (.putfield 7, 3) := by decide +kernel
theorem dX2_init_13 : decode cX2_init 13 = .ok (.aload_n 0, 1) := by decide +kernel
theorem dX2_init_14 : decode cX2_init 14 = .ok (.sipush 2100, 3) := by decide +kernel
theorem dX2_init_17 : decode cX2_init 17 = .ok (.newarray .int, 2) := by decide +kernel
theorem dX2_init_19 : decode cX2_init 19 = .ok (.putfield 13, 3) := by decide +kernel
theorem dX2_init_22 : decode cX2_init 22 = .ok (.aload_n 0, 1) := by decide +kernel
theorem dX2_init_23 : decode cX2_init 23 = .ok (.sipush 2100, 3) := by decide +kernel
theorem dX2_init_26 : decode cX2_init 26 = .ok (.newarray .int, 2) := by decide +kernel
theorem dX2_init_28 : decode cX2_init 28 = .ok (.putfield 16, 3) := by decide +kernel
theorem dX2_init_31 : decode cX2_init 31 = .ok (.aload_n 0, 1) := by decide +kernel
theorem dX2_init_32 : decode cX2_init 32 = .ok (.sipush 2100, 3) := by decide +kernel
theorem dX2_init_35 : decode cX2_init 35 = .ok (.newarray .int, 2) := by decide +kernel
theorem dX2_init_37 : decode cX2_init 37 = .ok (.putfield 19, 3) := by decide +kernel
theorem dX2_init_40 : decode cX2_init 40 = .ok (.aload_n 0, 1) := by decide +kernel
theorem dX2_init_41 : decode cX2_init 41 = .ok (.bipush 8, 2) := by decide +kernel
theorem dX2_init_43 : decode cX2_init 43 = .ok (.newarray .int, 2) := by decide +kernel
theorem dX2_init_45 : decode cX2_init 45 = .ok (.putfield 22, 3) := by decide +kernel
theorem dX2_init_48 : decode cX2_init 48 = .ok (.aload_n 0, 1) := by decide +kernel
theorem dX2_init_49 : decode cX2_init 49 = .ok (.bipush 8, 2) := by decide +kernel
theorem dX2_init_51 : decode cX2_init 51 = .ok (.newarray .int, 2) := by decide +kernel
theorem dX2_init_53 : decode cX2_init 53 = .ok (.putfield 25, 3) := by decide +kernel
theorem dX2_init_56 : decode cX2_init 56 = .ok (.aload_n 0, 1) := by decide +kernel
theorem dX2_init_57 : decode cX2_init 57 = .ok (.sipush 2100, 3) := by decide +kernel
theorem dX2_init_60 : decode cX2_init 60 = .ok (.newarray .int, 2) := by decide +kernel
theorem dX2_init_62 : decode cX2_init 62 = .ok (.putfield 28, 3) := by decide +kernel
theorem dX2_init_65 : decode cX2_init 65 = .ok (.aload_n 0, 1) := by decide +kernel
theorem dX2_init_66 : decode cX2_init 66 = .ok (.sipush 2100, 3) := by decide +kernel
theorem dX2_init_69 : decode cX2_init 69 = .ok (.newarray .int, 2) := by decide +kernel
theorem dX2_init_71 : decode cX2_init 71 = .ok (.putfield 31, 3) := by decide +kernel
theorem dX2_init_74 : decode cX2_init 74 = .ok (.aload_n 0, 1) := by decide +kernel
theorem dX2_init_75 : decode cX2_init 75 = .ok (.bipush 16, 2) := by decide +kernel
theorem dX2_init_77 : decode cX2_init 77 = .ok (.iload_n 1, 1) := by decide +kernel
theorem dX2_init_78 : decode cX2_init 78 = .ok (.sipush 2047, 3) := by decide +kernel
theorem dX2_init_81 : decode cX2_init 81 = .ok (.iand, 1) := by decide +kernel
theorem dX2_init_82 : decode cX2_init 82 = .ok (.iadd, 1) := by decide +kernel
theorem dX2_init_83 : decode cX2_init 83 = .ok (.putfield 34, 3) := by decide +kernel
theorem dX2_init_86 : decode cX2_init 86 = .ok (.iconst 0, 1) := by decide +kernel
theorem dX2_init_87 : decode cX2_init 87 = .ok (.istore_n 2, 1) := by decide +kernel
theorem dX2_init_88 : decode cX2_init 88 = .ok (.iload_n 2, 1) := by decide +kernel
theorem dX2_init_89 : decode cX2_init 89 = .ok (.bipush 8, 2) := by decide +kernel
theorem dX2_init_91 : decode cX2_init 91 = .ok (.if_icmp .ge 16, 3) := by decide +kernel
theorem dX2_init_94 : decode cX2_init 94 = .ok (.aload_n 0, 1) := by decide +kernel
theorem dX2_init_95 : decode cX2_init 95 = .ok (.getfield 22, 3) := by decide +kernel
theorem dX2_init_98 : decode cX2_init 98 = .ok (.iload_n 2, 1) := by decide +kernel
theorem dX2_init_99 : decode cX2_init 99 = .ok (.iconst 1, 1) := by decide +kernel
theorem dX2_init_100 : decode cX2_init 100 = .ok (.iastore, 1) := by decide +kernel
theorem dX2_init_101 : decode cX2_init 101 = .ok (.iinc 2 1, 3) := by decide +kernel
theorem dX2_init_104 : decode cX2_init 104 = .ok (.goto (-16), 3) := by decide +kernel
theorem dX2_init_107 : decode cX2_init 107 = .ok (.return_, 1) := by decide +kernel
theorem dX2_thrown_0 : decode cX2_thrown 0 = .ok (.aload_n 0, 1) := by decide +kernel
theorem dX2_thrown_1 : decode cX2_thrown 1 = .ok (.getfield 38, 3) := by decide +kernel
theorem dX2_thrown_4 : decode cX2_thrown 4 = .ok (.ireturn, 1) := by decide +kernel
theorem dX2_collect_0 : decode cX2_collect 0 = .ok (.aload_n 0, 1) := by decide +kernel
theorem dX2_collect_1 : decode cX2_collect 1 = .ok (.iconst 0, 1) := by decide +kernel
theorem dX2_collect_2 : decode cX2_collect 2 = .ok (.putfield 38, 3) := by decide +kernel
theorem dX2_collect_5 : decode cX2_collect 5 = .ok (.aload_n 0, 1) := by decide +kernel
theorem dX2_collect_6 : decode cX2_collect 6 = .ok (.invokevirtual 61, 3) := by decide +kernel
theorem dX2_collect_9 : decode cX2_collect 9 = .ok (.ireturn, 1) := by decide +kernel
theorem dX2_gather_0 : decode cX2_gather 0 = .ok (.aload_n 0, 1) := by decide +kernel
theorem dX2_gather_1 : decode cX2_gather 1 = .ok (.iconst 0, 1) := by decide +kernel
theorem dX2_gather_2 : decode cX2_gather 2 = .ok (.putfield 41, 3) := by decide +kernel
theorem dX2_gather_5 : decode cX2_gather 5 = .ok (.iconst 0, 1) := by decide +kernel
theorem dX2_gather_6 : decode cX2_gather 6 = .ok (.istore_n 1, 1) := by decide +kernel
theorem dX2_gather_7 : decode cX2_gather 7 = .ok (.iload_n 1, 1) := by decide +kernel
theorem dX2_gather_8 : decode cX2_gather 8 = .ok (.aload_n 0, 1) := by decide +kernel
theorem dX2_gather_9 : decode cX2_gather 9 = .ok (.getfield 48, 3) := by decide +kernel
theorem dX2_gather_12 : decode cX2_gather 12 = .ok (.if_icmp .ge 16, 3) := by decide +kernel
theorem dX2_gather_15 : decode cX2_gather 15 = .ok (.aload_n 0, 1) := by decide +kernel
theorem dX2_gather_16 : decode cX2_gather 16 = .ok (.getfield 31, 3) := by decide +kernel
theorem dX2_gather_19 : decode cX2_gather 19 = .ok (.iload_n 1, 1) := by decide +kernel
theorem dX2_gather_20 : decode cX2_gather 20 = .ok (.iconst (-1), 1) := by decide +kernel
theorem dX2_gather_21 : decode cX2_gather 21 = .ok (.iastore, 1) := by decide +kernel
theorem dX2_gather_22 : decode cX2_gather 22 = .ok (.iinc 1 1, 3) := by decide +kernel
theorem dX2_gather_25 : decode cX2_gather 25 = .ok (.goto (-18), 3) := by decide +kernel
theorem dX2_gather_28 : decode cX2_gather 28 = .ok (.iconst 0, 1) := by decide +kernel
theorem dX2_gather_29 : decode cX2_gather 29 = .ok (.istore_n 1, 1) := by decide +kernel
theorem dX2_gather_30 : decode cX2_gather 30 = .ok (.iload_n 1, 1) := by decide +kernel
theorem dX2_gather_31 : decode cX2_gather 31 = .ok (.bipush 8, 2) := by decide +kernel
theorem dX2_gather_33 : decode cX2_gather 33 = .ok (.if_icmp .ge 29, 3) := by decide +kernel
theorem dX2_gather_36 : decode cX2_gather 36 = .ok (.aload_n 0, 1) := by decide +kernel
theorem dX2_gather_37 : decode cX2_gather 37 = .ok (.getfield 22, 3) := by decide +kernel
theorem dX2_gather_40 : decode cX2_gather 40 = .ok (.iload_n 1, 1) := by decide +kernel
theorem dX2_gather_41 : decode cX2_gather 41 = .ok (.iaload, 1) := by decide +kernel
theorem dX2_gather_42 : decode cX2_gather 42 = .ok (.iconst 2, 1) := by decide +kernel
theorem dX2_gather_43 : decode cX2_gather 43 = .ok (.if_icmp .ne 13, 3) := by decide +kernel
theorem dX2_gather_46 : decode cX2_gather 46 = .ok (.aload_n 0, 1) := by decide +kernel
theorem dX2_gather_47 : decode cX2_gather 47 = .ok (.aload_n 0, 1) := by decide +kernel
theorem dX2_gather_48 : decode cX2_gather 48 = .ok (.getfield 25, 3) := by decide +kernel
theorem dX2_gather_51 : decode cX2_gather 51 = .ok (.iload_n 1, 1) := by decide +kernel
theorem dX2_gather_52 : decode cX2_gather 52 = .ok (.iaload, 1) := by decide +kernel
theorem dX2_gather_53 : decode cX2_gather 53 = .ok (.invokevirtual 51, 3) := by decide +kernel
theorem dX2_gather_56 : decode cX2_gather 56 = .ok (.iinc 1 1, 3) := by decide +kernel
theorem dX2_gather_59 : decode cX2_gather 59 = .ok (.goto (-29), 3) := by decide +kernel
theorem dX2_gather_62 : decode cX2_gather 62 = .ok (.iconst 0, 1) := by decide +kernel
theorem dX2_gather_63 : decode cX2_gather 63 = .ok (.istore_n 1, 1) := by decide +kernel
theorem dX2_gather_64 : decode cX2_gather 64 = .ok (.iload_n 1, 1) := by decide +kernel
theorem dX2_gather_65 : decode cX2_gather 65 = .ok (.aload_n 0, 1) := by decide +kernel
theorem dX2_gather_66 : decode cX2_gather 66 = .ok (.getfield 41, 3) := by decide +kernel
theorem dX2_gather_69 : decode cX2_gather 69 = .ok (.if_icmp .ge 57, 3) := by decide +kernel
theorem dX2_gather_72 : decode cX2_gather 72 = .ok (.aload_n 0, 1) := by decide +kernel
theorem dX2_gather_73 : decode cX2_gather 73 = .ok (.getfield 28, 3) := by decide +kernel
theorem dX2_gather_76 : decode cX2_gather 76 = .ok (.iload_n 1, 1) := by decide +kernel
theorem dX2_gather_77 : decode cX2_gather 77 = .ok (.iaload, 1) := by decide +kernel
theorem dX2_gather_78 : decode cX2_gather 78 = .ok (.istore_n 2, 1) := by decide +kernel
theorem dX2_gather_79 : decode cX2_gather 79 = .ok (.iconst 1, 1) := by decide +kernel
theorem dX2_gather_80 : decode cX2_gather 80 = .ok (.istore_n 3, 1) := by decide +kernel
theorem dX2_gather_81 : decode cX2_gather 81 = .ok (.iload_n 3, 1) := by decide +kernel
theorem dX2_gather_82 : decode cX2_gather 82 = .ok (.aload_n 0, 1) := by decide +kernel
theorem dX2_gather_83 : decode cX2_gather 83 = .ok (.iload_n 2, 1) := by decide +kernel
theorem dX2_gather_84 : decode cX2_gather 84 = .ok (.invokevirtual 44, 3) := by decide +kernel
theorem dX2_gather_87 : decode cX2_gather 87 = .ok (.if_icmp .gt 33, 3) := by decide +kernel
theorem dX2_gather_90 : decode cX2_gather 90 = .ok (.aload_n 0, 1) := by decide +kernel
theorem dX2_gather_91 : decode cX2_gather 91 = .ok (.getfield 7, 3) := by decide +kernel
theorem dX2_gather_94 : decode cX2_gather 94 = .ok (.iload_n 2, 1) := by decide +kernel
theorem dX2_gather_95 : decode cX2_gather 95 = .ok (.iload_n 3, 1) := by decide +kernel
theorem dX2_gather_96 : decode cX2_gather 96 = .ok (.iadd, 1) := by decide +kernel
theorem dX2_gather_97 : decode cX2_gather 97 = .ok (.iaload, 1) := by decide +kernel
theorem dX2_gather_98 : decode cX2_gather 98 = .ok (.iconst 2, 1) := by decide +kernel
theorem dX2_gather_99 : decode cX2_gather 99 = .ok (.if_icmp .ne 15, 3) := by decide +kernel
theorem dX2_gather_102 : decode cX2_gather 102 = .ok (.aload_n 0, 1) := by decide +kernel
theorem dX2_gather_103 : decode cX2_gather 103 = .ok (.aload_n 0, 1) := by decide +kernel
theorem dX2_gather_104 : decode cX2_gather 104 = .ok (.getfield 13, 3) := by decide +kernel
theorem dX2_gather_107 : decode cX2_gather 107 = .ok (.iload_n 2, 1) := by decide +kernel
theorem dX2_gather_108 : decode cX2_gather 108 = .ok (.iload_n 3, 1) := by decide +kernel
theorem dX2_gather_109 : decode cX2_gather 109 = .ok (.iadd, 1) := by decide +kernel
theorem dX2_gather_110 : decode cX2_gather 110 = .ok (.iaload, 1) := by decide +kernel
theorem dX2_gather_111 : decode cX2_gather 111 = .ok (.invokevirtual 51, 3) := by decide +kernel
theorem dX2_gather_114 : decode cX2_gather 114 = .ok (.iinc 3 1, 3) := by decide +kernel
theorem dX2_gather_117 : decode cX2_gather 117 = .ok (.goto (-36), 3) := by decide +kernel
theorem dX2_gather_120 : decode cX2_gather 120 = .ok (.iinc 1 1, 3) := by decide +kernel
theorem dX2_gather_123 : decode cX2_gather 123 = .ok (.goto (-59), 3) := by decide +kernel
theorem dX2_gather_126 : decode cX2_gather 126 = .ok (.iconst 0, 1) := by decide +kernel
theorem dX2_gather_127 : decode cX2_gather 127 = .ok (.istore_n 1, 1) := by decide +kernel
theorem dX2_gather_128 : decode cX2_gather 128 = .ok (.iconst 0, 1) := by decide +kernel
theorem dX2_gather_129 : decode cX2_gather 129 = .ok (.istore_n 2, 1) := by decide +kernel
theorem dX2_gather_130 : decode cX2_gather 130 = .ok (.iload_n 2, 1) := by decide +kernel
theorem dX2_gather_131 : decode cX2_gather 131 = .ok (.aload_n 0, 1) := by decide +kernel
theorem dX2_gather_132 : decode cX2_gather 132 = .ok (.getfield 41, 3) := by decide +kernel
theorem dX2_gather_135 : decode cX2_gather 135 = .ok (.if_icmp .ge 103, 3) := by decide +kernel
theorem dX2_gather_138 : decode cX2_gather 138 = .ok (.iconst 1, 1) := by decide +kernel
theorem dX2_gather_139 : decode cX2_gather 139 = .ok (.aload_n 0, 1) := by decide +kernel
theorem dX2_gather_140 : decode cX2_gather 140 = .ok (.aload_n 0, 1) := by decide +kernel
theorem dX2_gather_141 : decode cX2_gather 141 = .ok (.getfield 28, 3) := by decide +kernel
theorem dX2_gather_144 : decode cX2_gather 144 = .ok (.iload_n 2, 1) := by decide +kernel
theorem dX2_gather_145 : decode cX2_gather 145 = .ok (.iaload, 1) := by decide +kernel
theorem dX2_gather_146 : decode cX2_gather 146 = .ok (.invokevirtual 44, 3) := by decide +kernel
theorem dX2_gather_149 : decode cX2_gather 149 = .ok (.iadd, 1) := by decide +kernel
theorem dX2_gather_150 : decode cX2_gather 150 = .ok (.istore_n 3, 1) := by decide +kernel
theorem dX2_gather_151 : decode cX2_gather 151 = .ok (.iconst 0, 1) := by decide +kernel
theorem dX2_gather_152 : decode cX2_gather 152 = .ok (.istore 4, 2) := by decide +kernel
theorem dX2_gather_154 : decode cX2_gather 154 = .ok (.iload 4, 2) := by decide +kernel
theorem dX2_gather_156 : decode cX2_gather 156 = .ok (.iload_n 3, 1) := by decide +kernel
theorem dX2_gather_157 : decode cX2_gather 157 = .ok (.if_icmp .ge 75, 3) := by decide +kernel
theorem dX2_gather_160 : decode cX2_gather 160 = .ok (.aload_n 0, 1) := by decide +kernel
theorem dX2_gather_161 : decode cX2_gather 161 = .ok (.getfield 28, 3) := by decide +kernel
theorem dX2_gather_164 : decode cX2_gather 164 = .ok (.iload_n 2, 1) := by decide +kernel
theorem dX2_gather_165 : decode cX2_gather 165 = .ok (.iaload, 1) := by decide +kernel
theorem dX2_gather_166 : decode cX2_gather 166 = .ok (.iload 4, 2) := by decide +kernel
theorem dX2_gather_168 : decode cX2_gather 168 = .ok (.iadd, 1) := by decide +kernel
theorem dX2_gather_169 : decode cX2_gather 169 = .ok (.istore 5, 2) := by decide +kernel
theorem dX2_gather_171 : decode cX2_gather 171 = .ok (.aload_n 0, 1) := by decide +kernel
theorem dX2_gather_172 : decode cX2_gather 172 = .ok (.getfield 16, 3) := by decide +kernel
theorem dX2_gather_175 : decode cX2_gather 175 = .ok (.iload_n 1, 1) := by decide +kernel
theorem dX2_gather_176 : decode cX2_gather 176 = .ok (.aload_n 0, 1) := by decide +kernel
theorem dX2_gather_177 : decode cX2_gather 177 = .ok (.getfield 7, 3) := by decide +kernel
theorem dX2_gather_180 : decode cX2_gather 180 = .ok (.iload 5, 2) := by decide +kernel
theorem dX2_gather_182 : decode cX2_gather 182 = .ok (.iaload, 1) := by decide +kernel
theorem dX2_gather_183 : decode cX2_gather 183 = .ok (.iastore, 1) := by decide +kernel
theorem dX2_gather_184 : decode cX2_gather 184 = .ok (.aload_n 0, 1) := by decide +kernel
theorem dX2_gather_185 : decode cX2_gather 185 = .ok (.getfield 19, 3) := by decide +kernel
theorem dX2_gather_188 : decode cX2_gather 188 = .ok (.iload_n 1, 1) := by decide +kernel
theorem dX2_gather_189 : decode cX2_gather 189 = .ok (.aload_n 0, 1) := by decide +kernel
theorem dX2_gather_190 : decode cX2_gather 190 = .ok (.getfield 7, 3) := by decide +kernel
theorem dX2_gather_193 : decode cX2_gather 193 = .ok (.iload 5, 2) := by decide +kernel
theorem dX2_gather_195 : decode cX2_gather 195 = .ok (.iaload, 1) := by decide +kernel
theorem dX2_gather_196 : decode cX2_gather 196 = .ok (.iconst 2, 1) := by decide +kernel
theorem dX2_gather_197 : decode cX2_gather 197 = .ok (.if_icmp .ne 18, 3) := by decide +kernel
theorem dX2_gather_200 : decode cX2_gather 200 = .ok (.aload_n 0, 1) := by decide +kernel
theorem dX2_gather_201 : decode cX2_gather 201 = .ok (.getfield 31, 3) := by decide +kernel
theorem dX2_gather_204 : decode cX2_gather 204 = .ok (.aload_n 0, 1) := by decide +kernel
theorem dX2_gather_205 : decode cX2_gather 205 = .ok (.getfield 13, 3) := by decide +kernel
theorem dX2_gather_208 : decode cX2_gather 208 = .ok (.iload 5, 2) := by decide +kernel
theorem dX2_gather_210 : decode cX2_gather 210 = .ok (.iaload, 1) := by decide +kernel
theorem dX2_gather_211 : decode cX2_gather 211 = .ok (.iaload, 1) := by decide +kernel
theorem dX2_gather_212 : decode cX2_gather 212 = .ok (.goto 10, 3) := by decide +kernel
theorem dX2_gather_215 : decode cX2_gather 215 = .ok (.aload_n 0, 1) := by decide +kernel
theorem dX2_gather_216 : decode cX2_gather 216 = .ok (.getfield 13, 3) := by decide +kernel
theorem dX2_gather_219 : decode cX2_gather 219 = .ok (.iload 5, 2) := by decide +kernel
theorem dX2_gather_221 : decode cX2_gather 221 = .ok (.iaload, 1) := by decide +kernel
theorem dX2_gather_222 : decode cX2_gather 222 = .ok (.iastore, 1) := by decide +kernel
theorem dX2_gather_223 : decode cX2_gather 223 = .ok (.iinc 1 1, 3) := by decide +kernel
theorem dX2_gather_226 : decode cX2_gather 226 = .ok (.iinc 4 1, 3) := by decide +kernel
theorem dX2_gather_229 : decode cX2_gather 229 = .ok (.goto (-75), 3) := by decide +kernel
theorem dX2_gather_232 : decode cX2_gather 232 = .ok (.iinc 2 1, 3) := by decide +kernel
theorem dX2_gather_235 : decode cX2_gather 235 = .ok (.goto (-105), 3) := by decide +kernel
theorem dX2_gather_238 : decode cX2_gather 238 = .ok (.iconst 0, 1) := by decide +kernel
theorem dX2_gather_239 : decode cX2_gather 239 = .ok (.istore_n 2, 1) := by decide +kernel
theorem dX2_gather_240 : decode cX2_gather 240 = .ok (.iload_n 2, 1) := by decide +kernel
theorem dX2_gather_241 : decode cX2_gather 241 = .ok (.bipush 8, 2) := by decide +kernel
theorem dX2_gather_243 : decode cX2_gather 243 = .ok (.if_icmp .ge 36, 3) := by decide +kernel
theorem dX2_gather_246 : decode cX2_gather 246 = .ok (.aload_n 0, 1) := by decide +kernel
theorem dX2_gather_247 : decode cX2_gather 247 = .ok (.getfield 22, 3) := by decide +kernel
theorem dX2_gather_250 : decode cX2_gather 250 = .ok (.iload_n 2, 1) := by decide +kernel
theorem dX2_gather_251 : decode cX2_gather 251 = .ok (.iaload, 1) := by decide +kernel
theorem dX2_gather_252 : decode cX2_gather 252 = .ok (.iconst 2, 1) := by decide +kernel
theorem dX2_gather_253 : decode cX2_gather 253 = .ok (.if_icmp .ne 20, 3) := by decide +kernel
theorem dX2_gather_256 : decode cX2_gather 256 = .ok (.aload_n 0, 1) := by decide +kernel
theorem dX2_gather_257 : decode cX2_gather 257 = .ok (.getfield 25, 3) := by decide +kernel
theorem dX2_gather_260 : decode cX2_gather 260 = .ok (.iload_n 2, 1) := by decide +kernel
theorem dX2_gather_261 : decode cX2_gather 261 = .ok (.aload_n 0, 1) := by decide +kernel
theorem dX2_gather_262 : decode cX2_gather 262 = .ok (.getfield 31, 3) := by decide +kernel
theorem dX2_gather_265 : decode cX2_gather 265 = .ok (.aload_n 0, 1) := by decide +kernel
theorem dX2_gather_266 : decode cX2_gather 266 = .ok (.getfield 25, 3) := by decide +kernel
theorem dX2_gather_269 : decode cX2_gather 269 = .ok (.iload_n 2, 1) := by decide +kernel
theorem dX2_gather_270 : decode cX2_gather 270 = .ok (.iaload, 1) := by decide +kernel
theorem dX2_gather_271 : decode cX2_gather 271 = .ok (.iaload, 1) := by decide +kernel
theorem dX2_gather_272 : decode cX2_gather 272 = .ok (.iastore, 1) := by decide +kernel
theorem dX2_gather_273 : decode cX2_gather 273 = .ok (.iinc 2 1, 3) := by decide +kernel
theorem dX2_gather_276 : decode cX2_gather 276 = .ok (.goto (-36), 3) := by decide +kernel
theorem dX2_gather_279 : decode cX2_gather 279 = .ok (.iconst 0, 1) := by decide +kernel
theorem dX2_gather_280 : decode cX2_gather 280 = .ok (.istore_n 2, 1) := by decide +kernel
theorem dX2_gather_281 : decode cX2_gather 281 = .ok (.iload_n 2, 1) := by decide +kernel
theorem dX2_gather_282 : decode cX2_gather 282 = .ok (.iload_n 1, 1) := by decide +kernel
theorem dX2_gather_283 : decode cX2_gather 283 = .ok (.if_icmp .ge 33, 3) := by decide +kernel
theorem dX2_gather_286 : decode cX2_gather 286 = .ok (.aload_n 0, 1) := by decide +kernel
theorem dX2_gather_287 : decode cX2_gather 287 = .ok (.getfield 7, 3) := by decide +kernel
theorem dX2_gather_290 : decode cX2_gather 290 = .ok (.iload_n 2, 1) := by decide +kernel
theorem dX2_gather_291 : decode cX2_gather 291 = .ok (.aload_n 0, 1) := by decide +kernel
theorem dX2_gather_292 : decode cX2_gather 292 = .ok (.getfield 16, 3) := by decide +kernel
theorem dX2_gather_295 : decode cX2_gather 295 = .ok (.iload_n 2, 1) := by decide +kernel
theorem dX2_gather_296 : decode cX2_gather 296 = .ok (.iaload, 1) := by decide +kernel
theorem dX2_gather_297 : decode cX2_gather 297 = .ok (.iastore, 1) := by decide +kernel
theorem dX2_gather_298 : decode cX2_gather 298 = .ok (.aload_n 0, 1) := by decide +kernel
theorem dX2_gather_299 : decode cX2_gather 299 = .ok (.getfield 13, 3) := by decide +kernel
theorem dX2_gather_302 : decode cX2_gather 302 = .ok (.iload_n 2, 1) := by decide +kernel
theorem dX2_gather_303 : decode cX2_gather 303 = .ok (.aload_n 0, 1) := by decide +kernel
theorem dX2_gather_304 : decode cX2_gather 304 = .ok (.getfield 19, 3) := by decide +kernel
theorem dX2_gather_307 : decode cX2_gather 307 = .ok (.iload_n 2, 1) := by decide +kernel
theorem dX2_gather_308 : decode cX2_gather 308 = .ok (.iaload, 1) := by decide +kernel
theorem dX2_gather_309 : decode cX2_gather 309 = .ok (.iastore, 1) := by decide +kernel
theorem dX2_gather_310 : decode cX2_gather 310 = .ok (.iinc 2 1, 3) := by decide +kernel
theorem dX2_gather_313 : decode cX2_gather 313 = .ok (.goto (-32), 3) := by decide +kernel
theorem dX2_gather_316 : decode cX2_gather 316 = .ok (.aload_n 0, 1) := by decide +kernel
theorem dX2_gather_317 : decode cX2_gather 317 = .ok (.iload_n 1, 1) := by decide +kernel
theorem dX2_gather_318 : decode cX2_gather 318 = .ok (.putfield 48, 3) := by decide +kernel
theorem dX2_gather_321 : decode cX2_gather 321 = .ok (.aload_n 0, 1) := by decide +kernel
theorem dX2_gather_322 : decode cX2_gather 322 = .ok (.dup, 1) := by decide +kernel
theorem dX2_gather_323 : decode cX2_gather 323 = .ok (.getfield 55, 3) := by decide +kernel
theorem dX2_gather_326 : decode cX2_gather 326 = .ok (.iconst 1, 1) := by decide +kernel
theorem dX2_gather_327 : decode cX2_gather 327 = .ok (.iadd, 1) := by decide +kernel
theorem dX2_gather_328 : decode cX2_gather 328 = .ok (.putfield 55, 3) := by decide +kernel
theorem dX2_gather_331 : decode cX2_gather 331 = .ok (.aload_n 0, 1) := by decide +kernel
theorem dX2_gather_332 : decode cX2_gather 332 = .ok (.dup, 1) := by decide +kernel
theorem dX2_gather_333 : decode cX2_gather 333 = .ok (.getfield 58, 3) := by decide +kernel
theorem dX2_gather_336 : decode cX2_gather 336 = .ok (.iload_n 1, 1) := by decide +kernel
theorem dX2_gather_337 : decode cX2_gather 337 = .ok (.iadd, 1) := by decide +kernel
theorem dX2_gather_338 : decode cX2_gather 338 = .ok (.putfield 58, 3) := by decide +kernel
theorem dX2_gather_341 : decode cX2_gather 341 = .ok (.iload_n 1, 1) := by decide +kernel
theorem dX2_gather_342 : decode cX2_gather 342 = .ok (.ireturn, 1) := by decide +kernel
theorem dX2_keep_0 : decode cX2_keep 0 = .ok (.aload_n 0, 1) := by decide +kernel
theorem dX2_keep_1 : decode cX2_keep 1 = .ok (.getfield 31, 3) := by decide +kernel
theorem dX2_keep_4 : decode cX2_keep 4 = .ok (.iload_n 1, 1) := by decide +kernel
theorem dX2_keep_5 : decode cX2_keep 5 = .ok (.iaload, 1) := by decide +kernel
theorem dX2_keep_6 : decode cX2_keep 6 = .ok (.iconst (-1), 1) := by decide +kernel
theorem dX2_keep_7 : decode cX2_keep 7 = .ok (.if_icmp .eq 4, 3) := by decide +kernel
theorem dX2_keep_10 : decode cX2_keep 10 = .ok (.return_, 1) := by decide +kernel
theorem dX2_keep_11 : decode cX2_keep 11 = .ok (.iconst 0, 1) := by decide +kernel
theorem dX2_keep_12 : decode cX2_keep 12 = .ok (.istore_n 2, 1) := by decide +kernel
theorem dX2_keep_13 : decode cX2_keep 13 = .ok (.aload_n 0, 1) := by decide +kernel
theorem dX2_keep_14 : decode cX2_keep 14 = .ok (.getfield 41, 3) := by decide +kernel
theorem dX2_keep_17 : decode cX2_keep 17 = .ok (.ifCond .le 38, 3) := by decide +kernel
theorem dX2_keep_20 : decode cX2_keep 20 = .ok (.aload_n 0, 1) := by decide +kernel
theorem dX2_keep_21 : decode cX2_keep 21 = .ok (.getfield 31, 3) := by decide +kernel
theorem dX2_keep_24 : decode cX2_keep 24 = .ok (.aload_n 0, 1) := by decide +kernel
theorem dX2_keep_25 : decode cX2_keep 25 = .ok (.getfield 28, 3) := by decide +kernel
theorem dX2_keep_28 : decode cX2_keep 28 = .ok (.aload_n 0, 1) := by decide +kernel
theorem dX2_keep_29 : decode cX2_keep 29 = .ok (.getfield 41, 3) := by decide +kernel
theorem dX2_keep_32 : decode cX2_keep 32 = .ok (.iconst 1, 1) := by decide +kernel
theorem dX2_keep_33 : decode cX2_keep 33 = .ok (.isub, 1) := by decide +kernel
theorem dX2_keep_34 : decode cX2_keep 34 = .ok (.iaload, 1) := by decide +kernel
theorem dX2_keep_35 : decode cX2_keep 35 = .ok (.iaload, 1) := by decide +kernel
theorem dX2_keep_36 : decode cX2_keep 36 = .ok (.iconst 1, 1) := by decide +kernel
theorem dX2_keep_37 : decode cX2_keep 37 = .ok (.iadd, 1) := by decide +kernel
theorem dX2_keep_38 : decode cX2_keep 38 = .ok (.aload_n 0, 1) := by decide +kernel
theorem dX2_keep_39 : decode cX2_keep 39 = .ok (.aload_n 0, 1) := by decide +kernel
theorem dX2_keep_40 : decode cX2_keep 40 = .ok (.getfield 28, 3) := by decide +kernel
theorem dX2_keep_43 : decode cX2_keep 43 = .ok (.aload_n 0, 1) := by decide +kernel
theorem dX2_keep_44 : decode cX2_keep 44 = .ok (.getfield 41, 3) := by decide +kernel
theorem dX2_keep_47 : decode cX2_keep 47 = .ok (.iconst 1, 1) := by decide +kernel
theorem dX2_keep_48 : decode cX2_keep 48 = .ok (.isub, 1) := by decide +kernel
theorem dX2_keep_49 : decode cX2_keep 49 = .ok (.iaload, 1) := by decide +kernel
theorem dX2_keep_50 : decode cX2_keep 50 = .ok (.invokevirtual 44, 3) := by decide +kernel
theorem dX2_keep_53 : decode cX2_keep 53 = .ok (.iadd, 1) := by decide +kernel
theorem dX2_keep_54 : decode cX2_keep 54 = .ok (.istore_n 2, 1) := by decide +kernel
theorem dX2_keep_55 : decode cX2_keep 55 = .ok (.aload_n 0, 1) := by decide +kernel
theorem dX2_keep_56 : decode cX2_keep 56 = .ok (.getfield 31, 3) := by decide +kernel
theorem dX2_keep_59 : decode cX2_keep 59 = .ok (.iload_n 1, 1) := by decide +kernel
theorem dX2_keep_60 : decode cX2_keep 60 = .ok (.iload_n 2, 1) := by decide +kernel
theorem dX2_keep_61 : decode cX2_keep 61 = .ok (.iastore, 1) := by decide +kernel
theorem dX2_keep_62 : decode cX2_keep 62 = .ok (.aload_n 0, 1) := by decide +kernel
theorem dX2_keep_63 : decode cX2_keep 63 = .ok (.getfield 28, 3) := by decide +kernel
theorem dX2_keep_66 : decode cX2_keep 66 = .ok (.aload_n 0, 1) := by decide +kernel
theorem dX2_keep_67 : decode cX2_keep 67 = .ok (.getfield 41, 3) := by decide +kernel
theorem dX2_keep_70 : decode cX2_keep 70 = .ok (.iload_n 1, 1) := by decide +kernel
theorem dX2_keep_71 : decode cX2_keep 71 = .ok (.iastore, 1) := by decide +kernel
theorem dX2_keep_72 : decode cX2_keep 72 = .ok (.aload_n 0, 1) := by decide +kernel
theorem dX2_keep_73 : decode cX2_keep 73 = .ok (.dup, 1) := by decide +kernel
theorem dX2_keep_74 : decode cX2_keep 74 = .ok (.getfield 41, 3) := by decide +kernel
theorem dX2_keep_77 : decode cX2_keep 77 = .ok (.iconst 1, 1) := by decide +kernel
theorem dX2_keep_78 : decode cX2_keep 78 = .ok (.iadd, 1) := by decide +kernel
theorem dX2_keep_79 : decode cX2_keep 79 = .ok (.putfield 41, 3) := by decide +kernel
theorem dX2_keep_82 : decode cX2_keep 82 = .ok (.return_, 1) := by decide +kernel
theorem dX2_fieldsAt_0 : decode cX2_fieldsAt 0 = .ok (.aload_n 0, 1) := by decide +kernel
theorem dX2_fieldsAt_1 : decode cX2_fieldsAt 1 = .ok (.getfield 13, 3) := by decide +kernel
theorem dX2_fieldsAt_4 : decode cX2_fieldsAt 4 = .ok (.iload_n 1, 1) := by decide +kernel
theorem dX2_fieldsAt_5 : decode cX2_fieldsAt 5 = .ok (.iaload, 1) := by decide +kernel
theorem dX2_fieldsAt_6 : decode cX2_fieldsAt 6 = .ok (.iconst 1, 1) := by decide +kernel
theorem dX2_fieldsAt_7 : decode cX2_fieldsAt 7 = .ok (.ishr, 1) := by decide +kernel
theorem dX2_fieldsAt_8 : decode cX2_fieldsAt 8 = .ok (.ireturn, 1) := by decide +kernel
theorem dX2_make_0 : decode cX2_make 0 = .ok (.aload_n 0, 1) := by decide +kernel
theorem dX2_make_1 : decode cX2_make 1 = .ok (.iconst 0, 1) := by decide +kernel
theorem dX2_make_2 : decode cX2_make 2 = .ok (.putfield 38, 3) := by decide +kernel
theorem dX2_make_5 : decode cX2_make 5 = .ok (.iload_n 1, 1) := by decide +kernel
theorem dX2_make_6 : decode cX2_make 6 = .ok (.invokestatic 65, 3) := by decide +kernel
theorem dX2_make_9 : decode cX2_make 9 = .ok (.ifCond .eq 23, 3) := by decide +kernel
theorem dX2_make_12 : decode cX2_make 12 = .ok (.iload_n 2, 1) := by decide +kernel
theorem dX2_make_13 : decode cX2_make 13 = .ok (.ifCond .lt 19, 3) := by decide +kernel
theorem dX2_make_16 : decode cX2_make 16 = .ok (.iload_n 2, 1) := by decide +kernel
theorem dX2_make_17 : decode cX2_make 17 = .ok (.iconst 1, 1) := by decide +kernel
theorem dX2_make_18 : decode cX2_make 18 = .ok (.if_icmp .gt 14, 3) := by decide +kernel
theorem dX2_make_21 : decode cX2_make 21 = .ok (.iload_n 3, 1) := by decide +kernel
theorem dX2_make_22 : decode cX2_make 22 = .ok (.ifCond .lt 10, 3) := by decide +kernel
theorem dX2_make_25 : decode cX2_make 25 = .ok (.iload_n 3, 1) := by decide +kernel
theorem dX2_make_26 : decode cX2_make 26 = .ok (.sipush 200, 3) := by decide +kernel
theorem dX2_make_29 : decode cX2_make 29 = .ok (.if_icmp .le 9, 3) := by decide +kernel
theorem dX2_make_32 : decode cX2_make 32 = .ok (.aload_n 0, 1) := by decide +kernel
theorem dX2_make_33 : decode cX2_make 33 = .ok (.iconst 1, 1) := by decide +kernel
theorem dX2_make_34 : decode cX2_make 34 = .ok (.invokevirtual 69, 3) := by decide +kernel
theorem dX2_make_37 : decode cX2_make 37 = .ok (.ireturn, 1) := by decide +kernel
theorem dX2_make_38 : decode cX2_make 38 = .ok (.aload_n 0, 1) := by decide +kernel
theorem dX2_make_39 : decode cX2_make 39 = .ok (.getfield 48, 3) := by decide +kernel
theorem dX2_make_42 : decode cX2_make 42 = .ok (.iconst 1, 1) := by decide +kernel
theorem dX2_make_43 : decode cX2_make 43 = .ok (.iadd, 1) := by decide +kernel
theorem dX2_make_44 : decode cX2_make 44 = .ok (.iload_n 3, 1) := by decide +kernel
theorem dX2_make_45 : decode cX2_make 45 = .ok (.iadd, 1) := by decide +kernel
theorem dX2_make_46 : decode cX2_make 46 = .ok (.aload_n 0, 1) := by decide +kernel
theorem dX2_make_47 : decode cX2_make 47 = .ok (.getfield 34, 3) := by decide +kernel
theorem dX2_make_50 : decode cX2_make 50 = .ok (.if_icmp .le 8, 3) := by decide +kernel
theorem dX2_make_53 : decode cX2_make 53 = .ok (.aload_n 0, 1) := by decide +kernel
theorem dX2_make_54 : decode cX2_make 54 = .ok (.invokevirtual 61, 3) := by decide +kernel
theorem dX2_make_57 : decode cX2_make 57 = .ok (.pop, 1) := by decide +kernel
theorem dX2_make_58 : decode cX2_make 58 = .ok (.aload_n 0, 1) := by decide +kernel
theorem dX2_make_59 : decode cX2_make 59 = .ok (.getfield 48, 3) := by decide +kernel
theorem dX2_make_62 : decode cX2_make 62 = .ok (.iconst 1, 1) := by decide +kernel
theorem dX2_make_63 : decode cX2_make 63 = .ok (.iadd, 1) := by decide +kernel
theorem dX2_make_64 : decode cX2_make 64 = .ok (.iload_n 3, 1) := by decide +kernel
theorem dX2_make_65 : decode cX2_make 65 = .ok (.iadd, 1) := by decide +kernel
theorem dX2_make_66 : decode cX2_make 66 = .ok (.aload_n 0, 1) := by decide +kernel
theorem dX2_make_67 : decode cX2_make 67 = .ok (.getfield 34, 3) := by decide +kernel
theorem dX2_make_70 : decode cX2_make 70 = .ok (.if_icmp .le 9, 3) := by decide +kernel
theorem dX2_make_73 : decode cX2_make 73 = .ok (.aload_n 0, 1) := by decide +kernel
theorem dX2_make_74 : decode cX2_make 74 = .ok (.iconst 2, 1) := by decide +kernel
theorem dX2_make_75 : decode cX2_make 75 = .ok (.invokevirtual 69, 3) := by decide +kernel
theorem dX2_make_78 : decode cX2_make 78 = .ok (.ireturn, 1) := by decide +kernel
theorem dX2_make_79 : decode cX2_make 79 = .ok (.aload_n 0, 1) := by decide +kernel
theorem dX2_make_80 : decode cX2_make 80 = .ok (.getfield 48, 3) := by decide +kernel
theorem dX2_make_83 : decode cX2_make 83 = .ok (.istore 4, 2) := by decide +kernel
theorem dX2_make_85 : decode cX2_make 85 = .ok (.aload_n 0, 1) := by decide +kernel
theorem dX2_make_86 : decode cX2_make 86 = .ok (.getfield 7, 3) := by decide +kernel
theorem dX2_make_89 : decode cX2_make 89 = .ok (.iload 4, 2) := by decide +kernel
theorem dX2_make_91 : decode cX2_make 91 = .ok (.iconst 0, 1) := by decide +kernel
theorem dX2_make_92 : decode cX2_make 92 = .ok (.iastore, 1) := by decide +kernel
theorem dX2_make_93 : decode cX2_make 93 = .ok (.aload_n 0, 1) := by decide +kernel
theorem dX2_make_94 : decode cX2_make 94 = .ok (.getfield 13, 3) := by decide +kernel
theorem dX2_make_97 : decode cX2_make 97 = .ok (.iload 4, 2) := by decide +kernel
theorem dX2_make_99 : decode cX2_make 99 = .ok (.iconst 2, 1) := by decide +kernel
theorem dX2_make_100 : decode cX2_make 100 = .ok (.iload_n 3, 1) := by decide +kernel
theorem dX2_make_101 : decode cX2_make 101 = .ok (.imul, 1) := by decide +kernel
theorem dX2_make_102 : decode cX2_make 102 = .ok (.iload_n 2, 1) := by decide +kernel
theorem dX2_make_103 : decode cX2_make 103 = .ok (.iadd, 1) := by decide +kernel
theorem dX2_make_104 : decode cX2_make 104 = .ok (.iastore, 1) := by decide +kernel
theorem dX2_make_105 : decode cX2_make 105 = .ok (.iconst 1, 1) := by decide +kernel
theorem dX2_make_106 : decode cX2_make 106 = .ok (.istore 5, 2) := by decide +kernel
theorem dX2_make_108 : decode cX2_make 108 = .ok (.iload 5, 2) := by decide +kernel
theorem dX2_make_110 : decode cX2_make 110 = .ok (.iload_n 3, 1) := by decide +kernel
theorem dX2_make_111 : decode cX2_make 111 = .ok (.if_icmp .gt 40, 3) := by decide +kernel
theorem dX2_make_114 : decode cX2_make 114 = .ok (.aload_n 0, 1) := by decide +kernel
theorem dX2_make_115 : decode cX2_make 115 = .ok (.getfield 7, 3) := by decide +kernel
theorem dX2_make_118 : decode cX2_make 118 = .ok (.iload 4, 2) := by decide +kernel
theorem dX2_make_120 : decode cX2_make 120 = .ok (.iload 5, 2) := by decide +kernel
theorem dX2_make_122 : decode cX2_make 122 = .ok (.iadd, 1) := by decide +kernel
theorem dX2_make_123 : decode cX2_make 123 = .ok (.iload_n 2, 1) := by decide +kernel
theorem dX2_make_124 : decode cX2_make 124 = .ok (.iconst 1, 1) := by decide +kernel
theorem dX2_make_125 : decode cX2_make 125 = .ok (.if_icmp .ne 7, 3) := by decide +kernel
theorem dX2_make_128 : decode cX2_make 128 = .ok (.iconst 3, 1) := by decide +kernel
theorem dX2_make_129 : decode cX2_make 129 = .ok (.goto 4, 3) := by decide +kernel
theorem dX2_make_132 : decode cX2_make 132 = .ok (.iconst 1, 1) := by decide +kernel
theorem dX2_make_133 : decode cX2_make 133 = .ok (.iastore, 1) := by decide +kernel
theorem dX2_make_134 : decode cX2_make 134 = .ok (.aload_n 0, 1) := by decide +kernel
theorem dX2_make_135 : decode cX2_make 135 = .ok (.getfield 13, 3) := by decide +kernel
theorem dX2_make_138 : decode cX2_make 138 = .ok (.iload 4, 2) := by decide +kernel
theorem dX2_make_140 : decode cX2_make 140 = .ok (.iload 5, 2) := by decide +kernel
theorem dX2_make_142 : decode cX2_make 142 = .ok (.iadd, 1) := by decide +kernel
theorem dX2_make_143 : decode cX2_make 143 = .ok (.iconst 0, 1) := by decide +kernel
theorem dX2_make_144 : decode cX2_make 144 = .ok (.iastore, 1) := by decide +kernel
theorem dX2_make_145 : decode cX2_make 145 = .ok (.iinc 5 1, 3) := by decide +kernel
theorem dX2_make_148 : decode cX2_make 148 = .ok (.goto (-40), 3) := by decide +kernel
theorem dX2_make_151 : decode cX2_make 151 = .ok (.aload_n 0, 1) := by decide +kernel
theorem dX2_make_152 : decode cX2_make 152 = .ok (.dup, 1) := by decide +kernel
theorem dX2_make_153 : decode cX2_make 153 = .ok (.getfield 48, 3) := by decide +kernel
theorem dX2_make_156 : decode cX2_make 156 = .ok (.iconst 1, 1) := by decide +kernel
theorem dX2_make_157 : decode cX2_make 157 = .ok (.iload_n 3, 1) := by decide +kernel
theorem dX2_make_158 : decode cX2_make 158 = .ok (.iadd, 1) := by decide +kernel
theorem dX2_make_159 : decode cX2_make 159 = .ok (.iadd, 1) := by decide +kernel
theorem dX2_make_160 : decode cX2_make 160 = .ok (.putfield 48, 3) := by decide +kernel
theorem dX2_make_163 : decode cX2_make 163 = .ok (.aload_n 0, 1) := by decide +kernel
theorem dX2_make_164 : decode cX2_make 164 = .ok (.getfield 22, 3) := by decide +kernel
theorem dX2_make_167 : decode cX2_make 167 = .ok (.iload_n 1, 1) := by decide +kernel
theorem dX2_make_168 : decode cX2_make 168 = .ok (.iconst 2, 1) := by decide +kernel
theorem dX2_make_169 : decode cX2_make 169 = .ok (.iastore, 1) := by decide +kernel
theorem dX2_make_170 : decode cX2_make 170 = .ok (.aload_n 0, 1) := by decide +kernel
theorem dX2_make_171 : decode cX2_make 171 = .ok (.getfield 25, 3) := by decide +kernel
theorem dX2_make_174 : decode cX2_make 174 = .ok (.iload_n 1, 1) := by decide +kernel
theorem dX2_make_175 : decode cX2_make 175 = .ok (.iload 4, 2) := by decide +kernel
theorem dX2_make_177 : decode cX2_make 177 = .ok (.iastore, 1) := by decide +kernel
theorem dX2_make_178 : decode cX2_make 178 = .ok (.iload 4, 2) := by decide +kernel
theorem dX2_make_180 : decode cX2_make 180 = .ok (.ireturn, 1) := by decide +kernel
theorem dX2_isRegister_0 : decode cX2_isRegister 0 = .ok (.iload_n 0, 1) := by decide +kernel
theorem dX2_isRegister_1 : decode cX2_isRegister 1 = .ok (.ifCond .lt 13, 3) := by decide +kernel
theorem dX2_isRegister_4 : decode cX2_isRegister 4 = .ok (.iload_n 0, 1) := by decide +kernel
theorem dX2_isRegister_5 : decode cX2_isRegister 5 = .ok (.bipush 8, 2) := by decide +kernel
theorem dX2_isRegister_7 : decode cX2_isRegister 7 = .ok (.if_icmp .ge 7, 3) := by decide +kernel
theorem dX2_isRegister_10 : decode cX2_isRegister 10 = .ok (.iconst 1, 1) := by decide +kernel
theorem dX2_isRegister_11 : decode cX2_isRegister 11 = .ok (.goto 4, 3) := by decide +kernel
theorem dX2_isRegister_14 : decode cX2_isRegister 14 = .ok (.iconst 0, 1) := by decide +kernel
theorem dX2_isRegister_15 : decode cX2_isRegister 15 = .ok (.ireturn, 1) := by decide +kernel
theorem dX2_fail_0 : decode cX2_fail 0 = .ok (.aload_n 0, 1) := by decide +kernel
theorem dX2_fail_1 : decode cX2_fail 1 = .ok (.iload_n 1, 1) := by decide +kernel
theorem dX2_fail_2 : decode cX2_fail 2 = .ok (.putfield 38, 3) := by decide +kernel
theorem dX2_fail_5 : decode cX2_fail 5 = .ok (.iconst 0, 1) := by decide +kernel
theorem dX2_fail_6 : decode cX2_fail 6 = .ok (.ireturn, 1) := by decide +kernel
theorem dX2_number_0 : decode cX2_number 0 = .ok (.aload_n 0, 1) := by decide +kernel
theorem dX2_number_1 : decode cX2_number 1 = .ok (.iconst 0, 1) := by decide +kernel
theorem dX2_number_2 : decode cX2_number 2 = .ok (.putfield 38, 3) := by decide +kernel
theorem dX2_number_5 : decode cX2_number 5 = .ok (.iload_n 1, 1) := by decide +kernel
theorem dX2_number_6 : decode cX2_number 6 = .ok (.invokestatic 65, 3) := by decide +kernel
theorem dX2_number_9 : decode cX2_number 9 = .ok (.ifCond .ne 9, 3) := by decide +kernel
theorem dX2_number_12 : decode cX2_number 12 = .ok (.aload_n 0, 1) := by decide +kernel
theorem dX2_number_13 : decode cX2_number 13 = .ok (.iconst 1, 1) := by decide +kernel
theorem dX2_number_14 : decode cX2_number 14 = .ok (.invokevirtual 69, 3) := by decide +kernel
theorem dX2_number_17 : decode cX2_number 17 = .ok (.ireturn, 1) := by decide +kernel
theorem dX2_number_18 : decode cX2_number 18 = .ok (.aload_n 0, 1) := by decide +kernel
theorem dX2_number_19 : decode cX2_number 19 = .ok (.getfield 22, 3) := by decide +kernel
theorem dX2_number_22 : decode cX2_number 22 = .ok (.iload_n 1, 1) := by decide +kernel
theorem dX2_number_23 : decode cX2_number 23 = .ok (.iconst 1, 1) := by decide +kernel
theorem dX2_number_24 : decode cX2_number 24 = .ok (.iastore, 1) := by decide +kernel
theorem dX2_number_25 : decode cX2_number 25 = .ok (.aload_n 0, 1) := by decide +kernel
theorem dX2_number_26 : decode cX2_number 26 = .ok (.getfield 25, 3) := by decide +kernel
theorem dX2_number_29 : decode cX2_number 29 = .ok (.iload_n 1, 1) := by decide +kernel
theorem dX2_number_30 : decode cX2_number 30 = .ok (.iload_n 2, 1) := by decide +kernel
theorem dX2_number_31 : decode cX2_number 31 = .ok (.invokestatic 72, 3) := by decide +kernel
theorem dX2_number_34 : decode cX2_number 34 = .ok (.iastore, 1) := by decide +kernel
theorem dX2_number_35 : decode cX2_number 35 = .ok (.iload_n 2, 1) := by decide +kernel
theorem dX2_number_36 : decode cX2_number 36 = .ok (.invokestatic 72, 3) := by decide +kernel
theorem dX2_number_39 : decode cX2_number 39 = .ok (.ireturn, 1) := by decide +kernel
theorem dX2_kept_0 : decode cX2_kept 0 = .ok (.iload_n 0, 1) := by decide +kernel
theorem dX2_kept_1 : decode cX2_kept 1 = .ok (.iconst 1, 1) := by decide +kernel
theorem dX2_kept_2 : decode cX2_kept 2 = .ok (.ishl, 1) := by decide +kernel
theorem dX2_kept_3 : decode cX2_kept 3 = .ok (.iconst 1, 1) := by decide +kernel
theorem dX2_kept_4 : decode cX2_kept 4 = .ok (.ishr, 1) := by decide +kernel
theorem dX2_kept_5 : decode cX2_kept 5 = .ok (.ireturn, 1) := by decide +kernel
theorem dX2_copy_0 : decode cX2_copy 0 = .ok (.aload_n 0, 1) := by decide +kernel
theorem dX2_copy_1 : decode cX2_copy 1 = .ok (.iconst 0, 1) := by decide +kernel
theorem dX2_copy_2 : decode cX2_copy 2 = .ok (.putfield 38, 3) := by decide +kernel
theorem dX2_copy_5 : decode cX2_copy 5 = .ok (.iload_n 1, 1) := by decide +kernel
theorem dX2_copy_6 : decode cX2_copy 6 = .ok (.invokestatic 65, 3) := by decide +kernel
theorem dX2_copy_9 : decode cX2_copy 9 = .ok (.ifCond .eq 10, 3) := by decide +kernel
theorem dX2_copy_12 : decode cX2_copy 12 = .ok (.iload_n 2, 1) := by decide +kernel
theorem dX2_copy_13 : decode cX2_copy 13 = .ok (.invokestatic 65, 3) := by decide +kernel
theorem dX2_copy_16 : decode cX2_copy 16 = .ok (.ifCond .ne 17, 3) := by decide +kernel
theorem dX2_copy_19 : decode cX2_copy 19 = .ok (.aload_n 0, 1) := by decide +kernel
theorem dX2_copy_20 : decode cX2_copy 20 = .ok (.iconst 1, 1) := by decide +kernel
theorem dX2_copy_21 : decode cX2_copy 21 = .ok (.invokevirtual 69, 3) := by decide +kernel
theorem dX2_copy_24 : decode cX2_copy 24 = .ok (.ifCond .le 7, 3) := by decide +kernel
theorem dX2_copy_27 : decode cX2_copy 27 = .ok (.iconst 1, 1) := by decide +kernel
theorem dX2_copy_28 : decode cX2_copy 28 = .ok (.goto 4, 3) := by decide +kernel
theorem dX2_copy_31 : decode cX2_copy 31 = .ok (.iconst 0, 1) := by decide +kernel
theorem dX2_copy_32 : decode cX2_copy 32 = .ok (.ireturn, 1) := by decide +kernel
theorem dX2_copy_33 : decode cX2_copy 33 = .ok (.aload_n 0, 1) := by decide +kernel
theorem dX2_copy_34 : decode cX2_copy 34 = .ok (.getfield 22, 3) := by decide +kernel
theorem dX2_copy_37 : decode cX2_copy 37 = .ok (.iload_n 1, 1) := by decide +kernel
theorem dX2_copy_38 : decode cX2_copy 38 = .ok (.aload_n 0, 1) := by decide +kernel
theorem dX2_copy_39 : decode cX2_copy 39 = .ok (.getfield 22, 3) := by decide +kernel
theorem dX2_copy_42 : decode cX2_copy 42 = .ok (.iload_n 2, 1) := by decide +kernel
theorem dX2_copy_43 : decode cX2_copy 43 = .ok (.iaload, 1) := by decide +kernel
theorem dX2_copy_44 : decode cX2_copy 44 = .ok (.iastore, 1) := by decide +kernel
theorem dX2_copy_45 : decode cX2_copy 45 = .ok (.aload_n 0, 1) := by decide +kernel
theorem dX2_copy_46 : decode cX2_copy 46 = .ok (.getfield 25, 3) := by decide +kernel
theorem dX2_copy_49 : decode cX2_copy 49 = .ok (.iload_n 1, 1) := by decide +kernel
theorem dX2_copy_50 : decode cX2_copy 50 = .ok (.aload_n 0, 1) := by decide +kernel
theorem dX2_copy_51 : decode cX2_copy 51 = .ok (.getfield 25, 3) := by decide +kernel
theorem dX2_copy_54 : decode cX2_copy 54 = .ok (.iload_n 2, 1) := by decide +kernel
theorem dX2_copy_55 : decode cX2_copy 55 = .ok (.iaload, 1) := by decide +kernel
theorem dX2_copy_56 : decode cX2_copy 56 = .ok (.iastore, 1) := by decide +kernel
theorem dX2_copy_57 : decode cX2_copy 57 = .ok (.aload_n 0, 1) := by decide +kernel
theorem dX2_copy_58 : decode cX2_copy 58 = .ok (.getfield 22, 3) := by decide +kernel
theorem dX2_copy_61 : decode cX2_copy 61 = .ok (.iload_n 1, 1) := by decide +kernel
theorem dX2_copy_62 : decode cX2_copy 62 = .ok (.iaload, 1) := by decide +kernel
theorem dX2_copy_63 : decode cX2_copy 63 = .ok (.iconst 2, 1) := by decide +kernel
theorem dX2_copy_64 : decode cX2_copy 64 = .ok (.if_icmp .ne 7, 3) := by decide +kernel
theorem dX2_copy_67 : decode cX2_copy 67 = .ok (.iconst 1, 1) := by decide +kernel
theorem dX2_copy_68 : decode cX2_copy 68 = .ok (.goto 4, 3) := by decide +kernel
theorem dX2_copy_71 : decode cX2_copy 71 = .ok (.iconst 0, 1) := by decide +kernel
theorem dX2_copy_72 : decode cX2_copy 72 = .ok (.ireturn, 1) := by decide +kernel
theorem dX2_put_0 : decode cX2_put 0 = .ok (.aload_n 0, 1) := by decide +kernel
theorem dX2_put_1 : decode cX2_put 1 = .ok (.iconst 0, 1) := by decide +kernel
theorem dX2_put_2 : decode cX2_put 2 = .ok (.putfield 38, 3) := by decide +kernel
theorem dX2_put_5 : decode cX2_put 5 = .ok (.iload_n 1, 1) := by decide +kernel
theorem dX2_put_6 : decode cX2_put 6 = .ok (.invokestatic 65, 3) := by decide +kernel
theorem dX2_put_9 : decode cX2_put 9 = .ok (.ifCond .eq 14, 3) := by decide +kernel
theorem dX2_put_12 : decode cX2_put 12 = .ok (.iload_n 3, 1) := by decide +kernel
theorem dX2_put_13 : decode cX2_put 13 = .ok (.invokestatic 65, 3) := by decide +kernel
theorem dX2_put_16 : decode cX2_put 16 = .ok (.ifCond .eq 7, 3) := by decide +kernel
theorem dX2_put_19 : decode cX2_put 19 = .ok (.iconst 1, 1) := by decide +kernel
theorem dX2_put_20 : decode cX2_put 20 = .ok (.goto 4, 3) := by decide +kernel
theorem dX2_put_23 : decode cX2_put 23 = .ok (.iconst 0, 1) := by decide +kernel
theorem dX2_put_24 : decode cX2_put 24 = .ok (.istore 4, 2) := by decide +kernel
theorem dX2_put_26 : decode cX2_put 26 = .ok (.iload 4, 2) := by decide +kernel
theorem dX2_put_28 : decode cX2_put 28 = .ok (.ifCond .eq 17, 3) := by decide +kernel
theorem dX2_put_31 : decode cX2_put 31 = .ok (.aload_n 0, 1) := by decide +kernel
theorem dX2_put_32 : decode cX2_put 32 = .ok (.getfield 22, 3) := by decide +kernel
theorem dX2_put_35 : decode cX2_put 35 = .ok (.iload_n 1, 1) := by decide +kernel
theorem dX2_put_36 : decode cX2_put 36 = .ok (.iaload, 1) := by decide +kernel
theorem dX2_put_37 : decode cX2_put 37 = .ok (.iconst 2, 1) := by decide +kernel
theorem dX2_put_38 : decode cX2_put 38 = .ok (.if_icmp .ne 7, 3) := by decide +kernel
theorem dX2_put_41 : decode cX2_put 41 = .ok (.iconst 1, 1) := by decide +kernel
theorem dX2_put_42 : decode cX2_put 42 = .ok (.goto 4, 3) := by decide +kernel
theorem dX2_put_45 : decode cX2_put 45 = .ok (.iconst 0, 1) := by decide +kernel
theorem dX2_put_46 : decode cX2_put 46 = .ok (.istore 5, 2) := by decide +kernel
theorem dX2_put_48 : decode cX2_put 48 = .ok (.iload 4, 2) := by decide +kernel
theorem dX2_put_50 : decode cX2_put 50 = .ok (.ifCond .ne 11, 3) := by decide +kernel
theorem dX2_put_53 : decode cX2_put 53 = .ok (.aload_n 0, 1) := by decide +kernel
theorem dX2_put_54 : decode cX2_put 54 = .ok (.iconst 1, 1) := by decide +kernel
theorem dX2_put_55 : decode cX2_put 55 = .ok (.putfield 38, 3) := by decide +kernel
theorem dX2_put_58 : decode cX2_put 58 = .ok (.goto 101, 3) := by decide +kernel
theorem dX2_put_61 : decode cX2_put 61 = .ok (.iload 5, 2) := by decide +kernel
theorem dX2_put_63 : decode cX2_put 63 = .ok (.ifCond .eq 21, 3) := by decide +kernel
theorem dX2_put_66 : decode cX2_put 66 = .ok (.aload_n 0, 1) := by decide +kernel
theorem dX2_put_67 : decode cX2_put 67 = .ok (.iload_n 1, 1) := by decide +kernel
theorem dX2_put_68 : decode cX2_put 68 = .ok (.invokevirtual 75, 3) := by decide +kernel
theorem dX2_put_71 : decode cX2_put 71 = .ok (.ifCond .eq 21, 3) := by decide +kernel
theorem dX2_put_74 : decode cX2_put 74 = .ok (.aload_n 0, 1) := by decide +kernel
theorem dX2_put_75 : decode cX2_put 75 = .ok (.getfield 22, 3) := by decide +kernel
theorem dX2_put_78 : decode cX2_put 78 = .ok (.iload_n 3, 1) := by decide +kernel
theorem dX2_put_79 : decode cX2_put 79 = .ok (.iaload, 1) := by decide +kernel
theorem dX2_put_80 : decode cX2_put 80 = .ok (.iconst 2, 1) := by decide +kernel
theorem dX2_put_81 : decode cX2_put 81 = .ok (.if_icmp .ne 11, 3) := by decide +kernel
theorem dX2_put_84 : decode cX2_put 84 = .ok (.aload_n 0, 1) := by decide +kernel
theorem dX2_put_85 : decode cX2_put 85 = .ok (.iconst 2, 1) := by decide +kernel
theorem dX2_put_86 : decode cX2_put 86 = .ok (.putfield 38, 3) := by decide +kernel
theorem dX2_put_89 : decode cX2_put 89 = .ok (.goto 70, 3) := by decide +kernel
theorem dX2_put_92 : decode cX2_put 92 = .ok (.aload_n 0, 1) := by decide +kernel
theorem dX2_put_93 : decode cX2_put 93 = .ok (.iload_n 1, 1) := by decide +kernel
theorem dX2_put_94 : decode cX2_put 94 = .ok (.iload_n 2, 1) := by decide +kernel
theorem dX2_put_95 : decode cX2_put 95 = .ok (.invokevirtual 78, 3) := by decide +kernel
theorem dX2_put_98 : decode cX2_put 98 = .ok (.ifCond .ne 11, 3) := by decide +kernel
theorem dX2_put_101 : decode cX2_put 101 = .ok (.aload_n 0, 1) := by decide +kernel
theorem dX2_put_102 : decode cX2_put 102 = .ok (.iconst 3, 1) := by decide +kernel
theorem dX2_put_103 : decode cX2_put 103 = .ok (.putfield 38, 3) := by decide +kernel
theorem dX2_put_106 : decode cX2_put 106 = .ok (.goto 53, 3) := by decide +kernel
theorem dX2_put_109 : decode cX2_put 109 = .ok (.aload_n 0, 1) := by decide +kernel
theorem dX2_put_110 : decode cX2_put 110 = .ok (.getfield 25, 3) := by decide +kernel
theorem dX2_put_113 : decode cX2_put 113 = .ok (.iload_n 1, 1) := by decide +kernel
theorem dX2_put_114 : decode cX2_put 114 = .ok (.iaload, 1) := by decide +kernel
theorem dX2_put_115 : decode cX2_put 115 = .ok (.iconst 1, 1) := by decide +kernel
theorem dX2_put_116 : decode cX2_put 116 = .ok (.iadd, 1) := by decide +kernel
theorem dX2_put_117 : decode cX2_put 117 = .ok (.iload_n 2, 1) := by decide +kernel
theorem dX2_put_118 : decode cX2_put 118 = .ok (.iadd, 1) := by decide +kernel
theorem dX2_put_119 : decode cX2_put 119 = .ok (.istore 6, 2) := by decide +kernel
theorem dX2_put_121 : decode cX2_put 121 = .ok (.aload_n 0, 1) := by decide +kernel
theorem dX2_put_122 : decode cX2_put 122 = .ok (.getfield 7, 3) := by decide +kernel
theorem dX2_put_125 : decode cX2_put 125 = .ok (.iload 6, 2) := by decide +kernel
theorem dX2_put_127 : decode cX2_put 127 = .ok (.aload_n 0, 1) := by decide +kernel
theorem dX2_put_128 : decode cX2_put 128 = .ok (.iload_n 1, 1) := by decide +kernel
theorem dX2_put_129 : decode cX2_put 129 = .ok (.invokevirtual 75, 3) := by decide +kernel
theorem dX2_put_132 : decode cX2_put 132 = .ok (.ifCond .eq 7, 3) := by decide +kernel
theorem dX2_put_135 : decode cX2_put 135 = .ok (.iconst 3, 1) := by decide +kernel
theorem dX2_put_136 : decode cX2_put 136 = .ok (.goto 9, 3) := by decide +kernel
theorem dX2_put_139 : decode cX2_put 139 = .ok (.aload_n 0, 1) := by decide +kernel
theorem dX2_put_140 : decode cX2_put 140 = .ok (.getfield 22, 3) := by decide +kernel
theorem dX2_put_143 : decode cX2_put 143 = .ok (.iload_n 3, 1) := by decide +kernel
theorem dX2_put_144 : decode cX2_put 144 = .ok (.iaload, 1) := by decide +kernel
theorem dX2_put_145 : decode cX2_put 145 = .ok (.iastore, 1) := by decide +kernel
theorem dX2_put_146 : decode cX2_put 146 = .ok (.aload_n 0, 1) := by decide +kernel
theorem dX2_put_147 : decode cX2_put 147 = .ok (.getfield 13, 3) := by decide +kernel
theorem dX2_put_150 : decode cX2_put 150 = .ok (.iload 6, 2) := by decide +kernel
theorem dX2_put_152 : decode cX2_put 152 = .ok (.aload_n 0, 1) := by decide +kernel
theorem dX2_put_153 : decode cX2_put 153 = .ok (.getfield 25, 3) := by decide +kernel
theorem dX2_put_156 : decode cX2_put 156 = .ok (.iload_n 3, 1) := by decide +kernel
theorem dX2_put_157 : decode cX2_put 157 = .ok (.iaload, 1) := by decide +kernel
theorem dX2_put_158 : decode cX2_put 158 = .ok (.iastore, 1) := by decide +kernel
theorem dX2_put_159 : decode cX2_put 159 = .ok (.return_, 1) := by decide +kernel
theorem dX2_isRaw_0 : decode cX2_isRaw 0 = .ok (.aload_n 0, 1) := by decide +kernel
theorem dX2_isRaw_1 : decode cX2_isRaw 1 = .ok (.getfield 22, 3) := by decide +kernel
theorem dX2_isRaw_4 : decode cX2_isRaw 4 = .ok (.iload_n 1, 1) := by decide +kernel
theorem dX2_isRaw_5 : decode cX2_isRaw 5 = .ok (.iaload, 1) := by decide +kernel
theorem dX2_isRaw_6 : decode cX2_isRaw 6 = .ok (.iconst 2, 1) := by decide +kernel
theorem dX2_isRaw_7 : decode cX2_isRaw 7 = .ok (.if_icmp .ne 24, 3) := by decide +kernel
theorem dX2_isRaw_10 : decode cX2_isRaw 10 = .ok (.aload_n 0, 1) := by decide +kernel
theorem dX2_isRaw_11 : decode cX2_isRaw 11 = .ok (.getfield 13, 3) := by decide +kernel
theorem dX2_isRaw_14 : decode cX2_isRaw 14 = .ok (.aload_n 0, 1) := by decide +kernel
theorem dX2_isRaw_15 : decode cX2_isRaw 15 = .ok (.getfield 25, 3) := by decide +kernel
theorem dX2_isRaw_18 : decode cX2_isRaw 18 = .ok (.iload_n 1, 1) := by decide +kernel
theorem dX2_isRaw_19 : decode cX2_isRaw 19 = .ok (.iaload, 1) := by decide +kernel
theorem dX2_isRaw_20 : decode cX2_isRaw 20 = .ok (.iaload, 1) := by decide +kernel
theorem dX2_isRaw_21 : decode cX2_isRaw 21 = .ok (.iconst 1, 1) := by decide +kernel
theorem dX2_isRaw_22 : decode cX2_isRaw 22 = .ok (.iand, 1) := by decide +kernel
theorem dX2_isRaw_23 : decode cX2_isRaw 23 = .ok (.iconst 1, 1) := by decide +kernel
theorem dX2_isRaw_24 : decode cX2_isRaw 24 = .ok (.if_icmp .ne 7, 3) := by decide +kernel
theorem dX2_isRaw_27 : decode cX2_isRaw 27 = .ok (.iconst 1, 1) := by decide +kernel
theorem dX2_isRaw_28 : decode cX2_isRaw 28 = .ok (.goto 4, 3) := by decide +kernel
theorem dX2_isRaw_31 : decode cX2_isRaw 31 = .ok (.iconst 0, 1) := by decide +kernel
theorem dX2_isRaw_32 : decode cX2_isRaw 32 = .ok (.ireturn, 1) := by decide +kernel
theorem dX2_hasField_0 : decode cX2_hasField 0 = .ok (.iload_n 2, 1) := by decide +kernel
theorem dX2_hasField_1 : decode cX2_hasField 1 = .ok (.ifCond .lt 21, 3) := by decide +kernel
theorem dX2_hasField_4 : decode cX2_hasField 4 = .ok (.iload_n 2, 1) := by decide +kernel
theorem dX2_hasField_5 : decode cX2_hasField 5 = .ok (.aload_n 0, 1) := by decide +kernel
theorem dX2_hasField_6 : decode cX2_hasField 6 = .ok (.aload_n 0, 1) := by decide +kernel
theorem dX2_hasField_7 : decode cX2_hasField 7 = .ok (.getfield 25, 3) := by decide +kernel
theorem dX2_hasField_10 : decode cX2_hasField 10 = .ok (.iload_n 1, 1) := by decide +kernel
theorem dX2_hasField_11 : decode cX2_hasField 11 = .ok (.iaload, 1) := by decide +kernel
theorem dX2_hasField_12 : decode cX2_hasField 12 = .ok (.invokevirtual 44, 3) := by decide +kernel
theorem dX2_hasField_15 : decode cX2_hasField 15 = .ok (.if_icmp .ge 7, 3) := by decide +kernel
theorem dX2_hasField_18 : decode cX2_hasField 18 = .ok (.iconst 1, 1) := by decide +kernel
theorem dX2_hasField_19 : decode cX2_hasField 19 = .ok (.goto 4, 3) := by decide +kernel
theorem dX2_hasField_22 : decode cX2_hasField 22 = .ok (.iconst 0, 1) := by decide +kernel
theorem dX2_hasField_23 : decode cX2_hasField 23 = .ok (.ireturn, 1) := by decide +kernel
theorem dX2_raw_0 : decode cX2_raw 0 = .ok (.aload_n 0, 1) := by decide +kernel
theorem dX2_raw_1 : decode cX2_raw 1 = .ok (.iconst 0, 1) := by decide +kernel
theorem dX2_raw_2 : decode cX2_raw 2 = .ok (.putfield 38, 3) := by decide +kernel
theorem dX2_raw_5 : decode cX2_raw 5 = .ok (.iload_n 1, 1) := by decide +kernel
theorem dX2_raw_6 : decode cX2_raw 6 = .ok (.invokestatic 65, 3) := by decide +kernel
theorem dX2_raw_9 : decode cX2_raw 9 = .ok (.ifCond .ne 9, 3) := by decide +kernel
theorem dX2_raw_12 : decode cX2_raw 12 = .ok (.aload_n 0, 1) := by decide +kernel
theorem dX2_raw_13 : decode cX2_raw 13 = .ok (.iconst 1, 1) := by decide +kernel
theorem dX2_raw_14 : decode cX2_raw 14 = .ok (.invokevirtual 69, 3) := by decide +kernel
theorem dX2_raw_17 : decode cX2_raw 17 = .ok (.ireturn, 1) := by decide +kernel
theorem dX2_raw_18 : decode cX2_raw 18 = .ok (.aload_n 0, 1) := by decide +kernel
theorem dX2_raw_19 : decode cX2_raw 19 = .ok (.iload_n 1, 1) := by decide +kernel
theorem dX2_raw_20 : decode cX2_raw 20 = .ok (.invokevirtual 75, 3) := by decide +kernel
theorem dX2_raw_23 : decode cX2_raw 23 = .ok (.ifCond .ne 9, 3) := by decide +kernel
theorem dX2_raw_26 : decode cX2_raw 26 = .ok (.aload_n 0, 1) := by decide +kernel
theorem dX2_raw_27 : decode cX2_raw 27 = .ok (.iconst 2, 1) := by decide +kernel
theorem dX2_raw_28 : decode cX2_raw 28 = .ok (.invokevirtual 69, 3) := by decide +kernel
theorem dX2_raw_31 : decode cX2_raw 31 = .ok (.ireturn, 1) := by decide +kernel
theorem dX2_raw_32 : decode cX2_raw 32 = .ok (.aload_n 0, 1) := by decide +kernel
theorem dX2_raw_33 : decode cX2_raw 33 = .ok (.iload_n 1, 1) := by decide +kernel
theorem dX2_raw_34 : decode cX2_raw 34 = .ok (.iload_n 2, 1) := by decide +kernel
theorem dX2_raw_35 : decode cX2_raw 35 = .ok (.invokevirtual 78, 3) := by decide +kernel
theorem dX2_raw_38 : decode cX2_raw 38 = .ok (.ifCond .ne 9, 3) := by decide +kernel
theorem dX2_raw_41 : decode cX2_raw 41 = .ok (.aload_n 0, 1) := by decide +kernel
theorem dX2_raw_42 : decode cX2_raw 42 = .ok (.iconst 3, 1) := by decide +kernel
theorem dX2_raw_43 : decode cX2_raw 43 = .ok (.invokevirtual 69, 3) := by decide +kernel
theorem dX2_raw_46 : decode cX2_raw 46 = .ok (.ireturn, 1) := by decide +kernel
theorem dX2_raw_47 : decode cX2_raw 47 = .ok (.aload_n 0, 1) := by decide +kernel
theorem dX2_raw_48 : decode cX2_raw 48 = .ok (.getfield 25, 3) := by decide +kernel
theorem dX2_raw_51 : decode cX2_raw 51 = .ok (.iload_n 1, 1) := by decide +kernel
theorem dX2_raw_52 : decode cX2_raw 52 = .ok (.iaload, 1) := by decide +kernel
theorem dX2_raw_53 : decode cX2_raw 53 = .ok (.iconst 1, 1) := by decide +kernel
theorem dX2_raw_54 : decode cX2_raw 54 = .ok (.iadd, 1) := by decide +kernel
theorem dX2_raw_55 : decode cX2_raw 55 = .ok (.iload_n 2, 1) := by decide +kernel
theorem dX2_raw_56 : decode cX2_raw 56 = .ok (.iadd, 1) := by decide +kernel
theorem dX2_raw_57 : decode cX2_raw 57 = .ok (.istore 4, 2) := by decide +kernel
theorem dX2_raw_59 : decode cX2_raw 59 = .ok (.aload_n 0, 1) := by decide +kernel
theorem dX2_raw_60 : decode cX2_raw 60 = .ok (.getfield 13, 3) := by decide +kernel
theorem dX2_raw_63 : decode cX2_raw 63 = .ok (.iload 4, 2) := by decide +kernel
theorem dX2_raw_65 : decode cX2_raw 65 = .ok (.iaload, 1) := by decide +kernel
theorem dX2_raw_66 : decode cX2_raw 66 = .ok (.istore 5, 2) := by decide +kernel
theorem dX2_raw_68 : decode cX2_raw 68 = .ok (.aload_n 0, 1) := by decide +kernel
theorem dX2_raw_69 : decode cX2_raw 69 = .ok (.getfield 13, 3) := by decide +kernel
theorem dX2_raw_72 : decode cX2_raw 72 = .ok (.iload 4, 2) := by decide +kernel
theorem dX2_raw_74 : decode cX2_raw 74 = .ok (.iload_n 3, 1) := by decide +kernel
theorem dX2_raw_75 : decode cX2_raw 75 = .ok (.iastore, 1) := by decide +kernel
theorem dX2_raw_76 : decode cX2_raw 76 = .ok (.iload 5, 2) := by decide +kernel
theorem dX2_raw_78 : decode cX2_raw 78 = .ok (.ireturn, 1) := by decide +kernel
theorem dX2_get_0 : decode cX2_get 0 = .ok (.aload_n 0, 1) := by decide +kernel
theorem dX2_get_1 : decode cX2_get 1 = .ok (.iconst 0, 1) := by decide +kernel
theorem dX2_get_2 : decode cX2_get 2 = .ok (.putfield 38, 3) := by decide +kernel
theorem dX2_get_5 : decode cX2_get 5 = .ok (.iload_n 1, 1) := by decide +kernel
theorem dX2_get_6 : decode cX2_get 6 = .ok (.invokestatic 65, 3) := by decide +kernel
theorem dX2_get_9 : decode cX2_get 9 = .ok (.ifCond .eq 10, 3) := by decide +kernel
theorem dX2_get_12 : decode cX2_get 12 = .ok (.iload_n 2, 1) := by decide +kernel
theorem dX2_get_13 : decode cX2_get 13 = .ok (.invokestatic 65, 3) := by decide +kernel
theorem dX2_get_16 : decode cX2_get 16 = .ok (.ifCond .ne 17, 3) := by decide +kernel
theorem dX2_get_19 : decode cX2_get 19 = .ok (.aload_n 0, 1) := by decide +kernel
theorem dX2_get_20 : decode cX2_get 20 = .ok (.iconst 1, 1) := by decide +kernel
theorem dX2_get_21 : decode cX2_get 21 = .ok (.invokevirtual 69, 3) := by decide +kernel
theorem dX2_get_24 : decode cX2_get 24 = .ok (.ifCond .le 7, 3) := by decide +kernel
theorem dX2_get_27 : decode cX2_get 27 = .ok (.iconst 1, 1) := by decide +kernel
theorem dX2_get_28 : decode cX2_get 28 = .ok (.goto 4, 3) := by decide +kernel
theorem dX2_get_31 : decode cX2_get 31 = .ok (.iconst 0, 1) := by decide +kernel
theorem dX2_get_32 : decode cX2_get 32 = .ok (.ireturn, 1) := by decide +kernel
theorem dX2_get_33 : decode cX2_get 33 = .ok (.aload_n 0, 1) := by decide +kernel
theorem dX2_get_34 : decode cX2_get 34 = .ok (.getfield 22, 3) := by decide +kernel
theorem dX2_get_37 : decode cX2_get 37 = .ok (.iload_n 2, 1) := by decide +kernel
theorem dX2_get_38 : decode cX2_get 38 = .ok (.iaload, 1) := by decide +kernel
theorem dX2_get_39 : decode cX2_get 39 = .ok (.iconst 2, 1) := by decide +kernel
theorem dX2_get_40 : decode cX2_get 40 = .ok (.if_icmp .eq 17, 3) := by decide +kernel
theorem dX2_get_43 : decode cX2_get 43 = .ok (.aload_n 0, 1) := by decide +kernel
theorem dX2_get_44 : decode cX2_get 44 = .ok (.iconst 2, 1) := by decide +kernel
theorem dX2_get_45 : decode cX2_get 45 = .ok (.invokevirtual 69, 3) := by decide +kernel
theorem dX2_get_48 : decode cX2_get 48 = .ok (.ifCond .le 7, 3) := by decide +kernel
theorem dX2_get_51 : decode cX2_get 51 = .ok (.iconst 1, 1) := by decide +kernel
theorem dX2_get_52 : decode cX2_get 52 = .ok (.goto 4, 3) := by decide +kernel
theorem dX2_get_55 : decode cX2_get 55 = .ok (.iconst 0, 1) := by decide +kernel
theorem dX2_get_56 : decode cX2_get 56 = .ok (.ireturn, 1) := by decide +kernel
theorem dX2_get_57 : decode cX2_get 57 = .ok (.aload_n 0, 1) := by decide +kernel
theorem dX2_get_58 : decode cX2_get 58 = .ok (.iload_n 2, 1) := by decide +kernel
theorem dX2_get_59 : decode cX2_get 59 = .ok (.iload_n 3, 1) := by decide +kernel
theorem dX2_get_60 : decode cX2_get 60 = .ok (.invokevirtual 78, 3) := by decide +kernel
theorem dX2_get_63 : decode cX2_get 63 = .ok (.ifCond .ne 17, 3) := by decide +kernel
theorem dX2_get_66 : decode cX2_get 66 = .ok (.aload_n 0, 1) := by decide +kernel
theorem dX2_get_67 : decode cX2_get 67 = .ok (.iconst 3, 1) := by decide +kernel
theorem dX2_get_68 : decode cX2_get 68 = .ok (.invokevirtual 69, 3) := by decide +kernel
theorem dX2_get_71 : decode cX2_get 71 = .ok (.ifCond .le 7, 3) := by decide +kernel
theorem dX2_get_74 : decode cX2_get 74 = .ok (.iconst 1, 1) := by decide +kernel
theorem dX2_get_75 : decode cX2_get 75 = .ok (.goto 4, 3) := by decide +kernel
theorem dX2_get_78 : decode cX2_get 78 = .ok (.iconst 0, 1) := by decide +kernel
theorem dX2_get_79 : decode cX2_get 79 = .ok (.ireturn, 1) := by decide +kernel
theorem dX2_get_80 : decode cX2_get 80 = .ok (.aload_n 0, 1) := by decide +kernel
theorem dX2_get_81 : decode cX2_get 81 = .ok (.getfield 25, 3) := by decide +kernel
theorem dX2_get_84 : decode cX2_get 84 = .ok (.iload_n 2, 1) := by decide +kernel
theorem dX2_get_85 : decode cX2_get 85 = .ok (.iaload, 1) := by decide +kernel
theorem dX2_get_86 : decode cX2_get 86 = .ok (.iconst 1, 1) := by decide +kernel
theorem dX2_get_87 : decode cX2_get 87 = .ok (.iadd, 1) := by decide +kernel
theorem dX2_get_88 : decode cX2_get 88 = .ok (.iload_n 3, 1) := by decide +kernel
theorem dX2_get_89 : decode cX2_get 89 = .ok (.iadd, 1) := by decide +kernel
theorem dX2_get_90 : decode cX2_get 90 = .ok (.istore 4, 2) := by decide +kernel
theorem dX2_get_92 : decode cX2_get 92 = .ok (.aload_n 0, 1) := by decide +kernel
theorem dX2_get_93 : decode cX2_get 93 = .ok (.getfield 7, 3) := by decide +kernel
theorem dX2_get_96 : decode cX2_get 96 = .ok (.iload 4, 2) := by decide +kernel
theorem dX2_get_98 : decode cX2_get 98 = .ok (.iaload, 1) := by decide +kernel
theorem dX2_get_99 : decode cX2_get 99 = .ok (.iconst 3, 1) := by decide +kernel
theorem dX2_get_100 : decode cX2_get 100 = .ok (.if_icmp .ne 7, 3) := by decide +kernel
theorem dX2_get_103 : decode cX2_get 103 = .ok (.iconst 1, 1) := by decide +kernel
theorem dX2_get_104 : decode cX2_get 104 = .ok (.goto 4, 3) := by decide +kernel
theorem dX2_get_107 : decode cX2_get 107 = .ok (.iconst 0, 1) := by decide +kernel
theorem dX2_get_108 : decode cX2_get 108 = .ok (.istore 5, 2) := by decide +kernel
theorem dX2_get_110 : decode cX2_get 110 = .ok (.aload_n 0, 1) := by decide +kernel
theorem dX2_get_111 : decode cX2_get 111 = .ok (.getfield 13, 3) := by decide +kernel
theorem dX2_get_114 : decode cX2_get 114 = .ok (.iload 4, 2) := by decide +kernel
theorem dX2_get_116 : decode cX2_get 116 = .ok (.iaload, 1) := by decide +kernel
theorem dX2_get_117 : decode cX2_get 117 = .ok (.istore 6, 2) := by decide +kernel
theorem dX2_get_119 : decode cX2_get 119 = .ok (.aload_n 0, 1) := by decide +kernel
theorem dX2_get_120 : decode cX2_get 120 = .ok (.getfield 22, 3) := by decide +kernel
theorem dX2_get_123 : decode cX2_get 123 = .ok (.iload_n 1, 1) := by decide +kernel
theorem dX2_get_124 : decode cX2_get 124 = .ok (.iload 5, 2) := by decide +kernel
theorem dX2_get_126 : decode cX2_get 126 = .ok (.ifCond .eq 7, 3) := by decide +kernel
theorem dX2_get_129 : decode cX2_get 129 = .ok (.iconst 1, 1) := by decide +kernel
theorem dX2_get_130 : decode cX2_get 130 = .ok (.goto 10, 3) := by decide +kernel
theorem dX2_get_133 : decode cX2_get 133 = .ok (.aload_n 0, 1) := by decide +kernel
theorem dX2_get_134 : decode cX2_get 134 = .ok (.getfield 7, 3) := by decide +kernel
theorem dX2_get_137 : decode cX2_get 137 = .ok (.iload 4, 2) := by decide +kernel
theorem dX2_get_139 : decode cX2_get 139 = .ok (.iaload, 1) := by decide +kernel
theorem dX2_get_140 : decode cX2_get 140 = .ok (.iastore, 1) := by decide +kernel
theorem dX2_get_141 : decode cX2_get 141 = .ok (.aload_n 0, 1) := by decide +kernel
theorem dX2_get_142 : decode cX2_get 142 = .ok (.getfield 25, 3) := by decide +kernel
theorem dX2_get_145 : decode cX2_get 145 = .ok (.iload_n 1, 1) := by decide +kernel
theorem dX2_get_146 : decode cX2_get 146 = .ok (.iload 5, 2) := by decide +kernel
theorem dX2_get_148 : decode cX2_get 148 = .ok (.ifCond .eq 11, 3) := by decide +kernel
theorem dX2_get_151 : decode cX2_get 151 = .ok (.iload 6, 2) := by decide +kernel
theorem dX2_get_153 : decode cX2_get 153 = .ok (.invokestatic 72, 3) := by decide +kernel
theorem dX2_get_156 : decode cX2_get 156 = .ok (.goto 5, 3) := by decide +kernel
theorem dX2_get_159 : decode cX2_get 159 = .ok (.iload 6, 2) := by decide +kernel
theorem dX2_get_161 : decode cX2_get 161 = .ok (.iastore, 1) := by decide +kernel
theorem dX2_get_162 : decode cX2_get 162 = .ok (.aload_n 0, 1) := by decide +kernel
theorem dX2_get_163 : decode cX2_get 163 = .ok (.getfield 22, 3) := by decide +kernel
theorem dX2_get_166 : decode cX2_get 166 = .ok (.iload_n 1, 1) := by decide +kernel
theorem dX2_get_167 : decode cX2_get 167 = .ok (.iaload, 1) := by decide +kernel
theorem dX2_get_168 : decode cX2_get 168 = .ok (.iconst 2, 1) := by decide +kernel
theorem dX2_get_169 : decode cX2_get 169 = .ok (.if_icmp .ne 7, 3) := by decide +kernel
theorem dX2_get_172 : decode cX2_get 172 = .ok (.iconst 1, 1) := by decide +kernel
theorem dX2_get_173 : decode cX2_get 173 = .ok (.goto 4, 3) := by decide +kernel
theorem dX2_get_176 : decode cX2_get 176 = .ok (.iconst 0, 1) := by decide +kernel
theorem dX2_get_177 : decode cX2_get 177 = .ok (.ireturn, 1) := by decide +kernel
theorem dX2_about_0 : decode cX2_about 0 = .ok (.aload_n 0, 1) := by decide +kernel
theorem dX2_about_1 : decode cX2_about 1 = .ok (.iconst 0, 1) := by decide +kernel
theorem dX2_about_2 : decode cX2_about 2 = .ok (.putfield 38, 3) := by decide +kernel
theorem dX2_about_5 : decode cX2_about 5 = .ok (.iload_n 1, 1) := by decide +kernel
theorem dX2_about_6 : decode cX2_about 6 = .ok (.invokestatic 65, 3) := by decide +kernel
theorem dX2_about_9 : decode cX2_about 9 = .ok (.ifCond .ne 9, 3) := by decide +kernel
theorem dX2_about_12 : decode cX2_about 12 = .ok (.aload_n 0, 1) := by decide +kernel
theorem dX2_about_13 : decode cX2_about 13 = .ok (.iconst 1, 1) := by decide +kernel
theorem dX2_about_14 : decode cX2_about 14 = .ok (.invokevirtual 69, 3) := by decide +kernel
theorem dX2_about_17 : decode cX2_about 17 = .ok (.ireturn, 1) := by decide +kernel
theorem dX2_about_18 : decode cX2_about 18 = .ok (.iload_n 2, 1) := by decide +kernel
theorem dX2_about_19 : decode cX2_about 19 = .ok (.ifCond .lt 8, 3) := by decide +kernel
theorem dX2_about_22 : decode cX2_about 22 = .ok (.iload_n 2, 1) := by decide +kernel
theorem dX2_about_23 : decode cX2_about 23 = .ok (.iconst 3, 1) := by decide +kernel
theorem dX2_about_24 : decode cX2_about 24 = .ok (.if_icmp .le 9, 3) := by decide +kernel
theorem dX2_about_27 : decode cX2_about 27 = .ok (.aload_n 0, 1) := by decide +kernel
theorem dX2_about_28 : decode cX2_about 28 = .ok (.iconst 2, 1) := by decide +kernel
theorem dX2_about_29 : decode cX2_about 29 = .ok (.invokevirtual 69, 3) := by decide +kernel
theorem dX2_about_32 : decode cX2_about 32 = .ok (.ireturn, 1) := by decide +kernel
theorem dX2_about_33 : decode cX2_about 33 = .ok (.aload_n 0, 1) := by decide +kernel
theorem dX2_about_34 : decode cX2_about 34 = .ok (.getfield 22, 3) := by decide +kernel
theorem dX2_about_37 : decode cX2_about 37 = .ok (.iload_n 1, 1) := by decide +kernel
theorem dX2_about_38 : decode cX2_about 38 = .ok (.iaload, 1) := by decide +kernel
theorem dX2_about_39 : decode cX2_about 39 = .ok (.iconst 2, 1) := by decide +kernel
theorem dX2_about_40 : decode cX2_about 40 = .ok (.if_icmp .ne 7, 3) := by decide +kernel
theorem dX2_about_43 : decode cX2_about 43 = .ok (.iconst 1, 1) := by decide +kernel
theorem dX2_about_44 : decode cX2_about 44 = .ok (.goto 4, 3) := by decide +kernel
theorem dX2_about_47 : decode cX2_about 47 = .ok (.iconst 0, 1) := by decide +kernel
theorem dX2_about_48 : decode cX2_about 48 = .ok (.istore_n 3, 1) := by decide +kernel
theorem dX2_about_49 : decode cX2_about 49 = .ok (.aload_n 0, 1) := by decide +kernel
theorem dX2_about_50 : decode cX2_about 50 = .ok (.getfield 25, 3) := by decide +kernel
theorem dX2_about_53 : decode cX2_about 53 = .ok (.iload_n 1, 1) := by decide +kernel
theorem dX2_about_54 : decode cX2_about 54 = .ok (.iaload, 1) := by decide +kernel
theorem dX2_about_55 : decode cX2_about 55 = .ok (.istore 4, 2) := by decide +kernel
theorem dX2_about_57 : decode cX2_about 57 = .ok (.iload_n 2, 1) := by decide +kernel
theorem dX2_about_58 : decode cX2_about 58 = .ok (.ifCond .ne 14, 3) := by decide +kernel
theorem dX2_about_61 : decode cX2_about 61 = .ok (.iload_n 3, 1) := by decide +kernel
theorem dX2_about_62 : decode cX2_about 62 = .ok (.ifCond .eq 8, 3) := by decide +kernel
theorem dX2_about_65 : decode cX2_about 65 = .ok (.iload 4, 2) := by decide +kernel
theorem dX2_about_67 : decode cX2_about 67 = .ok (.goto 4, 3) := by decide +kernel
theorem dX2_about_70 : decode cX2_about 70 = .ok (.iconst (-1), 1) := by decide +kernel
theorem dX2_about_71 : decode cX2_about 71 = .ok (.ireturn, 1) := by decide +kernel
theorem dX2_about_72 : decode cX2_about 72 = .ok (.iload_n 2, 1) := by decide +kernel
theorem dX2_about_73 : decode cX2_about 73 = .ok (.iconst 1, 1) := by decide +kernel
theorem dX2_about_74 : decode cX2_about 74 = .ok (.if_icmp .ne 14, 3) := by decide +kernel
theorem dX2_about_77 : decode cX2_about 77 = .ok (.iload_n 3, 1) := by decide +kernel
theorem dX2_about_78 : decode cX2_about 78 = .ok (.ifCond .eq 7, 3) := by decide +kernel
theorem dX2_about_81 : decode cX2_about 81 = .ok (.iconst 0, 1) := by decide +kernel
theorem dX2_about_82 : decode cX2_about 82 = .ok (.goto 5, 3) := by decide +kernel
theorem dX2_about_85 : decode cX2_about 85 = .ok (.iload 4, 2) := by decide +kernel
theorem dX2_about_87 : decode cX2_about 87 = .ok (.ireturn, 1) := by decide +kernel
theorem dX2_about_88 : decode cX2_about 88 = .ok (.iload_n 3, 1) := by decide +kernel
theorem dX2_about_89 : decode cX2_about 89 = .ok (.ifCond .ne 5, 3) := by decide +kernel
theorem dX2_about_92 : decode cX2_about 92 = .ok (.iconst (-1), 1) := by decide +kernel
theorem dX2_about_93 : decode cX2_about 93 = .ok (.ireturn, 1) := by decide +kernel
theorem dX2_about_94 : decode cX2_about 94 = .ok (.iload_n 2, 1) := by decide +kernel
theorem dX2_about_95 : decode cX2_about 95 = .ok (.iconst 2, 1) := by decide +kernel
theorem dX2_about_96 : decode cX2_about 96 = .ok (.if_icmp .ne 15, 3) := by decide +kernel
theorem dX2_about_99 : decode cX2_about 99 = .ok (.aload_n 0, 1) := by decide +kernel
theorem dX2_about_100 : decode cX2_about 100 = .ok (.getfield 13, 3) := by decide +kernel
theorem dX2_about_103 : decode cX2_about 103 = .ok (.iload 4, 2) := by decide +kernel
theorem dX2_about_105 : decode cX2_about 105 = .ok (.iaload, 1) := by decide +kernel
theorem dX2_about_106 : decode cX2_about 106 = .ok (.iconst 1, 1) := by decide +kernel
theorem dX2_about_107 : decode cX2_about 107 = .ok (.iand, 1) := by decide +kernel
theorem dX2_about_108 : decode cX2_about 108 = .ok (.goto 9, 3) := by decide +kernel
theorem dX2_about_111 : decode cX2_about 111 = .ok (.aload_n 0, 1) := by decide +kernel
theorem dX2_about_112 : decode cX2_about 112 = .ok (.iload 4, 2) := by decide +kernel
theorem dX2_about_114 : decode cX2_about 114 = .ok (.invokevirtual 44, 3) := by decide +kernel
theorem dX2_about_117 : decode cX2_about 117 = .ok (.ireturn, 1) := by decide +kernel
theorem dX2_look_0 : decode cX2_look 0 = .ok (.aload_n 0, 1) := by decide +kernel
theorem dX2_look_1 : decode cX2_look 1 = .ok (.iconst 0, 1) := by decide +kernel
theorem dX2_look_2 : decode cX2_look 2 = .ok (.putfield 38, 3) := by decide +kernel
theorem dX2_look_5 : decode cX2_look 5 = .ok (.iload_n 1, 1) := by decide +kernel
theorem dX2_look_6 : decode cX2_look 6 = .ok (.ifCond .lt 20, 3) := by decide +kernel
theorem dX2_look_9 : decode cX2_look 9 = .ok (.iload_n 1, 1) := by decide +kernel
theorem dX2_look_10 : decode cX2_look 10 = .ok (.aload_n 0, 1) := by decide +kernel
theorem dX2_look_11 : decode cX2_look 11 = .ok (.getfield 48, 3) := by decide +kernel
theorem dX2_look_14 : decode cX2_look 14 = .ok (.if_icmp .ge 12, 3) := by decide +kernel
theorem dX2_look_17 : decode cX2_look 17 = .ok (.iload_n 2, 1) := by decide +kernel
theorem dX2_look_18 : decode cX2_look 18 = .ok (.ifCond .lt 8, 3) := by decide +kernel
theorem dX2_look_21 : decode cX2_look 21 = .ok (.iload_n 2, 1) := by decide +kernel
theorem dX2_look_22 : decode cX2_look 22 = .ok (.iconst 1, 1) := by decide +kernel
theorem dX2_look_23 : decode cX2_look 23 = .ok (.if_icmp .le 9, 3) := by decide +kernel
theorem dX2_look_26 : decode cX2_look 26 = .ok (.aload_n 0, 1) := by decide +kernel
theorem dX2_look_27 : decode cX2_look 27 = .ok (.iconst 1, 1) := by decide +kernel
theorem dX2_look_28 : decode cX2_look 28 = .ok (.invokevirtual 69, 3) := by decide +kernel
theorem dX2_look_31 : decode cX2_look 31 = .ok (.ireturn, 1) := by decide +kernel
theorem dX2_look_32 : decode cX2_look 32 = .ok (.iload_n 2, 1) := by decide +kernel
theorem dX2_look_33 : decode cX2_look 33 = .ok (.ifCond .ne 12, 3) := by decide +kernel
theorem dX2_look_36 : decode cX2_look 36 = .ok (.aload_n 0, 1) := by decide +kernel
theorem dX2_look_37 : decode cX2_look 37 = .ok (.getfield 7, 3) := by decide +kernel
theorem dX2_look_40 : decode cX2_look 40 = .ok (.iload_n 1, 1) := by decide +kernel
theorem dX2_look_41 : decode cX2_look 41 = .ok (.iaload, 1) := by decide +kernel
theorem dX2_look_42 : decode cX2_look 42 = .ok (.goto 9, 3) := by decide +kernel
theorem dX2_look_45 : decode cX2_look 45 = .ok (.aload_n 0, 1) := by decide +kernel
theorem dX2_look_46 : decode cX2_look 46 = .ok (.getfield 13, 3) := by decide +kernel
theorem dX2_look_49 : decode cX2_look 49 = .ok (.iload_n 1, 1) := by decide +kernel
theorem dX2_look_50 : decode cX2_look 50 = .ok (.iaload, 1) := by decide +kernel
theorem dX2_look_51 : decode cX2_look 51 = .ok (.ireturn, 1) := by decide +kernel
theorem dX2_count_0 : decode cX2_count 0 = .ok (.aload_n 0, 1) := by decide +kernel
theorem dX2_count_1 : decode cX2_count 1 = .ok (.iconst 0, 1) := by decide +kernel
theorem dX2_count_2 : decode cX2_count 2 = .ok (.putfield 38, 3) := by decide +kernel
theorem dX2_count_5 : decode cX2_count 5 = .ok (.iload_n 1, 1) := by decide +kernel
theorem dX2_count_6 : decode cX2_count 6 = .ok (.ifCond .lt 8, 3) := by decide +kernel
theorem dX2_count_9 : decode cX2_count 9 = .ok (.iload_n 1, 1) := by decide +kernel
theorem dX2_count_10 : decode cX2_count 10 = .ok (.iconst 4, 1) := by decide +kernel
theorem dX2_count_11 : decode cX2_count 11 = .ok (.if_icmp .le 9, 3) := by decide +kernel
theorem dX2_count_14 : decode cX2_count 14 = .ok (.aload_n 0, 1) := by decide +kernel
theorem dX2_count_15 : decode cX2_count 15 = .ok (.iconst 1, 1) := by decide +kernel
theorem dX2_count_16 : decode cX2_count 16 = .ok (.invokevirtual 69, 3) := by decide +kernel
theorem dX2_count_19 : decode cX2_count 19 = .ok (.ireturn, 1) := by decide +kernel
theorem dX2_count_20 : decode cX2_count 20 = .ok (.iload_n 1, 1) := by decide +kernel
theorem dX2_count_21 : decode cX2_count 21 = .ok (.ifCond .ne 10, 3) := by decide +kernel
theorem dX2_count_24 : decode cX2_count 24 = .ok (.aload_n 0, 1) := by decide +kernel
theorem dX2_count_25 : decode cX2_count 25 = .ok (.getfield 34, 3) := by decide +kernel
theorem dX2_count_28 : decode cX2_count 28 = .ok (.goto 43, 3) := by decide +kernel
theorem dX2_count_31 : decode cX2_count 31 = .ok (.iload_n 1, 1) := by decide +kernel
theorem dX2_count_32 : decode cX2_count 32 = .ok (.iconst 1, 1) := by decide +kernel
theorem dX2_count_33 : decode cX2_count 33 = .ok (.if_icmp .ne 10, 3) := by decide +kernel
theorem dX2_count_36 : decode cX2_count 36 = .ok (.aload_n 0, 1) := by decide +kernel
theorem dX2_count_37 : decode cX2_count 37 = .ok (.getfield 48, 3) := by decide +kernel
theorem dX2_count_40 : decode cX2_count 40 = .ok (.goto 31, 3) := by decide +kernel
theorem dX2_count_43 : decode cX2_count 43 = .ok (.iload_n 1, 1) := by decide +kernel
theorem dX2_count_44 : decode cX2_count 44 = .ok (.iconst 2, 1) := by decide +kernel
theorem dX2_count_45 : decode cX2_count 45 = .ok (.if_icmp .ne 10, 3) := by decide +kernel
theorem dX2_count_48 : decode cX2_count 48 = .ok (.aload_n 0, 1) := by decide +kernel
theorem dX2_count_49 : decode cX2_count 49 = .ok (.getfield 55, 3) := by decide +kernel
theorem dX2_count_52 : decode cX2_count 52 = .ok (.goto 19, 3) := by decide +kernel
theorem dX2_count_55 : decode cX2_count 55 = .ok (.iload_n 1, 1) := by decide +kernel
theorem dX2_count_56 : decode cX2_count 56 = .ok (.iconst 3, 1) := by decide +kernel
theorem dX2_count_57 : decode cX2_count 57 = .ok (.if_icmp .ne 10, 3) := by decide +kernel
theorem dX2_count_60 : decode cX2_count 60 = .ok (.aload_n 0, 1) := by decide +kernel
theorem dX2_count_61 : decode cX2_count 61 = .ok (.getfield 58, 3) := by decide +kernel
theorem dX2_count_64 : decode cX2_count 64 = .ok (.goto 7, 3) := by decide +kernel
theorem dX2_count_67 : decode cX2_count 67 = .ok (.aload_n 0, 1) := by decide +kernel
theorem dX2_count_68 : decode cX2_count 68 = .ok (.invokevirtual 82, 3) := by decide +kernel
theorem dX2_count_71 : decode cX2_count 71 = .ok (.ireturn, 1) := by decide +kernel
theorem dX2_objects_0 : decode cX2_objects 0 = .ok (.iconst 0, 1) := by decide +kernel
theorem dX2_objects_1 : decode cX2_objects 1 = .ok (.istore_n 1, 1) := by decide +kernel
theorem dX2_objects_2 : decode cX2_objects 2 = .ok (.iconst 0, 1) := by decide +kernel
theorem dX2_objects_3 : decode cX2_objects 3 = .ok (.istore_n 2, 1) := by decide +kernel
theorem dX2_objects_4 : decode cX2_objects 4 = .ok (.iload_n 2, 1) := by decide +kernel
theorem dX2_objects_5 : decode cX2_objects 5 = .ok (.aload_n 0, 1) := by decide +kernel
theorem dX2_objects_6 : decode cX2_objects 6 = .ok (.getfield 48, 3) := by decide +kernel
theorem dX2_objects_9 : decode cX2_objects 9 = .ok (.if_icmp .ge 26, 3) := by decide +kernel
theorem dX2_objects_12 : decode cX2_objects 12 = .ok (.iload_n 1, 1) := by decide +kernel
theorem dX2_objects_13 : decode cX2_objects 13 = .ok (.aload_n 0, 1) := by decide +kernel
theorem dX2_objects_14 : decode cX2_objects 14 = .ok (.getfield 7, 3) := by decide +kernel
theorem dX2_objects_17 : decode cX2_objects 17 = .ok (.iload_n 2, 1) := by decide +kernel
theorem dX2_objects_18 : decode cX2_objects 18 = .ok (.iaload, 1) := by decide +kernel
theorem dX2_objects_19 : decode cX2_objects 19 = .ok (.ifCond .ne 7, 3) := by decide +kernel
theorem dX2_objects_22 : decode cX2_objects 22 = .ok (.iconst 1, 1) := by decide +kernel
theorem dX2_objects_23 : decode cX2_objects 23 = .ok (.goto 4, 3) := by decide +kernel
theorem dX2_objects_26 : decode cX2_objects 26 = .ok (.iconst 0, 1) := by decide +kernel
theorem dX2_objects_27 : decode cX2_objects 27 = .ok (.iadd, 1) := by decide +kernel
theorem dX2_objects_28 : decode cX2_objects 28 = .ok (.istore_n 1, 1) := by decide +kernel
theorem dX2_objects_29 : decode cX2_objects 29 = .ok (.iinc 2 1, 3) := by decide +kernel
theorem dX2_objects_32 : decode cX2_objects 32 = .ok (.goto (-28), 3) := by decide +kernel
theorem dX2_objects_35 : decode cX2_objects 35 = .ok (.iload_n 1, 1) := by decide +kernel
theorem dX2_objects_36 : decode cX2_objects 36 = .ok (.ireturn, 1) := by decide +kernel
